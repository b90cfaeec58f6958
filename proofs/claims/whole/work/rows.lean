section
-- ===== PART A: goes FIRST, ahead of the names: the tables' words, and 'selects' of the private methods out of them =====
/-- a private method of a class that the tables say can be made, by its rows of tables_1 -/
def lw_okq (q : MethodName × Nat) : Prop := (q.1.cls ≠ "java/lang/invoke/MethodHandle" ∧ q.1.cls ≠ "java/lang/invoke/VarHandle") ∧ Cond.instantiable q.1.cls q.2 ∈ tables_1 ∧ Cond.privateMethod q.1 ∈ tables_1 ∧ Cond.instanceMethod q.1 ∈ tables_1
theorem lw_p0 : lw_okq (⟨"HeaderLine", "isLineFull", "()Z"⟩, 12) := ⟨⟨by decide +kernel, by decide +kernel⟩, List.mem_of_getElem? (i := 17) (by decide +kernel), List.mem_of_getElem? (i := 359) (by decide +kernel), List.mem_of_getElem? (i := 360) (by decide +kernel)⟩
theorem lw_p1 : lw_okq (⟨"HeaderLine$Squeezer", "isGivenByAll", "(LHeaderLine$Plan;LHeaderLine$Header;I)Z"⟩, 7) := ⟨⟨by decide +kernel, by decide +kernel⟩, List.mem_of_getElem? (i := 83) (by decide +kernel), List.mem_of_getElem? (i := 367) (by decide +kernel), List.mem_of_getElem? (i := 368) (by decide +kernel)⟩
theorem lw_p2 : lw_okq (⟨"HeaderLine$Squeezer", "oldestMiss", "(LHeaderLine$Plan;LHeaderLine$Header;II)I"⟩, 7) := ⟨⟨by decide +kernel, by decide +kernel⟩, List.mem_of_getElem? (i := 83) (by decide +kernel), List.mem_of_getElem? (i := 371) (by decide +kernel), List.mem_of_getElem? (i := 372) (by decide +kernel)⟩
theorem lw_p3 : lw_okq (⟨"HeaderLine$Squeezer", "findLeast", "(LHeaderLine$Plan;LHeaderLine$Header;ILHeaderLine$Proof;)V"⟩, 7) := ⟨⟨by decide +kernel, by decide +kernel⟩, List.mem_of_getElem? (i := 83) (by decide +kernel), List.mem_of_getElem? (i := 454) (by decide +kernel), List.mem_of_getElem? (i := 455) (by decide +kernel)⟩
theorem lw_p4 : lw_okq (⟨"HeaderLine$Squeezer", "dropOldest", "(I)V"⟩, 7) := ⟨⟨by decide +kernel, by decide +kernel⟩, List.mem_of_getElem? (i := 83) (by decide +kernel), List.mem_of_getElem? (i := 462) (by decide +kernel), List.mem_of_getElem? (i := 463) (by decide +kernel)⟩
theorem lw_p5 : lw_okq (⟨"HeaderLine", "addWritten", "(IIILHeaderLine$Proof;)I"⟩, 12) := ⟨⟨by decide +kernel, by decide +kernel⟩, List.mem_of_getElem? (i := 17) (by decide +kernel), List.mem_of_getElem? (i := 473) (by decide +kernel), List.mem_of_getElem? (i := 474) (by decide +kernel)⟩
theorem lw_p6 : lw_okq (⟨"HeaderLine", "add", "(LHeaderLine$Letter;)I"⟩, 12) := ⟨⟨by decide +kernel, by decide +kernel⟩, List.mem_of_getElem? (i := 17) (by decide +kernel), List.mem_of_getElem? (i := 543) (by decide +kernel), List.mem_of_getElem? (i := 544) (by decide +kernel)⟩
theorem lw_p7 : lw_okq (⟨"HeaderLine", "addAnswer", "(III)I"⟩, 12) := ⟨⟨by decide +kernel, by decide +kernel⟩, List.mem_of_getElem? (i := 17) (by decide +kernel), List.mem_of_getElem? (i := 551) (by decide +kernel), List.mem_of_getElem? (i := 552) (by decide +kernel)⟩
theorem lw_p8 : lw_okq (⟨"HeaderLine", "letterUnderWay", "(I)LHeaderLine$Letter;"⟩, 12) := ⟨⟨by decide +kernel, by decide +kernel⟩, List.mem_of_getElem? (i := 17) (by decide +kernel), List.mem_of_getElem? (i := 563) (by decide +kernel), List.mem_of_getElem? (i := 564) (by decide +kernel)⟩
theorem lw_p9 : lw_okq (⟨"HeaderLine", "letterAt", "(I)LHeaderLine$Letter;"⟩, 12) := ⟨⟨by decide +kernel, by decide +kernel⟩, List.mem_of_getElem? (i := 17) (by decide +kernel), List.mem_of_getElem? (i := 567) (by decide +kernel), List.mem_of_getElem? (i := 568) (by decide +kernel)⟩
theorem lw_p10 : lw_okq (⟨"HeaderLine", "outcomeOf", "([I)I"⟩, 12) := ⟨⟨by decide +kernel, by decide +kernel⟩, List.mem_of_getElem? (i := 17) (by decide +kernel), List.mem_of_getElem? (i := 571) (by decide +kernel), List.mem_of_getElem? (i := 572) (by decide +kernel)⟩
theorem lw_p11 : lw_okq (⟨"HeaderLine$Arrival", "read", "(I)J"⟩, 12) := ⟨⟨by decide +kernel, by decide +kernel⟩, List.mem_of_getElem? (i := 192) (by decide +kernel), List.mem_of_getElem? (i := 579) (by decide +kernel), List.mem_of_getElem? (i := 580) (by decide +kernel)⟩
theorem lw_p12 : lw_okq (⟨"HeaderLine$Arrival", "readField", "(LHeaderLine$Plan;I)V"⟩, 12) := ⟨⟨by decide +kernel, by decide +kernel⟩, List.mem_of_getElem? (i := 192) (by decide +kernel), List.mem_of_getElem? (i := 583) (by decide +kernel), List.mem_of_getElem? (i := 584) (by decide +kernel)⟩
theorem lw_p13 : lw_okq (⟨"HeaderLine$Arrival", "readValue", "(III)V"⟩, 12) := ⟨⟨by decide +kernel, by decide +kernel⟩, List.mem_of_getElem? (i := 192) (by decide +kernel), List.mem_of_getElem? (i := 587) (by decide +kernel), List.mem_of_getElem? (i := 588) (by decide +kernel)⟩
theorem lw_p14 : lw_okq (⟨"HeaderLine$Arrival", "isEndRight", "()Z"⟩, 12) := ⟨⟨by decide +kernel, by decide +kernel⟩, List.mem_of_getElem? (i := 192) (by decide +kernel), List.mem_of_getElem? (i := 593) (by decide +kernel), List.mem_of_getElem? (i := 594) (by decide +kernel)⟩
theorem lw_p15 : lw_okq (⟨"HeaderLine", "open", "(LHeaderLine$Context;)I"⟩, 12) := ⟨⟨by decide +kernel, by decide +kernel⟩, List.mem_of_getElem? (i := 17) (by decide +kernel), List.mem_of_getElem? (i := 604) (by decide +kernel), List.mem_of_getElem? (i := 605) (by decide +kernel)⟩
def lw_privs_1 : List (MethodName × Nat) := [(⟨"HeaderLine", "isLineFull", "()Z"⟩, 12), (⟨"HeaderLine$Squeezer", "isGivenByAll", "(LHeaderLine$Plan;LHeaderLine$Header;I)Z"⟩, 7), (⟨"HeaderLine$Squeezer", "oldestMiss", "(LHeaderLine$Plan;LHeaderLine$Header;II)I"⟩, 7), (⟨"HeaderLine$Squeezer", "findLeast", "(LHeaderLine$Plan;LHeaderLine$Header;ILHeaderLine$Proof;)V"⟩, 7), (⟨"HeaderLine$Squeezer", "dropOldest", "(I)V"⟩, 7), (⟨"HeaderLine", "addWritten", "(IIILHeaderLine$Proof;)I"⟩, 12), (⟨"HeaderLine", "add", "(LHeaderLine$Letter;)I"⟩, 12), (⟨"HeaderLine", "addAnswer", "(III)I"⟩, 12), (⟨"HeaderLine", "letterUnderWay", "(I)LHeaderLine$Letter;"⟩, 12), (⟨"HeaderLine", "letterAt", "(I)LHeaderLine$Letter;"⟩, 12), (⟨"HeaderLine", "outcomeOf", "([I)I"⟩, 12), (⟨"HeaderLine$Arrival", "read", "(I)J"⟩, 12), (⟨"HeaderLine$Arrival", "readField", "(LHeaderLine$Plan;I)V"⟩, 12), (⟨"HeaderLine$Arrival", "readValue", "(III)V"⟩, 12), (⟨"HeaderLine$Arrival", "isEndRight", "()Z"⟩, 12), (⟨"HeaderLine", "open", "(LHeaderLine$Context;)I"⟩, 12)]
theorem lw_r1 : ∀ q ∈ lw_privs_1, lw_okq q := List.forall_mem_cons.mpr ⟨lw_p0, List.forall_mem_cons.mpr ⟨lw_p1, List.forall_mem_cons.mpr ⟨lw_p2, List.forall_mem_cons.mpr ⟨lw_p3, List.forall_mem_cons.mpr ⟨lw_p4, List.forall_mem_cons.mpr ⟨lw_p5, List.forall_mem_cons.mpr ⟨lw_p6, List.forall_mem_cons.mpr ⟨lw_p7, List.forall_mem_cons.mpr ⟨lw_p8, List.forall_mem_cons.mpr ⟨lw_p9, List.forall_mem_cons.mpr ⟨lw_p10, List.forall_mem_cons.mpr ⟨lw_p11, List.forall_mem_cons.mpr ⟨lw_p12, List.forall_mem_cons.mpr ⟨lw_p13, List.forall_mem_cons.mpr ⟨lw_p14, List.forall_mem_cons.mpr ⟨lw_p15, fun _ h => absurd h List.not_mem_nil⟩⟩⟩⟩⟩⟩⟩⟩⟩⟩⟩⟩⟩⟩⟩⟩
theorem lw_p16 : lw_okq (⟨"HeaderLine", "keepReferences", "(LHeaderLine$Shelf;I)I"⟩, 12) := ⟨⟨by decide +kernel, by decide +kernel⟩, List.mem_of_getElem? (i := 17) (by decide +kernel), List.mem_of_getElem? (i := 720) (by decide +kernel), List.mem_of_getElem? (i := 721) (by decide +kernel)⟩
theorem lw_p17 : lw_okq (⟨"HeaderLine", "keepContext", "(LHeaderLine$Shelf;I)I"⟩, 12) := ⟨⟨by decide +kernel, by decide +kernel⟩, List.mem_of_getElem? (i := 17) (by decide +kernel), List.mem_of_getElem? (i := 725) (by decide +kernel), List.mem_of_getElem? (i := 726) (by decide +kernel)⟩
theorem lw_p18 : lw_okq (⟨"HeaderLine", "refusalOfLetterOn", "(I)I"⟩, 12) := ⟨⟨by decide +kernel, by decide +kernel⟩, List.mem_of_getElem? (i := 17) (by decide +kernel), List.mem_of_getElem? (i := 753) (by decide +kernel), List.mem_of_getElem? (i := 754) (by decide +kernel)⟩
theorem lw_p19 : lw_okq (⟨"HeaderLineModel", "isField", "(I)Z"⟩, 58) := ⟨⟨by decide +kernel, by decide +kernel⟩, List.mem_of_getElem? (i := 768) (by decide +kernel), List.mem_of_getElem? (i := 959) (by decide +kernel), List.mem_of_getElem? (i := 960) (by decide +kernel)⟩
theorem lw_p20 : lw_okq (⟨"HeaderLineModel", "cut", "(IJ)J"⟩, 58) := ⟨⟨by decide +kernel, by decide +kernel⟩, List.mem_of_getElem? (i := 768) (by decide +kernel), List.mem_of_getElem? (i := 969) (by decide +kernel), List.mem_of_getElem? (i := 970) (by decide +kernel)⟩
theorem lw_p21 : lw_okq (⟨"HeaderLineModel", "runs", "(I)Z"⟩, 58) := ⟨⟨by decide +kernel, by decide +kernel⟩, List.mem_of_getElem? (i := 768) (by decide +kernel), List.mem_of_getElem? (i := 980) (by decide +kernel), List.mem_of_getElem? (i := 981) (by decide +kernel)⟩
theorem lw_p22 : lw_okq (⟨"HeaderLineModel", "giveAll", "(III)Z"⟩, 58) := ⟨⟨by decide +kernel, by decide +kernel⟩, List.mem_of_getElem? (i := 768) (by decide +kernel), List.mem_of_getElem? (i := 989) (by decide +kernel), List.mem_of_getElem? (i := 990) (by decide +kernel)⟩
theorem lw_p23 : lw_okq (⟨"HeaderLineModel", "given", "(IIII)J"⟩, 58) := ⟨⟨by decide +kernel, by decide +kernel⟩, List.mem_of_getElem? (i := 768) (by decide +kernel), List.mem_of_getElem? (i := 993) (by decide +kernel), List.mem_of_getElem? (i := 994) (by decide +kernel)⟩
theorem lw_p24 : lw_okq (⟨"HeaderLineModel", "onwards", "(IJII)J"⟩, 58) := ⟨⟨by decide +kernel, by decide +kernel⟩, List.mem_of_getElem? (i := 768) (by decide +kernel), List.mem_of_getElem? (i := 997) (by decide +kernel), List.mem_of_getElem? (i := 998) (by decide +kernel)⟩
theorem lw_p25 : lw_okq (⟨"HeaderLineModel", "sendWhole", "(II)I"⟩, 58) := ⟨⟨by decide +kernel, by decide +kernel⟩, List.mem_of_getElem? (i := 768) (by decide +kernel), List.mem_of_getElem? (i := 1001) (by decide +kernel), List.mem_of_getElem? (i := 1002) (by decide +kernel)⟩
theorem lw_p26 : lw_okq (⟨"HeaderLineModel", "head", "(III)V"⟩, 58) := ⟨⟨by decide +kernel, by decide +kernel⟩, List.mem_of_getElem? (i := 768) (by decide +kernel), List.mem_of_getElem? (i := 1005) (by decide +kernel), List.mem_of_getElem? (i := 1006) (by decide +kernel)⟩
theorem lw_p27 : lw_okq (⟨"HeaderLineModel", "say", "(JI)V"⟩, 58) := ⟨⟨by decide +kernel, by decide +kernel⟩, List.mem_of_getElem? (i := 768) (by decide +kernel), List.mem_of_getElem? (i := 1009) (by decide +kernel), List.mem_of_getElem? (i := 1010) (by decide +kernel)⟩
theorem lw_p28 : lw_okq (⟨"HeaderLineModel", "laid", "(IIIZ)I"⟩, 58) := ⟨⟨by decide +kernel, by decide +kernel⟩, List.mem_of_getElem? (i := 768) (by decide +kernel), List.mem_of_getElem? (i := 1014) (by decide +kernel), List.mem_of_getElem? (i := 1015) (by decide +kernel)⟩
theorem lw_p29 : lw_okq (⟨"HeaderLineModel", "checkOf", "(II)I"⟩, 58) := ⟨⟨by decide +kernel, by decide +kernel⟩, List.mem_of_getElem? (i := 768) (by decide +kernel), List.mem_of_getElem? (i := 1018) (by decide +kernel), List.mem_of_getElem? (i := 1019) (by decide +kernel)⟩
theorem lw_p30 : lw_okq (⟨"HeaderLineModel", "sendShort", "(II)I"⟩, 58) := ⟨⟨by decide +kernel, by decide +kernel⟩, List.mem_of_getElem? (i := 768) (by decide +kernel), List.mem_of_getElem? (i := 1022) (by decide +kernel), List.mem_of_getElem? (i := 1023) (by decide +kernel)⟩
theorem lw_p31 : lw_okq (⟨"HeaderLineModel", "serves", "(IIII)Z"⟩, 58) := ⟨⟨by decide +kernel, by decide +kernel⟩, List.mem_of_getElem? (i := 768) (by decide +kernel), List.mem_of_getElem? (i := 1026) (by decide +kernel), List.mem_of_getElem? (i := 1027) (by decide +kernel)⟩
def lw_privs_2 : List (MethodName × Nat) := [(⟨"HeaderLine", "keepReferences", "(LHeaderLine$Shelf;I)I"⟩, 12), (⟨"HeaderLine", "keepContext", "(LHeaderLine$Shelf;I)I"⟩, 12), (⟨"HeaderLine", "refusalOfLetterOn", "(I)I"⟩, 12), (⟨"HeaderLineModel", "isField", "(I)Z"⟩, 58), (⟨"HeaderLineModel", "cut", "(IJ)J"⟩, 58), (⟨"HeaderLineModel", "runs", "(I)Z"⟩, 58), (⟨"HeaderLineModel", "giveAll", "(III)Z"⟩, 58), (⟨"HeaderLineModel", "given", "(IIII)J"⟩, 58), (⟨"HeaderLineModel", "onwards", "(IJII)J"⟩, 58), (⟨"HeaderLineModel", "sendWhole", "(II)I"⟩, 58), (⟨"HeaderLineModel", "head", "(III)V"⟩, 58), (⟨"HeaderLineModel", "say", "(JI)V"⟩, 58), (⟨"HeaderLineModel", "laid", "(IIIZ)I"⟩, 58), (⟨"HeaderLineModel", "checkOf", "(II)I"⟩, 58), (⟨"HeaderLineModel", "sendShort", "(II)I"⟩, 58), (⟨"HeaderLineModel", "serves", "(IIII)Z"⟩, 58)]
theorem lw_r2 : ∀ q ∈ lw_privs_2, lw_okq q := List.forall_mem_cons.mpr ⟨lw_p16, List.forall_mem_cons.mpr ⟨lw_p17, List.forall_mem_cons.mpr ⟨lw_p18, List.forall_mem_cons.mpr ⟨lw_p19, List.forall_mem_cons.mpr ⟨lw_p20, List.forall_mem_cons.mpr ⟨lw_p21, List.forall_mem_cons.mpr ⟨lw_p22, List.forall_mem_cons.mpr ⟨lw_p23, List.forall_mem_cons.mpr ⟨lw_p24, List.forall_mem_cons.mpr ⟨lw_p25, List.forall_mem_cons.mpr ⟨lw_p26, List.forall_mem_cons.mpr ⟨lw_p27, List.forall_mem_cons.mpr ⟨lw_p28, List.forall_mem_cons.mpr ⟨lw_p29, List.forall_mem_cons.mpr ⟨lw_p30, List.forall_mem_cons.mpr ⟨lw_p31, fun _ h => absurd h List.not_mem_nil⟩⟩⟩⟩⟩⟩⟩⟩⟩⟩⟩⟩⟩⟩⟩⟩
theorem lw_p32 : lw_okq (⟨"HeaderLineModel", "finds", "(IJJI)Z"⟩, 58) := ⟨⟨by decide +kernel, by decide +kernel⟩, List.mem_of_getElem? (i := 768) (by decide +kernel), List.mem_of_getElem? (i := 1030) (by decide +kernel), List.mem_of_getElem? (i := 1031) (by decide +kernel)⟩
theorem lw_p33 : lw_okq (⟨"HeaderLineModel", "fails", "(IIII)I"⟩, 58) := ⟨⟨by decide +kernel, by decide +kernel⟩, List.mem_of_getElem? (i := 768) (by decide +kernel), List.mem_of_getElem? (i := 1034) (by decide +kernel), List.mem_of_getElem? (i := 1035) (by decide +kernel)⟩
theorem lw_p34 : lw_okq (⟨"HeaderLineModel", "draftSum", "()I"⟩, 58) := ⟨⟨by decide +kernel, by decide +kernel⟩, List.mem_of_getElem? (i := 768) (by decide +kernel), List.mem_of_getElem? (i := 1038) (by decide +kernel), List.mem_of_getElem? (i := 1039) (by decide +kernel)⟩
theorem lw_p35 : lw_okq (⟨"HeaderLineModel", "sumOf", "(JJ)I"⟩, 58) := ⟨⟨by decide +kernel, by decide +kernel⟩, List.mem_of_getElem? (i := 768) (by decide +kernel), List.mem_of_getElem? (i := 1042) (by decide +kernel), List.mem_of_getElem? (i := 1043) (by decide +kernel)⟩
theorem lw_p36 : lw_okq (⟨"HeaderLineModel", "sendPart", "(II)I"⟩, 58) := ⟨⟨by decide +kernel, by decide +kernel⟩, List.mem_of_getElem? (i := 768) (by decide +kernel), List.mem_of_getElem? (i := 1047) (by decide +kernel), List.mem_of_getElem? (i := 1048) (by decide +kernel)⟩
theorem lw_p37 : lw_okq (⟨"HeaderLineModel", "refer", "(II)V"⟩, 58) := ⟨⟨by decide +kernel, by decide +kernel⟩, List.mem_of_getElem? (i := 768) (by decide +kernel), List.mem_of_getElem? (i := 1051) (by decide +kernel), List.mem_of_getElem? (i := 1052) (by decide +kernel)⟩
theorem lw_p38 : lw_okq (⟨"HeaderLineModel", "drop", "(II)V"⟩, 58) := ⟨⟨by decide +kernel, by decide +kernel⟩, List.mem_of_getElem? (i := 768) (by decide +kernel), List.mem_of_getElem? (i := 1055) (by decide +kernel), List.mem_of_getElem? (i := 1056) (by decide +kernel)⟩
theorem lw_p39 : lw_okq (⟨"HeaderLineModel", "isUnderWay", "(I)Z"⟩, 58) := ⟨⟨by decide +kernel, by decide +kernel⟩, List.mem_of_getElem? (i := 768) (by decide +kernel), List.mem_of_getElem? (i := 1071) (by decide +kernel), List.mem_of_getElem? (i := 1072) (by decide +kernel)⟩
theorem lw_p40 : lw_okq (⟨"HeaderLineModel", "take", "(II)J"⟩, 58) := ⟨⟨by decide +kernel, by decide +kernel⟩, List.mem_of_getElem? (i := 768) (by decide +kernel), List.mem_of_getElem? (i := 1075) (by decide +kernel), List.mem_of_getElem? (i := 1076) (by decide +kernel)⟩
theorem lw_p41 : lw_okq (⟨"HeaderLineModel", "answered", "(IIII)I"⟩, 58) := ⟨⟨by decide +kernel, by decide +kernel⟩, List.mem_of_getElem? (i := 768) (by decide +kernel), List.mem_of_getElem? (i := 1080) (by decide +kernel), List.mem_of_getElem? (i := 1081) (by decide +kernel)⟩
theorem lw_p42 : lw_okq (⟨"HeaderLineModel", "takeEnd", "(IZ)V"⟩, 58) := ⟨⟨by decide +kernel, by decide +kernel⟩, List.mem_of_getElem? (i := 768) (by decide +kernel), List.mem_of_getElem? (i := 1084) (by decide +kernel), List.mem_of_getElem? (i := 1085) (by decide +kernel)⟩
theorem lw_p43 : lw_okq (⟨"HeaderLineModel", "opened", "(IIII)I"⟩, 58) := ⟨⟨by decide +kernel, by decide +kernel⟩, List.mem_of_getElem? (i := 768) (by decide +kernel), List.mem_of_getElem? (i := 1088) (by decide +kernel), List.mem_of_getElem? (i := 1089) (by decide +kernel)⟩
theorem lw_p44 : lw_okq (⟨"HeaderLineModel", "takeFields", "(II)V"⟩, 58) := ⟨⟨by decide +kernel, by decide +kernel⟩, List.mem_of_getElem? (i := 768) (by decide +kernel), List.mem_of_getElem? (i := 1092) (by decide +kernel), List.mem_of_getElem? (i := 1093) (by decide +kernel)⟩
theorem lw_p45 : lw_okq (⟨"HeaderLineModel", "open", "(II)V"⟩, 58) := ⟨⟨by decide +kernel, by decide +kernel⟩, List.mem_of_getElem? (i := 768) (by decide +kernel), List.mem_of_getElem? (i := 1096) (by decide +kernel), List.mem_of_getElem? (i := 1097) (by decide +kernel)⟩
theorem lw_p46 : lw_okq (⟨"HeaderLineModel", "found", "(IJIJ)J"⟩, 58) := ⟨⟨by decide +kernel, by decide +kernel⟩, List.mem_of_getElem? (i := 768) (by decide +kernel), List.mem_of_getElem? (i := 1100) (by decide +kernel), List.mem_of_getElem? (i := 1101) (by decide +kernel)⟩
theorem lw_p47 : lw_okq (⟨"HeaderLineModel", "isUnlike", "()Z"⟩, 58) := ⟨⟨by decide +kernel, by decide +kernel⟩, List.mem_of_getElem? (i := 768) (by decide +kernel), List.mem_of_getElem? (i := 1104) (by decide +kernel), List.mem_of_getElem? (i := 1105) (by decide +kernel)⟩
def lw_privs_3 : List (MethodName × Nat) := [(⟨"HeaderLineModel", "finds", "(IJJI)Z"⟩, 58), (⟨"HeaderLineModel", "fails", "(IIII)I"⟩, 58), (⟨"HeaderLineModel", "draftSum", "()I"⟩, 58), (⟨"HeaderLineModel", "sumOf", "(JJ)I"⟩, 58), (⟨"HeaderLineModel", "sendPart", "(II)I"⟩, 58), (⟨"HeaderLineModel", "refer", "(II)V"⟩, 58), (⟨"HeaderLineModel", "drop", "(II)V"⟩, 58), (⟨"HeaderLineModel", "isUnderWay", "(I)Z"⟩, 58), (⟨"HeaderLineModel", "take", "(II)J"⟩, 58), (⟨"HeaderLineModel", "answered", "(IIII)I"⟩, 58), (⟨"HeaderLineModel", "takeEnd", "(IZ)V"⟩, 58), (⟨"HeaderLineModel", "opened", "(IIII)I"⟩, 58), (⟨"HeaderLineModel", "takeFields", "(II)V"⟩, 58), (⟨"HeaderLineModel", "open", "(II)V"⟩, 58), (⟨"HeaderLineModel", "found", "(IJIJ)J"⟩, 58), (⟨"HeaderLineModel", "isUnlike", "()Z"⟩, 58)]
theorem lw_r3 : ∀ q ∈ lw_privs_3, lw_okq q := List.forall_mem_cons.mpr ⟨lw_p32, List.forall_mem_cons.mpr ⟨lw_p33, List.forall_mem_cons.mpr ⟨lw_p34, List.forall_mem_cons.mpr ⟨lw_p35, List.forall_mem_cons.mpr ⟨lw_p36, List.forall_mem_cons.mpr ⟨lw_p37, List.forall_mem_cons.mpr ⟨lw_p38, List.forall_mem_cons.mpr ⟨lw_p39, List.forall_mem_cons.mpr ⟨lw_p40, List.forall_mem_cons.mpr ⟨lw_p41, List.forall_mem_cons.mpr ⟨lw_p42, List.forall_mem_cons.mpr ⟨lw_p43, List.forall_mem_cons.mpr ⟨lw_p44, List.forall_mem_cons.mpr ⟨lw_p45, List.forall_mem_cons.mpr ⟨lw_p46, List.forall_mem_cons.mpr ⟨lw_p47, fun _ h => absurd h List.not_mem_nil⟩⟩⟩⟩⟩⟩⟩⟩⟩⟩⟩⟩⟩⟩⟩⟩
theorem lw_p48 : lw_okq (⟨"HeaderLineModel", "wholeBits", "()I"⟩, 58) := ⟨⟨by decide +kernel, by decide +kernel⟩, List.mem_of_getElem? (i := 768) (by decide +kernel), List.mem_of_getElem? (i := 1167) (by decide +kernel), List.mem_of_getElem? (i := 1168) (by decide +kernel)⟩
theorem lw_p49 : lw_okq (⟨"HeaderLineModel", "canKeep", "(II)Z"⟩, 58) := ⟨⟨by decide +kernel, by decide +kernel⟩, List.mem_of_getElem? (i := 768) (by decide +kernel), List.mem_of_getElem? (i := 1178) (by decide +kernel), List.mem_of_getElem? (i := 1179) (by decide +kernel)⟩
theorem lw_p50 : lw_okq (⟨"HeaderLineModel", "hasPlaces", "(III)Z"⟩, 58) := ⟨⟨by decide +kernel, by decide +kernel⟩, List.mem_of_getElem? (i := 768) (by decide +kernel), List.mem_of_getElem? (i := 1198) (by decide +kernel), List.mem_of_getElem? (i := 1199) (by decide +kernel)⟩
theorem lw_p51 : lw_okq (⟨"HeaderLineModel", "denied", "(I)I"⟩, 58) := ⟨⟨by decide +kernel, by decide +kernel⟩, List.mem_of_getElem? (i := 768) (by decide +kernel), List.mem_of_getElem? (i := 1206) (by decide +kernel), List.mem_of_getElem? (i := 1207) (by decide +kernel)⟩
def lw_privs_4 : List (MethodName × Nat) := [(⟨"HeaderLineModel", "wholeBits", "()I"⟩, 58), (⟨"HeaderLineModel", "canKeep", "(II)Z"⟩, 58), (⟨"HeaderLineModel", "hasPlaces", "(III)Z"⟩, 58), (⟨"HeaderLineModel", "denied", "(I)I"⟩, 58)]
theorem lw_r4 : ∀ q ∈ lw_privs_4, lw_okq q := List.forall_mem_cons.mpr ⟨lw_p48, List.forall_mem_cons.mpr ⟨lw_p49, List.forall_mem_cons.mpr ⟨lw_p50, List.forall_mem_cons.mpr ⟨lw_p51, fun _ h => absurd h List.not_mem_nil⟩⟩⟩⟩
def lw_privs : List (MethodName × Nat) := lw_privs_1 ++ (lw_privs_2 ++ (lw_privs_3 ++ (lw_privs_4)))
def lw_tbl : List Cond := k2_sels lw_privs ++ tables_1
theorem lw_privs_ok : ∀ q ∈ lw_privs, lw_okq q := by
  show ∀ q ∈ lw_privs_1 ++ (lw_privs_2 ++ (lw_privs_3 ++ (lw_privs_4))), lw_okq q
  exact List.forall_mem_append.mpr ⟨lw_r1, List.forall_mem_append.mpr ⟨lw_r2, List.forall_mem_append.mpr ⟨lw_r3, lw_r4⟩⟩⟩
end
section
/-! ===== BEGIN words of one list among another's, by their places ===== -/
theorem goodIn_r {big : List Cond} (ws : List Cond) (ps : List Nat) (hp : ws = ps.filterMap (fun i => big[i]?)) (h : ws.all goodWord = true) : GoodIn big ws := by
  intro w hw
  have h1 := List.all_eq_true.mp h w hw
  rw [hp] at hw
  obtain ⟨i, -, hi⟩ := List.mem_filterMap.mp hw
  have hm : w ∈ big := by first | exact List.mem_of_getElem? hi | exact List.getElem?_mem hi
  exact ⟨hm, good_of_word h1⟩
theorem goodIn_app {big a b : List Cond} (ha : GoodIn big a) (hb : GoodIn big b) : GoodIn big (a ++ b) := fun w h => (List.mem_append.mp h).elim (ha w) (hb w)
theorem goodIn_ca {big a b : List Cond} {c : Cond} (ha : GoodIn big (c :: a)) (hb : GoodIn big b) : GoodIn big (c :: (a ++ b)) := fun w h => (List.mem_cons.mp h).elim (fun e => ha w (List.mem_cons.mpr (Or.inl e))) (fun h => (List.mem_append.mp h).elim (fun h => ha w (List.mem_cons.mpr (Or.inr h))) (hb w))
theorem goodIn_sub {big ws : List Cond} (hm : ∀ w ∈ ws, w ∈ big) (h : ws.all goodWord = true) : GoodIn big ws := fun w hw => ⟨hm w hw, good_of_word (List.all_eq_true.mp h w hw)⟩
/-! ===== END ===== -/

/-! ===== BEGIN printed: names, fields, word lists, decode rows ===== -/
def RX0 : String := "HeaderLine$Arrival"
def TX0 : u_T := fun k => match k with
  | 0 => ("HeaderLine$Arrival", "header", "LHeaderLine$Header;", true)
  | 1 => ("HeaderLine$Arrival", "strides", "[I", true)
  | 2 => ("HeaderLine$Arrival", "ways", "[I", true)
  | 3 => ("HeaderLine$Arrival", "lengths", "[I", true)
  | 4 => ("HeaderLine$Arrival", "told", "[J", true)
  | 5 => ("HeaderLine$Arrival", "kind", "I", false)
  | 6 => ("HeaderLine$Arrival", "flow", "I", false)
  | 7 => ("HeaderLine$Arrival", "round", "I", false)
  | 8 => ("HeaderLine$Arrival", "sum", "I", false)
  | 9 => ("HeaderLine$Arrival", "bytes", "[I", false)
  | 10 => ("HeaderLine$Arrival", "at", "I", false)
  | _ => ("HeaderLine$Arrival", "isBroken", "Z", false)
def tyX0 : Nat → FieldType := fun k => match k with
  | 0 => .object "HeaderLine$Header"
  | 1 => .array .int
  | 2 => .array .int
  | 3 => .array .int
  | 4 => .array .long
  | 5 => .int
  | 6 => .int
  | 7 => .int
  | 8 => .int
  | 9 => .array .int
  | 10 => .int
  | _ => .boolean
abbrev wsX00 : List Cond := u_ws RX0 TX0 12
theorem nmX0 : ∀ a, a < 12 → ∀ b, b < 12 → a ≠ b → (TX0 a).2.1 ≠ (TX0 b).2.1 := by decide +kernel
theorem tyX0_ok : ∀ k, k < 12 → parseFieldDescriptor (TX0 k).2.2.1 = some (tyX0 k) := by decide +kernel
abbrev cX0_init : ByteArray := prog_2_method_1_code
def yX0_init : MethodName := ⟨RX0, "<init>", "()V"⟩
abbrev cX0_parse : ByteArray := prog_2_method_2_code
def yX0_parse : MethodName := ⟨RX0, "parse", "(LHeaderLine$Plan;[I)Z"⟩
abbrev cX0_rebuild : ByteArray := prog_2_method_3_code
def yX0_rebuild : MethodName := ⟨RX0, "rebuild", "(LHeaderLine$Plan;LHeaderLine$Context;)V"⟩
abbrev cX0_readField : ByteArray := prog_2_method_4_code
def yX0_readField : MethodName := ⟨RX0, "readField", "(LHeaderLine$Plan;I)V"⟩
abbrev cX0_readValue : ByteArray := prog_2_method_5_code
def yX0_readValue : MethodName := ⟨RX0, "readValue", "(III)V"⟩
abbrev cX0_read : ByteArray := prog_2_method_6_code
def yX0_read : MethodName := ⟨RX0, "read", "(I)J"⟩
abbrev cX0_isEndRight : ByteArray := prog_2_method_7_code
def yX0_isEndRight : MethodName := ⟨RX0, "isEndRight", "()Z"⟩
def RX1 : String := "HeaderLine$Context"
def TX1 : u_T := fun k => match k with
  | 0 => ("HeaderLine$Context", "header", "LHeaderLine$Header;", true)
  | 1 => ("HeaderLine$Context", "strides", "[I", true)
  | 2 => ("HeaderLine$Context", "round", "I", false)
  | _ => ("HeaderLine$Context", "isThere", "Z", false)
def tyX1 : Nat → FieldType := fun k => match k with
  | 0 => .object "HeaderLine$Header"
  | 1 => .array .int
  | 2 => .int
  | _ => .boolean
abbrev wsX10 : List Cond := u_ws RX1 TX1 4
theorem nmX1 : ∀ a, a < 4 → ∀ b, b < 4 → a ≠ b → (TX1 a).2.1 ≠ (TX1 b).2.1 := by decide +kernel
theorem tyX1_ok : ∀ k, k < 4 → parseFieldDescriptor (TX1 k).2.2.1 = some (tyX1 k) := by decide +kernel
abbrev cX1_init : ByteArray := prog_3_method_1_code
def yX1_init : MethodName := ⟨RX1, "<init>", "()V"⟩
abbrev cX1_accept : ByteArray := prog_3_method_2_code
def yX1_accept : MethodName := ⟨RX1, "accept", "(LHeaderLine$Arrival;)V"⟩
def RX2 : String := "HeaderLine$Got"
def TX2 : u_T := fun k => match k with
  | 0 => ("HeaderLine$Got", "header", "LHeaderLine$Header;", true)
  | 1 => ("HeaderLine$Got", "ways", "[I", true)
  | 2 => ("HeaderLine$Got", "flow", "I", false)
  | 3 => ("HeaderLine$Got", "hungOn", "I", false)
  | _ => ("HeaderLine$Got", "total", "I", false)
def tyX2 : Nat → FieldType := fun k => match k with
  | 0 => .object "HeaderLine$Header"
  | 1 => .array .int
  | 2 => .int
  | 3 => .int
  | _ => .int
abbrev wsX20 : List Cond := u_ws RX2 TX2 5
theorem nmX2 : ∀ a, a < 5 → ∀ b, b < 5 → a ≠ b → (TX2 a).2.1 ≠ (TX2 b).2.1 := by decide +kernel
theorem tyX2_ok : ∀ k, k < 5 → parseFieldDescriptor (TX2 k).2.2.1 = some (tyX2 k) := by decide +kernel
abbrev cX2_init : ByteArray := prog_4_method_1_code
def yX2_init : MethodName := ⟨RX2, "<init>", "()V"⟩
abbrev cX2_accept : ByteArray := prog_4_method_2_code
def yX2_accept : MethodName := ⟨RX2, "accept", "(LHeaderLine$Arrival;I)V"⟩
def RX3 : String := "HeaderLine$Header"
def TX3 : u_T := fun k => match k with
  | 0 => ("HeaderLine$Header", "values", "[J", true)
  | _ => ("HeaderLine$Header", "number", "I", false)
def tyX3 : Nat → FieldType := fun k => match k with
  | 0 => .array .long
  | _ => .int
abbrev wsX30 : List Cond := u_ws RX3 TX3 2
theorem nmX3 : ∀ a, a < 2 → ∀ b, b < 2 → a ≠ b → (TX3 a).2.1 ≠ (TX3 b).2.1 := by decide +kernel
theorem tyX3_ok : ∀ k, k < 2 → parseFieldDescriptor (TX3 k).2.2.1 = some (tyX3 k) := by decide +kernel
abbrev cX3_init : ByteArray := prog_5_method_1_code
def yX3_init : MethodName := ⟨RX3, "<init>", "()V"⟩
abbrev cX3_become : ByteArray := prog_5_method_2_code
def yX3_become : MethodName := ⟨RX3, "become", "(LHeaderLine$Header;)V"⟩
def RX4 : String := "HeaderLine$Letter"
def TX4 : u_T := fun k => match k with
  | 0 => ("HeaderLine$Letter", "kind", "I", true)
  | 1 => ("HeaderLine$Letter", "flow", "I", true)
  | 2 => ("HeaderLine$Letter", "number", "I", true)
  | 3 => ("HeaderLine$Letter", "bytes", "[I", true)
  | 4 => ("HeaderLine$Letter", "bits", "I", true)
  | 5 => ("HeaderLine$Letter", "outcome", "I", false)
  | 6 => ("HeaderLine$Letter", "isLost", "Z", false)
  | 7 => ("HeaderLine$Letter", "isCopy", "Z", false)
  | _ => ("HeaderLine$Letter", "proof", "LHeaderLine$Proof;", false)
def tyX4 : Nat → FieldType := fun k => match k with
  | 0 => .int
  | 1 => .int
  | 2 => .int
  | 3 => .array .int
  | 4 => .int
  | 5 => .int
  | 6 => .boolean
  | 7 => .boolean
  | _ => .object "HeaderLine$Proof"
abbrev wsX40 : List Cond := u_ws RX4 TX4 9
theorem nmX4 : ∀ a, a < 9 → ∀ b, b < 9 → a ≠ b → (TX4 a).2.1 ≠ (TX4 b).2.1 := by decide +kernel
theorem tyX4_ok : ∀ k, k < 9 → parseFieldDescriptor (TX4 k).2.2.1 = some (tyX4 k) := by decide +kernel
abbrev cX4_init : ByteArray := prog_6_method_1_code
def yX4_init : MethodName := ⟨RX4, "<init>", "(III[II)V"⟩
abbrev cX4_hasByte : ByteArray := prog_6_method_2_code
def yX4_hasByte : MethodName := ⟨RX4, "hasByte", "(I)Z"⟩
def RX5 : String := "HeaderLine$Pen"
def TX5 : u_T := fun k => match k with
  | 0 => ("HeaderLine$Pen", "bytes", "[I", true)
  | _ => ("HeaderLine$Pen", "bits", "I", false)
def tyX5 : Nat → FieldType := fun k => match k with
  | 0 => .array .int
  | _ => .int
abbrev wsX50 : List Cond := u_ws RX5 TX5 2
theorem nmX5 : ∀ a, a < 2 → ∀ b, b < 2 → a ≠ b → (TX5 a).2.1 ≠ (TX5 b).2.1 := by decide +kernel
theorem tyX5_ok : ∀ k, k < 2 → parseFieldDescriptor (TX5 k).2.2.1 = some (tyX5 k) := by decide +kernel
abbrev cX5_init : ByteArray := prog_7_method_1_code
def yX5_init : MethodName := ⟨RX5, "<init>", "()V"⟩
abbrev cX5_begin : ByteArray := prog_7_method_2_code
def yX5_begin : MethodName := ⟨RX5, "begin", "(III)V"⟩
abbrev cX5_write : ByteArray := prog_7_method_3_code
def yX5_write : MethodName := ⟨RX5, "write", "(JI)V"⟩
abbrev cX5_finished : ByteArray := prog_7_method_4_code
def yX5_finished : MethodName := ⟨RX5, "finished", "(Z)[I"⟩
def RX6 : String := "HeaderLine$Plan"
def TX6 : u_T := fun k => match k with
  | 0 => ("HeaderLine$Plan", "kinds", "[I", true)
  | 1 => ("HeaderLine$Plan", "widths", "[I", true)
  | 2 => ("HeaderLine$Plan", "ties", "[I", true)
  | 3 => ("HeaderLine$Plan", "extras", "[I", true)
  | _ => ("HeaderLine$Plan", "size", "I", false)
def tyX6 : Nat → FieldType := fun k => match k with
  | 0 => .array .int
  | 1 => .array .int
  | 2 => .array .int
  | 3 => .array .int
  | _ => .int
abbrev wsX60 : List Cond := u_ws RX6 TX6 5
theorem nmX6 : ∀ a, a < 5 → ∀ b, b < 5 → a ≠ b → (TX6 a).2.1 ≠ (TX6 b).2.1 := by decide +kernel
theorem tyX6_ok : ∀ k, k < 5 → parseFieldDescriptor (TX6 k).2.2.1 = some (tyX6 k) := by decide +kernel
abbrev cX6_init : ByteArray := prog_8_method_1_code
def yX6_init : MethodName := ⟨RX6, "<init>", "()V"⟩
abbrev cX6_allows : ByteArray := prog_8_method_2_code
def yX6_allows : MethodName := ⟨RX6, "allows", "(IIII)Z"⟩
abbrev cX6_append : ByteArray := prog_8_method_3_code
def yX6_append : MethodName := ⟨RX6, "append", "(IIII)I"⟩
abbrev cX6_has : ByteArray := prog_8_method_4_code
def yX6_has : MethodName := ⟨RX6, "has", "(I)Z"⟩
abbrev cX6_hasStride : ByteArray := prog_8_method_5_code
def yX6_hasStride : MethodName := ⟨RX6, "hasStride", "(I)Z"⟩
abbrev cX6_lowBits : ByteArray := prog_8_method_6_code
def yX6_lowBits : MethodName := ⟨RX6, "lowBits", "(IJ)J"⟩
abbrev cX6_wholeBits : ByteArray := prog_8_method_7_code
def yX6_wholeBits : MethodName := ⟨RX6, "wholeBits", "()I"⟩
abbrev cX6_sumOf : ByteArray := prog_8_method_8_code
def yX6_sumOf : MethodName := ⟨RX6, "sumOf", "(LHeaderLine$Header;)I"⟩
abbrev cX6_given : ByteArray := prog_8_method_9_code
def yX6_given : MethodName := ⟨RX6, "given", "(ILHeaderLine$Header;[ILHeaderLine$Header;)J"⟩
abbrev cX6_found : ByteArray := prog_8_method_10_code
def yX6_found : MethodName := ⟨RX6, "found", "(IJIJ)J"⟩
def RX7 : String := "HeaderLine$Proof"
def TX7 : u_T := fun k => match k with
  | 0 => ("HeaderLine$Proof", "lengths", "[I", true)
  | 1 => ("HeaderLine$Proof", "misses", "[I", true)
  | 2 => ("HeaderLine$Proof", "references", "I", false)
  | _ => ("HeaderLine$Proof", "oldest", "I", false)
def tyX7 : Nat → FieldType := fun k => match k with
  | 0 => .array .int
  | 1 => .array .int
  | 2 => .int
  | _ => .int
abbrev wsX70 : List Cond := u_ws RX7 TX7 4
theorem nmX7 : ∀ a, a < 4 → ∀ b, b < 4 → a ≠ b → (TX7 a).2.1 ≠ (TX7 b).2.1 := by decide +kernel
theorem tyX7_ok : ∀ k, k < 4 → parseFieldDescriptor (TX7 k).2.2.1 = some (tyX7 k) := by decide +kernel
abbrev cX7_init : ByteArray := prog_9_method_1_code
def yX7_init : MethodName := ⟨RX7, "<init>", "()V"⟩
def RX8 : String := "HeaderLine$Shelf"
def TX8 : u_T := fun k => match k with
  | 0 => ("HeaderLine$Shelf", "row", "[J", true)
  | 1 => ("HeaderLine$Shelf", "holds", "I", false)
  | 2 => ("HeaderLine$Shelf", "size", "I", false)
  | 3 => ("HeaderLine$Shelf", "letterKind", "I", false)
  | _ => ("HeaderLine$Shelf", "letterBytes", "I", false)
def tyX8 : Nat → FieldType := fun k => match k with
  | 0 => .array .long
  | 1 => .int
  | 2 => .int
  | 3 => .int
  | _ => .int
abbrev wsX80 : List Cond := u_ws RX8 TX8 5
theorem nmX8 : ∀ a, a < 5 → ∀ b, b < 5 → a ≠ b → (TX8 a).2.1 ≠ (TX8 b).2.1 := by decide +kernel
theorem tyX8_ok : ∀ k, k < 5 → parseFieldDescriptor (TX8 k).2.2.1 = some (tyX8 k) := by decide +kernel
abbrev cX8_init : ByteArray := prog_10_method_1_code
def yX8_init : MethodName := ⟨RX8, "<init>", "()V"⟩
abbrev cX8_holdLetter : ByteArray := prog_10_method_2_code
def yX8_holdLetter : MethodName := ⟨RX8, "holdLetter", "(LHeaderLine$Letter;)V"⟩
abbrev cX8_holdRow : ByteArray := prog_10_method_3_code
def yX8_holdRow : MethodName := ⟨RX8, "holdRow", "(II)V"⟩
abbrev cX8_hasPlaces : ByteArray := prog_10_method_4_code
def yX8_hasPlaces : MethodName := ⟨RX8, "hasPlaces", "(II)Z"⟩
def RX9 : String := "HeaderLine$Squeezer"
def TX9 : u_T := fun k => match k with
  | 0 => ("HeaderLine$Squeezer", "strides", "[I", true)
  | 1 => ("HeaderLine$Squeezer", "number", "I", false)
  | 2 => ("HeaderLine$Squeezer", "round", "I", false)
  | 3 => ("HeaderLine$Squeezer", "owes", "Z", false)
  | 4 => ("HeaderLine$Squeezer", "held", "I", false)
  | 5 => ("HeaderLine$Squeezer", "ring", "[LHeaderLine$Header;", true)
  | _ => ("HeaderLine$Squeezer", "first", "I", false)
def tyX9 : Nat → FieldType := fun k => match k with
  | 0 => .array .int
  | 1 => .int
  | 2 => .int
  | 3 => .boolean
  | 4 => .int
  | 5 => .array (.object "HeaderLine$Header")
  | _ => .int
abbrev wsX90 : List Cond := u_ws RX9 TX9 7
theorem nmX9 : ∀ a, a < 7 → ∀ b, b < 7 → a ≠ b → (TX9 a).2.1 ≠ (TX9 b).2.1 := by decide +kernel
theorem tyX9_ok : ∀ k, k < 7 → parseFieldDescriptor (TX9 k).2.2.1 = some (tyX9 k) := by decide +kernel
abbrev cX9_init : ByteArray := prog_11_method_1_code
def yX9_init : MethodName := ⟨RX9, "<init>", "()V"⟩
abbrev cX9_reference : ByteArray := prog_11_method_2_code
def yX9_reference : MethodName := ⟨RX9, "reference", "(I)LHeaderLine$Header;"⟩
abbrev cX9_oldestNumber : ByteArray := prog_11_method_3_code
def yX9_oldestNumber : MethodName := ⟨RX9, "oldestNumber", "()I"⟩
abbrev cX9_kindFor : ByteArray := prog_11_method_4_code
def yX9_kindFor : MethodName := ⟨RX9, "kindFor", "(LHeaderLine$Plan;LHeaderLine$Header;Z)I"⟩
abbrev cX9_beginRound : ByteArray := prog_11_method_5_code
def yX9_beginRound : MethodName := ⟨RX9, "beginRound", "()V"⟩
abbrev cX9_writeWhole : ByteArray := prog_11_method_6_code
def yX9_writeWhole : MethodName := ⟨RX9, "writeWhole", "(LHeaderLine$Plan;LHeaderLine$Header;LHeaderLine$Pen;)V"⟩
abbrev cX9_writePart : ByteArray := prog_11_method_7_code
def yX9_writePart : MethodName := ⟨RX9, "writePart", "(LHeaderLine$Plan;LHeaderLine$Header;LHeaderLine$Pen;)V"⟩
abbrev cX9_writeShort : ByteArray := prog_11_method_8_code
def yX9_writeShort : MethodName := ⟨RX9, "writeShort", "(LHeaderLine$Plan;LHeaderLine$Header;LHeaderLine$Pen;LHeaderLine$Proof;)V"⟩
abbrev cX9_remember : ByteArray := prog_11_method_9_code
def yX9_remember : MethodName := ⟨RX9, "remember", "(LHeaderLine$Header;I)V"⟩
abbrev cX9_heed : ByteArray := prog_11_method_10_code
def yX9_heed : MethodName := ⟨RX9, "heed", "(II)I"⟩
abbrev cX9_dropOldest : ByteArray := prog_11_method_11_code
def yX9_dropOldest : MethodName := ⟨RX9, "dropOldest", "(I)V"⟩
abbrev cX9_isGivenByAll : ByteArray := prog_11_method_12_code
def yX9_isGivenByAll : MethodName := ⟨RX9, "isGivenByAll", "(LHeaderLine$Plan;LHeaderLine$Header;I)Z"⟩
abbrev cX9_oldestMiss : ByteArray := prog_11_method_13_code
def yX9_oldestMiss : MethodName := ⟨RX9, "oldestMiss", "(LHeaderLine$Plan;LHeaderLine$Header;II)I"⟩
abbrev cX9_findLeast : ByteArray := prog_11_method_14_code
def yX9_findLeast : MethodName := ⟨RX9, "findLeast", "(LHeaderLine$Plan;LHeaderLine$Header;ILHeaderLine$Proof;)V"⟩
def RX10 : String := "HeaderLine"
def TX10 : u_T := fun k => match k with
  | 0 => ("HeaderLine", "window", "I", true)
  | 1 => ("HeaderLine", "plan", "LHeaderLine$Plan;", true)
  | 2 => ("HeaderLine", "draft", "LHeaderLine$Header;", true)
  | 3 => ("HeaderLine", "squeezers", "[LHeaderLine$Squeezer;", true)
  | 4 => ("HeaderLine", "contexts", "[LHeaderLine$Context;", true)
  | 5 => ("HeaderLine", "letters", "[LHeaderLine$Letter;", true)
  | 6 => ("HeaderLine", "shelves", "[LHeaderLine$Shelf;", true)
  | 7 => ("HeaderLine", "pen", "LHeaderLine$Pen;", true)
  | 8 => ("HeaderLine", "arrival", "LHeaderLine$Arrival;", true)
  | 9 => ("HeaderLine", "latest", "LHeaderLine$Got;", true)
  | 10 => ("HeaderLine", "letterCount", "I", false)
  | _ => ("HeaderLine", "lostCount", "I", false)
def tyX10 : Nat → FieldType := fun k => match k with
  | 0 => .int
  | 1 => .object "HeaderLine$Plan"
  | 2 => .object "HeaderLine$Header"
  | 3 => .array (.object "HeaderLine$Squeezer")
  | 4 => .array (.object "HeaderLine$Context")
  | 5 => .array (.object "HeaderLine$Letter")
  | 6 => .array (.object "HeaderLine$Shelf")
  | 7 => .object "HeaderLine$Pen"
  | 8 => .object "HeaderLine$Arrival"
  | 9 => .object "HeaderLine$Got"
  | 10 => .int
  | _ => .int
abbrev wsX100 : List Cond := u_ws RX10 TX10 12
theorem nmX10 : ∀ a, a < 12 → ∀ b, b < 12 → a ≠ b → (TX10 a).2.1 ≠ (TX10 b).2.1 := by decide +kernel
theorem tyX10_ok : ∀ k, k < 12 → parseFieldDescriptor (TX10 k).2.2.1 = some (tyX10 k) := by decide +kernel
abbrev cX10_init : ByteArray := prog_1_method_1_code
def yX10_init : MethodName := ⟨RX10, "<init>", "(I)V"⟩
abbrev cX10_field : ByteArray := prog_1_method_2_code
def yX10_field : MethodName := ⟨RX10, "field", "(IIII)I"⟩
abbrev cX10_set : ByteArray := prog_1_method_3_code
def yX10_set : MethodName := ⟨RX10, "set", "(IJ)J"⟩
abbrev cX10_stride : ByteArray := prog_1_method_4_code
def yX10_stride : MethodName := ⟨RX10, "stride", "(III)I"⟩
abbrev cX10_send : ByteArray := prog_1_method_5_code
def yX10_send : MethodName := ⟨RX10, "send", "(IZ)I"⟩
abbrev cX10_ack : ByteArray := prog_1_method_6_code
def yX10_ack : MethodName := ⟨RX10, "ack", "(I)I"⟩
abbrev cX10_nack : ByteArray := prog_1_method_7_code
def yX10_nack : MethodName := ⟨RX10, "nack", "(I)I"⟩
abbrev cX10_deliver : ByteArray := prog_1_method_8_code
def yX10_deliver : MethodName := ⟨RX10, "deliver", "(I)I"⟩
abbrev cX10_lose : ByteArray := prog_1_method_9_code
def yX10_lose : MethodName := ⟨RX10, "lose", "(I)I"⟩
abbrev cX10_twice : ByteArray := prog_1_method_10_code
def yX10_twice : MethodName := ⟨RX10, "twice", "(I)I"⟩
abbrev cX10_bend : ByteArray := prog_1_method_11_code
def yX10_bend : MethodName := ⟨RX10, "bend", "(III)I"⟩
abbrev cX10_octet : ByteArray := prog_1_method_12_code
def yX10_octet : MethodName := ⟨RX10, "octet", "(II)I"⟩
abbrev cX10_look : ByteArray := prog_1_method_13_code
def yX10_look : MethodName := ⟨RX10, "look", "(II)I"⟩
abbrev cX10_prove : ByteArray := prog_1_method_14_code
def yX10_prove : MethodName := ⟨RX10, "prove", "(III)I"⟩
abbrev cX10_got : ByteArray := prog_1_method_15_code
def yX10_got : MethodName := ⟨RX10, "got", "(I)J"⟩
abbrev cX10_way : ByteArray := prog_1_method_16_code
def yX10_way : MethodName := ⟨RX10, "way", "(I)I"⟩
abbrev cX10_hung : ByteArray := prog_1_method_17_code
def yX10_hung : MethodName := ⟨RX10, "hung", "(I)I"⟩
abbrev cX10_context : ByteArray := prog_1_method_18_code
def yX10_context : MethodName := ⟨RX10, "context", "(II)I"⟩
abbrev cX10_known : ByteArray := prog_1_method_19_code
def yX10_known : MethodName := ⟨RX10, "known", "(IIZ)J"⟩
abbrev cX10_squeezer : ByteArray := prog_1_method_20_code
def yX10_squeezer : MethodName := ⟨RX10, "squeezer", "(II)I"⟩
abbrev cX10_forget : ByteArray := prog_1_method_21_code
def yX10_forget : MethodName := ⟨RX10, "forget", "(II)I"⟩
abbrev cX10_spent : ByteArray := prog_1_method_22_code
def yX10_spent : MethodName := ⟨RX10, "spent", "(III)J"⟩
abbrev cX10_keep : ByteArray := prog_1_method_23_code
def yX10_keep : MethodName := ⟨RX10, "keep", "(III)I"⟩
abbrev cX10_make : ByteArray := prog_1_method_24_code
def yX10_make : MethodName := ⟨RX10, "make", "(III)I"⟩
abbrev cX10_put : ByteArray := prog_1_method_25_code
def yX10_put : MethodName := ⟨RX10, "put", "(III)J"⟩
abbrev cX10_copy : ByteArray := prog_1_method_26_code
def yX10_copy : MethodName := ⟨RX10, "copy", "(IIIII)I"⟩
abbrev cX10_worth : ByteArray := prog_1_method_27_code
def yX10_worth : MethodName := ⟨RX10, "worth", "(I)I"⟩
abbrev cX10_toss : ByteArray := prog_1_method_28_code
def yX10_toss : MethodName := ⟨RX10, "toss", "(I)I"⟩
abbrev cX10_count : ByteArray := prog_1_method_29_code
def yX10_count : MethodName := ⟨RX10, "count", "(I)I"⟩
abbrev cX10_isFlow : ByteArray := prog_1_method_30_code
def yX10_isFlow : MethodName := ⟨RX10, "isFlow", "(I)Z"⟩
abbrev cX10_isShelf : ByteArray := prog_1_method_31_code
def yX10_isShelf : MethodName := ⟨RX10, "isShelf", "(I)Z"⟩
abbrev cX10_isLineFull : ByteArray := prog_1_method_32_code
def yX10_isLineFull : MethodName := ⟨RX10, "isLineFull", "()Z"⟩
abbrev cX10_letterAt : ByteArray := prog_1_method_33_code
def yX10_letterAt : MethodName := ⟨RX10, "letterAt", "(I)LHeaderLine$Letter;"⟩
abbrev cX10_letterUnderWay : ByteArray := prog_1_method_34_code
def yX10_letterUnderWay : MethodName := ⟨RX10, "letterUnderWay", "(I)LHeaderLine$Letter;"⟩
abbrev cX10_addAnswer : ByteArray := prog_1_method_35_code
def yX10_addAnswer : MethodName := ⟨RX10, "addAnswer", "(III)I"⟩
abbrev cX10_addWritten : ByteArray := prog_1_method_36_code
def yX10_addWritten : MethodName := ⟨RX10, "addWritten", "(IIILHeaderLine$Proof;)I"⟩
abbrev cX10_add : ByteArray := prog_1_method_37_code
def yX10_add : MethodName := ⟨RX10, "add", "(LHeaderLine$Letter;)I"⟩
abbrev cX10_outcomeOf : ByteArray := prog_1_method_38_code
def yX10_outcomeOf : MethodName := ⟨RX10, "outcomeOf", "([I)I"⟩
abbrev cX10_open : ByteArray := prog_1_method_39_code
def yX10_open : MethodName := ⟨RX10, "open", "(LHeaderLine$Context;)I"⟩
abbrev cX10_keepLetter : ByteArray := prog_1_method_40_code
def yX10_keepLetter : MethodName := ⟨RX10, "keepLetter", "(LHeaderLine$Shelf;ILHeaderLine$Letter;)I"⟩
abbrev cX10_keepReferences : ByteArray := prog_1_method_41_code
def yX10_keepReferences : MethodName := ⟨RX10, "keepReferences", "(LHeaderLine$Shelf;I)I"⟩
abbrev cX10_keepContext : ByteArray := prog_1_method_42_code
def yX10_keepContext : MethodName := ⟨RX10, "keepContext", "(LHeaderLine$Shelf;I)I"⟩
abbrev cX10_refusalOfLetterOn : ByteArray := prog_1_method_43_code
def yX10_refusalOfLetterOn : MethodName := ⟨RX10, "refusalOfLetterOn", "(I)I"⟩
abbrev cX10_endsInCheck : ByteArray := prog_1_method_44_code
def yX10_endsInCheck : MethodName := ⟨RX10, "endsInCheck", "(I)Z"⟩
abbrev cX10_checkOf : ByteArray := prog_1_method_45_code
def yX10_checkOf : MethodName := ⟨RX10, "checkOf", "([II)I"⟩
abbrev cX10_wholeBytes : ByteArray := prog_1_method_46_code
def yX10_wholeBytes : MethodName := ⟨RX10, "wholeBytes", "(I)I"⟩
abbrev cX10_lowest : ByteArray := prog_1_method_47_code
def yX10_lowest : MethodName := ⟨RX10, "lowest", "(JI)J"⟩
def RX11 : String := "HeaderLineModel"
def TX11 : u_T := fun k => match k with
  | 0 => ("HeaderLineModel", "thrown", "I", false)
  | 1 => ("HeaderLineModel", "fields", "I", false)
  | 2 => ("HeaderLineModel", "kind", "[I", true)
  | 3 => ("HeaderLineModel", "width", "[I", true)
  | 4 => ("HeaderLineModel", "tied", "[I", true)
  | 5 => ("HeaderLineModel", "extra", "[J", true)
  | 6 => ("HeaderLineModel", "closed", "Z", false)
  | 7 => ("HeaderLineModel", "window", "I", false)
  | 8 => ("HeaderLineModel", "draft", "[J", true)
  | 9 => ("HeaderLineModel", "told", "[I", true)
  | 10 => ("HeaderLineModel", "round", "[I", true)
  | 11 => ("HeaderLineModel", "stride", "[I", true)
  | 12 => ("HeaderLineModel", "owes", "[Z", true)
  | 13 => ("HeaderLineModel", "references", "[I", true)
  | 14 => ("HeaderLineModel", "number", "[I", true)
  | 15 => ("HeaderLineModel", "header", "[J", true)
  | 16 => ("HeaderLineModel", "letters", "I", false)
  | 17 => ("HeaderLineModel", "bytes", "[I", true)
  | 18 => ("HeaderLineModel", "row", "[I", true)
  | 19 => ("HeaderLineModel", "letterKind", "[I", true)
  | 20 => ("HeaderLineModel", "letterFlow", "[I", true)
  | 21 => ("HeaderLineModel", "letterNumber", "[I", true)
  | 22 => ("HeaderLineModel", "bits", "[I", true)
  | 23 => ("HeaderLineModel", "outcome", "[I", true)
  | 24 => ("HeaderLineModel", "lost", "[Z", true)
  | 25 => ("HeaderLineModel", "copied", "[Z", true)
  | 26 => ("HeaderLineModel", "proven", "[I", true)
  | 27 => ("HeaderLineModel", "against", "[I", true)
  | 28 => ("HeaderLineModel", "hangs", "[I", true)
  | 29 => ("HeaderLineModel", "oldest", "[I", true)
  | 30 => ("HeaderLineModel", "has", "[Z", true)
  | 31 => ("HeaderLineModel", "contextNumber", "[I", true)
  | 32 => ("HeaderLineModel", "contextRound", "[I", true)
  | 33 => ("HeaderLineModel", "contextStride", "[I", true)
  | 34 => ("HeaderLineModel", "context", "[J", true)
  | 35 => ("HeaderLineModel", "gets", "I", false)
  | 36 => ("HeaderLineModel", "gotFlow", "I", false)
  | 37 => ("HeaderLineModel", "gotNumber", "I", false)
  | 38 => ("HeaderLineModel", "gotFrom", "I", false)
  | 39 => ("HeaderLineModel", "got", "[J", true)
  | 40 => ("HeaderLineModel", "way", "[I", true)
  | 41 => ("HeaderLineModel", "bit", "[I", true)
  | 42 => ("HeaderLineModel", "put", "I", false)
  | 43 => ("HeaderLineModel", "read", "I", false)
  | 44 => ("HeaderLineModel", "end", "I", false)
  | 45 => ("HeaderLineModel", "broken", "Z", false)
  | 46 => ("HeaderLineModel", "stands", "[I", true)
  | 47 => ("HeaderLineModel", "by", "[I", true)
  | 48 => ("HeaderLineModel", "value", "[J", true)
  | 49 => ("HeaderLineModel", "steps", "[I", true)
  | 50 => ("HeaderLineModel", "cameRound", "I", false)
  | 51 => ("HeaderLineModel", "cameSum", "J", false)
  | 52 => ("HeaderLineModel", "next", "[J", true)
  | 53 => ("HeaderLineModel", "held", "[I", true)
  | 54 => ("HeaderLineModel", "heldSize", "[I", true)
  | 55 => ("HeaderLineModel", "heldKind", "[I", true)
  | 56 => ("HeaderLineModel", "heldRow", "[J", true)
  | _ => ("HeaderLineModel", "between", "[J", true)
def tyX11 : Nat → FieldType := fun k => match k with
  | 0 => .int
  | 1 => .int
  | 2 => .array .int
  | 3 => .array .int
  | 4 => .array .int
  | 5 => .array .long
  | 6 => .boolean
  | 7 => .int
  | 8 => .array .long
  | 9 => .array .int
  | 10 => .array .int
  | 11 => .array .int
  | 12 => .array .boolean
  | 13 => .array .int
  | 14 => .array .int
  | 15 => .array .long
  | 16 => .int
  | 17 => .array .int
  | 18 => .array .int
  | 19 => .array .int
  | 20 => .array .int
  | 21 => .array .int
  | 22 => .array .int
  | 23 => .array .int
  | 24 => .array .boolean
  | 25 => .array .boolean
  | 26 => .array .int
  | 27 => .array .int
  | 28 => .array .int
  | 29 => .array .int
  | 30 => .array .boolean
  | 31 => .array .int
  | 32 => .array .int
  | 33 => .array .int
  | 34 => .array .long
  | 35 => .int
  | 36 => .int
  | 37 => .int
  | 38 => .int
  | 39 => .array .long
  | 40 => .array .int
  | 41 => .array .int
  | 42 => .int
  | 43 => .int
  | 44 => .int
  | 45 => .boolean
  | 46 => .array .int
  | 47 => .array .int
  | 48 => .array .long
  | 49 => .array .int
  | 50 => .int
  | 51 => .long
  | 52 => .array .long
  | 53 => .array .int
  | 54 => .array .int
  | 55 => .array .int
  | 56 => .array .long
  | _ => .array .long
abbrev wsX110 : List Cond := u_ws RX11 TX11 58
theorem nmX11 : ∀ a, a < 58 → ∀ b, b < 58 → a ≠ b → (TX11 a).2.1 ≠ (TX11 b).2.1 := by decide +kernel
theorem tyX11_ok : ∀ k, k < 58 → parseFieldDescriptor (TX11 k).2.2.1 = some (tyX11 k) := by decide +kernel
abbrev cX11_init : ByteArray := prog_13_method_1_code
def yX11_init : MethodName := ⟨RX11, "<init>", "(I)V"⟩
abbrev cX11_isIn : ByteArray := prog_13_method_3_code
def yX11_isIn : MethodName := ⟨RX11, "isIn", "(JJJ)Z"⟩
abbrev cX11_isField : ByteArray := prog_13_method_4_code
def yX11_isField : MethodName := ⟨RX11, "isField", "(I)Z"⟩
abbrev cX11_isFlow : ByteArray := prog_13_method_5_code
def yX11_isFlow : MethodName := ⟨RX11, "isFlow", "(I)Z"⟩
abbrev cX11_cut : ByteArray := prog_13_method_6_code
def yX11_cut : MethodName := ⟨RX11, "cut", "(IJ)J"⟩
abbrev cX11_runs : ByteArray := prog_13_method_7_code
def yX11_runs : MethodName := ⟨RX11, "runs", "(I)Z"⟩
abbrev cX11_field : ByteArray := prog_13_method_8_code
def yX11_field : MethodName := ⟨RX11, "field", "(IIII)I"⟩
abbrev cX11_set : ByteArray := prog_13_method_9_code
def yX11_set : MethodName := ⟨RX11, "set", "(IJ)J"⟩
abbrev cX11_stride : ByteArray := prog_13_method_10_code
def yX11_stride : MethodName := ⟨RX11, "stride", "(III)I"⟩
abbrev cX11_onwards : ByteArray := prog_13_method_11_code
def yX11_onwards : MethodName := ⟨RX11, "onwards", "(IJII)J"⟩
abbrev cX11_given : ByteArray := prog_13_method_12_code
def yX11_given : MethodName := ⟨RX11, "given", "(IIII)J"⟩
abbrev cX11_finds : ByteArray := prog_13_method_13_code
def yX11_finds : MethodName := ⟨RX11, "finds", "(IJJI)Z"⟩
abbrev cX11_giveAll : ByteArray := prog_13_method_14_code
def yX11_giveAll : MethodName := ⟨RX11, "giveAll", "(III)Z"⟩
abbrev cX11_serves : ByteArray := prog_13_method_15_code
def yX11_serves : MethodName := ⟨RX11, "serves", "(IIII)Z"⟩
abbrev cX11_say : ByteArray := prog_13_method_16_code
def yX11_say : MethodName := ⟨RX11, "say", "(JI)V"⟩
abbrev cX11_sumOf : ByteArray := prog_13_method_17_code
def yX11_sumOf : MethodName := ⟨RX11, "sumOf", "(JJ)I"⟩
abbrev cX11_draftSum : ByteArray := prog_13_method_18_code
def yX11_draftSum : MethodName := ⟨RX11, "draftSum", "()I"⟩
abbrev cX11_checkOf : ByteArray := prog_13_method_19_code
def yX11_checkOf : MethodName := ⟨RX11, "checkOf", "(II)I"⟩
abbrev cX11_laid : ByteArray := prog_13_method_20_code
def yX11_laid : MethodName := ⟨RX11, "laid", "(IIIZ)I"⟩
abbrev cX11_head : ByteArray := prog_13_method_21_code
def yX11_head : MethodName := ⟨RX11, "head", "(III)V"⟩
abbrev cX11_sendWhole : ByteArray := prog_13_method_22_code
def yX11_sendWhole : MethodName := ⟨RX11, "sendWhole", "(II)I"⟩
abbrev cX11_sendPart : ByteArray := prog_13_method_23_code
def yX11_sendPart : MethodName := ⟨RX11, "sendPart", "(II)I"⟩
abbrev cX11_fails : ByteArray := prog_13_method_24_code
def yX11_fails : MethodName := ⟨RX11, "fails", "(IIII)I"⟩
abbrev cX11_sendShort : ByteArray := prog_13_method_25_code
def yX11_sendShort : MethodName := ⟨RX11, "sendShort", "(II)I"⟩
abbrev cX11_send : ByteArray := prog_13_method_26_code
def yX11_send : MethodName := ⟨RX11, "send", "(IZ)I"⟩
abbrev cX11_refer : ByteArray := prog_13_method_27_code
def yX11_refer : MethodName := ⟨RX11, "refer", "(II)V"⟩
abbrev cX11_drop : ByteArray := prog_13_method_28_code
def yX11_drop : MethodName := ⟨RX11, "drop", "(II)V"⟩
abbrev cX11_ack : ByteArray := prog_13_method_29_code
def yX11_ack : MethodName := ⟨RX11, "ack", "(I)I"⟩
abbrev cX11_nack : ByteArray := prog_13_method_30_code
def yX11_nack : MethodName := ⟨RX11, "nack", "(I)I"⟩
abbrev cX11_take : ByteArray := prog_13_method_31_code
def yX11_take : MethodName := ⟨RX11, "take", "(II)J"⟩
abbrev cX11_takeEnd : ByteArray := prog_13_method_32_code
def yX11_takeEnd : MethodName := ⟨RX11, "takeEnd", "(IZ)V"⟩
abbrev cX11_takeFields : ByteArray := prog_13_method_33_code
def yX11_takeFields : MethodName := ⟨RX11, "takeFields", "(II)V"⟩
abbrev cX11_found : ByteArray := prog_13_method_34_code
def yX11_found : MethodName := ⟨RX11, "found", "(IJIJ)J"⟩
abbrev cX11_open : ByteArray := prog_13_method_35_code
def yX11_open : MethodName := ⟨RX11, "open", "(II)V"⟩
abbrev cX11_isUnlike : ByteArray := prog_13_method_36_code
def yX11_isUnlike : MethodName := ⟨RX11, "isUnlike", "()Z"⟩
abbrev cX11_opened : ByteArray := prog_13_method_37_code
def yX11_opened : MethodName := ⟨RX11, "opened", "(IIII)I"⟩
abbrev cX11_answered : ByteArray := prog_13_method_38_code
def yX11_answered : MethodName := ⟨RX11, "answered", "(IIII)I"⟩
abbrev cX11_isUnderWay : ByteArray := prog_13_method_39_code
def yX11_isUnderWay : MethodName := ⟨RX11, "isUnderWay", "(I)Z"⟩
abbrev cX11_deliver : ByteArray := prog_13_method_40_code
def yX11_deliver : MethodName := ⟨RX11, "deliver", "(I)I"⟩
abbrev cX11_lose : ByteArray := prog_13_method_41_code
def yX11_lose : MethodName := ⟨RX11, "lose", "(I)I"⟩
abbrev cX11_twice : ByteArray := prog_13_method_42_code
def yX11_twice : MethodName := ⟨RX11, "twice", "(I)I"⟩
abbrev cX11_bend : ByteArray := prog_13_method_43_code
def yX11_bend : MethodName := ⟨RX11, "bend", "(III)I"⟩
abbrev cX11_octet : ByteArray := prog_13_method_44_code
def yX11_octet : MethodName := ⟨RX11, "octet", "(II)I"⟩
abbrev cX11_look : ByteArray := prog_13_method_45_code
def yX11_look : MethodName := ⟨RX11, "look", "(II)I"⟩
abbrev cX11_prove : ByteArray := prog_13_method_46_code
def yX11_prove : MethodName := ⟨RX11, "prove", "(III)I"⟩
abbrev cX11_got : ByteArray := prog_13_method_47_code
def yX11_got : MethodName := ⟨RX11, "got", "(I)J"⟩
abbrev cX11_way : ByteArray := prog_13_method_48_code
def yX11_way : MethodName := ⟨RX11, "way", "(I)I"⟩
abbrev cX11_hung : ByteArray := prog_13_method_49_code
def yX11_hung : MethodName := ⟨RX11, "hung", "(I)I"⟩
abbrev cX11_context : ByteArray := prog_13_method_50_code
def yX11_context : MethodName := ⟨RX11, "context", "(II)I"⟩
abbrev cX11_known : ByteArray := prog_13_method_51_code
def yX11_known : MethodName := ⟨RX11, "known", "(IIZ)J"⟩
abbrev cX11_squeezer : ByteArray := prog_13_method_52_code
def yX11_squeezer : MethodName := ⟨RX11, "squeezer", "(II)I"⟩
abbrev cX11_forget : ByteArray := prog_13_method_53_code
def yX11_forget : MethodName := ⟨RX11, "forget", "(II)I"⟩
abbrev cX11_wholeBits : ByteArray := prog_13_method_54_code
def yX11_wholeBits : MethodName := ⟨RX11, "wholeBits", "()I"⟩
abbrev cX11_spent : ByteArray := prog_13_method_55_code
def yX11_spent : MethodName := ⟨RX11, "spent", "(III)J"⟩
abbrev cX11_isShelf : ByteArray := prog_13_method_56_code
def yX11_isShelf : MethodName := ⟨RX11, "isShelf", "(I)Z"⟩
abbrev cX11_canKeep : ByteArray := prog_13_method_57_code
def yX11_canKeep : MethodName := ⟨RX11, "canKeep", "(II)Z"⟩
abbrev cX11_keep : ByteArray := prog_13_method_58_code
def yX11_keep : MethodName := ⟨RX11, "keep", "(III)I"⟩
abbrev cX11_make : ByteArray := prog_13_method_59_code
def yX11_make : MethodName := ⟨RX11, "make", "(III)I"⟩
abbrev cX11_put : ByteArray := prog_13_method_60_code
def yX11_put : MethodName := ⟨RX11, "put", "(III)J"⟩
abbrev cX11_hasPlaces : ByteArray := prog_13_method_61_code
def yX11_hasPlaces : MethodName := ⟨RX11, "hasPlaces", "(III)Z"⟩
abbrev cX11_copy : ByteArray := prog_13_method_62_code
def yX11_copy : MethodName := ⟨RX11, "copy", "(IIIII)I"⟩
abbrev cX11_denied : ByteArray := prog_13_method_63_code
def yX11_denied : MethodName := ⟨RX11, "denied", "(I)I"⟩
abbrev cX11_worth : ByteArray := prog_13_method_64_code
def yX11_worth : MethodName := ⟨RX11, "worth", "(I)I"⟩
abbrev cX11_toss : ByteArray := prog_13_method_65_code
def yX11_toss : MethodName := ⟨RX11, "toss", "(I)I"⟩
abbrev cX11_count : ByteArray := prog_13_method_66_code
def yX11_count : MethodName := ⟨RX11, "count", "(I)I"⟩
def RJx8e188 : String := "java/lang/Cloneable"
def TJx8e188 : u_T := fun k => match k with
  | _ => ("", "", "", false)
def tyJx8e188 : Nat → FieldType := fun k => match k with
  | _ => .int
abbrev wsJx8e1880 : List Cond := u_ws RJx8e188 TJx8e188 0
theorem nmJx8e188 : ∀ a, a < 0 → ∀ b, b < 0 → a ≠ b → (TJx8e188 a).2.1 ≠ (TJx8e188 b).2.1 := by decide +kernel
theorem tyJx8e188_ok : ∀ k, k < 0 → parseFieldDescriptor (TJx8e188 k).2.2.1 = some (tyJx8e188 k) := by decide +kernel
def RJ9 : String := "java/lang/Math"
def TJ9 : u_T := fun k => match k with
  | _ => ("", "", "", false)
def tyJ9 : Nat → FieldType := fun k => match k with
  | _ => .int
abbrev wsJ90 : List Cond := u_ws RJ9 TJ9 0
theorem nmJ9 : ∀ a, a < 0 → ∀ b, b < 0 → a ≠ b → (TJ9 a).2.1 ≠ (TJ9 b).2.1 := by decide +kernel
theorem tyJ9_ok : ∀ k, k < 0 → parseFieldDescriptor (TJ9 k).2.2.1 = some (tyJ9 k) := by decide +kernel
abbrev cJ9_floorMod_7cf53 : ByteArray := prog_15_method_50_code
def yJ9_floorMod_7cf53 : MethodName := ⟨RJ9, "floorMod", "(II)I"⟩
abbrev cJ9_max_7cf53 : ByteArray := prog_15_method_65_code
def yJ9_max_7cf53 : MethodName := ⟨RJ9, "max", "(II)I"⟩
abbrev cJ9_min_7cf53 : ByteArray := prog_15_method_69_code
def yJ9_min_7cf53 : MethodName := ⟨RJ9, "min", "(II)I"⟩
def RJ10 : String := "java/lang/System"
def TJ10 : u_T := fun k => match k with
  | _ => ("", "", "", false)
def tyJ10 : Nat → FieldType := fun k => match k with
  | _ => .int
abbrev wsJ100 : List Cond := u_ws RJ10 TJ10 0
theorem nmJ10 : ∀ a, a < 0 → ∀ b, b < 0 → a ≠ b → (TJ10 a).2.1 ≠ (TJ10 b).2.1 := by decide +kernel
theorem tyJ10_ok : ∀ k, k < 0 → parseFieldDescriptor (TJ10 k).2.2.1 = some (tyJ10 k) := by decide +kernel
def RJ7 : String := "java/util/Arrays"
def TJ7 : u_T := fun k => match k with
  | _ => ("", "", "", false)
def tyJ7 : Nat → FieldType := fun k => match k with
  | _ => .int
abbrev wsJ70 : List Cond := u_ws RJ7 TJ7 0
theorem nmJ7 : ∀ a, a < 0 → ∀ b, b < 0 → a ≠ b → (TJ7 a).2.1 ≠ (TJ7 b).2.1 := by decide +kernel
theorem tyJ7_ok : ∀ k, k < 0 → parseFieldDescriptor (TJ7 k).2.2.1 = some (tyJ7 k) := by decide +kernel
abbrev cJ7_fill_d0a16 : ByteArray := prog_17_method_101_code
def yJ7_fill_d0a16 : MethodName := ⟨RJ7, "fill", "([JJ)V"⟩
abbrev cJ7_fill_53178 : ByteArray := prog_17_method_103_code
def yJ7_fill_53178 : MethodName := ⟨RJ7, "fill", "([II)V"⟩
abbrev cJ7_copyOf_59c91 : ByteArray := prog_17_method_123_code
def yJ7_copyOf_59c91 : MethodName := ⟨RJ7, "copyOf", "([II)[I"⟩
def RL : String := "HeaderLineLaw"
abbrev cL_cell : ByteArray := method_2_code
def yL_cell : MethodName := ⟨RL, "cell", "([II)I"⟩
abbrev cL_law : ByteArray := code
def yL_law : MethodName := ⟨RL, "law", "([I)Z"⟩
def wsX3_init : List Cond := .code yX3_init cX3_init 1 none :: ([.methodLink RX3 3 objectInit, .instanceMethod objectInit, .code objectInit ⟨#[0xb1]⟩ 1 none, .arrayClass .long, .fieldLink RX3 9 "HeaderLine$Header" "values" "[J"] ++ wsX30)
def wsX0_init : List Cond := .code yX0_init cX0_init 1 none :: ([.methodLink RX0 3 objectInit, .instanceMethod objectInit, .code objectInit ⟨#[0xb1]⟩ 1 none, .classLink RX0 9 RX3, .instantiable RX3 2, .initialized RX3, .fieldLink RX0 12 "HeaderLine$Arrival" "header" "LHeaderLine$Header;", .arrayClass .int, .fieldLink RX0 18 "HeaderLine$Arrival" "strides" "[I", .fieldLink RX0 22 "HeaderLine$Arrival" "ways" "[I", .fieldLink RX0 25 "HeaderLine$Arrival" "lengths" "[I", .arrayClass .long, .fieldLink RX0 28 "HeaderLine$Arrival" "told" "[J", .fieldLink RX0 32 "HeaderLine$Arrival" "bytes" "[I", .instanceMethod yX3_init, .code yX3_init cX3_init 1 none, .methodLink RX3 3 objectInit, .fieldLink RX3 9 "HeaderLine$Header" "values" "[J"] ++ wsX30 ++ wsX00)
def wsX0_read : List Cond := .code yX0_read cX0_read 5 (some .long) :: ([.fieldLink RX0 39 "HeaderLine$Arrival" "isBroken" "Z", .fieldLink RX0 35 "HeaderLine$Arrival" "at" "I", .fieldLink RX0 32 "HeaderLine$Arrival" "bytes" "[I"] ++ wsX00)
def wsX0_readValue : List Cond := .code yX0_readValue cX0_readValue 4 none :: ([.fieldLink RX0 22 "HeaderLine$Arrival" "ways" "[I", .fieldLink RX0 25 "HeaderLine$Arrival" "lengths" "[I", .fieldLink RX0 28 "HeaderLine$Arrival" "told" "[J", .methodLink RX0 43 yX0_read, .instanceMethod yX0_read, .selects RX0 yX0_read yX0_read, .initialized RX0, .code yX0_read cX0_read 5 (some .long), .fieldLink RX0 39 "HeaderLine$Arrival" "isBroken" "Z", .fieldLink RX0 35 "HeaderLine$Arrival" "at" "I", .fieldLink RX0 32 "HeaderLine$Arrival" "bytes" "[I"] ++ wsX00)
def wsX6_has : List Cond := .code yX6_has cX6_has 2 (some .boolean) :: ([.fieldLink RX6 28 "HeaderLine$Plan" "size" "I"] ++ wsX60)
def wsX6_hasStride : List Cond := .code yX6_hasStride cX6_hasStride 2 (some .boolean) :: ([.fieldLink RX6 9 "HeaderLine$Plan" "kinds" "[I", .methodLink RX6 24 yX6_has, .instanceMethod yX6_has, .selects RX6 yX6_has yX6_has, .initialized RX6, .code yX6_has cX6_has 2 (some .boolean), .fieldLink RX6 28 "HeaderLine$Plan" "size" "I"] ++ wsX60)
def wsX0_readField_r1 : List Cond := [Cond.fieldLink RX0 94 "HeaderLine$Plan" "kinds" "[I", Cond.fieldLink RX0 47 "HeaderLine$Arrival" "kind" "I", Cond.fieldLink RX0 97 "HeaderLine$Plan" "widths" "[I", Cond.fieldLink RX0 18 "HeaderLine$Arrival" "strides" "[I", Cond.fieldLink RX0 39 "HeaderLine$Arrival" "isBroken" "Z", Cond.methodLink RX0 100 yX0_readValue, Cond.instanceMethod yX0_readValue, Cond.selects RX0 yX0_readValue yX0_readValue, Cond.initialized RX0, Cond.code yX0_readValue cX0_readValue 4 none, Cond.fieldLink RX0 22 "HeaderLine$Arrival" "ways" "[I", Cond.fieldLink RX0 25 "HeaderLine$Arrival" "lengths" "[I", Cond.fieldLink RX0 28 "HeaderLine$Arrival" "told" "[J", Cond.methodLink RX0 43 yX0_read, Cond.instanceMethod yX0_read, Cond.selects RX0 yX0_read yX0_read, Cond.code yX0_read cX0_read 5 (some .long), Cond.fieldLink RX0 35 "HeaderLine$Arrival" "at" "I", Cond.fieldLink RX0 32 "HeaderLine$Arrival" "bytes" "[I", Cond.methodLink RX0 104 yX6_hasStride, Cond.instanceMethod yX6_hasStride, Cond.selects RX6 yX6_hasStride yX6_hasStride, Cond.initialized RX6, Cond.code yX6_hasStride cX6_hasStride 2 (some .boolean)]
def wsX0_readField_r2 : List Cond := [Cond.fieldLink RX6 9 "HeaderLine$Plan" "kinds" "[I", Cond.methodLink RX6 24 yX6_has, Cond.instanceMethod yX6_has, Cond.selects RX6 yX6_has yX6_has, Cond.code yX6_has cX6_has 2 (some .boolean), Cond.fieldLink RX6 28 "HeaderLine$Plan" "size" "I"]
def wsX0_readField : List Cond := .code yX0_readField cX0_readField 5 none :: ((wsX0_readField_r1 ++ wsX0_readField_r2) ++ wsX60 ++ wsX00)
def wsX10_endsInCheck : List Cond := .code yX10_endsInCheck cX10_endsInCheck 1 (some .boolean) :: ([])
def wsX10_wholeBytes : List Cond := .code yX10_wholeBytes cX10_wholeBytes 1 (some .int) :: ([])
def wsX10_checkOf : List Cond := .code yX10_checkOf cX10_checkOf 4 (some .int) :: ([])
def wsX0_isEndRight : List Cond := .code yX0_isEndRight cX0_isEndRight 3 (some .boolean) :: ([.fieldLink RX0 35 "HeaderLine$Arrival" "at" "I", .fieldLink RX0 47 "HeaderLine$Arrival" "kind" "I", .fieldLink RX0 32 "HeaderLine$Arrival" "bytes" "[I", .static yX10_wholeBytes, .initialized RX10, .code yX10_wholeBytes cX10_wholeBytes 1 (some .int), .static yX10_endsInCheck, .code yX10_endsInCheck cX10_endsInCheck 1 (some .boolean), .methodLink RX0 43 yX0_read, .instanceMethod yX0_read, .selects RX0 yX0_read yX0_read, .initialized RX0, .code yX0_read cX0_read 5 (some .long), .fieldLink RX0 39 "HeaderLine$Arrival" "isBroken" "Z", .static yX10_checkOf, .code yX10_checkOf cX10_checkOf 4 (some .int)] ++ wsX00)
def wsX0_parse_r1 : List Cond := [Cond.fieldLink RX0 32 "HeaderLine$Arrival" "bytes" "[I", Cond.fieldLink RX0 35 "HeaderLine$Arrival" "at" "I", Cond.fieldLink RX0 39 "HeaderLine$Arrival" "isBroken" "Z", Cond.fieldLink RX0 47 "HeaderLine$Arrival" "kind" "I", Cond.fieldLink RX0 50 "HeaderLine$Arrival" "flow" "I", Cond.fieldLink RX0 12 "HeaderLine$Arrival" "header" "LHeaderLine$Header;", Cond.fieldLink RX0 53 "HeaderLine$Header" "number" "I", Cond.fieldLink RX0 56 "HeaderLine$Arrival" "round" "I", Cond.fieldLink RX0 59 "HeaderLine$Plan" "size" "I", Cond.fieldLink RX0 72 "HeaderLine$Arrival" "sum" "I", Cond.methodLink RX0 43 yX0_read, Cond.instanceMethod yX0_read, Cond.selects RX0 yX0_read yX0_read, Cond.initialized RX0, Cond.code yX0_read cX0_read 5 (some .long), Cond.methodLink RX0 64 yX0_readField, Cond.instanceMethod yX0_readField, Cond.selects RX0 yX0_readField yX0_readField, Cond.code yX0_readField cX0_readField 5 none, Cond.fieldLink RX0 94 "HeaderLine$Plan" "kinds" "[I", Cond.fieldLink RX0 97 "HeaderLine$Plan" "widths" "[I", Cond.fieldLink RX0 18 "HeaderLine$Arrival" "strides" "[I", Cond.methodLink RX0 100 yX0_readValue, Cond.instanceMethod yX0_readValue]
def wsX0_parse_r2 : List Cond := [Cond.selects RX0 yX0_readValue yX0_readValue, Cond.code yX0_readValue cX0_readValue 4 none, Cond.fieldLink RX0 22 "HeaderLine$Arrival" "ways" "[I", Cond.fieldLink RX0 25 "HeaderLine$Arrival" "lengths" "[I", Cond.fieldLink RX0 28 "HeaderLine$Arrival" "told" "[J", Cond.methodLink RX0 104 yX6_hasStride, Cond.instanceMethod yX6_hasStride, Cond.selects RX6 yX6_hasStride yX6_hasStride, Cond.initialized RX6, Cond.code yX6_hasStride cX6_hasStride 2 (some .boolean), Cond.fieldLink RX6 9 "HeaderLine$Plan" "kinds" "[I", Cond.methodLink RX6 24 yX6_has, Cond.instanceMethod yX6_has, Cond.selects RX6 yX6_has yX6_has, Cond.code yX6_has cX6_has 2 (some .boolean), Cond.fieldLink RX6 28 "HeaderLine$Plan" "size" "I", Cond.static yX10_endsInCheck, Cond.initialized RX10, Cond.code yX10_endsInCheck cX10_endsInCheck 1 (some .boolean), Cond.methodLink RX0 75 yX0_isEndRight, Cond.instanceMethod yX0_isEndRight, Cond.selects RX0 yX0_isEndRight yX0_isEndRight, Cond.code yX0_isEndRight cX0_isEndRight 3 (some .boolean), Cond.static yX10_wholeBytes]
def wsX0_parse_r3 : List Cond := [Cond.code yX10_wholeBytes cX10_wholeBytes 1 (some .int), Cond.static yX10_checkOf, Cond.code yX10_checkOf cX10_checkOf 4 (some .int)]
def wsX0_parse : List Cond := .code yX0_parse cX0_parse 4 (some .boolean) :: ((wsX0_parse_r1 ++ (wsX0_parse_r2 ++ wsX0_parse_r3)) ++ wsX00 ++ wsX30 ++ wsX60)
def wsX10_lowest : List Cond := .code yX10_lowest cX10_lowest 3 (some .long) :: ([])
def wsX6_lowBits : List Cond := .code yX6_lowBits cX6_lowBits 4 (some .long) :: ([.fieldLink RX6 15 "HeaderLine$Plan" "widths" "[I", .static yX10_lowest, .initialized RX10, .code yX10_lowest cX10_lowest 3 (some .long)] ++ wsX60)
def wsX6_given : List Cond := .code yX6_given cX6_given 7 (some .long) :: ([.fieldLink RX6 49 "HeaderLine$Header" "number" "I", .fieldLink RX6 9 "HeaderLine$Plan" "kinds" "[I", .fieldLink RX6 43 "HeaderLine$Header" "values" "[J", .fieldLink RX6 18 "HeaderLine$Plan" "ties" "[I", .fieldLink RX6 21 "HeaderLine$Plan" "extras" "[I", .methodLink RX6 52 yX6_lowBits, .instanceMethod yX6_lowBits, .selects RX6 yX6_lowBits yX6_lowBits, .initialized RX6, .code yX6_lowBits cX6_lowBits 4 (some .long), .fieldLink RX6 15 "HeaderLine$Plan" "widths" "[I", .static yX10_lowest, .initialized RX10, .code yX10_lowest cX10_lowest 3 (some .long)] ++ wsX30 ++ wsX60)
def wsX6_found : List Cond := .code yX6_found cX6_found 9 (some .long) :: ([.static yX10_lowest, .initialized RX10, .code yX10_lowest cX10_lowest 3 (some .long), .methodLink RX6 52 yX6_lowBits, .instanceMethod yX6_lowBits, .selects RX6 yX6_lowBits yX6_lowBits, .initialized RX6, .code yX6_lowBits cX6_lowBits 4 (some .long), .fieldLink RX6 15 "HeaderLine$Plan" "widths" "[I"] ++ wsX60)
def wsX0_rebuild_r1 : List Cond := [Cond.fieldLink RX0 59 "HeaderLine$Plan" "size" "I", Cond.fieldLink RX0 28 "HeaderLine$Arrival" "told" "[J", Cond.fieldLink RX0 22 "HeaderLine$Arrival" "ways" "[I", Cond.fieldLink RX0 79 "HeaderLine$Context" "header" "LHeaderLine$Header;", Cond.fieldLink RX0 82 "HeaderLine$Context" "strides" "[I", Cond.fieldLink RX0 12 "HeaderLine$Arrival" "header" "LHeaderLine$Header;", Cond.fieldLink RX0 25 "HeaderLine$Arrival" "lengths" "[I", Cond.fieldLink RX0 91 "HeaderLine$Header" "values" "[J", Cond.methodLink RX0 83 yX6_given, Cond.instanceMethod yX6_given, Cond.selects RX6 yX6_given yX6_given, Cond.initialized RX6, Cond.code yX6_given cX6_given 7 (some .long), Cond.fieldLink RX6 49 "HeaderLine$Header" "number" "I", Cond.fieldLink RX6 9 "HeaderLine$Plan" "kinds" "[I", Cond.fieldLink RX6 43 "HeaderLine$Header" "values" "[J", Cond.fieldLink RX6 18 "HeaderLine$Plan" "ties" "[I", Cond.fieldLink RX6 21 "HeaderLine$Plan" "extras" "[I", Cond.methodLink RX6 52 yX6_lowBits, Cond.instanceMethod yX6_lowBits, Cond.selects RX6 yX6_lowBits yX6_lowBits, Cond.code yX6_lowBits cX6_lowBits 4 (some .long), Cond.fieldLink RX6 15 "HeaderLine$Plan" "widths" "[I", Cond.static yX10_lowest]
def wsX0_rebuild_r2 : List Cond := [Cond.initialized RX10, Cond.code yX10_lowest cX10_lowest 3 (some .long), Cond.methodLink RX0 87 yX6_found, Cond.instanceMethod yX6_found, Cond.selects RX6 yX6_found yX6_found, Cond.code yX6_found cX6_found 9 (some .long)]
def wsX0_rebuild : List Cond := .code yX0_rebuild cX0_rebuild 8 none :: ((wsX0_rebuild_r1 ++ wsX0_rebuild_r2) ++ wsX60 ++ wsX00 ++ wsX10 ++ wsX30)
def wsX1_init : List Cond := .code yX1_init cX1_init 1 none :: ([.methodLink RX1 3 objectInit, .instanceMethod objectInit, .code objectInit ⟨#[0xb1]⟩ 1 none, .classLink RX1 9 RX3, .instantiable RX3 2, .initialized RX3, .fieldLink RX1 12 "HeaderLine$Context" "header" "LHeaderLine$Header;", .arrayClass .int, .fieldLink RX1 18 "HeaderLine$Context" "strides" "[I", .instanceMethod yX3_init, .code yX3_init cX3_init 1 none, .methodLink RX3 3 objectInit, .arrayClass .long, .fieldLink RX3 9 "HeaderLine$Header" "values" "[J"] ++ wsX30 ++ wsX10)
def wsX3_become : List Cond := .code yX3_become cX3_become 2 none :: ([.fieldLink RX3 9 "HeaderLine$Header" "values" "[J", .methodLink RX3 15 arraycopyName, .native arraycopyName, .static arraycopyName, .initialized "java/lang/System", .fieldLink RX3 21 "HeaderLine$Header" "number" "I"] ++ wsX30)
def wsX1_accept : List Cond := .code yX1_accept cX1_accept 2 none :: ([.fieldLink RX1 12 "HeaderLine$Context" "header" "LHeaderLine$Header;", .fieldLink RX1 22 "HeaderLine$Arrival" "header" "LHeaderLine$Header;", .fieldLink RX1 29 "HeaderLine$Context" "isThere" "Z", .fieldLink RX1 33 "HeaderLine$Arrival" "kind" "I", .fieldLink RX1 37 "HeaderLine$Arrival" "round" "I", .fieldLink RX1 40 "HeaderLine$Context" "round" "I", .fieldLink RX1 41 "HeaderLine$Arrival" "strides" "[I", .fieldLink RX1 18 "HeaderLine$Context" "strides" "[I", .methodLink RX1 42 arraycopyName, .native arraycopyName, .static arraycopyName, .initialized "java/lang/System", .methodLink RX1 25 yX3_become, .instanceMethod yX3_become, .selects RX3 yX3_become yX3_become, .initialized RX3, .code yX3_become cX3_become 2 none, .fieldLink RX3 9 "HeaderLine$Header" "values" "[J", .methodLink RX3 15 arraycopyName, .fieldLink RX3 21 "HeaderLine$Header" "number" "I"] ++ wsX10 ++ wsX00 ++ wsX30)
def wsX2_init : List Cond := .code yX2_init cX2_init 1 none :: ([.methodLink RX2 3 objectInit, .instanceMethod objectInit, .code objectInit ⟨#[0xb1]⟩ 1 none, .classLink RX2 9 RX3, .instantiable RX3 2, .initialized RX3, .fieldLink RX2 12 "HeaderLine$Got" "header" "LHeaderLine$Header;", .arrayClass .int, .fieldLink RX2 18 "HeaderLine$Got" "ways" "[I", .instanceMethod yX3_init, .code yX3_init cX3_init 1 none, .methodLink RX3 3 objectInit, .arrayClass .long, .fieldLink RX3 9 "HeaderLine$Header" "values" "[J"] ++ wsX30 ++ wsX20)
def wsX2_accept : List Cond := .code yX2_accept cX2_accept 3 none :: ([.fieldLink RX2 12 "HeaderLine$Got" "header" "LHeaderLine$Header;", .fieldLink RX2 22 "HeaderLine$Arrival" "header" "LHeaderLine$Header;", .fieldLink RX2 29 "HeaderLine$Arrival" "ways" "[I", .fieldLink RX2 18 "HeaderLine$Got" "ways" "[I", .methodLink RX2 30 arraycopyName, .native arraycopyName, .static arraycopyName, .initialized "java/lang/System", .fieldLink RX2 36 "HeaderLine$Arrival" "flow" "I", .fieldLink RX2 40 "HeaderLine$Got" "flow" "I", .fieldLink RX2 41 "HeaderLine$Got" "hungOn" "I", .fieldLink RX2 44 "HeaderLine$Got" "total" "I", .methodLink RX2 25 yX3_become, .instanceMethod yX3_become, .selects RX3 yX3_become yX3_become, .initialized RX3, .code yX3_become cX3_become 2 none, .fieldLink RX3 9 "HeaderLine$Header" "values" "[J", .methodLink RX3 15 arraycopyName, .fieldLink RX3 21 "HeaderLine$Header" "number" "I"] ++ wsX20 ++ wsX00 ++ wsX30)
def wsX4_init : List Cond := .code yX4_init cX4_init 6 none :: ([.methodLink RX4 1 objectInit, .instanceMethod objectInit, .code objectInit ⟨#[0xb1]⟩ 1 none, .fieldLink RX4 7 "HeaderLine$Letter" "outcome" "I", .fieldLink RX4 13 "HeaderLine$Letter" "kind" "I", .fieldLink RX4 16 "HeaderLine$Letter" "flow" "I", .fieldLink RX4 19 "HeaderLine$Letter" "number" "I", .fieldLink RX4 22 "HeaderLine$Letter" "bytes" "[I", .fieldLink RX4 26 "HeaderLine$Letter" "bits" "I"] ++ wsX40)
def wsX4_hasByte : List Cond := .code yX4_hasByte cX4_hasByte 2 (some .boolean) :: ([.fieldLink RX4 22 "HeaderLine$Letter" "bytes" "[I"] ++ wsX40)
def wsX5_init : List Cond := .code yX5_init cX5_init 1 none :: ([.methodLink RX5 3 objectInit, .instanceMethod objectInit, .code objectInit ⟨#[0xb1]⟩ 1 none, .arrayClass .int, .fieldLink RX5 9 "HeaderLine$Pen" "bytes" "[I"] ++ wsX50)
def wsJ7_fill_53178 : List Cond := .code yJ7_fill_53178 cJ7_fill_53178 4 none :: ([])
def wsX5_write : List Cond := .code yX5_write cX5_write 6 none :: ([.fieldLink RX5 21 "HeaderLine$Pen" "bits" "I", .fieldLink RX5 9 "HeaderLine$Pen" "bytes" "[I", .static yX10_wholeBytes, .initialized RX10, .code yX10_wholeBytes cX10_wholeBytes 1 (some .int)] ++ wsX50)
def wsX5_begin : List Cond := .code yX5_begin cX5_begin 4 none :: ([.fieldLink RX5 9 "HeaderLine$Pen" "bytes" "[I", .fieldLink RX5 21 "HeaderLine$Pen" "bits" "I", .methodLink RX5 15 yJ7_fill_53178, .static yJ7_fill_53178, .initialized RJ7, .code yJ7_fill_53178 cJ7_fill_53178 4 none, .methodLink RX5 25 yX5_write, .instanceMethod yX5_write, .selects RX5 yX5_write yX5_write, .initialized RX5, .code yX5_write cX5_write 6 none, .static yX10_wholeBytes, .initialized RX10, .code yX10_wholeBytes cX10_wholeBytes 1 (some .int)] ++ wsX50)
def wsJ7_copyOf_59c91 : List Cond := .code yJ7_copyOf_59c91 cJ7_copyOf_59c91 3 (some (.array .int)) :: ([.methodLink RJ7 316 ⟨"[I", "clone", "()Ljava/lang/Object;"⟩, .sameMethod "[I" "java/lang/Object" "clone" "()Ljava/lang/Object;", .native ⟨"java/lang/Object", "clone", "()Ljava/lang/Object;"⟩, .instanceMethod ⟨"java/lang/Object", "clone", "()Ljava/lang/Object;"⟩, .selects "[I" ⟨"[I", "clone", "()Ljava/lang/Object;"⟩ ⟨"java/lang/Object", "clone", "()Ljava/lang/Object;"⟩, .classLink RJ7 317 "[I", .arrayClass .int, .methodLink RJ7 304 Lib.Math.min.name, .static Lib.Math.min.name, .initialized "java/lang/Math", .code Lib.Math.min.name Lib.Math.min.code 2 (some .int), .methodLink RJ7 150 arraycopyName, .native arraycopyName, .static arraycopyName, .initialized "java/lang/System"])
def wsX5_finished_r1 : List Cond := [Cond.fieldLink RX5 21 "HeaderLine$Pen" "bits" "I", Cond.fieldLink RX5 9 "HeaderLine$Pen" "bytes" "[I", Cond.static yX10_wholeBytes, Cond.initialized RX10, Cond.code yX10_wholeBytes cX10_wholeBytes 1 (some .int), Cond.methodLink RX5 33 yJ7_copyOf_59c91, Cond.static yJ7_copyOf_59c91, Cond.initialized RJ7, Cond.code yJ7_copyOf_59c91 cJ7_copyOf_59c91 3 (some (.array .int)), Cond.methodLink RJ7 316 ⟨"[I", "clone", "()Ljava/lang/Object;"⟩, Cond.sameMethod "[I" "java/lang/Object" "clone" "()Ljava/lang/Object;", Cond.native ⟨"java/lang/Object", "clone", "()Ljava/lang/Object;"⟩, Cond.instanceMethod ⟨"java/lang/Object", "clone", "()Ljava/lang/Object;"⟩, Cond.selects "[I" ⟨"[I", "clone", "()Ljava/lang/Object;"⟩ ⟨"java/lang/Object", "clone", "()Ljava/lang/Object;"⟩, Cond.classLink RJ7 317 "[I", Cond.arrayClass .int, Cond.methodLink RJ7 304 Lib.Math.min.name, Cond.static Lib.Math.min.name, Cond.initialized "java/lang/Math", Cond.code Lib.Math.min.name Lib.Math.min.code 2 (some .int), Cond.methodLink RJ7 150 arraycopyName, Cond.native arraycopyName, Cond.static arraycopyName, Cond.initialized "java/lang/System"]
def wsX5_finished_r2 : List Cond := [Cond.static yX10_checkOf, Cond.code yX10_checkOf cX10_checkOf 4 (some .int)]
def wsX5_finished : List Cond := .code yX5_finished cX5_finished 4 (some (.array .int)) :: ((wsX5_finished_r1 ++ wsX5_finished_r2) ++ wsX50)
def wsX6_init : List Cond := .code yX6_init cX6_init 1 none :: ([.methodLink RX6 3 objectInit, .instanceMethod objectInit, .code objectInit ⟨#[0xb1]⟩ 1 none, .arrayClass .int, .fieldLink RX6 9 "HeaderLine$Plan" "kinds" "[I", .fieldLink RX6 15 "HeaderLine$Plan" "widths" "[I", .fieldLink RX6 18 "HeaderLine$Plan" "ties" "[I", .fieldLink RX6 21 "HeaderLine$Plan" "extras" "[I"] ++ wsX60)
def wsX6_allows : List Cond := .code yX6_allows cX6_allows 5 (some .boolean) :: ([.methodLink RX6 24 yX6_has, .instanceMethod yX6_has, .selects RX6 yX6_has yX6_has, .initialized RX6, .code yX6_has cX6_has 2 (some .boolean), .fieldLink RX6 28 "HeaderLine$Plan" "size" "I"] ++ wsX60)
def wsX6_append : List Cond := .code yX6_append cX6_append 5 (some .int) :: ([.fieldLink RX6 28 "HeaderLine$Plan" "size" "I", .fieldLink RX6 9 "HeaderLine$Plan" "kinds" "[I", .fieldLink RX6 15 "HeaderLine$Plan" "widths" "[I", .fieldLink RX6 18 "HeaderLine$Plan" "ties" "[I", .fieldLink RX6 21 "HeaderLine$Plan" "extras" "[I"] ++ wsX60)
def wsX6_wholeBits : List Cond := .code yX6_wholeBits cX6_wholeBits 3 (some .int) :: ([.fieldLink RX6 28 "HeaderLine$Plan" "size" "I", .fieldLink RX6 15 "HeaderLine$Plan" "widths" "[I", .methodLink RX6 36 yX6_hasStride, .instanceMethod yX6_hasStride, .selects RX6 yX6_hasStride yX6_hasStride, .initialized RX6, .code yX6_hasStride cX6_hasStride 2 (some .boolean), .fieldLink RX6 9 "HeaderLine$Plan" "kinds" "[I", .methodLink RX6 24 yX6_has, .instanceMethod yX6_has, .selects RX6 yX6_has yX6_has, .code yX6_has cX6_has 2 (some .boolean)] ++ wsX60)
def wsX6_sumOf : List Cond := .code yX6_sumOf cX6_sumOf 5 (some .int) :: ([.constantLong RX6 39 (17), .fieldLink RX6 28 "HeaderLine$Plan" "size" "I", .constantLong RX6 41 (31), .fieldLink RX6 43 "HeaderLine$Header" "values" "[J", .static yX10_lowest, .initialized RX10, .code yX10_lowest cX10_lowest 3 (some .long)] ++ wsX60 ++ wsX30)
def wsX7_init : List Cond := .code yX7_init cX7_init 1 none :: ([.methodLink RX7 3 objectInit, .instanceMethod objectInit, .code objectInit ⟨#[0xb1]⟩ 1 none, .arrayClass .int, .fieldLink RX7 9 "HeaderLine$Proof" "lengths" "[I", .fieldLink RX7 15 "HeaderLine$Proof" "misses" "[I"] ++ wsX70)
def wsX8_init : List Cond := .code yX8_init cX8_init 1 none :: ([.methodLink RX8 3 objectInit, .instanceMethod objectInit, .code objectInit ⟨#[0xb1]⟩ 1 none, .arrayClass .long, .fieldLink RX8 9 "HeaderLine$Shelf" "row" "[J"] ++ wsX80)
def wsX8_holdLetter : List Cond := .code yX8_holdLetter cX8_holdLetter 2 none :: ([.fieldLink RX8 15 "HeaderLine$Shelf" "holds" "I", .fieldLink RX8 19 "HeaderLine$Letter" "kind" "I", .fieldLink RX8 24 "HeaderLine$Shelf" "letterKind" "I", .fieldLink RX8 27 "HeaderLine$Letter" "bytes" "[I", .fieldLink RX8 31 "HeaderLine$Shelf" "letterBytes" "I"] ++ wsX80 ++ wsX40)
def wsJ7_fill_d0a16 : List Cond := .code yJ7_fill_d0a16 cJ7_fill_d0a16 5 none :: ([])
def wsX8_holdRow : List Cond := .code yX8_holdRow cX8_holdRow 3 none :: ([.fieldLink RX8 15 "HeaderLine$Shelf" "holds" "I", .methodLink RX8 34 Lib.Math.min.name, .static Lib.Math.min.name, .initialized "java/lang/Math", .code Lib.Math.min.name Lib.Math.min.code 2 (some .int), .methodLink RX8 40 Lib.Math.max.name, .static Lib.Math.max.name, .code Lib.Math.max.name Lib.Math.max.code 2 (some .int), .fieldLink RX8 43 "HeaderLine$Shelf" "size" "I", .fieldLink RX8 9 "HeaderLine$Shelf" "row" "[J", .methodLink RX8 46 yJ7_fill_d0a16, .static yJ7_fill_d0a16, .initialized RJ7, .code yJ7_fill_d0a16 cJ7_fill_d0a16 5 none] ++ wsX80)
def wsX8_hasPlaces : List Cond := .code yX8_hasPlaces cX8_hasPlaces 3 (some .boolean) :: ([.fieldLink RX8 43 "HeaderLine$Shelf" "size" "I"] ++ wsX80)
def wsX9_init : List Cond := .code yX9_init cX9_init 2 none :: ([.methodLink RX9 3 objectInit, .instanceMethod objectInit, .code objectInit ⟨#[0xb1]⟩ 1 none, .arrayClass .int, .fieldLink RX9 9 "HeaderLine$Squeezer" "strides" "[I", .fieldLink RX9 15 "HeaderLine$Squeezer" "owes" "Z", .classLink RX9 19 RX3, .fieldLink RX9 21 "HeaderLine$Squeezer" "ring" "[LHeaderLine$Header;", .instantiable RX3 2, .initialized RX3, .methodLink RX9 25 yJ7_fill_53178, .static yJ7_fill_53178, .initialized RJ7, .code yJ7_fill_53178 cJ7_fill_53178 4 none, .instanceMethod yX3_init, .code yX3_init cX3_init 1 none, .methodLink RX3 3 objectInit, .arrayClass .long, .fieldLink RX3 9 "HeaderLine$Header" "values" "[J"] ++ wsX90 ++ wsX30)
def wsJ9_floorMod_7cf53 : List Cond := .code yJ9_floorMod_7cf53 cJ9_floorMod_7cf53 3 (some .int) :: ([])
def wsX9_reference : List Cond := .code yX9_reference cX9_reference 2 (some (.object "HeaderLine$Header")) :: ([.fieldLink RX9 21 "HeaderLine$Squeezer" "ring" "[LHeaderLine$Header;", .fieldLink RX9 32 "HeaderLine$Squeezer" "first" "I", .methodLink RX9 36 yJ9_floorMod_7cf53, .static yJ9_floorMod_7cf53, .initialized RJ9, .code yJ9_floorMod_7cf53 cJ9_floorMod_7cf53 3 (some .int)] ++ wsX90)
def wsX9_oldestNumber : List Cond := .code yX9_oldestNumber cX9_oldestNumber 1 (some .int) :: ([.fieldLink RX9 42 "HeaderLine$Squeezer" "held" "I", .fieldLink RX9 49 "HeaderLine$Header" "number" "I", .methodLink RX9 45 yX9_reference, .instanceMethod yX9_reference, .selects RX9 yX9_reference yX9_reference, .initialized RX9, .code yX9_reference cX9_reference 2 (some (.object "HeaderLine$Header")), .fieldLink RX9 21 "HeaderLine$Squeezer" "ring" "[LHeaderLine$Header;", .fieldLink RX9 32 "HeaderLine$Squeezer" "first" "I", .methodLink RX9 36 yJ9_floorMod_7cf53, .static yJ9_floorMod_7cf53, .initialized RJ9, .code yJ9_floorMod_7cf53 cJ9_floorMod_7cf53 3 (some .int)] ++ wsX90 ++ wsX30)
def wsX9_oldestMiss_r1 : List Cond := [Cond.fieldLink RX9 73 "HeaderLine$Header" "values" "[J", Cond.fieldLink RX9 42 "HeaderLine$Squeezer" "held" "I", Cond.fieldLink RX9 9 "HeaderLine$Squeezer" "strides" "[I", Cond.fieldLink RX9 49 "HeaderLine$Header" "number" "I", Cond.methodLink RX9 45 yX9_reference, Cond.instanceMethod yX9_reference, Cond.selects RX9 yX9_reference yX9_reference, Cond.initialized RX9, Cond.code yX9_reference cX9_reference 2 (some (.object "HeaderLine$Header")), Cond.fieldLink RX9 21 "HeaderLine$Squeezer" "ring" "[LHeaderLine$Header;", Cond.fieldLink RX9 32 "HeaderLine$Squeezer" "first" "I", Cond.methodLink RX9 36 yJ9_floorMod_7cf53, Cond.static yJ9_floorMod_7cf53, Cond.initialized RJ9, Cond.code yJ9_floorMod_7cf53 cJ9_floorMod_7cf53 3 (some .int), Cond.methodLink RX9 121 yX6_given, Cond.instanceMethod yX6_given, Cond.selects RX6 yX6_given yX6_given, Cond.initialized RX6, Cond.code yX6_given cX6_given 7 (some .long), Cond.fieldLink RX6 49 "HeaderLine$Header" "number" "I", Cond.fieldLink RX6 9 "HeaderLine$Plan" "kinds" "[I", Cond.fieldLink RX6 43 "HeaderLine$Header" "values" "[J", Cond.fieldLink RX6 18 "HeaderLine$Plan" "ties" "[I"]
def wsX9_oldestMiss_r2 : List Cond := [Cond.fieldLink RX6 21 "HeaderLine$Plan" "extras" "[I", Cond.methodLink RX6 52 yX6_lowBits, Cond.instanceMethod yX6_lowBits, Cond.selects RX6 yX6_lowBits yX6_lowBits, Cond.code yX6_lowBits cX6_lowBits 4 (some .long), Cond.fieldLink RX6 15 "HeaderLine$Plan" "widths" "[I", Cond.static yX10_lowest, Cond.initialized RX10, Cond.code yX10_lowest cX10_lowest 3 (some .long), Cond.methodLink RX9 125 yX6_found, Cond.instanceMethod yX6_found, Cond.selects RX6 yX6_found yX6_found, Cond.code yX6_found cX6_found 9 (some .long)]
def wsX9_oldestMiss : List Cond := .code yX9_oldestMiss cX9_oldestMiss 10 (some .int) :: ((wsX9_oldestMiss_r1 ++ wsX9_oldestMiss_r2) ++ wsX30 ++ wsX90 ++ wsX60)
def wsX9_isGivenByAll_r1 : List Cond := [Cond.methodLink RX9 117 yX9_oldestMiss, Cond.instanceMethod yX9_oldestMiss, Cond.selects RX9 yX9_oldestMiss yX9_oldestMiss, Cond.initialized RX9, Cond.code yX9_oldestMiss cX9_oldestMiss 10 (some .int), Cond.fieldLink RX9 73 "HeaderLine$Header" "values" "[J", Cond.fieldLink RX9 42 "HeaderLine$Squeezer" "held" "I", Cond.fieldLink RX9 9 "HeaderLine$Squeezer" "strides" "[I", Cond.fieldLink RX9 49 "HeaderLine$Header" "number" "I", Cond.methodLink RX9 45 yX9_reference, Cond.instanceMethod yX9_reference, Cond.selects RX9 yX9_reference yX9_reference, Cond.code yX9_reference cX9_reference 2 (some (.object "HeaderLine$Header")), Cond.fieldLink RX9 21 "HeaderLine$Squeezer" "ring" "[LHeaderLine$Header;", Cond.fieldLink RX9 32 "HeaderLine$Squeezer" "first" "I", Cond.methodLink RX9 36 yJ9_floorMod_7cf53, Cond.static yJ9_floorMod_7cf53, Cond.initialized RJ9, Cond.code yJ9_floorMod_7cf53 cJ9_floorMod_7cf53 3 (some .int), Cond.methodLink RX9 121 yX6_given, Cond.instanceMethod yX6_given, Cond.selects RX6 yX6_given yX6_given, Cond.initialized RX6, Cond.code yX6_given cX6_given 7 (some .long)]
def wsX9_isGivenByAll_r2 : List Cond := [Cond.fieldLink RX6 49 "HeaderLine$Header" "number" "I", Cond.fieldLink RX6 9 "HeaderLine$Plan" "kinds" "[I", Cond.fieldLink RX6 43 "HeaderLine$Header" "values" "[J", Cond.fieldLink RX6 18 "HeaderLine$Plan" "ties" "[I", Cond.fieldLink RX6 21 "HeaderLine$Plan" "extras" "[I", Cond.methodLink RX6 52 yX6_lowBits, Cond.instanceMethod yX6_lowBits, Cond.selects RX6 yX6_lowBits yX6_lowBits, Cond.code yX6_lowBits cX6_lowBits 4 (some .long), Cond.fieldLink RX6 15 "HeaderLine$Plan" "widths" "[I", Cond.static yX10_lowest, Cond.initialized RX10, Cond.code yX10_lowest cX10_lowest 3 (some .long), Cond.methodLink RX9 125 yX6_found, Cond.instanceMethod yX6_found, Cond.selects RX6 yX6_found yX6_found, Cond.code yX6_found cX6_found 9 (some .long)]
def wsX9_isGivenByAll : List Cond := .code yX9_isGivenByAll cX9_isGivenByAll 4 (some .boolean) :: ((wsX9_isGivenByAll_r1 ++ wsX9_isGivenByAll_r2) ++ wsX30 ++ wsX90 ++ wsX60)
def wsX9_kindFor_r1 : List Cond := [Cond.fieldLink RX9 15 "HeaderLine$Squeezer" "owes" "Z", Cond.fieldLink RX9 42 "HeaderLine$Squeezer" "held" "I", Cond.fieldLink RX9 52 "HeaderLine$Plan" "size" "I", Cond.fieldLink RX9 57 "HeaderLine$Plan" "kinds" "[I", Cond.methodLink RX9 60 yX9_isGivenByAll, Cond.instanceMethod yX9_isGivenByAll, Cond.selects RX9 yX9_isGivenByAll yX9_isGivenByAll, Cond.initialized RX9, Cond.code yX9_isGivenByAll cX9_isGivenByAll 4 (some .boolean), Cond.methodLink RX9 117 yX9_oldestMiss, Cond.instanceMethod yX9_oldestMiss, Cond.selects RX9 yX9_oldestMiss yX9_oldestMiss, Cond.code yX9_oldestMiss cX9_oldestMiss 10 (some .int), Cond.fieldLink RX9 73 "HeaderLine$Header" "values" "[J", Cond.fieldLink RX9 9 "HeaderLine$Squeezer" "strides" "[I", Cond.fieldLink RX9 49 "HeaderLine$Header" "number" "I", Cond.methodLink RX9 45 yX9_reference, Cond.instanceMethod yX9_reference, Cond.selects RX9 yX9_reference yX9_reference, Cond.code yX9_reference cX9_reference 2 (some (.object "HeaderLine$Header")), Cond.fieldLink RX9 21 "HeaderLine$Squeezer" "ring" "[LHeaderLine$Header;", Cond.fieldLink RX9 32 "HeaderLine$Squeezer" "first" "I", Cond.methodLink RX9 36 yJ9_floorMod_7cf53, Cond.static yJ9_floorMod_7cf53]
def wsX9_kindFor_r2 : List Cond := [Cond.initialized RJ9, Cond.code yJ9_floorMod_7cf53 cJ9_floorMod_7cf53 3 (some .int), Cond.methodLink RX9 121 yX6_given, Cond.instanceMethod yX6_given, Cond.selects RX6 yX6_given yX6_given, Cond.initialized RX6, Cond.code yX6_given cX6_given 7 (some .long), Cond.fieldLink RX6 49 "HeaderLine$Header" "number" "I", Cond.fieldLink RX6 9 "HeaderLine$Plan" "kinds" "[I", Cond.fieldLink RX6 43 "HeaderLine$Header" "values" "[J", Cond.fieldLink RX6 18 "HeaderLine$Plan" "ties" "[I", Cond.fieldLink RX6 21 "HeaderLine$Plan" "extras" "[I", Cond.methodLink RX6 52 yX6_lowBits, Cond.instanceMethod yX6_lowBits, Cond.selects RX6 yX6_lowBits yX6_lowBits, Cond.code yX6_lowBits cX6_lowBits 4 (some .long), Cond.fieldLink RX6 15 "HeaderLine$Plan" "widths" "[I", Cond.static yX10_lowest, Cond.initialized RX10, Cond.code yX10_lowest cX10_lowest 3 (some .long), Cond.methodLink RX9 125 yX6_found, Cond.instanceMethod yX6_found, Cond.selects RX6 yX6_found yX6_found, Cond.code yX6_found cX6_found 9 (some .long)]
def wsX9_kindFor : List Cond := .code yX9_kindFor cX9_kindFor 6 (some .int) :: ((wsX9_kindFor_r1 ++ wsX9_kindFor_r2) ++ wsX90 ++ wsX60 ++ wsX30)
def wsX9_beginRound : List Cond := .code yX9_beginRound cX9_beginRound 1 none :: ([.fieldLink RX9 64 "HeaderLine$Squeezer" "round" "I", .fieldLink RX9 42 "HeaderLine$Squeezer" "held" "I", .fieldLink RX9 15 "HeaderLine$Squeezer" "owes" "Z"] ++ wsX90)
def wsX9_writeWhole_r1 : List Cond := [Cond.fieldLink RX9 64 "HeaderLine$Squeezer" "round" "I", Cond.fieldLink RX9 52 "HeaderLine$Plan" "size" "I", Cond.fieldLink RX9 73 "HeaderLine$Header" "values" "[J", Cond.fieldLink RX9 77 "HeaderLine$Plan" "widths" "[I", Cond.fieldLink RX9 9 "HeaderLine$Squeezer" "strides" "[I", Cond.methodLink RX9 67 yX5_write, Cond.instanceMethod yX5_write, Cond.selects RX5 yX5_write yX5_write, Cond.initialized RX5, Cond.code yX5_write cX5_write 6 none, Cond.fieldLink RX5 21 "HeaderLine$Pen" "bits" "I", Cond.fieldLink RX5 9 "HeaderLine$Pen" "bytes" "[I", Cond.static yX10_wholeBytes, Cond.initialized RX10, Cond.code yX10_wholeBytes cX10_wholeBytes 1 (some .int), Cond.methodLink RX9 80 yX6_hasStride, Cond.instanceMethod yX6_hasStride, Cond.selects RX6 yX6_hasStride yX6_hasStride, Cond.initialized RX6, Cond.code yX6_hasStride cX6_hasStride 2 (some .boolean), Cond.fieldLink RX6 9 "HeaderLine$Plan" "kinds" "[I", Cond.methodLink RX6 24 yX6_has, Cond.instanceMethod yX6_has, Cond.selects RX6 yX6_has yX6_has]
def wsX9_writeWhole_r2 : List Cond := [Cond.code yX6_has cX6_has 2 (some .boolean), Cond.fieldLink RX6 28 "HeaderLine$Plan" "size" "I"]
def wsX9_writeWhole : List Cond := .code yX9_writeWhole cX9_writeWhole 5 none :: ((wsX9_writeWhole_r1 ++ wsX9_writeWhole_r2) ++ wsX90 ++ wsX60 ++ wsX30 ++ wsX50)
def wsX9_writePart_r1 : List Cond := [Cond.fieldLink RX9 64 "HeaderLine$Squeezer" "round" "I", Cond.fieldLink RX9 52 "HeaderLine$Plan" "size" "I", Cond.fieldLink RX9 57 "HeaderLine$Plan" "kinds" "[I", Cond.fieldLink RX9 73 "HeaderLine$Header" "values" "[J", Cond.fieldLink RX9 77 "HeaderLine$Plan" "widths" "[I", Cond.methodLink RX9 67 yX5_write, Cond.instanceMethod yX5_write, Cond.selects RX5 yX5_write yX5_write, Cond.initialized RX5, Cond.code yX5_write cX5_write 6 none, Cond.fieldLink RX5 21 "HeaderLine$Pen" "bits" "I", Cond.fieldLink RX5 9 "HeaderLine$Pen" "bytes" "[I", Cond.static yX10_wholeBytes, Cond.initialized RX10, Cond.code yX10_wholeBytes cX10_wholeBytes 1 (some .int), Cond.methodLink RX9 60 yX9_isGivenByAll, Cond.instanceMethod yX9_isGivenByAll, Cond.selects RX9 yX9_isGivenByAll yX9_isGivenByAll, Cond.initialized RX9, Cond.code yX9_isGivenByAll cX9_isGivenByAll 4 (some .boolean), Cond.methodLink RX9 117 yX9_oldestMiss, Cond.instanceMethod yX9_oldestMiss, Cond.selects RX9 yX9_oldestMiss yX9_oldestMiss, Cond.code yX9_oldestMiss cX9_oldestMiss 10 (some .int)]
def wsX9_writePart_r2 : List Cond := [Cond.fieldLink RX9 42 "HeaderLine$Squeezer" "held" "I", Cond.fieldLink RX9 9 "HeaderLine$Squeezer" "strides" "[I", Cond.fieldLink RX9 49 "HeaderLine$Header" "number" "I", Cond.methodLink RX9 45 yX9_reference, Cond.instanceMethod yX9_reference, Cond.selects RX9 yX9_reference yX9_reference, Cond.code yX9_reference cX9_reference 2 (some (.object "HeaderLine$Header")), Cond.fieldLink RX9 21 "HeaderLine$Squeezer" "ring" "[LHeaderLine$Header;", Cond.fieldLink RX9 32 "HeaderLine$Squeezer" "first" "I", Cond.methodLink RX9 36 yJ9_floorMod_7cf53, Cond.static yJ9_floorMod_7cf53, Cond.initialized RJ9, Cond.code yJ9_floorMod_7cf53 cJ9_floorMod_7cf53 3 (some .int), Cond.methodLink RX9 121 yX6_given, Cond.instanceMethod yX6_given, Cond.selects RX6 yX6_given yX6_given, Cond.initialized RX6, Cond.code yX6_given cX6_given 7 (some .long), Cond.fieldLink RX6 49 "HeaderLine$Header" "number" "I", Cond.fieldLink RX6 9 "HeaderLine$Plan" "kinds" "[I", Cond.fieldLink RX6 43 "HeaderLine$Header" "values" "[J", Cond.fieldLink RX6 18 "HeaderLine$Plan" "ties" "[I", Cond.fieldLink RX6 21 "HeaderLine$Plan" "extras" "[I", Cond.methodLink RX6 52 yX6_lowBits]
def wsX9_writePart_r3 : List Cond := [Cond.instanceMethod yX6_lowBits, Cond.selects RX6 yX6_lowBits yX6_lowBits, Cond.code yX6_lowBits cX6_lowBits 4 (some .long), Cond.fieldLink RX6 15 "HeaderLine$Plan" "widths" "[I", Cond.static yX10_lowest, Cond.code yX10_lowest cX10_lowest 3 (some .long), Cond.methodLink RX9 125 yX6_found, Cond.instanceMethod yX6_found, Cond.selects RX6 yX6_found yX6_found, Cond.code yX6_found cX6_found 9 (some .long), Cond.methodLink RX9 84 yX6_sumOf, Cond.instanceMethod yX6_sumOf, Cond.selects RX6 yX6_sumOf yX6_sumOf, Cond.code yX6_sumOf cX6_sumOf 5 (some .int), Cond.constantLong RX6 39 (17), Cond.fieldLink RX6 28 "HeaderLine$Plan" "size" "I", Cond.constantLong RX6 41 (31)]
def wsX9_writePart : List Cond := .code yX9_writePart cX9_writePart 7 none :: ((wsX9_writePart_r1 ++ (wsX9_writePart_r2 ++ wsX9_writePart_r3)) ++ wsX90 ++ wsX60 ++ wsX30 ++ wsX50)
def wsX9_findLeast_r1 : List Cond := [Cond.fieldLink RX9 77 "HeaderLine$Plan" "widths" "[I", Cond.fieldLink RX9 104 "HeaderLine$Proof" "lengths" "[I", Cond.fieldLink RX9 129 "HeaderLine$Proof" "misses" "[I", Cond.methodLink RX9 117 yX9_oldestMiss, Cond.instanceMethod yX9_oldestMiss, Cond.selects RX9 yX9_oldestMiss yX9_oldestMiss, Cond.initialized RX9, Cond.code yX9_oldestMiss cX9_oldestMiss 10 (some .int), Cond.fieldLink RX9 73 "HeaderLine$Header" "values" "[J", Cond.fieldLink RX9 42 "HeaderLine$Squeezer" "held" "I", Cond.fieldLink RX9 9 "HeaderLine$Squeezer" "strides" "[I", Cond.fieldLink RX9 49 "HeaderLine$Header" "number" "I", Cond.methodLink RX9 45 yX9_reference, Cond.instanceMethod yX9_reference, Cond.selects RX9 yX9_reference yX9_reference, Cond.code yX9_reference cX9_reference 2 (some (.object "HeaderLine$Header")), Cond.fieldLink RX9 21 "HeaderLine$Squeezer" "ring" "[LHeaderLine$Header;", Cond.fieldLink RX9 32 "HeaderLine$Squeezer" "first" "I", Cond.methodLink RX9 36 yJ9_floorMod_7cf53, Cond.static yJ9_floorMod_7cf53, Cond.initialized RJ9, Cond.code yJ9_floorMod_7cf53 cJ9_floorMod_7cf53 3 (some .int), Cond.methodLink RX9 121 yX6_given, Cond.instanceMethod yX6_given]
def wsX9_findLeast_r2 : List Cond := [Cond.selects RX6 yX6_given yX6_given, Cond.initialized RX6, Cond.code yX6_given cX6_given 7 (some .long), Cond.fieldLink RX6 49 "HeaderLine$Header" "number" "I", Cond.fieldLink RX6 9 "HeaderLine$Plan" "kinds" "[I", Cond.fieldLink RX6 43 "HeaderLine$Header" "values" "[J", Cond.fieldLink RX6 18 "HeaderLine$Plan" "ties" "[I", Cond.fieldLink RX6 21 "HeaderLine$Plan" "extras" "[I", Cond.methodLink RX6 52 yX6_lowBits, Cond.instanceMethod yX6_lowBits, Cond.selects RX6 yX6_lowBits yX6_lowBits, Cond.code yX6_lowBits cX6_lowBits 4 (some .long), Cond.fieldLink RX6 15 "HeaderLine$Plan" "widths" "[I", Cond.static yX10_lowest, Cond.initialized RX10, Cond.code yX10_lowest cX10_lowest 3 (some .long), Cond.methodLink RX9 125 yX6_found, Cond.instanceMethod yX6_found, Cond.selects RX6 yX6_found yX6_found, Cond.code yX6_found cX6_found 9 (some .long)]
def wsX9_findLeast : List Cond := .code yX9_findLeast cX9_findLeast 7 none :: ((wsX9_findLeast_r1 ++ wsX9_findLeast_r2) ++ wsX60 ++ wsX70 ++ wsX30 ++ wsX90)
def wsX9_writeShort_r1 : List Cond := [Cond.fieldLink RX9 42 "HeaderLine$Squeezer" "held" "I", Cond.fieldLink RX9 88 "HeaderLine$Proof" "references" "I", Cond.fieldLink RX9 97 "HeaderLine$Proof" "oldest" "I", Cond.fieldLink RX9 64 "HeaderLine$Squeezer" "round" "I", Cond.fieldLink RX9 52 "HeaderLine$Plan" "size" "I", Cond.fieldLink RX9 104 "HeaderLine$Proof" "lengths" "[I", Cond.fieldLink RX9 73 "HeaderLine$Header" "values" "[J", Cond.fieldLink RX9 57 "HeaderLine$Plan" "kinds" "[I", Cond.fieldLink RX9 77 "HeaderLine$Plan" "widths" "[I", Cond.methodLink RX9 93 yX9_oldestNumber, Cond.instanceMethod yX9_oldestNumber, Cond.selects RX9 yX9_oldestNumber yX9_oldestNumber, Cond.initialized RX9, Cond.code yX9_oldestNumber cX9_oldestNumber 1 (some .int), Cond.fieldLink RX9 49 "HeaderLine$Header" "number" "I", Cond.methodLink RX9 45 yX9_reference, Cond.instanceMethod yX9_reference, Cond.selects RX9 yX9_reference yX9_reference, Cond.code yX9_reference cX9_reference 2 (some (.object "HeaderLine$Header")), Cond.fieldLink RX9 21 "HeaderLine$Squeezer" "ring" "[LHeaderLine$Header;", Cond.fieldLink RX9 32 "HeaderLine$Squeezer" "first" "I", Cond.methodLink RX9 36 yJ9_floorMod_7cf53, Cond.static yJ9_floorMod_7cf53, Cond.initialized RJ9]
def wsX9_writeShort_r2 : List Cond := [Cond.code yJ9_floorMod_7cf53 cJ9_floorMod_7cf53 3 (some .int), Cond.methodLink RX9 67 yX5_write, Cond.instanceMethod yX5_write, Cond.selects RX5 yX5_write yX5_write, Cond.initialized RX5, Cond.code yX5_write cX5_write 6 none, Cond.fieldLink RX5 21 "HeaderLine$Pen" "bits" "I", Cond.fieldLink RX5 9 "HeaderLine$Pen" "bytes" "[I", Cond.static yX10_wholeBytes, Cond.initialized RX10, Cond.code yX10_wholeBytes cX10_wholeBytes 1 (some .int), Cond.methodLink RX9 80 yX6_hasStride, Cond.instanceMethod yX6_hasStride, Cond.selects RX6 yX6_hasStride yX6_hasStride, Cond.initialized RX6, Cond.code yX6_hasStride cX6_hasStride 2 (some .boolean), Cond.fieldLink RX6 9 "HeaderLine$Plan" "kinds" "[I", Cond.methodLink RX6 24 yX6_has, Cond.instanceMethod yX6_has, Cond.selects RX6 yX6_has yX6_has, Cond.code yX6_has cX6_has 2 (some .boolean), Cond.fieldLink RX6 28 "HeaderLine$Plan" "size" "I", Cond.methodLink RX9 100 yX9_findLeast, Cond.instanceMethod yX9_findLeast]
def wsX9_writeShort_r3 : List Cond := [Cond.selects RX9 yX9_findLeast yX9_findLeast, Cond.code yX9_findLeast cX9_findLeast 7 none, Cond.fieldLink RX9 129 "HeaderLine$Proof" "misses" "[I", Cond.methodLink RX9 117 yX9_oldestMiss, Cond.instanceMethod yX9_oldestMiss, Cond.selects RX9 yX9_oldestMiss yX9_oldestMiss, Cond.code yX9_oldestMiss cX9_oldestMiss 10 (some .int), Cond.fieldLink RX9 9 "HeaderLine$Squeezer" "strides" "[I", Cond.methodLink RX9 121 yX6_given, Cond.instanceMethod yX6_given, Cond.selects RX6 yX6_given yX6_given, Cond.code yX6_given cX6_given 7 (some .long), Cond.fieldLink RX6 49 "HeaderLine$Header" "number" "I", Cond.fieldLink RX6 43 "HeaderLine$Header" "values" "[J", Cond.fieldLink RX6 18 "HeaderLine$Plan" "ties" "[I", Cond.fieldLink RX6 21 "HeaderLine$Plan" "extras" "[I", Cond.methodLink RX6 52 yX6_lowBits, Cond.instanceMethod yX6_lowBits, Cond.selects RX6 yX6_lowBits yX6_lowBits, Cond.code yX6_lowBits cX6_lowBits 4 (some .long), Cond.fieldLink RX6 15 "HeaderLine$Plan" "widths" "[I", Cond.static yX10_lowest, Cond.code yX10_lowest cX10_lowest 3 (some .long), Cond.methodLink RX9 125 yX6_found]
def wsX9_writeShort_r4 : List Cond := [Cond.instanceMethod yX6_found, Cond.selects RX6 yX6_found yX6_found, Cond.code yX6_found cX6_found 9 (some .long), Cond.methodLink RX9 84 yX6_sumOf, Cond.instanceMethod yX6_sumOf, Cond.selects RX6 yX6_sumOf yX6_sumOf, Cond.code yX6_sumOf cX6_sumOf 5 (some .int), Cond.constantLong RX6 39 (17), Cond.constantLong RX6 41 (31)]
def wsX9_writeShort : List Cond := .code yX9_writeShort cX9_writeShort 6 none :: ((wsX9_writeShort_r1 ++ (wsX9_writeShort_r2 ++ (wsX9_writeShort_r3 ++ wsX9_writeShort_r4))) ++ wsX90 ++ wsX70 ++ wsX60 ++ wsX30 ++ wsX50)
def wsX9_dropOldest : List Cond := .code yX9_dropOldest cX9_dropOldest 2 none :: ([.fieldLink RX9 32 "HeaderLine$Squeezer" "first" "I", .fieldLink RX9 42 "HeaderLine$Squeezer" "held" "I", .methodLink RX9 36 yJ9_floorMod_7cf53, .static yJ9_floorMod_7cf53, .initialized RJ9, .code yJ9_floorMod_7cf53 cJ9_floorMod_7cf53 3 (some .int)] ++ wsX90)
def wsX9_remember_r1 : List Cond := [Cond.fieldLink RX9 42 "HeaderLine$Squeezer" "held" "I", Cond.fieldLink RX9 115 "HeaderLine$Squeezer" "number" "I", Cond.methodLink RX9 107 yX9_dropOldest, Cond.instanceMethod yX9_dropOldest, Cond.selects RX9 yX9_dropOldest yX9_dropOldest, Cond.initialized RX9, Cond.code yX9_dropOldest cX9_dropOldest 2 none, Cond.fieldLink RX9 32 "HeaderLine$Squeezer" "first" "I", Cond.methodLink RX9 36 yJ9_floorMod_7cf53, Cond.static yJ9_floorMod_7cf53, Cond.initialized RJ9, Cond.code yJ9_floorMod_7cf53 cJ9_floorMod_7cf53 3 (some .int), Cond.methodLink RX9 45 yX9_reference, Cond.instanceMethod yX9_reference, Cond.selects RX9 yX9_reference yX9_reference, Cond.code yX9_reference cX9_reference 2 (some (.object "HeaderLine$Header")), Cond.fieldLink RX9 21 "HeaderLine$Squeezer" "ring" "[LHeaderLine$Header;", Cond.methodLink RX9 111 yX3_become, Cond.instanceMethod yX3_become, Cond.selects RX3 yX3_become yX3_become, Cond.initialized RX3, Cond.code yX3_become cX3_become 2 none, Cond.fieldLink RX3 9 "HeaderLine$Header" "values" "[J", Cond.methodLink RX3 15 arraycopyName]
def wsX9_remember_r2 : List Cond := [Cond.native arraycopyName, Cond.static arraycopyName, Cond.initialized "java/lang/System", Cond.fieldLink RX3 21 "HeaderLine$Header" "number" "I"]
def wsX9_remember : List Cond := .code yX9_remember cX9_remember 3 none :: ((wsX9_remember_r1 ++ wsX9_remember_r2) ++ wsX90 ++ wsX30)
def wsX9_heed : List Cond := .code yX9_heed cX9_heed 4 (some .int) :: ([.fieldLink RX9 15 "HeaderLine$Squeezer" "owes" "Z", .fieldLink RX9 42 "HeaderLine$Squeezer" "held" "I", .fieldLink RX9 49 "HeaderLine$Header" "number" "I", .constant RX9 116 (65536), .methodLink RX9 45 yX9_reference, .instanceMethod yX9_reference, .selects RX9 yX9_reference yX9_reference, .initialized RX9, .code yX9_reference cX9_reference 2 (some (.object "HeaderLine$Header")), .fieldLink RX9 21 "HeaderLine$Squeezer" "ring" "[LHeaderLine$Header;", .fieldLink RX9 32 "HeaderLine$Squeezer" "first" "I", .methodLink RX9 36 yJ9_floorMod_7cf53, .static yJ9_floorMod_7cf53, .initialized RJ9, .code yJ9_floorMod_7cf53 cJ9_floorMod_7cf53 3 (some .int), .methodLink RX9 107 yX9_dropOldest, .instanceMethod yX9_dropOldest, .selects RX9 yX9_dropOldest yX9_dropOldest, .code yX9_dropOldest cX9_dropOldest 2 none] ++ wsX90 ++ wsX30)
def wsX10_init_r1 : List Cond := [Cond.methodLink RX10 1 objectInit, Cond.instanceMethod objectInit, Cond.code objectInit ⟨#[0xb1]⟩ 1 none, Cond.fieldLink RX10 15 "HeaderLine" "window" "I", Cond.classLink RX10 19 RX6, Cond.instantiable RX6 5, Cond.initialized RX6, Cond.fieldLink RX10 22 "HeaderLine" "plan" "LHeaderLine$Plan;", Cond.classLink RX10 26 RX3, Cond.instantiable RX3 2, Cond.initialized RX3, Cond.fieldLink RX10 29 "HeaderLine" "draft" "LHeaderLine$Header;", Cond.classLink RX10 33 RX9, Cond.fieldLink RX10 35 "HeaderLine" "squeezers" "[LHeaderLine$Squeezer;", Cond.classLink RX10 39 RX1, Cond.fieldLink RX10 41 "HeaderLine" "contexts" "[LHeaderLine$Context;", Cond.instantiable RX9 7, Cond.initialized RX9, Cond.instantiable RX1 4, Cond.initialized RX1, Cond.classLink RX10 47 RX4, Cond.fieldLink RX10 49 "HeaderLine" "letters" "[LHeaderLine$Letter;", Cond.classLink RX10 53 RX8, Cond.fieldLink RX10 55 "HeaderLine" "shelves" "[LHeaderLine$Shelf;"]
def wsX10_init_r2 : List Cond := [Cond.instantiable RX8 5, Cond.initialized RX8, Cond.classLink RX10 60 RX5, Cond.instantiable RX5 2, Cond.initialized RX5, Cond.fieldLink RX10 63 "HeaderLine" "pen" "LHeaderLine$Pen;", Cond.classLink RX10 67 RX0, Cond.instantiable RX0 12, Cond.initialized RX0, Cond.fieldLink RX10 70 "HeaderLine" "arrival" "LHeaderLine$Arrival;", Cond.classLink RX10 74 RX2, Cond.instantiable RX2 5, Cond.initialized RX2, Cond.fieldLink RX10 77 "HeaderLine" "latest" "LHeaderLine$Got;", Cond.methodLink RX10 9 yJ9_floorMod_7cf53, Cond.static yJ9_floorMod_7cf53, Cond.initialized RJ9, Cond.code yJ9_floorMod_7cf53 cJ9_floorMod_7cf53 3 (some .int), Cond.instanceMethod yX6_init, Cond.code yX6_init cX6_init 1 none, Cond.methodLink RX6 3 objectInit, Cond.arrayClass .int, Cond.fieldLink RX6 9 "HeaderLine$Plan" "kinds" "[I", Cond.fieldLink RX6 15 "HeaderLine$Plan" "widths" "[I"]
def wsX10_init_r3 : List Cond := [Cond.fieldLink RX6 18 "HeaderLine$Plan" "ties" "[I", Cond.fieldLink RX6 21 "HeaderLine$Plan" "extras" "[I", Cond.instanceMethod yX3_init, Cond.code yX3_init cX3_init 1 none, Cond.methodLink RX3 3 objectInit, Cond.arrayClass .long, Cond.fieldLink RX3 9 "HeaderLine$Header" "values" "[J", Cond.methodLink RX10 45 yX9_init, Cond.instanceMethod yX9_init, Cond.code yX9_init cX9_init 2 none, Cond.methodLink RX9 3 objectInit, Cond.fieldLink RX9 9 "HeaderLine$Squeezer" "strides" "[I", Cond.fieldLink RX9 15 "HeaderLine$Squeezer" "owes" "Z", Cond.classLink RX9 19 RX3, Cond.fieldLink RX9 21 "HeaderLine$Squeezer" "ring" "[LHeaderLine$Header;", Cond.methodLink RX9 25 yJ7_fill_53178, Cond.static yJ7_fill_53178, Cond.initialized RJ7, Cond.code yJ7_fill_53178 cJ7_fill_53178 4 none, Cond.instanceMethod yX1_init, Cond.code yX1_init cX1_init 1 none, Cond.methodLink RX1 3 objectInit, Cond.classLink RX1 9 RX3, Cond.fieldLink RX1 12 "HeaderLine$Context" "header" "LHeaderLine$Header;"]
def wsX10_init_r4 : List Cond := [Cond.fieldLink RX1 18 "HeaderLine$Context" "strides" "[I", Cond.instanceMethod yX8_init, Cond.code yX8_init cX8_init 1 none, Cond.methodLink RX8 3 objectInit, Cond.fieldLink RX8 9 "HeaderLine$Shelf" "row" "[J", Cond.instanceMethod yX5_init, Cond.code yX5_init cX5_init 1 none, Cond.methodLink RX5 3 objectInit, Cond.fieldLink RX5 9 "HeaderLine$Pen" "bytes" "[I", Cond.instanceMethod yX0_init, Cond.code yX0_init cX0_init 1 none, Cond.methodLink RX0 3 objectInit, Cond.classLink RX0 9 RX3, Cond.fieldLink RX0 12 "HeaderLine$Arrival" "header" "LHeaderLine$Header;", Cond.fieldLink RX0 18 "HeaderLine$Arrival" "strides" "[I", Cond.fieldLink RX0 22 "HeaderLine$Arrival" "ways" "[I", Cond.fieldLink RX0 25 "HeaderLine$Arrival" "lengths" "[I", Cond.fieldLink RX0 28 "HeaderLine$Arrival" "told" "[J", Cond.fieldLink RX0 32 "HeaderLine$Arrival" "bytes" "[I", Cond.instanceMethod yX2_init, Cond.code yX2_init cX2_init 1 none, Cond.methodLink RX2 3 objectInit, Cond.classLink RX2 9 RX3, Cond.fieldLink RX2 12 "HeaderLine$Got" "header" "LHeaderLine$Header;"]
def wsX10_init_r5 : List Cond := [Cond.fieldLink RX2 18 "HeaderLine$Got" "ways" "[I"]
def wsX10_init : List Cond := .code yX10_init cX10_init 3 none :: ((wsX10_init_r1 ++ (wsX10_init_r2 ++ (wsX10_init_r3 ++ (wsX10_init_r4 ++ wsX10_init_r5)))) ++ wsX100 ++ wsX60 ++ wsX30 ++ wsX90 ++ wsX10 ++ wsX80 ++ wsX50 ++ wsX00 ++ wsX20)
def wsX10_field : List Cond := .code yX10_field cX10_field 5 (some .int) :: ([.fieldLink RX10 22 "HeaderLine" "plan" "LHeaderLine$Plan;", .fieldLink RX10 85 "HeaderLine$Plan" "size" "I", .fieldLink RX10 88 "HeaderLine" "letterCount" "I", .methodLink RX10 81 yX6_allows, .instanceMethod yX6_allows, .selects RX6 yX6_allows yX6_allows, .initialized RX6, .code yX6_allows cX6_allows 5 (some .boolean), .methodLink RX6 24 yX6_has, .instanceMethod yX6_has, .selects RX6 yX6_has yX6_has, .code yX6_has cX6_has 2 (some .boolean), .fieldLink RX6 28 "HeaderLine$Plan" "size" "I", .methodLink RX10 91 yX6_append, .instanceMethod yX6_append, .selects RX6 yX6_append yX6_append, .code yX6_append cX6_append 5 (some .int), .fieldLink RX6 9 "HeaderLine$Plan" "kinds" "[I", .fieldLink RX6 15 "HeaderLine$Plan" "widths" "[I", .fieldLink RX6 18 "HeaderLine$Plan" "ties" "[I", .fieldLink RX6 21 "HeaderLine$Plan" "extras" "[I"] ++ wsX100 ++ wsX60)
def wsX10_set : List Cond := .code yX10_set cX10_set 6 (some .long) :: ([.fieldLink RX10 22 "HeaderLine" "plan" "LHeaderLine$Plan;", .constantLong RX10 99 (-1), .fieldLink RX10 29 "HeaderLine" "draft" "LHeaderLine$Header;", .fieldLink RX10 101 "HeaderLine$Header" "values" "[J", .methodLink RX10 95 yX6_has, .instanceMethod yX6_has, .selects RX6 yX6_has yX6_has, .initialized RX6, .code yX6_has cX6_has 2 (some .boolean), .fieldLink RX6 28 "HeaderLine$Plan" "size" "I", .methodLink RX10 105 yX6_lowBits, .instanceMethod yX6_lowBits, .selects RX6 yX6_lowBits yX6_lowBits, .code yX6_lowBits cX6_lowBits 4 (some .long), .fieldLink RX6 15 "HeaderLine$Plan" "widths" "[I", .static yX10_lowest, .initialized RX10, .code yX10_lowest cX10_lowest 3 (some .long)] ++ wsX100 ++ wsX30 ++ wsX60)
def wsX10_isFlow : List Cond := .code yX10_isFlow cX10_isFlow 1 (some .boolean) :: ([])
def wsX10_stride : List Cond := .code yX10_stride cX10_stride 6 (some .int) :: ([.fieldLink RX10 22 "HeaderLine" "plan" "LHeaderLine$Plan;", .fieldLink RX10 35 "HeaderLine" "squeezers" "[LHeaderLine$Squeezer;", .fieldLink RX10 115 "HeaderLine$Squeezer" "strides" "[I", .fieldLink RX10 119 "HeaderLine$Squeezer" "owes" "Z", .methodLink RX10 109 yX10_isFlow, .static yX10_isFlow, .initialized RX10, .code yX10_isFlow cX10_isFlow 1 (some .boolean), .methodLink RX10 112 yX6_hasStride, .instanceMethod yX6_hasStride, .selects RX6 yX6_hasStride yX6_hasStride, .initialized RX6, .code yX6_hasStride cX6_hasStride 2 (some .boolean), .fieldLink RX6 9 "HeaderLine$Plan" "kinds" "[I", .methodLink RX6 24 yX6_has, .instanceMethod yX6_has, .selects RX6 yX6_has yX6_has, .code yX6_has cX6_has 2 (some .boolean), .fieldLink RX6 28 "HeaderLine$Plan" "size" "I"] ++ wsX100 ++ wsX90 ++ wsX60)
def wsX10_isLineFull : List Cond := .code yX10_isLineFull cX10_isLineFull 1 (some .boolean) :: ([.fieldLink RX10 88 "HeaderLine" "letterCount" "I"] ++ wsX100)
def wsX10_add : List Cond := .code yX10_add cX10_add 2 (some .int) :: ([.fieldLink RX10 49 "HeaderLine" "letters" "[LHeaderLine$Letter;", .fieldLink RX10 88 "HeaderLine" "letterCount" "I", .methodLink RX10 123 yX10_isLineFull, .instanceMethod yX10_isLineFull, .selects RX10 yX10_isLineFull yX10_isLineFull, .initialized RX10, .code yX10_isLineFull cX10_isLineFull 1 (some .boolean)] ++ wsX100)
def wsX10_addWritten_r1 : List Cond := [Cond.fieldLink RX10 63 "HeaderLine" "pen" "LHeaderLine$Pen;", Cond.classLink RX10 47 RX4, Cond.instantiable RX4 9, Cond.initialized RX4, Cond.constant RX10 327 (65536), Cond.fieldLink RX10 328 "HeaderLine$Pen" "bits" "I", Cond.fieldLink RX10 226 "HeaderLine$Letter" "proof" "LHeaderLine$Proof;", Cond.methodLink RX10 320 yX10_endsInCheck, Cond.static yX10_endsInCheck, Cond.initialized RX10, Cond.code yX10_endsInCheck cX10_endsInCheck 1 (some .boolean), Cond.methodLink RX10 323 yX5_finished, Cond.instanceMethod yX5_finished, Cond.selects RX5 yX5_finished yX5_finished, Cond.initialized RX5, Cond.code yX5_finished cX5_finished 4 (some (.array .int)), Cond.fieldLink RX5 21 "HeaderLine$Pen" "bits" "I", Cond.fieldLink RX5 9 "HeaderLine$Pen" "bytes" "[I", Cond.static yX10_wholeBytes, Cond.code yX10_wholeBytes cX10_wholeBytes 1 (some .int), Cond.methodLink RX5 33 yJ7_copyOf_59c91, Cond.static yJ7_copyOf_59c91, Cond.initialized RJ7, Cond.code yJ7_copyOf_59c91 cJ7_copyOf_59c91 3 (some (.array .int))]
def wsX10_addWritten_r2 : List Cond := [Cond.methodLink RJ7 316 ⟨"[I", "clone", "()Ljava/lang/Object;"⟩, Cond.sameMethod "[I" "java/lang/Object" "clone" "()Ljava/lang/Object;", Cond.native ⟨"java/lang/Object", "clone", "()Ljava/lang/Object;"⟩, Cond.instanceMethod ⟨"java/lang/Object", "clone", "()Ljava/lang/Object;"⟩, Cond.selects "[I" ⟨"[I", "clone", "()Ljava/lang/Object;"⟩ ⟨"java/lang/Object", "clone", "()Ljava/lang/Object;"⟩, Cond.classLink RJ7 317 "[I", Cond.arrayClass .int, Cond.methodLink RJ7 304 Lib.Math.min.name, Cond.static Lib.Math.min.name, Cond.initialized "java/lang/Math", Cond.code Lib.Math.min.name Lib.Math.min.code 2 (some .int), Cond.methodLink RJ7 150 arraycopyName, Cond.native arraycopyName, Cond.static arraycopyName, Cond.initialized "java/lang/System", Cond.static yX10_checkOf, Cond.code yX10_checkOf cX10_checkOf 4 (some .int), Cond.methodLink RX10 210 yX4_init, Cond.instanceMethod yX4_init, Cond.code yX4_init cX4_init 6 none, Cond.methodLink RX4 1 objectInit, Cond.instanceMethod objectInit, Cond.code objectInit ⟨#[0xb1]⟩ 1 none, Cond.fieldLink RX4 7 "HeaderLine$Letter" "outcome" "I"]
def wsX10_addWritten_r3 : List Cond := [Cond.fieldLink RX4 13 "HeaderLine$Letter" "kind" "I", Cond.fieldLink RX4 16 "HeaderLine$Letter" "flow" "I", Cond.fieldLink RX4 19 "HeaderLine$Letter" "number" "I", Cond.fieldLink RX4 22 "HeaderLine$Letter" "bytes" "[I", Cond.fieldLink RX4 26 "HeaderLine$Letter" "bits" "I", Cond.methodLink RX10 216 yX10_add, Cond.instanceMethod yX10_add, Cond.selects RX10 yX10_add yX10_add, Cond.code yX10_add cX10_add 2 (some .int), Cond.fieldLink RX10 49 "HeaderLine" "letters" "[LHeaderLine$Letter;", Cond.fieldLink RX10 88 "HeaderLine" "letterCount" "I", Cond.methodLink RX10 123 yX10_isLineFull, Cond.instanceMethod yX10_isLineFull, Cond.selects RX10 yX10_isLineFull yX10_isLineFull, Cond.code yX10_isLineFull cX10_isLineFull 1 (some .boolean)]
def wsX10_addWritten : List Cond := .code yX10_addWritten cX10_addWritten 7 (some .int) :: ((wsX10_addWritten_r1 ++ (wsX10_addWritten_r2 ++ wsX10_addWritten_r3)) ++ wsX100 ++ wsX40 ++ wsX50)
def wsX10_send_r1 : List Cond := [Cond.fieldLink RX10 22 "HeaderLine" "plan" "LHeaderLine$Plan;", Cond.fieldLink RX10 85 "HeaderLine$Plan" "size" "I", Cond.fieldLink RX10 35 "HeaderLine" "squeezers" "[LHeaderLine$Squeezer;", Cond.fieldLink RX10 29 "HeaderLine" "draft" "LHeaderLine$Header;", Cond.fieldLink RX10 127 "HeaderLine$Squeezer" "number" "I", Cond.fieldLink RX10 130 "HeaderLine$Header" "number" "I", Cond.fieldLink RX10 63 "HeaderLine" "pen" "LHeaderLine$Pen;", Cond.classLink RX10 149 RX7, Cond.instantiable RX7 4, Cond.initialized RX7, Cond.fieldLink RX10 15 "HeaderLine" "window" "I", Cond.methodLink RX10 109 yX10_isFlow, Cond.static yX10_isFlow, Cond.initialized RX10, Cond.code yX10_isFlow cX10_isFlow 1 (some .boolean), Cond.methodLink RX10 123 yX10_isLineFull, Cond.instanceMethod yX10_isLineFull, Cond.selects RX10 yX10_isLineFull yX10_isLineFull, Cond.code yX10_isLineFull cX10_isLineFull 1 (some .boolean), Cond.fieldLink RX10 88 "HeaderLine" "letterCount" "I", Cond.methodLink RX10 131 yX9_kindFor, Cond.instanceMethod yX9_kindFor, Cond.selects RX9 yX9_kindFor yX9_kindFor, Cond.initialized RX9]
def wsX10_send_r2 : List Cond := [Cond.code yX9_kindFor cX9_kindFor 6 (some .int), Cond.fieldLink RX9 15 "HeaderLine$Squeezer" "owes" "Z", Cond.fieldLink RX9 42 "HeaderLine$Squeezer" "held" "I", Cond.fieldLink RX9 52 "HeaderLine$Plan" "size" "I", Cond.fieldLink RX9 57 "HeaderLine$Plan" "kinds" "[I", Cond.methodLink RX9 60 yX9_isGivenByAll, Cond.instanceMethod yX9_isGivenByAll, Cond.selects RX9 yX9_isGivenByAll yX9_isGivenByAll, Cond.code yX9_isGivenByAll cX9_isGivenByAll 4 (some .boolean), Cond.methodLink RX9 117 yX9_oldestMiss, Cond.instanceMethod yX9_oldestMiss, Cond.selects RX9 yX9_oldestMiss yX9_oldestMiss, Cond.code yX9_oldestMiss cX9_oldestMiss 10 (some .int), Cond.fieldLink RX9 73 "HeaderLine$Header" "values" "[J", Cond.fieldLink RX9 9 "HeaderLine$Squeezer" "strides" "[I", Cond.fieldLink RX9 49 "HeaderLine$Header" "number" "I", Cond.methodLink RX9 45 yX9_reference, Cond.instanceMethod yX9_reference, Cond.selects RX9 yX9_reference yX9_reference, Cond.code yX9_reference cX9_reference 2 (some (.object "HeaderLine$Header")), Cond.fieldLink RX9 21 "HeaderLine$Squeezer" "ring" "[LHeaderLine$Header;", Cond.fieldLink RX9 32 "HeaderLine$Squeezer" "first" "I", Cond.methodLink RX9 36 yJ9_floorMod_7cf53, Cond.static yJ9_floorMod_7cf53]
def wsX10_send_r3 : List Cond := [Cond.initialized RJ9, Cond.code yJ9_floorMod_7cf53 cJ9_floorMod_7cf53 3 (some .int), Cond.methodLink RX9 121 yX6_given, Cond.instanceMethod yX6_given, Cond.selects RX6 yX6_given yX6_given, Cond.initialized RX6, Cond.code yX6_given cX6_given 7 (some .long), Cond.fieldLink RX6 49 "HeaderLine$Header" "number" "I", Cond.fieldLink RX6 9 "HeaderLine$Plan" "kinds" "[I", Cond.fieldLink RX6 43 "HeaderLine$Header" "values" "[J", Cond.fieldLink RX6 18 "HeaderLine$Plan" "ties" "[I", Cond.fieldLink RX6 21 "HeaderLine$Plan" "extras" "[I", Cond.methodLink RX6 52 yX6_lowBits, Cond.instanceMethod yX6_lowBits, Cond.selects RX6 yX6_lowBits yX6_lowBits, Cond.code yX6_lowBits cX6_lowBits 4 (some .long), Cond.fieldLink RX6 15 "HeaderLine$Plan" "widths" "[I", Cond.static yX10_lowest, Cond.code yX10_lowest cX10_lowest 3 (some .long), Cond.methodLink RX9 125 yX6_found, Cond.instanceMethod yX6_found, Cond.selects RX6 yX6_found yX6_found, Cond.code yX6_found cX6_found 9 (some .long), Cond.methodLink RX10 135 yX5_begin]
def wsX10_send_r4 : List Cond := [Cond.instanceMethod yX5_begin, Cond.selects RX5 yX5_begin yX5_begin, Cond.initialized RX5, Cond.code yX5_begin cX5_begin 4 none, Cond.fieldLink RX5 9 "HeaderLine$Pen" "bytes" "[I", Cond.fieldLink RX5 21 "HeaderLine$Pen" "bits" "I", Cond.methodLink RX5 15 yJ7_fill_53178, Cond.static yJ7_fill_53178, Cond.initialized RJ7, Cond.code yJ7_fill_53178 cJ7_fill_53178 4 none, Cond.methodLink RX5 25 yX5_write, Cond.instanceMethod yX5_write, Cond.selects RX5 yX5_write yX5_write, Cond.code yX5_write cX5_write 6 none, Cond.static yX10_wholeBytes, Cond.code yX10_wholeBytes cX10_wholeBytes 1 (some .int), Cond.methodLink RX10 139 yX9_beginRound, Cond.instanceMethod yX9_beginRound, Cond.selects RX9 yX9_beginRound yX9_beginRound, Cond.code yX9_beginRound cX9_beginRound 1 none, Cond.fieldLink RX9 64 "HeaderLine$Squeezer" "round" "I", Cond.methodLink RX10 142 yX9_writeWhole, Cond.instanceMethod yX9_writeWhole, Cond.selects RX9 yX9_writeWhole yX9_writeWhole]
def wsX10_send_r5 : List Cond := [Cond.code yX9_writeWhole cX9_writeWhole 5 none, Cond.fieldLink RX9 77 "HeaderLine$Plan" "widths" "[I", Cond.methodLink RX9 67 yX5_write, Cond.methodLink RX9 80 yX6_hasStride, Cond.instanceMethod yX6_hasStride, Cond.selects RX6 yX6_hasStride yX6_hasStride, Cond.code yX6_hasStride cX6_hasStride 2 (some .boolean), Cond.methodLink RX6 24 yX6_has, Cond.instanceMethod yX6_has, Cond.selects RX6 yX6_has yX6_has, Cond.code yX6_has cX6_has 2 (some .boolean), Cond.fieldLink RX6 28 "HeaderLine$Plan" "size" "I", Cond.methodLink RX10 146 yX9_writePart, Cond.instanceMethod yX9_writePart, Cond.selects RX9 yX9_writePart yX9_writePart, Cond.code yX9_writePart cX9_writePart 7 none, Cond.methodLink RX9 84 yX6_sumOf, Cond.instanceMethod yX6_sumOf, Cond.selects RX6 yX6_sumOf yX6_sumOf, Cond.code yX6_sumOf cX6_sumOf 5 (some .int), Cond.constantLong RX6 39 (17), Cond.constantLong RX6 41 (31), Cond.instanceMethod yX7_init, Cond.code yX7_init cX7_init 1 none]
def wsX10_send_r6 : List Cond := [Cond.methodLink RX7 3 objectInit, Cond.instanceMethod objectInit, Cond.code objectInit ⟨#[0xb1]⟩ 1 none, Cond.arrayClass .int, Cond.fieldLink RX7 9 "HeaderLine$Proof" "lengths" "[I", Cond.fieldLink RX7 15 "HeaderLine$Proof" "misses" "[I", Cond.methodLink RX10 152 yX9_writeShort, Cond.instanceMethod yX9_writeShort, Cond.selects RX9 yX9_writeShort yX9_writeShort, Cond.code yX9_writeShort cX9_writeShort 6 none, Cond.fieldLink RX9 88 "HeaderLine$Proof" "references" "I", Cond.fieldLink RX9 97 "HeaderLine$Proof" "oldest" "I", Cond.fieldLink RX9 104 "HeaderLine$Proof" "lengths" "[I", Cond.methodLink RX9 93 yX9_oldestNumber, Cond.instanceMethod yX9_oldestNumber, Cond.selects RX9 yX9_oldestNumber yX9_oldestNumber, Cond.code yX9_oldestNumber cX9_oldestNumber 1 (some .int), Cond.methodLink RX9 100 yX9_findLeast, Cond.instanceMethod yX9_findLeast, Cond.selects RX9 yX9_findLeast yX9_findLeast, Cond.code yX9_findLeast cX9_findLeast 7 none, Cond.fieldLink RX9 129 "HeaderLine$Proof" "misses" "[I", Cond.methodLink RX10 156 yX9_remember, Cond.instanceMethod yX9_remember]
def wsX10_send_r7 : List Cond := [Cond.selects RX9 yX9_remember yX9_remember, Cond.code yX9_remember cX9_remember 3 none, Cond.fieldLink RX9 115 "HeaderLine$Squeezer" "number" "I", Cond.methodLink RX9 107 yX9_dropOldest, Cond.instanceMethod yX9_dropOldest, Cond.selects RX9 yX9_dropOldest yX9_dropOldest, Cond.code yX9_dropOldest cX9_dropOldest 2 none, Cond.methodLink RX9 111 yX3_become, Cond.instanceMethod yX3_become, Cond.selects RX3 yX3_become yX3_become, Cond.initialized RX3, Cond.code yX3_become cX3_become 2 none, Cond.fieldLink RX3 9 "HeaderLine$Header" "values" "[J", Cond.methodLink RX3 15 arraycopyName, Cond.native arraycopyName, Cond.static arraycopyName, Cond.initialized "java/lang/System", Cond.fieldLink RX3 21 "HeaderLine$Header" "number" "I", Cond.methodLink RX10 160 yX10_addWritten, Cond.instanceMethod yX10_addWritten, Cond.selects RX10 yX10_addWritten yX10_addWritten, Cond.code yX10_addWritten cX10_addWritten 7 (some .int), Cond.classLink RX10 47 RX4, Cond.instantiable RX4 9]
def wsX10_send_r8 : List Cond := [Cond.initialized RX4, Cond.constant RX10 327 (65536), Cond.fieldLink RX10 328 "HeaderLine$Pen" "bits" "I", Cond.fieldLink RX10 226 "HeaderLine$Letter" "proof" "LHeaderLine$Proof;", Cond.methodLink RX10 320 yX10_endsInCheck, Cond.static yX10_endsInCheck, Cond.code yX10_endsInCheck cX10_endsInCheck 1 (some .boolean), Cond.methodLink RX10 323 yX5_finished, Cond.instanceMethod yX5_finished, Cond.selects RX5 yX5_finished yX5_finished, Cond.code yX5_finished cX5_finished 4 (some (.array .int)), Cond.methodLink RX5 33 yJ7_copyOf_59c91, Cond.static yJ7_copyOf_59c91, Cond.code yJ7_copyOf_59c91 cJ7_copyOf_59c91 3 (some (.array .int)), Cond.methodLink RJ7 316 ⟨"[I", "clone", "()Ljava/lang/Object;"⟩, Cond.sameMethod "[I" "java/lang/Object" "clone" "()Ljava/lang/Object;", Cond.native ⟨"java/lang/Object", "clone", "()Ljava/lang/Object;"⟩, Cond.instanceMethod ⟨"java/lang/Object", "clone", "()Ljava/lang/Object;"⟩, Cond.selects "[I" ⟨"[I", "clone", "()Ljava/lang/Object;"⟩ ⟨"java/lang/Object", "clone", "()Ljava/lang/Object;"⟩, Cond.classLink RJ7 317 "[I", Cond.methodLink RJ7 304 Lib.Math.min.name, Cond.static Lib.Math.min.name, Cond.initialized "java/lang/Math", Cond.code Lib.Math.min.name Lib.Math.min.code 2 (some .int)]
def wsX10_send_r9 : List Cond := [Cond.methodLink RJ7 150 arraycopyName, Cond.static yX10_checkOf, Cond.code yX10_checkOf cX10_checkOf 4 (some .int), Cond.methodLink RX10 210 yX4_init, Cond.instanceMethod yX4_init, Cond.code yX4_init cX4_init 6 none, Cond.methodLink RX4 1 objectInit, Cond.fieldLink RX4 7 "HeaderLine$Letter" "outcome" "I", Cond.fieldLink RX4 13 "HeaderLine$Letter" "kind" "I", Cond.fieldLink RX4 16 "HeaderLine$Letter" "flow" "I", Cond.fieldLink RX4 19 "HeaderLine$Letter" "number" "I", Cond.fieldLink RX4 22 "HeaderLine$Letter" "bytes" "[I", Cond.fieldLink RX4 26 "HeaderLine$Letter" "bits" "I", Cond.methodLink RX10 216 yX10_add, Cond.instanceMethod yX10_add, Cond.selects RX10 yX10_add yX10_add, Cond.code yX10_add cX10_add 2 (some .int), Cond.fieldLink RX10 49 "HeaderLine" "letters" "[LHeaderLine$Letter;"]
def wsX10_send : List Cond := .code yX10_send cX10_send 6 (some .int) :: ((wsX10_send_r1 ++ (wsX10_send_r2 ++ (wsX10_send_r3 ++ (wsX10_send_r4 ++ (wsX10_send_r5 ++ (wsX10_send_r6 ++ (wsX10_send_r7 ++ (wsX10_send_r8 ++ wsX10_send_r9)))))))) ++ wsX100 ++ wsX60 ++ wsX90 ++ wsX30 ++ wsX70 ++ wsX50 ++ wsX40)
def wsX10_addAnswer_r1 : List Cond := [Cond.fieldLink RX10 63 "HeaderLine" "pen" "LHeaderLine$Pen;", Cond.methodLink RX10 135 yX5_begin, Cond.instanceMethod yX5_begin, Cond.selects RX5 yX5_begin yX5_begin, Cond.initialized RX5, Cond.code yX5_begin cX5_begin 4 none, Cond.fieldLink RX5 9 "HeaderLine$Pen" "bytes" "[I", Cond.fieldLink RX5 21 "HeaderLine$Pen" "bits" "I", Cond.methodLink RX5 15 yJ7_fill_53178, Cond.static yJ7_fill_53178, Cond.initialized RJ7, Cond.code yJ7_fill_53178 cJ7_fill_53178 4 none, Cond.methodLink RX5 25 yX5_write, Cond.instanceMethod yX5_write, Cond.selects RX5 yX5_write yX5_write, Cond.code yX5_write cX5_write 6 none, Cond.static yX10_wholeBytes, Cond.initialized RX10, Cond.code yX10_wholeBytes cX10_wholeBytes 1 (some .int), Cond.methodLink RX10 160 yX10_addWritten, Cond.instanceMethod yX10_addWritten, Cond.selects RX10 yX10_addWritten yX10_addWritten, Cond.code yX10_addWritten cX10_addWritten 7 (some .int), Cond.classLink RX10 47 RX4]
def wsX10_addAnswer_r2 : List Cond := [Cond.instantiable RX4 9, Cond.initialized RX4, Cond.constant RX10 327 (65536), Cond.fieldLink RX10 328 "HeaderLine$Pen" "bits" "I", Cond.fieldLink RX10 226 "HeaderLine$Letter" "proof" "LHeaderLine$Proof;", Cond.methodLink RX10 320 yX10_endsInCheck, Cond.static yX10_endsInCheck, Cond.code yX10_endsInCheck cX10_endsInCheck 1 (some .boolean), Cond.methodLink RX10 323 yX5_finished, Cond.instanceMethod yX5_finished, Cond.selects RX5 yX5_finished yX5_finished, Cond.code yX5_finished cX5_finished 4 (some (.array .int)), Cond.methodLink RX5 33 yJ7_copyOf_59c91, Cond.static yJ7_copyOf_59c91, Cond.code yJ7_copyOf_59c91 cJ7_copyOf_59c91 3 (some (.array .int)), Cond.methodLink RJ7 316 ⟨"[I", "clone", "()Ljava/lang/Object;"⟩, Cond.sameMethod "[I" "java/lang/Object" "clone" "()Ljava/lang/Object;", Cond.native ⟨"java/lang/Object", "clone", "()Ljava/lang/Object;"⟩, Cond.instanceMethod ⟨"java/lang/Object", "clone", "()Ljava/lang/Object;"⟩, Cond.selects "[I" ⟨"[I", "clone", "()Ljava/lang/Object;"⟩ ⟨"java/lang/Object", "clone", "()Ljava/lang/Object;"⟩, Cond.classLink RJ7 317 "[I", Cond.arrayClass .int, Cond.methodLink RJ7 304 Lib.Math.min.name, Cond.static Lib.Math.min.name]
def wsX10_addAnswer_r3 : List Cond := [Cond.initialized "java/lang/Math", Cond.code Lib.Math.min.name Lib.Math.min.code 2 (some .int), Cond.methodLink RJ7 150 arraycopyName, Cond.native arraycopyName, Cond.static arraycopyName, Cond.initialized "java/lang/System", Cond.static yX10_checkOf, Cond.code yX10_checkOf cX10_checkOf 4 (some .int), Cond.methodLink RX10 210 yX4_init, Cond.instanceMethod yX4_init, Cond.code yX4_init cX4_init 6 none, Cond.methodLink RX4 1 objectInit, Cond.instanceMethod objectInit, Cond.code objectInit ⟨#[0xb1]⟩ 1 none, Cond.fieldLink RX4 7 "HeaderLine$Letter" "outcome" "I", Cond.fieldLink RX4 13 "HeaderLine$Letter" "kind" "I", Cond.fieldLink RX4 16 "HeaderLine$Letter" "flow" "I", Cond.fieldLink RX4 19 "HeaderLine$Letter" "number" "I", Cond.fieldLink RX4 22 "HeaderLine$Letter" "bytes" "[I", Cond.fieldLink RX4 26 "HeaderLine$Letter" "bits" "I", Cond.methodLink RX10 216 yX10_add, Cond.instanceMethod yX10_add, Cond.selects RX10 yX10_add yX10_add, Cond.code yX10_add cX10_add 2 (some .int)]
def wsX10_addAnswer_r4 : List Cond := [Cond.fieldLink RX10 49 "HeaderLine" "letters" "[LHeaderLine$Letter;", Cond.fieldLink RX10 88 "HeaderLine" "letterCount" "I", Cond.methodLink RX10 123 yX10_isLineFull, Cond.instanceMethod yX10_isLineFull, Cond.selects RX10 yX10_isLineFull yX10_isLineFull, Cond.code yX10_isLineFull cX10_isLineFull 1 (some .boolean)]
def wsX10_addAnswer : List Cond := .code yX10_addAnswer cX10_addAnswer 4 (some .int) :: ((wsX10_addAnswer_r1 ++ (wsX10_addAnswer_r2 ++ (wsX10_addAnswer_r3 ++ wsX10_addAnswer_r4))) ++ wsX100 ++ wsX50 ++ wsX40)
def wsX10_ack_r1 : List Cond := [Cond.fieldLink RX10 41 "HeaderLine" "contexts" "[LHeaderLine$Context;", Cond.fieldLink RX10 164 "HeaderLine$Context" "isThere" "Z", Cond.fieldLink RX10 167 "HeaderLine$Context" "header" "LHeaderLine$Header;", Cond.fieldLink RX10 130 "HeaderLine$Header" "number" "I", Cond.methodLink RX10 109 yX10_isFlow, Cond.static yX10_isFlow, Cond.initialized RX10, Cond.code yX10_isFlow cX10_isFlow 1 (some .boolean), Cond.methodLink RX10 123 yX10_isLineFull, Cond.instanceMethod yX10_isLineFull, Cond.selects RX10 yX10_isLineFull yX10_isLineFull, Cond.code yX10_isLineFull cX10_isLineFull 1 (some .boolean), Cond.fieldLink RX10 88 "HeaderLine" "letterCount" "I", Cond.methodLink RX10 170 yX10_addAnswer, Cond.instanceMethod yX10_addAnswer, Cond.selects RX10 yX10_addAnswer yX10_addAnswer, Cond.code yX10_addAnswer cX10_addAnswer 4 (some .int), Cond.fieldLink RX10 63 "HeaderLine" "pen" "LHeaderLine$Pen;", Cond.methodLink RX10 135 yX5_begin, Cond.instanceMethod yX5_begin, Cond.selects RX5 yX5_begin yX5_begin, Cond.initialized RX5, Cond.code yX5_begin cX5_begin 4 none, Cond.fieldLink RX5 9 "HeaderLine$Pen" "bytes" "[I"]
def wsX10_ack_r2 : List Cond := [Cond.fieldLink RX5 21 "HeaderLine$Pen" "bits" "I", Cond.methodLink RX5 15 yJ7_fill_53178, Cond.static yJ7_fill_53178, Cond.initialized RJ7, Cond.code yJ7_fill_53178 cJ7_fill_53178 4 none, Cond.methodLink RX5 25 yX5_write, Cond.instanceMethod yX5_write, Cond.selects RX5 yX5_write yX5_write, Cond.code yX5_write cX5_write 6 none, Cond.static yX10_wholeBytes, Cond.code yX10_wholeBytes cX10_wholeBytes 1 (some .int), Cond.methodLink RX10 160 yX10_addWritten, Cond.instanceMethod yX10_addWritten, Cond.selects RX10 yX10_addWritten yX10_addWritten, Cond.code yX10_addWritten cX10_addWritten 7 (some .int), Cond.classLink RX10 47 RX4, Cond.instantiable RX4 9, Cond.initialized RX4, Cond.constant RX10 327 (65536), Cond.fieldLink RX10 328 "HeaderLine$Pen" "bits" "I", Cond.fieldLink RX10 226 "HeaderLine$Letter" "proof" "LHeaderLine$Proof;", Cond.methodLink RX10 320 yX10_endsInCheck, Cond.static yX10_endsInCheck, Cond.code yX10_endsInCheck cX10_endsInCheck 1 (some .boolean)]
def wsX10_ack_r3 : List Cond := [Cond.methodLink RX10 323 yX5_finished, Cond.instanceMethod yX5_finished, Cond.selects RX5 yX5_finished yX5_finished, Cond.code yX5_finished cX5_finished 4 (some (.array .int)), Cond.methodLink RX5 33 yJ7_copyOf_59c91, Cond.static yJ7_copyOf_59c91, Cond.code yJ7_copyOf_59c91 cJ7_copyOf_59c91 3 (some (.array .int)), Cond.methodLink RJ7 316 ⟨"[I", "clone", "()Ljava/lang/Object;"⟩, Cond.sameMethod "[I" "java/lang/Object" "clone" "()Ljava/lang/Object;", Cond.native ⟨"java/lang/Object", "clone", "()Ljava/lang/Object;"⟩, Cond.instanceMethod ⟨"java/lang/Object", "clone", "()Ljava/lang/Object;"⟩, Cond.selects "[I" ⟨"[I", "clone", "()Ljava/lang/Object;"⟩ ⟨"java/lang/Object", "clone", "()Ljava/lang/Object;"⟩, Cond.classLink RJ7 317 "[I", Cond.arrayClass .int, Cond.methodLink RJ7 304 Lib.Math.min.name, Cond.static Lib.Math.min.name, Cond.initialized "java/lang/Math", Cond.code Lib.Math.min.name Lib.Math.min.code 2 (some .int), Cond.methodLink RJ7 150 arraycopyName, Cond.native arraycopyName, Cond.static arraycopyName, Cond.initialized "java/lang/System", Cond.static yX10_checkOf, Cond.code yX10_checkOf cX10_checkOf 4 (some .int)]
def wsX10_ack_r4 : List Cond := [Cond.methodLink RX10 210 yX4_init, Cond.instanceMethod yX4_init, Cond.code yX4_init cX4_init 6 none, Cond.methodLink RX4 1 objectInit, Cond.instanceMethod objectInit, Cond.code objectInit ⟨#[0xb1]⟩ 1 none, Cond.fieldLink RX4 7 "HeaderLine$Letter" "outcome" "I", Cond.fieldLink RX4 13 "HeaderLine$Letter" "kind" "I", Cond.fieldLink RX4 16 "HeaderLine$Letter" "flow" "I", Cond.fieldLink RX4 19 "HeaderLine$Letter" "number" "I", Cond.fieldLink RX4 22 "HeaderLine$Letter" "bytes" "[I", Cond.fieldLink RX4 26 "HeaderLine$Letter" "bits" "I", Cond.methodLink RX10 216 yX10_add, Cond.instanceMethod yX10_add, Cond.selects RX10 yX10_add yX10_add, Cond.code yX10_add cX10_add 2 (some .int), Cond.fieldLink RX10 49 "HeaderLine" "letters" "[LHeaderLine$Letter;"]
def wsX10_ack : List Cond := .code yX10_ack cX10_ack 2 (some .int) :: ((wsX10_ack_r1 ++ (wsX10_ack_r2 ++ (wsX10_ack_r3 ++ wsX10_ack_r4))) ++ wsX100 ++ wsX10 ++ wsX30 ++ wsX50 ++ wsX40)
def wsX10_nack_r1 : List Cond := [Cond.fieldLink RX10 41 "HeaderLine" "contexts" "[LHeaderLine$Context;", Cond.fieldLink RX10 164 "HeaderLine$Context" "isThere" "Z", Cond.fieldLink RX10 167 "HeaderLine$Context" "header" "LHeaderLine$Header;", Cond.fieldLink RX10 130 "HeaderLine$Header" "number" "I", Cond.methodLink RX10 109 yX10_isFlow, Cond.static yX10_isFlow, Cond.initialized RX10, Cond.code yX10_isFlow cX10_isFlow 1 (some .boolean), Cond.methodLink RX10 123 yX10_isLineFull, Cond.instanceMethod yX10_isLineFull, Cond.selects RX10 yX10_isLineFull yX10_isLineFull, Cond.code yX10_isLineFull cX10_isLineFull 1 (some .boolean), Cond.fieldLink RX10 88 "HeaderLine" "letterCount" "I", Cond.methodLink RX10 170 yX10_addAnswer, Cond.instanceMethod yX10_addAnswer, Cond.selects RX10 yX10_addAnswer yX10_addAnswer, Cond.code yX10_addAnswer cX10_addAnswer 4 (some .int), Cond.fieldLink RX10 63 "HeaderLine" "pen" "LHeaderLine$Pen;", Cond.methodLink RX10 135 yX5_begin, Cond.instanceMethod yX5_begin, Cond.selects RX5 yX5_begin yX5_begin, Cond.initialized RX5, Cond.code yX5_begin cX5_begin 4 none, Cond.fieldLink RX5 9 "HeaderLine$Pen" "bytes" "[I"]
def wsX10_nack_r2 : List Cond := [Cond.fieldLink RX5 21 "HeaderLine$Pen" "bits" "I", Cond.methodLink RX5 15 yJ7_fill_53178, Cond.static yJ7_fill_53178, Cond.initialized RJ7, Cond.code yJ7_fill_53178 cJ7_fill_53178 4 none, Cond.methodLink RX5 25 yX5_write, Cond.instanceMethod yX5_write, Cond.selects RX5 yX5_write yX5_write, Cond.code yX5_write cX5_write 6 none, Cond.static yX10_wholeBytes, Cond.code yX10_wholeBytes cX10_wholeBytes 1 (some .int), Cond.methodLink RX10 160 yX10_addWritten, Cond.instanceMethod yX10_addWritten, Cond.selects RX10 yX10_addWritten yX10_addWritten, Cond.code yX10_addWritten cX10_addWritten 7 (some .int), Cond.classLink RX10 47 RX4, Cond.instantiable RX4 9, Cond.initialized RX4, Cond.constant RX10 327 (65536), Cond.fieldLink RX10 328 "HeaderLine$Pen" "bits" "I", Cond.fieldLink RX10 226 "HeaderLine$Letter" "proof" "LHeaderLine$Proof;", Cond.methodLink RX10 320 yX10_endsInCheck, Cond.static yX10_endsInCheck, Cond.code yX10_endsInCheck cX10_endsInCheck 1 (some .boolean)]
def wsX10_nack_r3 : List Cond := [Cond.methodLink RX10 323 yX5_finished, Cond.instanceMethod yX5_finished, Cond.selects RX5 yX5_finished yX5_finished, Cond.code yX5_finished cX5_finished 4 (some (.array .int)), Cond.methodLink RX5 33 yJ7_copyOf_59c91, Cond.static yJ7_copyOf_59c91, Cond.code yJ7_copyOf_59c91 cJ7_copyOf_59c91 3 (some (.array .int)), Cond.methodLink RJ7 316 ⟨"[I", "clone", "()Ljava/lang/Object;"⟩, Cond.sameMethod "[I" "java/lang/Object" "clone" "()Ljava/lang/Object;", Cond.native ⟨"java/lang/Object", "clone", "()Ljava/lang/Object;"⟩, Cond.instanceMethod ⟨"java/lang/Object", "clone", "()Ljava/lang/Object;"⟩, Cond.selects "[I" ⟨"[I", "clone", "()Ljava/lang/Object;"⟩ ⟨"java/lang/Object", "clone", "()Ljava/lang/Object;"⟩, Cond.classLink RJ7 317 "[I", Cond.arrayClass .int, Cond.methodLink RJ7 304 Lib.Math.min.name, Cond.static Lib.Math.min.name, Cond.initialized "java/lang/Math", Cond.code Lib.Math.min.name Lib.Math.min.code 2 (some .int), Cond.methodLink RJ7 150 arraycopyName, Cond.native arraycopyName, Cond.static arraycopyName, Cond.initialized "java/lang/System", Cond.static yX10_checkOf, Cond.code yX10_checkOf cX10_checkOf 4 (some .int)]
def wsX10_nack_r4 : List Cond := [Cond.methodLink RX10 210 yX4_init, Cond.instanceMethod yX4_init, Cond.code yX4_init cX4_init 6 none, Cond.methodLink RX4 1 objectInit, Cond.instanceMethod objectInit, Cond.code objectInit ⟨#[0xb1]⟩ 1 none, Cond.fieldLink RX4 7 "HeaderLine$Letter" "outcome" "I", Cond.fieldLink RX4 13 "HeaderLine$Letter" "kind" "I", Cond.fieldLink RX4 16 "HeaderLine$Letter" "flow" "I", Cond.fieldLink RX4 19 "HeaderLine$Letter" "number" "I", Cond.fieldLink RX4 22 "HeaderLine$Letter" "bytes" "[I", Cond.fieldLink RX4 26 "HeaderLine$Letter" "bits" "I", Cond.methodLink RX10 216 yX10_add, Cond.instanceMethod yX10_add, Cond.selects RX10 yX10_add yX10_add, Cond.code yX10_add cX10_add 2 (some .int), Cond.fieldLink RX10 49 "HeaderLine" "letters" "[LHeaderLine$Letter;"]
def wsX10_nack : List Cond := .code yX10_nack cX10_nack 2 (some .int) :: ((wsX10_nack_r1 ++ (wsX10_nack_r2 ++ (wsX10_nack_r3 ++ wsX10_nack_r4))) ++ wsX100 ++ wsX10 ++ wsX30 ++ wsX50 ++ wsX40)
def wsX10_letterAt : List Cond := .code yX10_letterAt cX10_letterAt 2 (some (.object "HeaderLine$Letter")) :: ([.fieldLink RX10 88 "HeaderLine" "letterCount" "I", .fieldLink RX10 49 "HeaderLine" "letters" "[LHeaderLine$Letter;"] ++ wsX100)
def wsX10_letterUnderWay : List Cond := .code yX10_letterUnderWay cX10_letterUnderWay 3 (some (.object "HeaderLine$Letter")) :: ([.fieldLink RX10 188 "HeaderLine$Letter" "isLost" "Z", .methodLink RX10 223 yX10_letterAt, .instanceMethod yX10_letterAt, .selects RX10 yX10_letterAt yX10_letterAt, .initialized RX10, .code yX10_letterAt cX10_letterAt 2 (some (.object "HeaderLine$Letter")), .fieldLink RX10 88 "HeaderLine" "letterCount" "I", .fieldLink RX10 49 "HeaderLine" "letters" "[LHeaderLine$Letter;"] ++ wsX40 ++ wsX100)
def wsX10_open_r1 : List Cond := [Cond.fieldLink RX10 70 "HeaderLine" "arrival" "LHeaderLine$Arrival;", Cond.fieldLink RX10 334 "HeaderLine$Arrival" "kind" "I", Cond.fieldLink RX10 164 "HeaderLine$Context" "isThere" "Z", Cond.fieldLink RX10 255 "HeaderLine$Context" "round" "I", Cond.fieldLink RX10 343 "HeaderLine$Arrival" "round" "I", Cond.fieldLink RX10 335 "HeaderLine$Arrival" "header" "LHeaderLine$Header;", Cond.fieldLink RX10 130 "HeaderLine$Header" "number" "I", Cond.fieldLink RX10 167 "HeaderLine$Context" "header" "LHeaderLine$Header;", Cond.fieldLink RX10 15 "HeaderLine" "window" "I", Cond.fieldLink RX10 22 "HeaderLine" "plan" "LHeaderLine$Plan;", Cond.fieldLink RX10 352 "HeaderLine$Arrival" "sum" "I", Cond.fieldLink RX10 77 "HeaderLine" "latest" "LHeaderLine$Got;", Cond.methodLink RX10 344 yX0_rebuild, Cond.instanceMethod yX0_rebuild, Cond.selects RX0 yX0_rebuild yX0_rebuild, Cond.initialized RX0, Cond.code yX0_rebuild cX0_rebuild 8 none, Cond.fieldLink RX0 59 "HeaderLine$Plan" "size" "I", Cond.fieldLink RX0 28 "HeaderLine$Arrival" "told" "[J", Cond.fieldLink RX0 22 "HeaderLine$Arrival" "ways" "[I", Cond.fieldLink RX0 79 "HeaderLine$Context" "header" "LHeaderLine$Header;", Cond.fieldLink RX0 82 "HeaderLine$Context" "strides" "[I", Cond.fieldLink RX0 12 "HeaderLine$Arrival" "header" "LHeaderLine$Header;", Cond.fieldLink RX0 25 "HeaderLine$Arrival" "lengths" "[I"]
def wsX10_open_r2 : List Cond := [Cond.fieldLink RX0 91 "HeaderLine$Header" "values" "[J", Cond.methodLink RX0 83 yX6_given, Cond.instanceMethod yX6_given, Cond.selects RX6 yX6_given yX6_given, Cond.initialized RX6, Cond.code yX6_given cX6_given 7 (some .long), Cond.fieldLink RX6 49 "HeaderLine$Header" "number" "I", Cond.fieldLink RX6 9 "HeaderLine$Plan" "kinds" "[I", Cond.fieldLink RX6 43 "HeaderLine$Header" "values" "[J", Cond.fieldLink RX6 18 "HeaderLine$Plan" "ties" "[I", Cond.fieldLink RX6 21 "HeaderLine$Plan" "extras" "[I", Cond.methodLink RX6 52 yX6_lowBits, Cond.instanceMethod yX6_lowBits, Cond.selects RX6 yX6_lowBits yX6_lowBits, Cond.code yX6_lowBits cX6_lowBits 4 (some .long), Cond.fieldLink RX6 15 "HeaderLine$Plan" "widths" "[I", Cond.static yX10_lowest, Cond.initialized RX10, Cond.code yX10_lowest cX10_lowest 3 (some .long), Cond.methodLink RX0 87 yX6_found, Cond.instanceMethod yX6_found, Cond.selects RX6 yX6_found yX6_found, Cond.code yX6_found cX6_found 9 (some .long), Cond.methodLink RX10 348 yX6_sumOf]
def wsX10_open_r3 : List Cond := [Cond.instanceMethod yX6_sumOf, Cond.selects RX6 yX6_sumOf yX6_sumOf, Cond.code yX6_sumOf cX6_sumOf 5 (some .int), Cond.constantLong RX6 39 (17), Cond.fieldLink RX6 28 "HeaderLine$Plan" "size" "I", Cond.constantLong RX6 41 (31), Cond.methodLink RX10 355 yX2_accept, Cond.instanceMethod yX2_accept, Cond.selects RX2 yX2_accept yX2_accept, Cond.initialized RX2, Cond.code yX2_accept cX2_accept 3 none, Cond.fieldLink RX2 12 "HeaderLine$Got" "header" "LHeaderLine$Header;", Cond.fieldLink RX2 22 "HeaderLine$Arrival" "header" "LHeaderLine$Header;", Cond.fieldLink RX2 29 "HeaderLine$Arrival" "ways" "[I", Cond.fieldLink RX2 18 "HeaderLine$Got" "ways" "[I", Cond.methodLink RX2 30 arraycopyName, Cond.native arraycopyName, Cond.static arraycopyName, Cond.initialized "java/lang/System", Cond.fieldLink RX2 36 "HeaderLine$Arrival" "flow" "I", Cond.fieldLink RX2 40 "HeaderLine$Got" "flow" "I", Cond.fieldLink RX2 41 "HeaderLine$Got" "hungOn" "I", Cond.fieldLink RX2 44 "HeaderLine$Got" "total" "I", Cond.methodLink RX2 25 yX3_become]
def wsX10_open_r4 : List Cond := [Cond.instanceMethod yX3_become, Cond.selects RX3 yX3_become yX3_become, Cond.initialized RX3, Cond.code yX3_become cX3_become 2 none, Cond.fieldLink RX3 9 "HeaderLine$Header" "values" "[J", Cond.methodLink RX3 15 arraycopyName, Cond.fieldLink RX3 21 "HeaderLine$Header" "number" "I", Cond.methodLink RX10 359 yX1_accept, Cond.instanceMethod yX1_accept, Cond.selects RX1 yX1_accept yX1_accept, Cond.initialized RX1, Cond.code yX1_accept cX1_accept 2 none, Cond.fieldLink RX1 12 "HeaderLine$Context" "header" "LHeaderLine$Header;", Cond.fieldLink RX1 22 "HeaderLine$Arrival" "header" "LHeaderLine$Header;", Cond.fieldLink RX1 29 "HeaderLine$Context" "isThere" "Z", Cond.fieldLink RX1 33 "HeaderLine$Arrival" "kind" "I", Cond.fieldLink RX1 37 "HeaderLine$Arrival" "round" "I", Cond.fieldLink RX1 40 "HeaderLine$Context" "round" "I", Cond.fieldLink RX1 41 "HeaderLine$Arrival" "strides" "[I", Cond.fieldLink RX1 18 "HeaderLine$Context" "strides" "[I", Cond.methodLink RX1 42 arraycopyName, Cond.methodLink RX1 25 yX3_become]
def wsX10_open : List Cond := .code yX10_open cX10_open 4 (some .int) :: ((wsX10_open_r1 ++ (wsX10_open_r2 ++ (wsX10_open_r3 ++ wsX10_open_r4))) ++ wsX100 ++ wsX00 ++ wsX10 ++ wsX30 ++ wsX60 ++ wsX20)
def wsX10_outcomeOf_r1 : List Cond := [Cond.fieldLink RX10 70 "HeaderLine" "arrival" "LHeaderLine$Arrival;", Cond.fieldLink RX10 22 "HeaderLine" "plan" "LHeaderLine$Plan;", Cond.fieldLink RX10 333 "HeaderLine$Arrival" "flow" "I", Cond.fieldLink RX10 334 "HeaderLine$Arrival" "kind" "I", Cond.fieldLink RX10 35 "HeaderLine" "squeezers" "[LHeaderLine$Squeezer;", Cond.fieldLink RX10 335 "HeaderLine$Arrival" "header" "LHeaderLine$Header;", Cond.fieldLink RX10 130 "HeaderLine$Header" "number" "I", Cond.fieldLink RX10 41 "HeaderLine" "contexts" "[LHeaderLine$Context;", Cond.methodLink RX10 329 yX0_parse, Cond.instanceMethod yX0_parse, Cond.selects RX0 yX0_parse yX0_parse, Cond.initialized RX0, Cond.code yX0_parse cX0_parse 4 (some .boolean), Cond.fieldLink RX0 32 "HeaderLine$Arrival" "bytes" "[I", Cond.fieldLink RX0 35 "HeaderLine$Arrival" "at" "I", Cond.fieldLink RX0 39 "HeaderLine$Arrival" "isBroken" "Z", Cond.fieldLink RX0 47 "HeaderLine$Arrival" "kind" "I", Cond.fieldLink RX0 50 "HeaderLine$Arrival" "flow" "I", Cond.fieldLink RX0 12 "HeaderLine$Arrival" "header" "LHeaderLine$Header;", Cond.fieldLink RX0 53 "HeaderLine$Header" "number" "I", Cond.fieldLink RX0 56 "HeaderLine$Arrival" "round" "I", Cond.fieldLink RX0 59 "HeaderLine$Plan" "size" "I", Cond.fieldLink RX0 72 "HeaderLine$Arrival" "sum" "I", Cond.methodLink RX0 43 yX0_read]
def wsX10_outcomeOf_r2 : List Cond := [Cond.instanceMethod yX0_read, Cond.selects RX0 yX0_read yX0_read, Cond.code yX0_read cX0_read 5 (some .long), Cond.methodLink RX0 64 yX0_readField, Cond.instanceMethod yX0_readField, Cond.selects RX0 yX0_readField yX0_readField, Cond.code yX0_readField cX0_readField 5 none, Cond.fieldLink RX0 94 "HeaderLine$Plan" "kinds" "[I", Cond.fieldLink RX0 97 "HeaderLine$Plan" "widths" "[I", Cond.fieldLink RX0 18 "HeaderLine$Arrival" "strides" "[I", Cond.methodLink RX0 100 yX0_readValue, Cond.instanceMethod yX0_readValue, Cond.selects RX0 yX0_readValue yX0_readValue, Cond.code yX0_readValue cX0_readValue 4 none, Cond.fieldLink RX0 22 "HeaderLine$Arrival" "ways" "[I", Cond.fieldLink RX0 25 "HeaderLine$Arrival" "lengths" "[I", Cond.fieldLink RX0 28 "HeaderLine$Arrival" "told" "[J", Cond.methodLink RX0 104 yX6_hasStride, Cond.instanceMethod yX6_hasStride, Cond.selects RX6 yX6_hasStride yX6_hasStride, Cond.initialized RX6, Cond.code yX6_hasStride cX6_hasStride 2 (some .boolean), Cond.fieldLink RX6 9 "HeaderLine$Plan" "kinds" "[I", Cond.methodLink RX6 24 yX6_has]
def wsX10_outcomeOf_r3 : List Cond := [Cond.instanceMethod yX6_has, Cond.selects RX6 yX6_has yX6_has, Cond.code yX6_has cX6_has 2 (some .boolean), Cond.fieldLink RX6 28 "HeaderLine$Plan" "size" "I", Cond.static yX10_endsInCheck, Cond.initialized RX10, Cond.code yX10_endsInCheck cX10_endsInCheck 1 (some .boolean), Cond.methodLink RX0 75 yX0_isEndRight, Cond.instanceMethod yX0_isEndRight, Cond.selects RX0 yX0_isEndRight yX0_isEndRight, Cond.code yX0_isEndRight cX0_isEndRight 3 (some .boolean), Cond.static yX10_wholeBytes, Cond.code yX10_wholeBytes cX10_wholeBytes 1 (some .int), Cond.static yX10_checkOf, Cond.code yX10_checkOf cX10_checkOf 4 (some .int), Cond.methodLink RX10 109 yX10_isFlow, Cond.static yX10_isFlow, Cond.code yX10_isFlow cX10_isFlow 1 (some .boolean), Cond.methodLink RX10 336 yX9_heed, Cond.instanceMethod yX9_heed, Cond.selects RX9 yX9_heed yX9_heed, Cond.initialized RX9, Cond.code yX9_heed cX9_heed 4 (some .int), Cond.fieldLink RX9 15 "HeaderLine$Squeezer" "owes" "Z"]
def wsX10_outcomeOf_r4 : List Cond := [Cond.fieldLink RX9 42 "HeaderLine$Squeezer" "held" "I", Cond.fieldLink RX9 49 "HeaderLine$Header" "number" "I", Cond.constant RX9 116 (65536), Cond.methodLink RX9 45 yX9_reference, Cond.instanceMethod yX9_reference, Cond.selects RX9 yX9_reference yX9_reference, Cond.code yX9_reference cX9_reference 2 (some (.object "HeaderLine$Header")), Cond.fieldLink RX9 21 "HeaderLine$Squeezer" "ring" "[LHeaderLine$Header;", Cond.fieldLink RX9 32 "HeaderLine$Squeezer" "first" "I", Cond.methodLink RX9 36 yJ9_floorMod_7cf53, Cond.static yJ9_floorMod_7cf53, Cond.initialized RJ9, Cond.code yJ9_floorMod_7cf53 cJ9_floorMod_7cf53 3 (some .int), Cond.methodLink RX9 107 yX9_dropOldest, Cond.instanceMethod yX9_dropOldest, Cond.selects RX9 yX9_dropOldest yX9_dropOldest, Cond.code yX9_dropOldest cX9_dropOldest 2 none, Cond.methodLink RX10 339 yX10_open, Cond.instanceMethod yX10_open, Cond.selects RX10 yX10_open yX10_open, Cond.code yX10_open cX10_open 4 (some .int), Cond.fieldLink RX10 164 "HeaderLine$Context" "isThere" "Z", Cond.fieldLink RX10 255 "HeaderLine$Context" "round" "I", Cond.fieldLink RX10 343 "HeaderLine$Arrival" "round" "I"]
def wsX10_outcomeOf_r5 : List Cond := [Cond.fieldLink RX10 167 "HeaderLine$Context" "header" "LHeaderLine$Header;", Cond.fieldLink RX10 15 "HeaderLine" "window" "I", Cond.fieldLink RX10 352 "HeaderLine$Arrival" "sum" "I", Cond.fieldLink RX10 77 "HeaderLine" "latest" "LHeaderLine$Got;", Cond.methodLink RX10 344 yX0_rebuild, Cond.instanceMethod yX0_rebuild, Cond.selects RX0 yX0_rebuild yX0_rebuild, Cond.code yX0_rebuild cX0_rebuild 8 none, Cond.fieldLink RX0 79 "HeaderLine$Context" "header" "LHeaderLine$Header;", Cond.fieldLink RX0 82 "HeaderLine$Context" "strides" "[I", Cond.fieldLink RX0 91 "HeaderLine$Header" "values" "[J", Cond.methodLink RX0 83 yX6_given, Cond.instanceMethod yX6_given, Cond.selects RX6 yX6_given yX6_given, Cond.code yX6_given cX6_given 7 (some .long), Cond.fieldLink RX6 49 "HeaderLine$Header" "number" "I", Cond.fieldLink RX6 43 "HeaderLine$Header" "values" "[J", Cond.fieldLink RX6 18 "HeaderLine$Plan" "ties" "[I", Cond.fieldLink RX6 21 "HeaderLine$Plan" "extras" "[I", Cond.methodLink RX6 52 yX6_lowBits, Cond.instanceMethod yX6_lowBits, Cond.selects RX6 yX6_lowBits yX6_lowBits, Cond.code yX6_lowBits cX6_lowBits 4 (some .long), Cond.fieldLink RX6 15 "HeaderLine$Plan" "widths" "[I"]
def wsX10_outcomeOf_r6 : List Cond := [Cond.static yX10_lowest, Cond.code yX10_lowest cX10_lowest 3 (some .long), Cond.methodLink RX0 87 yX6_found, Cond.instanceMethod yX6_found, Cond.selects RX6 yX6_found yX6_found, Cond.code yX6_found cX6_found 9 (some .long), Cond.methodLink RX10 348 yX6_sumOf, Cond.instanceMethod yX6_sumOf, Cond.selects RX6 yX6_sumOf yX6_sumOf, Cond.code yX6_sumOf cX6_sumOf 5 (some .int), Cond.constantLong RX6 39 (17), Cond.constantLong RX6 41 (31), Cond.methodLink RX10 355 yX2_accept, Cond.instanceMethod yX2_accept, Cond.selects RX2 yX2_accept yX2_accept, Cond.initialized RX2, Cond.code yX2_accept cX2_accept 3 none, Cond.fieldLink RX2 12 "HeaderLine$Got" "header" "LHeaderLine$Header;", Cond.fieldLink RX2 22 "HeaderLine$Arrival" "header" "LHeaderLine$Header;", Cond.fieldLink RX2 29 "HeaderLine$Arrival" "ways" "[I", Cond.fieldLink RX2 18 "HeaderLine$Got" "ways" "[I", Cond.methodLink RX2 30 arraycopyName, Cond.native arraycopyName, Cond.static arraycopyName]
def wsX10_outcomeOf_r7 : List Cond := [Cond.initialized "java/lang/System", Cond.fieldLink RX2 36 "HeaderLine$Arrival" "flow" "I", Cond.fieldLink RX2 40 "HeaderLine$Got" "flow" "I", Cond.fieldLink RX2 41 "HeaderLine$Got" "hungOn" "I", Cond.fieldLink RX2 44 "HeaderLine$Got" "total" "I", Cond.methodLink RX2 25 yX3_become, Cond.instanceMethod yX3_become, Cond.selects RX3 yX3_become yX3_become, Cond.initialized RX3, Cond.code yX3_become cX3_become 2 none, Cond.fieldLink RX3 9 "HeaderLine$Header" "values" "[J", Cond.methodLink RX3 15 arraycopyName, Cond.fieldLink RX3 21 "HeaderLine$Header" "number" "I", Cond.methodLink RX10 359 yX1_accept, Cond.instanceMethod yX1_accept, Cond.selects RX1 yX1_accept yX1_accept, Cond.initialized RX1, Cond.code yX1_accept cX1_accept 2 none, Cond.fieldLink RX1 12 "HeaderLine$Context" "header" "LHeaderLine$Header;", Cond.fieldLink RX1 22 "HeaderLine$Arrival" "header" "LHeaderLine$Header;", Cond.fieldLink RX1 29 "HeaderLine$Context" "isThere" "Z", Cond.fieldLink RX1 33 "HeaderLine$Arrival" "kind" "I", Cond.fieldLink RX1 37 "HeaderLine$Arrival" "round" "I", Cond.fieldLink RX1 40 "HeaderLine$Context" "round" "I"]
def wsX10_outcomeOf_r8 : List Cond := [Cond.fieldLink RX1 41 "HeaderLine$Arrival" "strides" "[I", Cond.fieldLink RX1 18 "HeaderLine$Context" "strides" "[I", Cond.methodLink RX1 42 arraycopyName, Cond.methodLink RX1 25 yX3_become]
def wsX10_outcomeOf : List Cond := .code yX10_outcomeOf cX10_outcomeOf 2 (some .int) :: ((wsX10_outcomeOf_r1 ++ (wsX10_outcomeOf_r2 ++ (wsX10_outcomeOf_r3 ++ (wsX10_outcomeOf_r4 ++ (wsX10_outcomeOf_r5 ++ (wsX10_outcomeOf_r6 ++ (wsX10_outcomeOf_r7 ++ wsX10_outcomeOf_r8))))))) ++ wsX100 ++ wsX00 ++ wsX30 ++ wsX60 ++ wsX90 ++ wsX10 ++ wsX20)
def wsX10_deliver_r1 : List Cond := [Cond.fieldLink RX10 178 "HeaderLine$Letter" "bytes" "[I", Cond.fieldLink RX10 185 "HeaderLine$Letter" "outcome" "I", Cond.methodLink RX10 174 yX10_letterUnderWay, Cond.instanceMethod yX10_letterUnderWay, Cond.selects RX10 yX10_letterUnderWay yX10_letterUnderWay, Cond.initialized RX10, Cond.code yX10_letterUnderWay cX10_letterUnderWay 3 (some (.object "HeaderLine$Letter")), Cond.fieldLink RX10 188 "HeaderLine$Letter" "isLost" "Z", Cond.methodLink RX10 223 yX10_letterAt, Cond.instanceMethod yX10_letterAt, Cond.selects RX10 yX10_letterAt yX10_letterAt, Cond.code yX10_letterAt cX10_letterAt 2 (some (.object "HeaderLine$Letter")), Cond.fieldLink RX10 88 "HeaderLine" "letterCount" "I", Cond.fieldLink RX10 49 "HeaderLine" "letters" "[LHeaderLine$Letter;", Cond.methodLink RX10 181 yX10_outcomeOf, Cond.instanceMethod yX10_outcomeOf, Cond.selects RX10 yX10_outcomeOf yX10_outcomeOf, Cond.code yX10_outcomeOf cX10_outcomeOf 2 (some .int), Cond.fieldLink RX10 70 "HeaderLine" "arrival" "LHeaderLine$Arrival;", Cond.fieldLink RX10 22 "HeaderLine" "plan" "LHeaderLine$Plan;", Cond.fieldLink RX10 333 "HeaderLine$Arrival" "flow" "I", Cond.fieldLink RX10 334 "HeaderLine$Arrival" "kind" "I", Cond.fieldLink RX10 35 "HeaderLine" "squeezers" "[LHeaderLine$Squeezer;", Cond.fieldLink RX10 335 "HeaderLine$Arrival" "header" "LHeaderLine$Header;"]
def wsX10_deliver_r2 : List Cond := [Cond.fieldLink RX10 130 "HeaderLine$Header" "number" "I", Cond.fieldLink RX10 41 "HeaderLine" "contexts" "[LHeaderLine$Context;", Cond.methodLink RX10 329 yX0_parse, Cond.instanceMethod yX0_parse, Cond.selects RX0 yX0_parse yX0_parse, Cond.initialized RX0, Cond.code yX0_parse cX0_parse 4 (some .boolean), Cond.fieldLink RX0 32 "HeaderLine$Arrival" "bytes" "[I", Cond.fieldLink RX0 35 "HeaderLine$Arrival" "at" "I", Cond.fieldLink RX0 39 "HeaderLine$Arrival" "isBroken" "Z", Cond.fieldLink RX0 47 "HeaderLine$Arrival" "kind" "I", Cond.fieldLink RX0 50 "HeaderLine$Arrival" "flow" "I", Cond.fieldLink RX0 12 "HeaderLine$Arrival" "header" "LHeaderLine$Header;", Cond.fieldLink RX0 53 "HeaderLine$Header" "number" "I", Cond.fieldLink RX0 56 "HeaderLine$Arrival" "round" "I", Cond.fieldLink RX0 59 "HeaderLine$Plan" "size" "I", Cond.fieldLink RX0 72 "HeaderLine$Arrival" "sum" "I", Cond.methodLink RX0 43 yX0_read, Cond.instanceMethod yX0_read, Cond.selects RX0 yX0_read yX0_read, Cond.code yX0_read cX0_read 5 (some .long), Cond.methodLink RX0 64 yX0_readField, Cond.instanceMethod yX0_readField, Cond.selects RX0 yX0_readField yX0_readField]
def wsX10_deliver_r3 : List Cond := [Cond.code yX0_readField cX0_readField 5 none, Cond.fieldLink RX0 94 "HeaderLine$Plan" "kinds" "[I", Cond.fieldLink RX0 97 "HeaderLine$Plan" "widths" "[I", Cond.fieldLink RX0 18 "HeaderLine$Arrival" "strides" "[I", Cond.methodLink RX0 100 yX0_readValue, Cond.instanceMethod yX0_readValue, Cond.selects RX0 yX0_readValue yX0_readValue, Cond.code yX0_readValue cX0_readValue 4 none, Cond.fieldLink RX0 22 "HeaderLine$Arrival" "ways" "[I", Cond.fieldLink RX0 25 "HeaderLine$Arrival" "lengths" "[I", Cond.fieldLink RX0 28 "HeaderLine$Arrival" "told" "[J", Cond.methodLink RX0 104 yX6_hasStride, Cond.instanceMethod yX6_hasStride, Cond.selects RX6 yX6_hasStride yX6_hasStride, Cond.initialized RX6, Cond.code yX6_hasStride cX6_hasStride 2 (some .boolean), Cond.fieldLink RX6 9 "HeaderLine$Plan" "kinds" "[I", Cond.methodLink RX6 24 yX6_has, Cond.instanceMethod yX6_has, Cond.selects RX6 yX6_has yX6_has, Cond.code yX6_has cX6_has 2 (some .boolean), Cond.fieldLink RX6 28 "HeaderLine$Plan" "size" "I", Cond.static yX10_endsInCheck, Cond.code yX10_endsInCheck cX10_endsInCheck 1 (some .boolean)]
def wsX10_deliver_r4 : List Cond := [Cond.methodLink RX0 75 yX0_isEndRight, Cond.instanceMethod yX0_isEndRight, Cond.selects RX0 yX0_isEndRight yX0_isEndRight, Cond.code yX0_isEndRight cX0_isEndRight 3 (some .boolean), Cond.static yX10_wholeBytes, Cond.code yX10_wholeBytes cX10_wholeBytes 1 (some .int), Cond.static yX10_checkOf, Cond.code yX10_checkOf cX10_checkOf 4 (some .int), Cond.methodLink RX10 109 yX10_isFlow, Cond.static yX10_isFlow, Cond.code yX10_isFlow cX10_isFlow 1 (some .boolean), Cond.methodLink RX10 336 yX9_heed, Cond.instanceMethod yX9_heed, Cond.selects RX9 yX9_heed yX9_heed, Cond.initialized RX9, Cond.code yX9_heed cX9_heed 4 (some .int), Cond.fieldLink RX9 15 "HeaderLine$Squeezer" "owes" "Z", Cond.fieldLink RX9 42 "HeaderLine$Squeezer" "held" "I", Cond.fieldLink RX9 49 "HeaderLine$Header" "number" "I", Cond.constant RX9 116 (65536), Cond.methodLink RX9 45 yX9_reference, Cond.instanceMethod yX9_reference, Cond.selects RX9 yX9_reference yX9_reference, Cond.code yX9_reference cX9_reference 2 (some (.object "HeaderLine$Header"))]
def wsX10_deliver_r5 : List Cond := [Cond.fieldLink RX9 21 "HeaderLine$Squeezer" "ring" "[LHeaderLine$Header;", Cond.fieldLink RX9 32 "HeaderLine$Squeezer" "first" "I", Cond.methodLink RX9 36 yJ9_floorMod_7cf53, Cond.static yJ9_floorMod_7cf53, Cond.initialized RJ9, Cond.code yJ9_floorMod_7cf53 cJ9_floorMod_7cf53 3 (some .int), Cond.methodLink RX9 107 yX9_dropOldest, Cond.instanceMethod yX9_dropOldest, Cond.selects RX9 yX9_dropOldest yX9_dropOldest, Cond.code yX9_dropOldest cX9_dropOldest 2 none, Cond.methodLink RX10 339 yX10_open, Cond.instanceMethod yX10_open, Cond.selects RX10 yX10_open yX10_open, Cond.code yX10_open cX10_open 4 (some .int), Cond.fieldLink RX10 164 "HeaderLine$Context" "isThere" "Z", Cond.fieldLink RX10 255 "HeaderLine$Context" "round" "I", Cond.fieldLink RX10 343 "HeaderLine$Arrival" "round" "I", Cond.fieldLink RX10 167 "HeaderLine$Context" "header" "LHeaderLine$Header;", Cond.fieldLink RX10 15 "HeaderLine" "window" "I", Cond.fieldLink RX10 352 "HeaderLine$Arrival" "sum" "I", Cond.fieldLink RX10 77 "HeaderLine" "latest" "LHeaderLine$Got;", Cond.methodLink RX10 344 yX0_rebuild, Cond.instanceMethod yX0_rebuild, Cond.selects RX0 yX0_rebuild yX0_rebuild]
def wsX10_deliver_r6 : List Cond := [Cond.code yX0_rebuild cX0_rebuild 8 none, Cond.fieldLink RX0 79 "HeaderLine$Context" "header" "LHeaderLine$Header;", Cond.fieldLink RX0 82 "HeaderLine$Context" "strides" "[I", Cond.fieldLink RX0 91 "HeaderLine$Header" "values" "[J", Cond.methodLink RX0 83 yX6_given, Cond.instanceMethod yX6_given, Cond.selects RX6 yX6_given yX6_given, Cond.code yX6_given cX6_given 7 (some .long), Cond.fieldLink RX6 49 "HeaderLine$Header" "number" "I", Cond.fieldLink RX6 43 "HeaderLine$Header" "values" "[J", Cond.fieldLink RX6 18 "HeaderLine$Plan" "ties" "[I", Cond.fieldLink RX6 21 "HeaderLine$Plan" "extras" "[I", Cond.methodLink RX6 52 yX6_lowBits, Cond.instanceMethod yX6_lowBits, Cond.selects RX6 yX6_lowBits yX6_lowBits, Cond.code yX6_lowBits cX6_lowBits 4 (some .long), Cond.fieldLink RX6 15 "HeaderLine$Plan" "widths" "[I", Cond.static yX10_lowest, Cond.code yX10_lowest cX10_lowest 3 (some .long), Cond.methodLink RX0 87 yX6_found, Cond.instanceMethod yX6_found, Cond.selects RX6 yX6_found yX6_found, Cond.code yX6_found cX6_found 9 (some .long), Cond.methodLink RX10 348 yX6_sumOf]
def wsX10_deliver_r7 : List Cond := [Cond.instanceMethod yX6_sumOf, Cond.selects RX6 yX6_sumOf yX6_sumOf, Cond.code yX6_sumOf cX6_sumOf 5 (some .int), Cond.constantLong RX6 39 (17), Cond.constantLong RX6 41 (31), Cond.methodLink RX10 355 yX2_accept, Cond.instanceMethod yX2_accept, Cond.selects RX2 yX2_accept yX2_accept, Cond.initialized RX2, Cond.code yX2_accept cX2_accept 3 none, Cond.fieldLink RX2 12 "HeaderLine$Got" "header" "LHeaderLine$Header;", Cond.fieldLink RX2 22 "HeaderLine$Arrival" "header" "LHeaderLine$Header;", Cond.fieldLink RX2 29 "HeaderLine$Arrival" "ways" "[I", Cond.fieldLink RX2 18 "HeaderLine$Got" "ways" "[I", Cond.methodLink RX2 30 arraycopyName, Cond.native arraycopyName, Cond.static arraycopyName, Cond.initialized "java/lang/System", Cond.fieldLink RX2 36 "HeaderLine$Arrival" "flow" "I", Cond.fieldLink RX2 40 "HeaderLine$Got" "flow" "I", Cond.fieldLink RX2 41 "HeaderLine$Got" "hungOn" "I", Cond.fieldLink RX2 44 "HeaderLine$Got" "total" "I", Cond.methodLink RX2 25 yX3_become, Cond.instanceMethod yX3_become]
def wsX10_deliver_r8 : List Cond := [Cond.selects RX3 yX3_become yX3_become, Cond.initialized RX3, Cond.code yX3_become cX3_become 2 none, Cond.fieldLink RX3 9 "HeaderLine$Header" "values" "[J", Cond.methodLink RX3 15 arraycopyName, Cond.fieldLink RX3 21 "HeaderLine$Header" "number" "I", Cond.methodLink RX10 359 yX1_accept, Cond.instanceMethod yX1_accept, Cond.selects RX1 yX1_accept yX1_accept, Cond.initialized RX1, Cond.code yX1_accept cX1_accept 2 none, Cond.fieldLink RX1 12 "HeaderLine$Context" "header" "LHeaderLine$Header;", Cond.fieldLink RX1 22 "HeaderLine$Arrival" "header" "LHeaderLine$Header;", Cond.fieldLink RX1 29 "HeaderLine$Context" "isThere" "Z", Cond.fieldLink RX1 33 "HeaderLine$Arrival" "kind" "I", Cond.fieldLink RX1 37 "HeaderLine$Arrival" "round" "I", Cond.fieldLink RX1 40 "HeaderLine$Context" "round" "I", Cond.fieldLink RX1 41 "HeaderLine$Arrival" "strides" "[I", Cond.fieldLink RX1 18 "HeaderLine$Context" "strides" "[I", Cond.methodLink RX1 42 arraycopyName, Cond.methodLink RX1 25 yX3_become]
def wsX10_deliver : List Cond := .code yX10_deliver cX10_deliver 3 (some .int) :: ((wsX10_deliver_r1 ++ (wsX10_deliver_r2 ++ (wsX10_deliver_r3 ++ (wsX10_deliver_r4 ++ (wsX10_deliver_r5 ++ (wsX10_deliver_r6 ++ (wsX10_deliver_r7 ++ wsX10_deliver_r8))))))) ++ wsX40 ++ wsX100 ++ wsX00 ++ wsX30 ++ wsX60 ++ wsX90 ++ wsX10 ++ wsX20)
def wsX10_lose : List Cond := .code yX10_lose cX10_lose 3 (some .int) :: ([.fieldLink RX10 188 "HeaderLine$Letter" "isLost" "Z", .fieldLink RX10 191 "HeaderLine" "lostCount" "I", .methodLink RX10 174 yX10_letterUnderWay, .instanceMethod yX10_letterUnderWay, .selects RX10 yX10_letterUnderWay yX10_letterUnderWay, .initialized RX10, .code yX10_letterUnderWay cX10_letterUnderWay 3 (some (.object "HeaderLine$Letter")), .methodLink RX10 223 yX10_letterAt, .instanceMethod yX10_letterAt, .selects RX10 yX10_letterAt yX10_letterAt, .code yX10_letterAt cX10_letterAt 2 (some (.object "HeaderLine$Letter")), .fieldLink RX10 88 "HeaderLine" "letterCount" "I", .fieldLink RX10 49 "HeaderLine" "letters" "[LHeaderLine$Letter;"] ++ wsX40 ++ wsX100)
def wsX10_twice_r1 : List Cond := [Cond.fieldLink RX10 178 "HeaderLine$Letter" "bytes" "[I", Cond.classLink RX10 47 RX4, Cond.instantiable RX4 9, Cond.initialized RX4, Cond.fieldLink RX10 200 "HeaderLine$Letter" "kind" "I", Cond.fieldLink RX10 203 "HeaderLine$Letter" "flow" "I", Cond.fieldLink RX10 206 "HeaderLine$Letter" "number" "I", Cond.fieldLink RX10 207 "HeaderLine$Letter" "bits" "I", Cond.fieldLink RX10 213 "HeaderLine$Letter" "isCopy" "Z", Cond.methodLink RX10 174 yX10_letterUnderWay, Cond.instanceMethod yX10_letterUnderWay, Cond.selects RX10 yX10_letterUnderWay yX10_letterUnderWay, Cond.initialized RX10, Cond.code yX10_letterUnderWay cX10_letterUnderWay 3 (some (.object "HeaderLine$Letter")), Cond.fieldLink RX10 188 "HeaderLine$Letter" "isLost" "Z", Cond.methodLink RX10 223 yX10_letterAt, Cond.instanceMethod yX10_letterAt, Cond.selects RX10 yX10_letterAt yX10_letterAt, Cond.code yX10_letterAt cX10_letterAt 2 (some (.object "HeaderLine$Letter")), Cond.fieldLink RX10 88 "HeaderLine" "letterCount" "I", Cond.fieldLink RX10 49 "HeaderLine" "letters" "[LHeaderLine$Letter;", Cond.methodLink RX10 123 yX10_isLineFull, Cond.instanceMethod yX10_isLineFull, Cond.selects RX10 yX10_isLineFull yX10_isLineFull]
def wsX10_twice_r2 : List Cond := [Cond.code yX10_isLineFull cX10_isLineFull 1 (some .boolean), Cond.methodLink RX10 194 yJ7_copyOf_59c91, Cond.static yJ7_copyOf_59c91, Cond.initialized RJ7, Cond.code yJ7_copyOf_59c91 cJ7_copyOf_59c91 3 (some (.array .int)), Cond.methodLink RJ7 316 ⟨"[I", "clone", "()Ljava/lang/Object;"⟩, Cond.sameMethod "[I" "java/lang/Object" "clone" "()Ljava/lang/Object;", Cond.native ⟨"java/lang/Object", "clone", "()Ljava/lang/Object;"⟩, Cond.instanceMethod ⟨"java/lang/Object", "clone", "()Ljava/lang/Object;"⟩, Cond.selects "[I" ⟨"[I", "clone", "()Ljava/lang/Object;"⟩ ⟨"java/lang/Object", "clone", "()Ljava/lang/Object;"⟩, Cond.classLink RJ7 317 "[I", Cond.arrayClass .int, Cond.methodLink RJ7 304 Lib.Math.min.name, Cond.static Lib.Math.min.name, Cond.initialized "java/lang/Math", Cond.code Lib.Math.min.name Lib.Math.min.code 2 (some .int), Cond.methodLink RJ7 150 arraycopyName, Cond.native arraycopyName, Cond.static arraycopyName, Cond.initialized "java/lang/System", Cond.methodLink RX10 210 yX4_init, Cond.instanceMethod yX4_init, Cond.code yX4_init cX4_init 6 none, Cond.methodLink RX4 1 objectInit]
def wsX10_twice_r3 : List Cond := [Cond.instanceMethod objectInit, Cond.code objectInit ⟨#[0xb1]⟩ 1 none, Cond.fieldLink RX4 7 "HeaderLine$Letter" "outcome" "I", Cond.fieldLink RX4 13 "HeaderLine$Letter" "kind" "I", Cond.fieldLink RX4 16 "HeaderLine$Letter" "flow" "I", Cond.fieldLink RX4 19 "HeaderLine$Letter" "number" "I", Cond.fieldLink RX4 22 "HeaderLine$Letter" "bytes" "[I", Cond.fieldLink RX4 26 "HeaderLine$Letter" "bits" "I", Cond.methodLink RX10 216 yX10_add, Cond.instanceMethod yX10_add, Cond.selects RX10 yX10_add yX10_add, Cond.code yX10_add cX10_add 2 (some .int)]
def wsX10_twice : List Cond := .code yX10_twice cX10_twice 5 (some .int) :: ((wsX10_twice_r1 ++ (wsX10_twice_r2 ++ wsX10_twice_r3)) ++ wsX40 ++ wsX100)
def wsX10_bend : List Cond := .code yX10_bend cX10_bend 5 (some .int) :: ([.fieldLink RX10 178 "HeaderLine$Letter" "bytes" "[I", .methodLink RX10 174 yX10_letterUnderWay, .instanceMethod yX10_letterUnderWay, .selects RX10 yX10_letterUnderWay yX10_letterUnderWay, .initialized RX10, .code yX10_letterUnderWay cX10_letterUnderWay 3 (some (.object "HeaderLine$Letter")), .fieldLink RX10 188 "HeaderLine$Letter" "isLost" "Z", .methodLink RX10 223 yX10_letterAt, .instanceMethod yX10_letterAt, .selects RX10 yX10_letterAt yX10_letterAt, .code yX10_letterAt cX10_letterAt 2 (some (.object "HeaderLine$Letter")), .fieldLink RX10 88 "HeaderLine" "letterCount" "I", .fieldLink RX10 49 "HeaderLine" "letters" "[LHeaderLine$Letter;", .methodLink RX10 220 yX4_hasByte, .instanceMethod yX4_hasByte, .selects RX4 yX4_hasByte yX4_hasByte, .initialized RX4, .code yX4_hasByte cX4_hasByte 2 (some .boolean), .fieldLink RX4 22 "HeaderLine$Letter" "bytes" "[I"] ++ wsX40 ++ wsX100)
def wsX10_octet : List Cond := .code yX10_octet cX10_octet 4 (some .int) :: ([.fieldLink RX10 178 "HeaderLine$Letter" "bytes" "[I", .methodLink RX10 223 yX10_letterAt, .instanceMethod yX10_letterAt, .selects RX10 yX10_letterAt yX10_letterAt, .initialized RX10, .code yX10_letterAt cX10_letterAt 2 (some (.object "HeaderLine$Letter")), .fieldLink RX10 88 "HeaderLine" "letterCount" "I", .fieldLink RX10 49 "HeaderLine" "letters" "[LHeaderLine$Letter;", .methodLink RX10 220 yX4_hasByte, .instanceMethod yX4_hasByte, .selects RX4 yX4_hasByte yX4_hasByte, .initialized RX4, .code yX4_hasByte cX4_hasByte 2 (some .boolean), .fieldLink RX4 22 "HeaderLine$Letter" "bytes" "[I"] ++ wsX40 ++ wsX100)
def wsX10_look : List Cond := .code yX10_look cX10_look 4 (some .int) :: ([.fieldLink RX10 200 "HeaderLine$Letter" "kind" "I", .fieldLink RX10 203 "HeaderLine$Letter" "flow" "I", .fieldLink RX10 206 "HeaderLine$Letter" "number" "I", .fieldLink RX10 178 "HeaderLine$Letter" "bytes" "[I", .fieldLink RX10 207 "HeaderLine$Letter" "bits" "I", .fieldLink RX10 185 "HeaderLine$Letter" "outcome" "I", .fieldLink RX10 188 "HeaderLine$Letter" "isLost" "Z", .methodLink RX10 223 yX10_letterAt, .instanceMethod yX10_letterAt, .selects RX10 yX10_letterAt yX10_letterAt, .initialized RX10, .code yX10_letterAt cX10_letterAt 2 (some (.object "HeaderLine$Letter")), .fieldLink RX10 88 "HeaderLine" "letterCount" "I", .fieldLink RX10 49 "HeaderLine" "letters" "[LHeaderLine$Letter;"] ++ wsX40 ++ wsX100)
def wsX10_prove : List Cond := .code yX10_prove cX10_prove 6 (some .int) :: ([.fieldLink RX10 226 "HeaderLine$Letter" "proof" "LHeaderLine$Proof;", .fieldLink RX10 22 "HeaderLine" "plan" "LHeaderLine$Plan;", .fieldLink RX10 230 "HeaderLine$Proof" "lengths" "[I", .fieldLink RX10 233 "HeaderLine$Proof" "misses" "[I", .fieldLink RX10 236 "HeaderLine$Proof" "references" "I", .fieldLink RX10 239 "HeaderLine$Proof" "oldest" "I", .methodLink RX10 223 yX10_letterAt, .instanceMethod yX10_letterAt, .selects RX10 yX10_letterAt yX10_letterAt, .initialized RX10, .code yX10_letterAt cX10_letterAt 2 (some (.object "HeaderLine$Letter")), .fieldLink RX10 88 "HeaderLine" "letterCount" "I", .fieldLink RX10 49 "HeaderLine" "letters" "[LHeaderLine$Letter;", .methodLink RX10 112 yX6_hasStride, .instanceMethod yX6_hasStride, .selects RX6 yX6_hasStride yX6_hasStride, .initialized RX6, .code yX6_hasStride cX6_hasStride 2 (some .boolean), .fieldLink RX6 9 "HeaderLine$Plan" "kinds" "[I", .methodLink RX6 24 yX6_has, .instanceMethod yX6_has, .selects RX6 yX6_has yX6_has, .code yX6_has cX6_has 2 (some .boolean), .fieldLink RX6 28 "HeaderLine$Plan" "size" "I"] ++ wsX40 ++ wsX100 ++ wsX70 ++ wsX60)
def wsX10_got : List Cond := .code yX10_got cX10_got 2 (some .long) :: ([.fieldLink RX10 22 "HeaderLine" "plan" "LHeaderLine$Plan;", .constantLong RX10 99 (-1), .fieldLink RX10 77 "HeaderLine" "latest" "LHeaderLine$Got;", .fieldLink RX10 242 "HeaderLine$Got" "total" "I", .constantLong RX10 245 (-2), .fieldLink RX10 247 "HeaderLine$Got" "header" "LHeaderLine$Header;", .fieldLink RX10 101 "HeaderLine$Header" "values" "[J", .methodLink RX10 95 yX6_has, .instanceMethod yX6_has, .selects RX6 yX6_has yX6_has, .initialized RX6, .code yX6_has cX6_has 2 (some .boolean), .fieldLink RX6 28 "HeaderLine$Plan" "size" "I"] ++ wsX100 ++ wsX20 ++ wsX30 ++ wsX60)
def wsX10_way : List Cond := .code yX10_way cX10_way 2 (some .int) :: ([.fieldLink RX10 22 "HeaderLine" "plan" "LHeaderLine$Plan;", .fieldLink RX10 77 "HeaderLine" "latest" "LHeaderLine$Got;", .fieldLink RX10 242 "HeaderLine$Got" "total" "I", .fieldLink RX10 248 "HeaderLine$Got" "ways" "[I", .methodLink RX10 95 yX6_has, .instanceMethod yX6_has, .selects RX6 yX6_has yX6_has, .initialized RX6, .code yX6_has cX6_has 2 (some .boolean), .fieldLink RX6 28 "HeaderLine$Plan" "size" "I"] ++ wsX100 ++ wsX20 ++ wsX60)
def wsX10_hung : List Cond := .code yX10_hung cX10_hung 2 (some .int) :: ([.fieldLink RX10 77 "HeaderLine" "latest" "LHeaderLine$Got;", .fieldLink RX10 242 "HeaderLine$Got" "total" "I", .fieldLink RX10 251 "HeaderLine$Got" "flow" "I", .fieldLink RX10 247 "HeaderLine$Got" "header" "LHeaderLine$Header;", .fieldLink RX10 130 "HeaderLine$Header" "number" "I", .fieldLink RX10 252 "HeaderLine$Got" "hungOn" "I"] ++ wsX100 ++ wsX20 ++ wsX30)
def wsX10_context : List Cond := .code yX10_context cX10_context 4 (some .int) :: ([.fieldLink RX10 41 "HeaderLine" "contexts" "[LHeaderLine$Context;", .fieldLink RX10 164 "HeaderLine$Context" "isThere" "Z", .fieldLink RX10 167 "HeaderLine$Context" "header" "LHeaderLine$Header;", .fieldLink RX10 130 "HeaderLine$Header" "number" "I", .fieldLink RX10 255 "HeaderLine$Context" "round" "I", .methodLink RX10 109 yX10_isFlow, .static yX10_isFlow, .initialized RX10, .code yX10_isFlow cX10_isFlow 1 (some .boolean)] ++ wsX100 ++ wsX10 ++ wsX30)
def wsX10_known : List Cond := .code yX10_known cX10_known 5 (some .long) :: ([.fieldLink RX10 22 "HeaderLine" "plan" "LHeaderLine$Plan;", .constantLong RX10 99 (-1), .fieldLink RX10 41 "HeaderLine" "contexts" "[LHeaderLine$Context;", .fieldLink RX10 164 "HeaderLine$Context" "isThere" "Z", .constantLong RX10 245 (-2), .fieldLink RX10 258 "HeaderLine$Context" "strides" "[I", .fieldLink RX10 167 "HeaderLine$Context" "header" "LHeaderLine$Header;", .fieldLink RX10 101 "HeaderLine$Header" "values" "[J", .methodLink RX10 109 yX10_isFlow, .static yX10_isFlow, .initialized RX10, .code yX10_isFlow cX10_isFlow 1 (some .boolean), .methodLink RX10 95 yX6_has, .instanceMethod yX6_has, .selects RX6 yX6_has yX6_has, .initialized RX6, .code yX6_has cX6_has 2 (some .boolean), .fieldLink RX6 28 "HeaderLine$Plan" "size" "I"] ++ wsX100 ++ wsX10 ++ wsX30 ++ wsX60)
def wsX10_squeezer_r1 : List Cond := [Cond.fieldLink RX10 35 "HeaderLine" "squeezers" "[LHeaderLine$Squeezer;", Cond.fieldLink RX10 127 "HeaderLine$Squeezer" "number" "I", Cond.fieldLink RX10 259 "HeaderLine$Squeezer" "round" "I", Cond.fieldLink RX10 260 "HeaderLine$Squeezer" "held" "I", Cond.fieldLink RX10 119 "HeaderLine$Squeezer" "owes" "Z", Cond.methodLink RX10 109 yX10_isFlow, Cond.static yX10_isFlow, Cond.initialized RX10, Cond.code yX10_isFlow cX10_isFlow 1 (some .boolean), Cond.methodLink RX10 263 yX9_oldestNumber, Cond.instanceMethod yX9_oldestNumber, Cond.selects RX9 yX9_oldestNumber yX9_oldestNumber, Cond.initialized RX9, Cond.code yX9_oldestNumber cX9_oldestNumber 1 (some .int), Cond.fieldLink RX9 42 "HeaderLine$Squeezer" "held" "I", Cond.fieldLink RX9 49 "HeaderLine$Header" "number" "I", Cond.methodLink RX9 45 yX9_reference, Cond.instanceMethod yX9_reference, Cond.selects RX9 yX9_reference yX9_reference, Cond.code yX9_reference cX9_reference 2 (some (.object "HeaderLine$Header")), Cond.fieldLink RX9 21 "HeaderLine$Squeezer" "ring" "[LHeaderLine$Header;", Cond.fieldLink RX9 32 "HeaderLine$Squeezer" "first" "I", Cond.methodLink RX9 36 yJ9_floorMod_7cf53, Cond.static yJ9_floorMod_7cf53]
def wsX10_squeezer_r2 : List Cond := [Cond.initialized RJ9, Cond.code yJ9_floorMod_7cf53 cJ9_floorMod_7cf53 3 (some .int)]
def wsX10_squeezer : List Cond := .code yX10_squeezer cX10_squeezer 4 (some .int) :: ((wsX10_squeezer_r1 ++ wsX10_squeezer_r2) ++ wsX100 ++ wsX90 ++ wsX30)
def wsX10_forget : List Cond := .code yX10_forget cX10_forget 4 (some .int) :: ([.fieldLink RX10 41 "HeaderLine" "contexts" "[LHeaderLine$Context;", .fieldLink RX10 164 "HeaderLine$Context" "isThere" "Z", .fieldLink RX10 35 "HeaderLine" "squeezers" "[LHeaderLine$Squeezer;", .fieldLink RX10 260 "HeaderLine$Squeezer" "held" "I", .fieldLink RX10 119 "HeaderLine$Squeezer" "owes" "Z", .methodLink RX10 109 yX10_isFlow, .static yX10_isFlow, .initialized RX10, .code yX10_isFlow cX10_isFlow 1 (some .boolean)] ++ wsX100 ++ wsX10 ++ wsX90)
def wsX10_spent_r1 : List Cond := [Cond.constantLong RX10 99 (-1), Cond.fieldLink RX10 88 "HeaderLine" "letterCount" "I", Cond.fieldLink RX10 49 "HeaderLine" "letters" "[LHeaderLine$Letter;", Cond.fieldLink RX10 213 "HeaderLine$Letter" "isCopy" "Z", Cond.fieldLink RX10 200 "HeaderLine$Letter" "kind" "I", Cond.fieldLink RX10 203 "HeaderLine$Letter" "flow" "I", Cond.fieldLink RX10 207 "HeaderLine$Letter" "bits" "I", Cond.fieldLink RX10 22 "HeaderLine" "plan" "LHeaderLine$Plan;", Cond.methodLink RX10 109 yX10_isFlow, Cond.static yX10_isFlow, Cond.initialized RX10, Cond.code yX10_isFlow cX10_isFlow 1 (some .boolean), Cond.methodLink RX10 267 yX6_wholeBits, Cond.instanceMethod yX6_wholeBits, Cond.selects RX6 yX6_wholeBits yX6_wholeBits, Cond.initialized RX6, Cond.code yX6_wholeBits cX6_wholeBits 3 (some .int), Cond.fieldLink RX6 28 "HeaderLine$Plan" "size" "I", Cond.fieldLink RX6 15 "HeaderLine$Plan" "widths" "[I", Cond.methodLink RX6 36 yX6_hasStride, Cond.instanceMethod yX6_hasStride, Cond.selects RX6 yX6_hasStride yX6_hasStride, Cond.code yX6_hasStride cX6_hasStride 2 (some .boolean), Cond.fieldLink RX6 9 "HeaderLine$Plan" "kinds" "[I"]
def wsX10_spent_r2 : List Cond := [Cond.methodLink RX6 24 yX6_has, Cond.instanceMethod yX6_has, Cond.selects RX6 yX6_has yX6_has, Cond.code yX6_has cX6_has 2 (some .boolean)]
def wsX10_spent : List Cond := .code yX10_spent cX10_spent 10 (some .long) :: ((wsX10_spent_r1 ++ wsX10_spent_r2) ++ wsX100 ++ wsX40 ++ wsX60)
def wsX10_isShelf : List Cond := .code yX10_isShelf cX10_isShelf 1 (some .boolean) :: ([])
def wsX10_keepLetter_r1 : List Cond := [Cond.fieldLink RX10 178 "HeaderLine$Letter" "bytes" "[I", Cond.fieldLink RX10 366 "HeaderLine$Shelf" "size" "I", Cond.fieldLink RX10 301 "HeaderLine$Shelf" "row" "[J", Cond.methodLink RX10 362 yX8_holdLetter, Cond.instanceMethod yX8_holdLetter, Cond.selects RX8 yX8_holdLetter yX8_holdLetter, Cond.initialized RX8, Cond.code yX8_holdLetter cX8_holdLetter 2 none, Cond.fieldLink RX8 15 "HeaderLine$Shelf" "holds" "I", Cond.fieldLink RX8 19 "HeaderLine$Letter" "kind" "I", Cond.fieldLink RX8 24 "HeaderLine$Shelf" "letterKind" "I", Cond.fieldLink RX8 27 "HeaderLine$Letter" "bytes" "[I", Cond.fieldLink RX8 31 "HeaderLine$Shelf" "letterBytes" "I", Cond.methodLink RX10 287 yX8_holdRow, Cond.instanceMethod yX8_holdRow, Cond.selects RX8 yX8_holdRow yX8_holdRow, Cond.code yX8_holdRow cX8_holdRow 3 none, Cond.methodLink RX8 34 Lib.Math.min.name, Cond.static Lib.Math.min.name, Cond.initialized "java/lang/Math", Cond.code Lib.Math.min.name Lib.Math.min.code 2 (some .int), Cond.methodLink RX8 40 Lib.Math.max.name, Cond.static Lib.Math.max.name, Cond.code Lib.Math.max.name Lib.Math.max.code 2 (some .int)]
def wsX10_keepLetter_r2 : List Cond := [Cond.fieldLink RX8 43 "HeaderLine$Shelf" "size" "I", Cond.fieldLink RX8 9 "HeaderLine$Shelf" "row" "[J", Cond.methodLink RX8 46 yJ7_fill_d0a16, Cond.static yJ7_fill_d0a16, Cond.initialized RJ7, Cond.code yJ7_fill_d0a16 cJ7_fill_d0a16 5 none]
def wsX10_keepLetter : List Cond := .code yX10_keepLetter cX10_keepLetter 4 (some .int) :: ((wsX10_keepLetter_r1 ++ wsX10_keepLetter_r2) ++ wsX40 ++ wsX80)
def wsX10_keepReferences_r1 : List Cond := [Cond.fieldLink RX10 35 "HeaderLine" "squeezers" "[LHeaderLine$Squeezer;", Cond.fieldLink RX10 260 "HeaderLine$Squeezer" "held" "I", Cond.fieldLink RX10 366 "HeaderLine$Shelf" "size" "I", Cond.fieldLink RX10 301 "HeaderLine$Shelf" "row" "[J", Cond.fieldLink RX10 130 "HeaderLine$Header" "number" "I", Cond.methodLink RX10 109 yX10_isFlow, Cond.static yX10_isFlow, Cond.initialized RX10, Cond.code yX10_isFlow cX10_isFlow 1 (some .boolean), Cond.methodLink RX10 287 yX8_holdRow, Cond.instanceMethod yX8_holdRow, Cond.selects RX8 yX8_holdRow yX8_holdRow, Cond.initialized RX8, Cond.code yX8_holdRow cX8_holdRow 3 none, Cond.fieldLink RX8 15 "HeaderLine$Shelf" "holds" "I", Cond.methodLink RX8 34 Lib.Math.min.name, Cond.static Lib.Math.min.name, Cond.initialized "java/lang/Math", Cond.code Lib.Math.min.name Lib.Math.min.code 2 (some .int), Cond.methodLink RX8 40 Lib.Math.max.name, Cond.static Lib.Math.max.name, Cond.code Lib.Math.max.name Lib.Math.max.code 2 (some .int), Cond.fieldLink RX8 43 "HeaderLine$Shelf" "size" "I", Cond.fieldLink RX8 9 "HeaderLine$Shelf" "row" "[J"]
def wsX10_keepReferences_r2 : List Cond := [Cond.methodLink RX8 46 yJ7_fill_d0a16, Cond.static yJ7_fill_d0a16, Cond.initialized RJ7, Cond.code yJ7_fill_d0a16 cJ7_fill_d0a16 5 none, Cond.methodLink RX10 367 yX9_reference, Cond.instanceMethod yX9_reference, Cond.selects RX9 yX9_reference yX9_reference, Cond.initialized RX9, Cond.code yX9_reference cX9_reference 2 (some (.object "HeaderLine$Header")), Cond.fieldLink RX9 21 "HeaderLine$Squeezer" "ring" "[LHeaderLine$Header;", Cond.fieldLink RX9 32 "HeaderLine$Squeezer" "first" "I", Cond.methodLink RX9 36 yJ9_floorMod_7cf53, Cond.static yJ9_floorMod_7cf53, Cond.initialized RJ9, Cond.code yJ9_floorMod_7cf53 cJ9_floorMod_7cf53 3 (some .int)]
def wsX10_keepReferences : List Cond := .code yX10_keepReferences cX10_keepReferences 5 (some .int) :: ((wsX10_keepReferences_r1 ++ wsX10_keepReferences_r2) ++ wsX100 ++ wsX90 ++ wsX80 ++ wsX30)
def wsX10_keepContext_r1 : List Cond := [Cond.fieldLink RX10 41 "HeaderLine" "contexts" "[LHeaderLine$Context;", Cond.fieldLink RX10 164 "HeaderLine$Context" "isThere" "Z", Cond.fieldLink RX10 22 "HeaderLine" "plan" "LHeaderLine$Plan;", Cond.fieldLink RX10 85 "HeaderLine$Plan" "size" "I", Cond.fieldLink RX10 366 "HeaderLine$Shelf" "size" "I", Cond.fieldLink RX10 301 "HeaderLine$Shelf" "row" "[J", Cond.fieldLink RX10 167 "HeaderLine$Context" "header" "LHeaderLine$Header;", Cond.fieldLink RX10 101 "HeaderLine$Header" "values" "[J", Cond.methodLink RX10 109 yX10_isFlow, Cond.static yX10_isFlow, Cond.initialized RX10, Cond.code yX10_isFlow cX10_isFlow 1 (some .boolean), Cond.methodLink RX10 287 yX8_holdRow, Cond.instanceMethod yX8_holdRow, Cond.selects RX8 yX8_holdRow yX8_holdRow, Cond.initialized RX8, Cond.code yX8_holdRow cX8_holdRow 3 none, Cond.fieldLink RX8 15 "HeaderLine$Shelf" "holds" "I", Cond.methodLink RX8 34 Lib.Math.min.name, Cond.static Lib.Math.min.name, Cond.initialized "java/lang/Math", Cond.code Lib.Math.min.name Lib.Math.min.code 2 (some .int), Cond.methodLink RX8 40 Lib.Math.max.name, Cond.static Lib.Math.max.name]
def wsX10_keepContext_r2 : List Cond := [Cond.code Lib.Math.max.name Lib.Math.max.code 2 (some .int), Cond.fieldLink RX8 43 "HeaderLine$Shelf" "size" "I", Cond.fieldLink RX8 9 "HeaderLine$Shelf" "row" "[J", Cond.methodLink RX8 46 yJ7_fill_d0a16, Cond.static yJ7_fill_d0a16, Cond.initialized RJ7, Cond.code yJ7_fill_d0a16 cJ7_fill_d0a16 5 none]
def wsX10_keepContext : List Cond := .code yX10_keepContext cX10_keepContext 4 (some .int) :: ((wsX10_keepContext_r1 ++ wsX10_keepContext_r2) ++ wsX100 ++ wsX10 ++ wsX60 ++ wsX80 ++ wsX30)
def wsX10_keep_r1 : List Cond := [Cond.fieldLink RX10 55 "HeaderLine" "shelves" "[LHeaderLine$Shelf;", Cond.fieldLink RX10 273 "HeaderLine$Shelf" "holds" "I", Cond.methodLink RX10 270 yX10_isShelf, Cond.static yX10_isShelf, Cond.initialized RX10, Cond.code yX10_isShelf cX10_isShelf 1 (some .boolean), Cond.methodLink RX10 223 yX10_letterAt, Cond.instanceMethod yX10_letterAt, Cond.selects RX10 yX10_letterAt yX10_letterAt, Cond.code yX10_letterAt cX10_letterAt 2 (some (.object "HeaderLine$Letter")), Cond.fieldLink RX10 88 "HeaderLine" "letterCount" "I", Cond.fieldLink RX10 49 "HeaderLine" "letters" "[LHeaderLine$Letter;", Cond.methodLink RX10 276 yX10_keepLetter, Cond.static yX10_keepLetter, Cond.code yX10_keepLetter cX10_keepLetter 4 (some .int), Cond.fieldLink RX10 178 "HeaderLine$Letter" "bytes" "[I", Cond.fieldLink RX10 366 "HeaderLine$Shelf" "size" "I", Cond.fieldLink RX10 301 "HeaderLine$Shelf" "row" "[J", Cond.methodLink RX10 362 yX8_holdLetter, Cond.instanceMethod yX8_holdLetter, Cond.selects RX8 yX8_holdLetter yX8_holdLetter, Cond.initialized RX8, Cond.code yX8_holdLetter cX8_holdLetter 2 none, Cond.fieldLink RX8 15 "HeaderLine$Shelf" "holds" "I"]
def wsX10_keep_r2 : List Cond := [Cond.fieldLink RX8 19 "HeaderLine$Letter" "kind" "I", Cond.fieldLink RX8 24 "HeaderLine$Shelf" "letterKind" "I", Cond.fieldLink RX8 27 "HeaderLine$Letter" "bytes" "[I", Cond.fieldLink RX8 31 "HeaderLine$Shelf" "letterBytes" "I", Cond.methodLink RX10 287 yX8_holdRow, Cond.instanceMethod yX8_holdRow, Cond.selects RX8 yX8_holdRow yX8_holdRow, Cond.code yX8_holdRow cX8_holdRow 3 none, Cond.methodLink RX8 34 Lib.Math.min.name, Cond.static Lib.Math.min.name, Cond.initialized "java/lang/Math", Cond.code Lib.Math.min.name Lib.Math.min.code 2 (some .int), Cond.methodLink RX8 40 Lib.Math.max.name, Cond.static Lib.Math.max.name, Cond.code Lib.Math.max.name Lib.Math.max.code 2 (some .int), Cond.fieldLink RX8 43 "HeaderLine$Shelf" "size" "I", Cond.fieldLink RX8 9 "HeaderLine$Shelf" "row" "[J", Cond.methodLink RX8 46 yJ7_fill_d0a16, Cond.static yJ7_fill_d0a16, Cond.initialized RJ7, Cond.code yJ7_fill_d0a16 cJ7_fill_d0a16 5 none, Cond.methodLink RX10 280 yX10_keepReferences, Cond.instanceMethod yX10_keepReferences, Cond.selects RX10 yX10_keepReferences yX10_keepReferences]
def wsX10_keep_r3 : List Cond := [Cond.code yX10_keepReferences cX10_keepReferences 5 (some .int), Cond.fieldLink RX10 35 "HeaderLine" "squeezers" "[LHeaderLine$Squeezer;", Cond.fieldLink RX10 260 "HeaderLine$Squeezer" "held" "I", Cond.fieldLink RX10 130 "HeaderLine$Header" "number" "I", Cond.methodLink RX10 109 yX10_isFlow, Cond.static yX10_isFlow, Cond.code yX10_isFlow cX10_isFlow 1 (some .boolean), Cond.methodLink RX10 367 yX9_reference, Cond.instanceMethod yX9_reference, Cond.selects RX9 yX9_reference yX9_reference, Cond.initialized RX9, Cond.code yX9_reference cX9_reference 2 (some (.object "HeaderLine$Header")), Cond.fieldLink RX9 21 "HeaderLine$Squeezer" "ring" "[LHeaderLine$Header;", Cond.fieldLink RX9 32 "HeaderLine$Squeezer" "first" "I", Cond.methodLink RX9 36 yJ9_floorMod_7cf53, Cond.static yJ9_floorMod_7cf53, Cond.initialized RJ9, Cond.code yJ9_floorMod_7cf53 cJ9_floorMod_7cf53 3 (some .int), Cond.methodLink RX10 284 yX10_keepContext, Cond.instanceMethod yX10_keepContext, Cond.selects RX10 yX10_keepContext yX10_keepContext, Cond.code yX10_keepContext cX10_keepContext 4 (some .int), Cond.fieldLink RX10 41 "HeaderLine" "contexts" "[LHeaderLine$Context;", Cond.fieldLink RX10 164 "HeaderLine$Context" "isThere" "Z"]
def wsX10_keep_r4 : List Cond := [Cond.fieldLink RX10 22 "HeaderLine" "plan" "LHeaderLine$Plan;", Cond.fieldLink RX10 85 "HeaderLine$Plan" "size" "I", Cond.fieldLink RX10 167 "HeaderLine$Context" "header" "LHeaderLine$Header;", Cond.fieldLink RX10 101 "HeaderLine$Header" "values" "[J"]
def wsX10_keep : List Cond := .code yX10_keep cX10_keep 5 (some .int) :: ((wsX10_keep_r1 ++ (wsX10_keep_r2 ++ (wsX10_keep_r3 ++ wsX10_keep_r4))) ++ wsX100 ++ wsX80 ++ wsX40 ++ wsX90 ++ wsX30 ++ wsX10 ++ wsX60)
def wsX10_make : List Cond := .code yX10_make cX10_make 4 (some .int) :: ([.fieldLink RX10 55 "HeaderLine" "shelves" "[LHeaderLine$Shelf;", .methodLink RX10 270 yX10_isShelf, .static yX10_isShelf, .initialized RX10, .code yX10_isShelf cX10_isShelf 1 (some .boolean), .methodLink RX10 287 yX8_holdRow, .instanceMethod yX8_holdRow, .selects RX8 yX8_holdRow yX8_holdRow, .initialized RX8, .code yX8_holdRow cX8_holdRow 3 none, .fieldLink RX8 15 "HeaderLine$Shelf" "holds" "I", .methodLink RX8 34 Lib.Math.min.name, .static Lib.Math.min.name, .initialized "java/lang/Math", .code Lib.Math.min.name Lib.Math.min.code 2 (some .int), .methodLink RX8 40 Lib.Math.max.name, .static Lib.Math.max.name, .code Lib.Math.max.name Lib.Math.max.code 2 (some .int), .fieldLink RX8 43 "HeaderLine$Shelf" "size" "I", .fieldLink RX8 9 "HeaderLine$Shelf" "row" "[J", .methodLink RX8 46 yJ7_fill_d0a16, .static yJ7_fill_d0a16, .initialized RJ7, .code yJ7_fill_d0a16 cJ7_fill_d0a16 5 none] ++ wsX100 ++ wsX80)
def wsX10_put : List Cond := .code yX10_put cX10_put 7 (some .long) :: ([.constantLong RX10 99 (-1), .fieldLink RX10 55 "HeaderLine" "shelves" "[LHeaderLine$Shelf;", .fieldLink RX10 273 "HeaderLine$Shelf" "holds" "I", .constantLong RX10 291 (-11), .constantLong RX10 293 (-12), .constantLong RX10 299 (-13), .fieldLink RX10 301 "HeaderLine$Shelf" "row" "[J", .methodLink RX10 270 yX10_isShelf, .static yX10_isShelf, .initialized RX10, .code yX10_isShelf cX10_isShelf 1 (some .boolean), .methodLink RX10 295 yX8_hasPlaces, .instanceMethod yX8_hasPlaces, .selects RX8 yX8_hasPlaces yX8_hasPlaces, .initialized RX8, .code yX8_hasPlaces cX8_hasPlaces 3 (some .boolean), .fieldLink RX8 43 "HeaderLine$Shelf" "size" "I"] ++ wsX100 ++ wsX80)
def wsX10_copy : List Cond := .code yX10_copy cX10_copy 8 (some .int) :: ([.fieldLink RX10 55 "HeaderLine" "shelves" "[LHeaderLine$Shelf;", .fieldLink RX10 273 "HeaderLine$Shelf" "holds" "I", .fieldLink RX10 301 "HeaderLine$Shelf" "row" "[J", .methodLink RX10 304 arraycopyName, .native arraycopyName, .static arraycopyName, .initialized "java/lang/System", .methodLink RX10 270 yX10_isShelf, .static yX10_isShelf, .initialized RX10, .code yX10_isShelf cX10_isShelf 1 (some .boolean), .methodLink RX10 295 yX8_hasPlaces, .instanceMethod yX8_hasPlaces, .selects RX8 yX8_hasPlaces yX8_hasPlaces, .initialized RX8, .code yX8_hasPlaces cX8_hasPlaces 3 (some .boolean), .fieldLink RX8 43 "HeaderLine$Shelf" "size" "I"] ++ wsX100 ++ wsX80)
def wsX10_refusalOfLetterOn : List Cond := .code yX10_refusalOfLetterOn cX10_refusalOfLetterOn 2 (some .int) :: ([.fieldLink RX10 55 "HeaderLine" "shelves" "[LHeaderLine$Shelf;", .fieldLink RX10 273 "HeaderLine$Shelf" "holds" "I", .methodLink RX10 270 yX10_isShelf, .static yX10_isShelf, .initialized RX10, .code yX10_isShelf cX10_isShelf 1 (some .boolean)] ++ wsX100 ++ wsX80)
def wsX10_worth : List Cond := .code yX10_worth cX10_worth 5 (some .int) :: ([.fieldLink RX10 55 "HeaderLine" "shelves" "[LHeaderLine$Shelf;", .fieldLink RX10 314 "HeaderLine$Shelf" "letterKind" "I", .fieldLink RX10 317 "HeaderLine$Shelf" "letterBytes" "I", .methodLink RX10 310 yX10_refusalOfLetterOn, .instanceMethod yX10_refusalOfLetterOn, .selects RX10 yX10_refusalOfLetterOn yX10_refusalOfLetterOn, .initialized RX10, .code yX10_refusalOfLetterOn cX10_refusalOfLetterOn 2 (some .int), .fieldLink RX10 273 "HeaderLine$Shelf" "holds" "I", .methodLink RX10 270 yX10_isShelf, .static yX10_isShelf, .code yX10_isShelf cX10_isShelf 1 (some .boolean)] ++ wsX100 ++ wsX80)
def wsX10_toss : List Cond := .code yX10_toss cX10_toss 4 (some .int) :: ([.fieldLink RX10 55 "HeaderLine" "shelves" "[LHeaderLine$Shelf;", .fieldLink RX10 314 "HeaderLine$Shelf" "letterKind" "I", .methodLink RX10 310 yX10_refusalOfLetterOn, .instanceMethod yX10_refusalOfLetterOn, .selects RX10 yX10_refusalOfLetterOn yX10_refusalOfLetterOn, .initialized RX10, .code yX10_refusalOfLetterOn cX10_refusalOfLetterOn 2 (some .int), .fieldLink RX10 273 "HeaderLine$Shelf" "holds" "I", .methodLink RX10 270 yX10_isShelf, .static yX10_isShelf, .code yX10_isShelf cX10_isShelf 1 (some .boolean)] ++ wsX100 ++ wsX80)
def wsX10_count : List Cond := .code yX10_count cX10_count 2 (some .int) :: ([.fieldLink RX10 22 "HeaderLine" "plan" "LHeaderLine$Plan;", .fieldLink RX10 85 "HeaderLine$Plan" "size" "I", .fieldLink RX10 88 "HeaderLine" "letterCount" "I", .fieldLink RX10 15 "HeaderLine" "window" "I", .fieldLink RX10 191 "HeaderLine" "lostCount" "I"] ++ wsX100 ++ wsX60)
def wsX11_init_r1 : List Cond := [Cond.methodLink RX11 1 objectInit, Cond.instanceMethod objectInit, Cond.code objectInit ⟨#[0xb1]⟩ 1 none, Cond.arrayClass .int, Cond.fieldLink RX11 7 "HeaderLineModel" "kind" "[I", Cond.fieldLink RX11 13 "HeaderLineModel" "width" "[I", Cond.fieldLink RX11 16 "HeaderLineModel" "tied" "[I", Cond.arrayClass .long, Cond.fieldLink RX11 19 "HeaderLineModel" "extra" "[J", Cond.fieldLink RX11 23 "HeaderLineModel" "draft" "[J", Cond.fieldLink RX11 26 "HeaderLineModel" "told" "[I", Cond.fieldLink RX11 29 "HeaderLineModel" "round" "[I", Cond.fieldLink RX11 32 "HeaderLineModel" "stride" "[I", Cond.arrayClass .boolean, Cond.fieldLink RX11 35 "HeaderLineModel" "owes" "[Z", Cond.fieldLink RX11 39 "HeaderLineModel" "references" "[I", Cond.fieldLink RX11 42 "HeaderLineModel" "number" "[I", Cond.fieldLink RX11 45 "HeaderLineModel" "header" "[J", Cond.fieldLink RX11 48 "HeaderLineModel" "bytes" "[I", Cond.fieldLink RX11 51 "HeaderLineModel" "row" "[I", Cond.fieldLink RX11 54 "HeaderLineModel" "letterKind" "[I", Cond.fieldLink RX11 57 "HeaderLineModel" "letterFlow" "[I", Cond.fieldLink RX11 60 "HeaderLineModel" "letterNumber" "[I", Cond.fieldLink RX11 63 "HeaderLineModel" "bits" "[I"]
def wsX11_init_r2 : List Cond := [Cond.fieldLink RX11 66 "HeaderLineModel" "outcome" "[I", Cond.fieldLink RX11 69 "HeaderLineModel" "lost" "[Z", Cond.fieldLink RX11 72 "HeaderLineModel" "copied" "[Z", Cond.fieldLink RX11 75 "HeaderLineModel" "proven" "[I", Cond.fieldLink RX11 78 "HeaderLineModel" "against" "[I", Cond.fieldLink RX11 81 "HeaderLineModel" "hangs" "[I", Cond.fieldLink RX11 84 "HeaderLineModel" "oldest" "[I", Cond.fieldLink RX11 87 "HeaderLineModel" "has" "[Z", Cond.fieldLink RX11 90 "HeaderLineModel" "contextNumber" "[I", Cond.fieldLink RX11 93 "HeaderLineModel" "contextRound" "[I", Cond.fieldLink RX11 96 "HeaderLineModel" "contextStride" "[I", Cond.fieldLink RX11 99 "HeaderLineModel" "context" "[J", Cond.fieldLink RX11 102 "HeaderLineModel" "got" "[J", Cond.fieldLink RX11 105 "HeaderLineModel" "way" "[I", Cond.fieldLink RX11 108 "HeaderLineModel" "bit" "[I", Cond.fieldLink RX11 111 "HeaderLineModel" "stands" "[I", Cond.fieldLink RX11 114 "HeaderLineModel" "by" "[I", Cond.fieldLink RX11 117 "HeaderLineModel" "value" "[J", Cond.fieldLink RX11 120 "HeaderLineModel" "steps" "[I", Cond.fieldLink RX11 123 "HeaderLineModel" "next" "[J", Cond.fieldLink RX11 126 "HeaderLineModel" "held" "[I", Cond.fieldLink RX11 129 "HeaderLineModel" "heldSize" "[I", Cond.fieldLink RX11 132 "HeaderLineModel" "heldKind" "[I", Cond.fieldLink RX11 135 "HeaderLineModel" "heldRow" "[J"]
def wsX11_init_r3 : List Cond := [Cond.fieldLink RX11 138 "HeaderLineModel" "between" "[J", Cond.fieldLink RX11 141 "HeaderLineModel" "window" "I"]
def wsX11_init : List Cond := .code yX11_init cX11_init 3 none :: ((wsX11_init_r1 ++ (wsX11_init_r2 ++ wsX11_init_r3)) ++ wsX110)
def wsX11_isIn : List Cond := .code yX11_isIn cX11_isIn 6 (some .boolean) :: ([])
def wsX11_isField : List Cond := .code yX11_isField cX11_isField 2 (some .boolean) :: ([.fieldLink RX11 148 "HeaderLineModel" "fields" "I"] ++ wsX110)
def wsX11_isFlow : List Cond := .code yX11_isFlow cX11_isFlow 1 (some .boolean) :: ([])
def wsX11_cut : List Cond := .code yX11_cut cX11_cut 4 (some .long) :: ([.fieldLink RX11 13 "HeaderLineModel" "width" "[I"] ++ wsX110)
def wsX11_runs : List Cond := .code yX11_runs cX11_runs 2 (some .boolean) :: ([.fieldLink RX11 7 "HeaderLineModel" "kind" "[I"] ++ wsX110)
def wsX11_field : List Cond := .code yX11_field cX11_field 6 (some .int) :: ([.fieldLink RX11 145 "HeaderLineModel" "thrown" "I", .constantLong RX11 151 (4), .constantLong RX11 157 (32), .constantLong RX11 163 (1000), .fieldLink RX11 148 "HeaderLineModel" "fields" "I", .fieldLink RX11 165 "HeaderLineModel" "closed" "Z", .fieldLink RX11 7 "HeaderLineModel" "kind" "[I", .fieldLink RX11 13 "HeaderLineModel" "width" "[I", .fieldLink RX11 16 "HeaderLineModel" "tied" "[I", .fieldLink RX11 19 "HeaderLineModel" "extra" "[J", .fieldLink RX11 23 "HeaderLineModel" "draft" "[J", .methodLink RX11 153 yX11_isIn, .static yX11_isIn, .initialized RX11, .code yX11_isIn cX11_isIn 6 (some .boolean), .methodLink RX11 159 yX11_isField, .instanceMethod yX11_isField, .selects RX11 yX11_isField yX11_isField, .code yX11_isField cX11_isField 2 (some .boolean)] ++ wsX110)
def wsX11_set : List Cond := .code yX11_set cX11_set 6 (some .long) :: ([.fieldLink RX11 145 "HeaderLineModel" "thrown" "I", .constantLong RX11 169 (-1), .fieldLink RX11 23 "HeaderLineModel" "draft" "[J", .methodLink RX11 159 yX11_isField, .instanceMethod yX11_isField, .selects RX11 yX11_isField yX11_isField, .initialized RX11, .code yX11_isField cX11_isField 2 (some .boolean), .fieldLink RX11 148 "HeaderLineModel" "fields" "I", .methodLink RX11 171 yX11_cut, .instanceMethod yX11_cut, .selects RX11 yX11_cut yX11_cut, .code yX11_cut cX11_cut 4 (some .long), .fieldLink RX11 13 "HeaderLineModel" "width" "[I"] ++ wsX110)
def wsX11_stride : List Cond := .code yX11_stride cX11_stride 5 (some .int) :: ([.fieldLink RX11 145 "HeaderLineModel" "thrown" "I", .constantLong RX11 181 (255), .fieldLink RX11 32 "HeaderLineModel" "stride" "[I", .fieldLink RX11 35 "HeaderLineModel" "owes" "[Z", .methodLink RX11 175 yX11_isFlow, .static yX11_isFlow, .initialized RX11, .code yX11_isFlow cX11_isFlow 1 (some .boolean), .methodLink RX11 159 yX11_isField, .instanceMethod yX11_isField, .selects RX11 yX11_isField yX11_isField, .code yX11_isField cX11_isField 2 (some .boolean), .fieldLink RX11 148 "HeaderLineModel" "fields" "I", .methodLink RX11 178 yX11_runs, .instanceMethod yX11_runs, .selects RX11 yX11_runs yX11_runs, .code yX11_runs cX11_runs 2 (some .boolean), .fieldLink RX11 7 "HeaderLineModel" "kind" "[I", .methodLink RX11 153 yX11_isIn, .static yX11_isIn, .code yX11_isIn cX11_isIn 6 (some .boolean)] ++ wsX110)
def wsX11_onwards : List Cond := .code yX11_onwards cX11_onwards 6 (some .long) :: ([.fieldLink RX11 7 "HeaderLineModel" "kind" "[I", .fieldLink RX11 19 "HeaderLineModel" "extra" "[J", .methodLink RX11 171 yX11_cut, .instanceMethod yX11_cut, .selects RX11 yX11_cut yX11_cut, .initialized RX11, .code yX11_cut cX11_cut 4 (some .long), .fieldLink RX11 13 "HeaderLineModel" "width" "[I"] ++ wsX110)
def wsX11_given : List Cond := .code yX11_given cX11_given 6 (some .long) :: ([.fieldLink RX11 7 "HeaderLineModel" "kind" "[I", .fieldLink RX11 23 "HeaderLineModel" "draft" "[J", .fieldLink RX11 16 "HeaderLineModel" "tied" "[I", .fieldLink RX11 19 "HeaderLineModel" "extra" "[J", .fieldLink RX11 45 "HeaderLineModel" "header" "[J", .fieldLink RX11 42 "HeaderLineModel" "number" "[I", .fieldLink RX11 32 "HeaderLineModel" "stride" "[I", .methodLink RX11 171 yX11_cut, .instanceMethod yX11_cut, .selects RX11 yX11_cut yX11_cut, .initialized RX11, .code yX11_cut cX11_cut 4 (some .long), .fieldLink RX11 13 "HeaderLineModel" "width" "[I", .methodLink RX11 183 yX11_onwards, .instanceMethod yX11_onwards, .selects RX11 yX11_onwards yX11_onwards, .code yX11_onwards cX11_onwards 6 (some .long)] ++ wsX110)
def wsX11_finds : List Cond := .code yX11_finds cX11_finds 7 (some .boolean) :: ([.methodLink RX11 171 yX11_cut, .instanceMethod yX11_cut, .selects RX11 yX11_cut yX11_cut, .initialized RX11, .code yX11_cut cX11_cut 4 (some .long), .fieldLink RX11 13 "HeaderLineModel" "width" "[I"] ++ wsX110)
def wsX11_giveAll : List Cond := .code yX11_giveAll cX11_giveAll 6 (some .boolean) :: ([.fieldLink RX11 39 "HeaderLineModel" "references" "[I", .fieldLink RX11 23 "HeaderLineModel" "draft" "[J", .methodLink RX11 187 yX11_given, .instanceMethod yX11_given, .selects RX11 yX11_given yX11_given, .initialized RX11, .code yX11_given cX11_given 6 (some .long), .fieldLink RX11 7 "HeaderLineModel" "kind" "[I", .fieldLink RX11 16 "HeaderLineModel" "tied" "[I", .fieldLink RX11 19 "HeaderLineModel" "extra" "[J", .fieldLink RX11 45 "HeaderLineModel" "header" "[J", .fieldLink RX11 42 "HeaderLineModel" "number" "[I", .fieldLink RX11 32 "HeaderLineModel" "stride" "[I", .methodLink RX11 171 yX11_cut, .instanceMethod yX11_cut, .selects RX11 yX11_cut yX11_cut, .code yX11_cut cX11_cut 4 (some .long), .fieldLink RX11 13 "HeaderLineModel" "width" "[I", .methodLink RX11 183 yX11_onwards, .instanceMethod yX11_onwards, .selects RX11 yX11_onwards yX11_onwards, .code yX11_onwards cX11_onwards 6 (some .long)] ++ wsX110)
def wsX11_serves_r1 : List Cond := [Cond.fieldLink RX11 39 "HeaderLineModel" "references" "[I", Cond.fieldLink RX11 23 "HeaderLineModel" "draft" "[J", Cond.methodLink RX11 187 yX11_given, Cond.instanceMethod yX11_given, Cond.selects RX11 yX11_given yX11_given, Cond.initialized RX11, Cond.code yX11_given cX11_given 6 (some .long), Cond.fieldLink RX11 7 "HeaderLineModel" "kind" "[I", Cond.fieldLink RX11 16 "HeaderLineModel" "tied" "[I", Cond.fieldLink RX11 19 "HeaderLineModel" "extra" "[J", Cond.fieldLink RX11 45 "HeaderLineModel" "header" "[J", Cond.fieldLink RX11 42 "HeaderLineModel" "number" "[I", Cond.fieldLink RX11 32 "HeaderLineModel" "stride" "[I", Cond.methodLink RX11 171 yX11_cut, Cond.instanceMethod yX11_cut, Cond.selects RX11 yX11_cut yX11_cut, Cond.code yX11_cut cX11_cut 4 (some .long), Cond.fieldLink RX11 13 "HeaderLineModel" "width" "[I", Cond.methodLink RX11 183 yX11_onwards, Cond.instanceMethod yX11_onwards, Cond.selects RX11 yX11_onwards yX11_onwards, Cond.code yX11_onwards cX11_onwards 6 (some .long), Cond.methodLink RX11 191 yX11_finds, Cond.instanceMethod yX11_finds]
def wsX11_serves_r2 : List Cond := [Cond.selects RX11 yX11_finds yX11_finds, Cond.code yX11_finds cX11_finds 7 (some .boolean)]
def wsX11_serves : List Cond := .code yX11_serves cX11_serves 7 (some .boolean) :: ((wsX11_serves_r1 ++ wsX11_serves_r2) ++ wsX110)
def wsX11_say : List Cond := .code yX11_say cX11_say 5 none :: ([.fieldLink RX11 108 "HeaderLineModel" "bit" "[I", .fieldLink RX11 195 "HeaderLineModel" "put" "I"] ++ wsX110)
def wsX11_sumOf : List Cond := .code yX11_sumOf cX11_sumOf 5 (some .int) :: ([.constantLong RX11 198 (31), .constantLong RX11 181 (255)])
def wsX11_draftSum : List Cond := .code yX11_draftSum cX11_draftSum 3 (some .int) :: ([.fieldLink RX11 148 "HeaderLineModel" "fields" "I", .fieldLink RX11 23 "HeaderLineModel" "draft" "[J", .methodLink RX11 200 yX11_sumOf, .instanceMethod yX11_sumOf, .selects RX11 yX11_sumOf yX11_sumOf, .initialized RX11, .code yX11_sumOf cX11_sumOf 5 (some .int), .constantLong RX11 198 (31), .constantLong RX11 181 (255)] ++ wsX110)
def wsX11_checkOf : List Cond := .code yX11_checkOf cX11_checkOf 5 (some .int) :: ([.fieldLink RX11 51 "HeaderLineModel" "row" "[I"] ++ wsX110)
def wsX11_laid : List Cond := .code yX11_laid cX11_laid 10 (some .int) :: ([.fieldLink RX11 204 "HeaderLineModel" "letters" "I", .fieldLink RX11 54 "HeaderLineModel" "letterKind" "[I", .fieldLink RX11 57 "HeaderLineModel" "letterFlow" "[I", .fieldLink RX11 60 "HeaderLineModel" "letterNumber" "[I", .constant RX11 207 (65536), .fieldLink RX11 63 "HeaderLineModel" "bits" "[I", .fieldLink RX11 195 "HeaderLineModel" "put" "I", .fieldLink RX11 66 "HeaderLineModel" "outcome" "[I", .fieldLink RX11 69 "HeaderLineModel" "lost" "[Z", .fieldLink RX11 72 "HeaderLineModel" "copied" "[Z", .fieldLink RX11 108 "HeaderLineModel" "bit" "[I", .fieldLink RX11 51 "HeaderLineModel" "row" "[I", .fieldLink RX11 48 "HeaderLineModel" "bytes" "[I", .fieldLink RX11 165 "HeaderLineModel" "closed" "Z", .methodLink RX11 208 yX11_checkOf, .instanceMethod yX11_checkOf, .selects RX11 yX11_checkOf yX11_checkOf, .initialized RX11, .code yX11_checkOf cX11_checkOf 5 (some .int)] ++ wsX110)
def wsX11_head : List Cond := .code yX11_head cX11_head 4 none :: ([.fieldLink RX11 195 "HeaderLineModel" "put" "I", .constant RX11 207 (65536), .methodLink RX11 212 yX11_say, .instanceMethod yX11_say, .selects RX11 yX11_say yX11_say, .initialized RX11, .code yX11_say cX11_say 5 none, .fieldLink RX11 108 "HeaderLineModel" "bit" "[I"] ++ wsX110)
def wsX11_sendWhole_r1 : List Cond := [Cond.fieldLink RX11 29 "HeaderLineModel" "round" "[I", Cond.fieldLink RX11 39 "HeaderLineModel" "references" "[I", Cond.fieldLink RX11 35 "HeaderLineModel" "owes" "[Z", Cond.fieldLink RX11 148 "HeaderLineModel" "fields" "I", Cond.fieldLink RX11 23 "HeaderLineModel" "draft" "[J", Cond.fieldLink RX11 13 "HeaderLineModel" "width" "[I", Cond.fieldLink RX11 32 "HeaderLineModel" "stride" "[I", Cond.methodLink RX11 216 yX11_head, Cond.instanceMethod yX11_head, Cond.selects RX11 yX11_head yX11_head, Cond.initialized RX11, Cond.code yX11_head cX11_head 4 none, Cond.fieldLink RX11 195 "HeaderLineModel" "put" "I", Cond.constant RX11 207 (65536), Cond.methodLink RX11 212 yX11_say, Cond.instanceMethod yX11_say, Cond.selects RX11 yX11_say yX11_say, Cond.code yX11_say cX11_say 5 none, Cond.fieldLink RX11 108 "HeaderLineModel" "bit" "[I", Cond.methodLink RX11 178 yX11_runs, Cond.instanceMethod yX11_runs, Cond.selects RX11 yX11_runs yX11_runs, Cond.code yX11_runs cX11_runs 2 (some .boolean), Cond.fieldLink RX11 7 "HeaderLineModel" "kind" "[I"]
def wsX11_sendWhole_r2 : List Cond := [Cond.methodLink RX11 220 yX11_laid, Cond.instanceMethod yX11_laid, Cond.selects RX11 yX11_laid yX11_laid, Cond.code yX11_laid cX11_laid 10 (some .int), Cond.fieldLink RX11 204 "HeaderLineModel" "letters" "I", Cond.fieldLink RX11 54 "HeaderLineModel" "letterKind" "[I", Cond.fieldLink RX11 57 "HeaderLineModel" "letterFlow" "[I", Cond.fieldLink RX11 60 "HeaderLineModel" "letterNumber" "[I", Cond.fieldLink RX11 63 "HeaderLineModel" "bits" "[I", Cond.fieldLink RX11 66 "HeaderLineModel" "outcome" "[I", Cond.fieldLink RX11 69 "HeaderLineModel" "lost" "[Z", Cond.fieldLink RX11 72 "HeaderLineModel" "copied" "[Z", Cond.fieldLink RX11 51 "HeaderLineModel" "row" "[I", Cond.fieldLink RX11 48 "HeaderLineModel" "bytes" "[I", Cond.fieldLink RX11 165 "HeaderLineModel" "closed" "Z", Cond.methodLink RX11 208 yX11_checkOf, Cond.instanceMethod yX11_checkOf, Cond.selects RX11 yX11_checkOf yX11_checkOf, Cond.code yX11_checkOf cX11_checkOf 5 (some .int)]
def wsX11_sendWhole : List Cond := .code yX11_sendWhole cX11_sendWhole 4 (some .int) :: ((wsX11_sendWhole_r1 ++ wsX11_sendWhole_r2) ++ wsX110)
def wsX11_sendPart_r1 : List Cond := [Cond.fieldLink RX11 29 "HeaderLineModel" "round" "[I", Cond.fieldLink RX11 148 "HeaderLineModel" "fields" "I", Cond.fieldLink RX11 7 "HeaderLineModel" "kind" "[I", Cond.fieldLink RX11 23 "HeaderLineModel" "draft" "[J", Cond.fieldLink RX11 13 "HeaderLineModel" "width" "[I", Cond.methodLink RX11 216 yX11_head, Cond.instanceMethod yX11_head, Cond.selects RX11 yX11_head yX11_head, Cond.initialized RX11, Cond.code yX11_head cX11_head 4 none, Cond.fieldLink RX11 195 "HeaderLineModel" "put" "I", Cond.constant RX11 207 (65536), Cond.methodLink RX11 212 yX11_say, Cond.instanceMethod yX11_say, Cond.selects RX11 yX11_say yX11_say, Cond.code yX11_say cX11_say 5 none, Cond.fieldLink RX11 108 "HeaderLineModel" "bit" "[I", Cond.methodLink RX11 224 yX11_giveAll, Cond.instanceMethod yX11_giveAll, Cond.selects RX11 yX11_giveAll yX11_giveAll, Cond.code yX11_giveAll cX11_giveAll 6 (some .boolean), Cond.fieldLink RX11 39 "HeaderLineModel" "references" "[I", Cond.methodLink RX11 187 yX11_given, Cond.instanceMethod yX11_given]
def wsX11_sendPart_r2 : List Cond := [Cond.selects RX11 yX11_given yX11_given, Cond.code yX11_given cX11_given 6 (some .long), Cond.fieldLink RX11 16 "HeaderLineModel" "tied" "[I", Cond.fieldLink RX11 19 "HeaderLineModel" "extra" "[J", Cond.fieldLink RX11 45 "HeaderLineModel" "header" "[J", Cond.fieldLink RX11 42 "HeaderLineModel" "number" "[I", Cond.fieldLink RX11 32 "HeaderLineModel" "stride" "[I", Cond.methodLink RX11 171 yX11_cut, Cond.instanceMethod yX11_cut, Cond.selects RX11 yX11_cut yX11_cut, Cond.code yX11_cut cX11_cut 4 (some .long), Cond.methodLink RX11 183 yX11_onwards, Cond.instanceMethod yX11_onwards, Cond.selects RX11 yX11_onwards yX11_onwards, Cond.code yX11_onwards cX11_onwards 6 (some .long), Cond.methodLink RX11 228 yX11_draftSum, Cond.instanceMethod yX11_draftSum, Cond.selects RX11 yX11_draftSum yX11_draftSum, Cond.code yX11_draftSum cX11_draftSum 3 (some .int), Cond.methodLink RX11 200 yX11_sumOf, Cond.instanceMethod yX11_sumOf, Cond.selects RX11 yX11_sumOf yX11_sumOf, Cond.code yX11_sumOf cX11_sumOf 5 (some .int), Cond.constantLong RX11 198 (31)]
def wsX11_sendPart_r3 : List Cond := [Cond.constantLong RX11 181 (255), Cond.methodLink RX11 220 yX11_laid, Cond.instanceMethod yX11_laid, Cond.selects RX11 yX11_laid yX11_laid, Cond.code yX11_laid cX11_laid 10 (some .int), Cond.fieldLink RX11 204 "HeaderLineModel" "letters" "I", Cond.fieldLink RX11 54 "HeaderLineModel" "letterKind" "[I", Cond.fieldLink RX11 57 "HeaderLineModel" "letterFlow" "[I", Cond.fieldLink RX11 60 "HeaderLineModel" "letterNumber" "[I", Cond.fieldLink RX11 63 "HeaderLineModel" "bits" "[I", Cond.fieldLink RX11 66 "HeaderLineModel" "outcome" "[I", Cond.fieldLink RX11 69 "HeaderLineModel" "lost" "[Z", Cond.fieldLink RX11 72 "HeaderLineModel" "copied" "[Z", Cond.fieldLink RX11 51 "HeaderLineModel" "row" "[I", Cond.fieldLink RX11 48 "HeaderLineModel" "bytes" "[I", Cond.fieldLink RX11 165 "HeaderLineModel" "closed" "Z", Cond.methodLink RX11 208 yX11_checkOf, Cond.instanceMethod yX11_checkOf, Cond.selects RX11 yX11_checkOf yX11_checkOf, Cond.code yX11_checkOf cX11_checkOf 5 (some .int)]
def wsX11_sendPart : List Cond := .code yX11_sendPart cX11_sendPart 5 (some .int) :: ((wsX11_sendPart_r1 ++ (wsX11_sendPart_r2 ++ wsX11_sendPart_r3)) ++ wsX110)
def wsX11_fails_r1 : List Cond := [Cond.fieldLink RX11 39 "HeaderLineModel" "references" "[I", Cond.fieldLink RX11 23 "HeaderLineModel" "draft" "[J", Cond.fieldLink RX11 42 "HeaderLineModel" "number" "[I", Cond.methodLink RX11 187 yX11_given, Cond.instanceMethod yX11_given, Cond.selects RX11 yX11_given yX11_given, Cond.initialized RX11, Cond.code yX11_given cX11_given 6 (some .long), Cond.fieldLink RX11 7 "HeaderLineModel" "kind" "[I", Cond.fieldLink RX11 16 "HeaderLineModel" "tied" "[I", Cond.fieldLink RX11 19 "HeaderLineModel" "extra" "[J", Cond.fieldLink RX11 45 "HeaderLineModel" "header" "[J", Cond.fieldLink RX11 32 "HeaderLineModel" "stride" "[I", Cond.methodLink RX11 171 yX11_cut, Cond.instanceMethod yX11_cut, Cond.selects RX11 yX11_cut yX11_cut, Cond.code yX11_cut cX11_cut 4 (some .long), Cond.fieldLink RX11 13 "HeaderLineModel" "width" "[I", Cond.methodLink RX11 183 yX11_onwards, Cond.instanceMethod yX11_onwards, Cond.selects RX11 yX11_onwards yX11_onwards, Cond.code yX11_onwards cX11_onwards 6 (some .long), Cond.methodLink RX11 191 yX11_finds, Cond.instanceMethod yX11_finds]
def wsX11_fails_r2 : List Cond := [Cond.selects RX11 yX11_finds yX11_finds, Cond.code yX11_finds cX11_finds 7 (some .boolean)]
def wsX11_fails : List Cond := .code yX11_fails cX11_fails 7 (some .int) :: ((wsX11_fails_r1 ++ wsX11_fails_r2) ++ wsX110)
def wsX11_sendShort_r1 : List Cond := [Cond.fieldLink RX11 29 "HeaderLineModel" "round" "[I", Cond.fieldLink RX11 148 "HeaderLineModel" "fields" "I", Cond.fieldLink RX11 23 "HeaderLineModel" "draft" "[J", Cond.fieldLink RX11 75 "HeaderLineModel" "proven" "[I", Cond.fieldLink RX11 204 "HeaderLineModel" "letters" "I", Cond.fieldLink RX11 78 "HeaderLineModel" "against" "[I", Cond.fieldLink RX11 7 "HeaderLineModel" "kind" "[I", Cond.fieldLink RX11 13 "HeaderLineModel" "width" "[I", Cond.fieldLink RX11 81 "HeaderLineModel" "hangs" "[I", Cond.fieldLink RX11 39 "HeaderLineModel" "references" "[I", Cond.fieldLink RX11 84 "HeaderLineModel" "oldest" "[I", Cond.fieldLink RX11 42 "HeaderLineModel" "number" "[I", Cond.methodLink RX11 216 yX11_head, Cond.instanceMethod yX11_head, Cond.selects RX11 yX11_head yX11_head, Cond.initialized RX11, Cond.code yX11_head cX11_head 4 none, Cond.fieldLink RX11 195 "HeaderLineModel" "put" "I", Cond.constant RX11 207 (65536), Cond.methodLink RX11 212 yX11_say, Cond.instanceMethod yX11_say, Cond.selects RX11 yX11_say yX11_say, Cond.code yX11_say cX11_say 5 none, Cond.fieldLink RX11 108 "HeaderLineModel" "bit" "[I"]
def wsX11_sendShort_r2 : List Cond := [Cond.methodLink RX11 178 yX11_runs, Cond.instanceMethod yX11_runs, Cond.selects RX11 yX11_runs yX11_runs, Cond.code yX11_runs cX11_runs 2 (some .boolean), Cond.methodLink RX11 232 yX11_serves, Cond.instanceMethod yX11_serves, Cond.selects RX11 yX11_serves yX11_serves, Cond.code yX11_serves cX11_serves 7 (some .boolean), Cond.methodLink RX11 187 yX11_given, Cond.instanceMethod yX11_given, Cond.selects RX11 yX11_given yX11_given, Cond.code yX11_given cX11_given 6 (some .long), Cond.fieldLink RX11 16 "HeaderLineModel" "tied" "[I", Cond.fieldLink RX11 19 "HeaderLineModel" "extra" "[J", Cond.fieldLink RX11 45 "HeaderLineModel" "header" "[J", Cond.fieldLink RX11 32 "HeaderLineModel" "stride" "[I", Cond.methodLink RX11 171 yX11_cut, Cond.instanceMethod yX11_cut, Cond.selects RX11 yX11_cut yX11_cut, Cond.code yX11_cut cX11_cut 4 (some .long), Cond.methodLink RX11 183 yX11_onwards, Cond.instanceMethod yX11_onwards, Cond.selects RX11 yX11_onwards yX11_onwards, Cond.code yX11_onwards cX11_onwards 6 (some .long)]
def wsX11_sendShort_r3 : List Cond := [Cond.methodLink RX11 191 yX11_finds, Cond.instanceMethod yX11_finds, Cond.selects RX11 yX11_finds yX11_finds, Cond.code yX11_finds cX11_finds 7 (some .boolean), Cond.methodLink RX11 236 yX11_fails, Cond.instanceMethod yX11_fails, Cond.selects RX11 yX11_fails yX11_fails, Cond.code yX11_fails cX11_fails 7 (some .int), Cond.methodLink RX11 228 yX11_draftSum, Cond.instanceMethod yX11_draftSum, Cond.selects RX11 yX11_draftSum yX11_draftSum, Cond.code yX11_draftSum cX11_draftSum 3 (some .int), Cond.methodLink RX11 200 yX11_sumOf, Cond.instanceMethod yX11_sumOf, Cond.selects RX11 yX11_sumOf yX11_sumOf, Cond.code yX11_sumOf cX11_sumOf 5 (some .int), Cond.constantLong RX11 198 (31), Cond.constantLong RX11 181 (255), Cond.methodLink RX11 220 yX11_laid, Cond.instanceMethod yX11_laid, Cond.selects RX11 yX11_laid yX11_laid, Cond.code yX11_laid cX11_laid 10 (some .int), Cond.fieldLink RX11 54 "HeaderLineModel" "letterKind" "[I", Cond.fieldLink RX11 57 "HeaderLineModel" "letterFlow" "[I"]
def wsX11_sendShort_r4 : List Cond := [Cond.fieldLink RX11 60 "HeaderLineModel" "letterNumber" "[I", Cond.fieldLink RX11 63 "HeaderLineModel" "bits" "[I", Cond.fieldLink RX11 66 "HeaderLineModel" "outcome" "[I", Cond.fieldLink RX11 69 "HeaderLineModel" "lost" "[Z", Cond.fieldLink RX11 72 "HeaderLineModel" "copied" "[Z", Cond.fieldLink RX11 51 "HeaderLineModel" "row" "[I", Cond.fieldLink RX11 48 "HeaderLineModel" "bytes" "[I", Cond.fieldLink RX11 165 "HeaderLineModel" "closed" "Z", Cond.methodLink RX11 208 yX11_checkOf, Cond.instanceMethod yX11_checkOf, Cond.selects RX11 yX11_checkOf yX11_checkOf, Cond.code yX11_checkOf cX11_checkOf 5 (some .int)]
def wsX11_sendShort : List Cond := .code yX11_sendShort cX11_sendShort 5 (some .int) :: ((wsX11_sendShort_r1 ++ (wsX11_sendShort_r2 ++ (wsX11_sendShort_r3 ++ wsX11_sendShort_r4))) ++ wsX110)
def wsX11_drop : List Cond := .code yX11_drop cX11_drop 6 none :: ([.fieldLink RX11 39 "HeaderLineModel" "references" "[I", .fieldLink RX11 42 "HeaderLineModel" "number" "[I", .fieldLink RX11 148 "HeaderLineModel" "fields" "I", .fieldLink RX11 45 "HeaderLineModel" "header" "[J"] ++ wsX110)
def wsX11_refer : List Cond := .code yX11_refer cX11_refer 5 none :: ([.fieldLink RX11 39 "HeaderLineModel" "references" "[I", .fieldLink RX11 42 "HeaderLineModel" "number" "[I", .fieldLink RX11 148 "HeaderLineModel" "fields" "I", .fieldLink RX11 45 "HeaderLineModel" "header" "[J", .fieldLink RX11 23 "HeaderLineModel" "draft" "[J", .fieldLink RX11 141 "HeaderLineModel" "window" "I", .methodLink RX11 253 yX11_drop, .instanceMethod yX11_drop, .selects RX11 yX11_drop yX11_drop, .initialized RX11, .code yX11_drop cX11_drop 6 none] ++ wsX110)
def wsX11_send_r1 : List Cond := [Cond.fieldLink RX11 145 "HeaderLineModel" "thrown" "I", Cond.fieldLink RX11 204 "HeaderLineModel" "letters" "I", Cond.fieldLink RX11 148 "HeaderLineModel" "fields" "I", Cond.fieldLink RX11 26 "HeaderLineModel" "told" "[I", Cond.fieldLink RX11 7 "HeaderLineModel" "kind" "[I", Cond.fieldLink RX11 35 "HeaderLineModel" "owes" "[Z", Cond.fieldLink RX11 39 "HeaderLineModel" "references" "[I", Cond.methodLink RX11 175 yX11_isFlow, Cond.static yX11_isFlow, Cond.initialized RX11, Cond.code yX11_isFlow cX11_isFlow 1 (some .boolean), Cond.methodLink RX11 224 yX11_giveAll, Cond.instanceMethod yX11_giveAll, Cond.selects RX11 yX11_giveAll yX11_giveAll, Cond.code yX11_giveAll cX11_giveAll 6 (some .boolean), Cond.fieldLink RX11 23 "HeaderLineModel" "draft" "[J", Cond.methodLink RX11 187 yX11_given, Cond.instanceMethod yX11_given, Cond.selects RX11 yX11_given yX11_given, Cond.code yX11_given cX11_given 6 (some .long), Cond.fieldLink RX11 16 "HeaderLineModel" "tied" "[I", Cond.fieldLink RX11 19 "HeaderLineModel" "extra" "[J", Cond.fieldLink RX11 45 "HeaderLineModel" "header" "[J", Cond.fieldLink RX11 42 "HeaderLineModel" "number" "[I"]
def wsX11_send_r2 : List Cond := [Cond.fieldLink RX11 32 "HeaderLineModel" "stride" "[I", Cond.methodLink RX11 171 yX11_cut, Cond.instanceMethod yX11_cut, Cond.selects RX11 yX11_cut yX11_cut, Cond.code yX11_cut cX11_cut 4 (some .long), Cond.fieldLink RX11 13 "HeaderLineModel" "width" "[I", Cond.methodLink RX11 183 yX11_onwards, Cond.instanceMethod yX11_onwards, Cond.selects RX11 yX11_onwards yX11_onwards, Cond.code yX11_onwards cX11_onwards 6 (some .long), Cond.methodLink RX11 240 yX11_sendWhole, Cond.instanceMethod yX11_sendWhole, Cond.selects RX11 yX11_sendWhole yX11_sendWhole, Cond.code yX11_sendWhole cX11_sendWhole 4 (some .int), Cond.fieldLink RX11 29 "HeaderLineModel" "round" "[I", Cond.methodLink RX11 216 yX11_head, Cond.instanceMethod yX11_head, Cond.selects RX11 yX11_head yX11_head, Cond.code yX11_head cX11_head 4 none, Cond.fieldLink RX11 195 "HeaderLineModel" "put" "I", Cond.constant RX11 207 (65536), Cond.methodLink RX11 212 yX11_say, Cond.instanceMethod yX11_say, Cond.selects RX11 yX11_say yX11_say]
def wsX11_send_r3 : List Cond := [Cond.code yX11_say cX11_say 5 none, Cond.fieldLink RX11 108 "HeaderLineModel" "bit" "[I", Cond.methodLink RX11 178 yX11_runs, Cond.instanceMethod yX11_runs, Cond.selects RX11 yX11_runs yX11_runs, Cond.code yX11_runs cX11_runs 2 (some .boolean), Cond.methodLink RX11 220 yX11_laid, Cond.instanceMethod yX11_laid, Cond.selects RX11 yX11_laid yX11_laid, Cond.code yX11_laid cX11_laid 10 (some .int), Cond.fieldLink RX11 54 "HeaderLineModel" "letterKind" "[I", Cond.fieldLink RX11 57 "HeaderLineModel" "letterFlow" "[I", Cond.fieldLink RX11 60 "HeaderLineModel" "letterNumber" "[I", Cond.fieldLink RX11 63 "HeaderLineModel" "bits" "[I", Cond.fieldLink RX11 66 "HeaderLineModel" "outcome" "[I", Cond.fieldLink RX11 69 "HeaderLineModel" "lost" "[Z", Cond.fieldLink RX11 72 "HeaderLineModel" "copied" "[Z", Cond.fieldLink RX11 51 "HeaderLineModel" "row" "[I", Cond.fieldLink RX11 48 "HeaderLineModel" "bytes" "[I", Cond.fieldLink RX11 165 "HeaderLineModel" "closed" "Z", Cond.methodLink RX11 208 yX11_checkOf, Cond.instanceMethod yX11_checkOf, Cond.selects RX11 yX11_checkOf yX11_checkOf, Cond.code yX11_checkOf cX11_checkOf 5 (some .int)]
def wsX11_send_r4 : List Cond := [Cond.methodLink RX11 243 yX11_sendShort, Cond.instanceMethod yX11_sendShort, Cond.selects RX11 yX11_sendShort yX11_sendShort, Cond.code yX11_sendShort cX11_sendShort 5 (some .int), Cond.fieldLink RX11 75 "HeaderLineModel" "proven" "[I", Cond.fieldLink RX11 78 "HeaderLineModel" "against" "[I", Cond.fieldLink RX11 81 "HeaderLineModel" "hangs" "[I", Cond.fieldLink RX11 84 "HeaderLineModel" "oldest" "[I", Cond.methodLink RX11 232 yX11_serves, Cond.instanceMethod yX11_serves, Cond.selects RX11 yX11_serves yX11_serves, Cond.code yX11_serves cX11_serves 7 (some .boolean), Cond.methodLink RX11 191 yX11_finds, Cond.instanceMethod yX11_finds, Cond.selects RX11 yX11_finds yX11_finds, Cond.code yX11_finds cX11_finds 7 (some .boolean), Cond.methodLink RX11 236 yX11_fails, Cond.instanceMethod yX11_fails, Cond.selects RX11 yX11_fails yX11_fails, Cond.code yX11_fails cX11_fails 7 (some .int), Cond.methodLink RX11 228 yX11_draftSum, Cond.instanceMethod yX11_draftSum, Cond.selects RX11 yX11_draftSum yX11_draftSum, Cond.code yX11_draftSum cX11_draftSum 3 (some .int)]
def wsX11_send_r5 : List Cond := [Cond.methodLink RX11 200 yX11_sumOf, Cond.instanceMethod yX11_sumOf, Cond.selects RX11 yX11_sumOf yX11_sumOf, Cond.code yX11_sumOf cX11_sumOf 5 (some .int), Cond.constantLong RX11 198 (31), Cond.constantLong RX11 181 (255), Cond.methodLink RX11 246 yX11_sendPart, Cond.instanceMethod yX11_sendPart, Cond.selects RX11 yX11_sendPart yX11_sendPart, Cond.code yX11_sendPart cX11_sendPart 5 (some .int), Cond.methodLink RX11 249 yX11_refer, Cond.instanceMethod yX11_refer, Cond.selects RX11 yX11_refer yX11_refer, Cond.code yX11_refer cX11_refer 5 none, Cond.fieldLink RX11 141 "HeaderLineModel" "window" "I", Cond.methodLink RX11 253 yX11_drop, Cond.instanceMethod yX11_drop, Cond.selects RX11 yX11_drop yX11_drop, Cond.code yX11_drop cX11_drop 6 none]
def wsX11_send : List Cond := .code yX11_send cX11_send 7 (some .int) :: ((wsX11_send_r1 ++ (wsX11_send_r2 ++ (wsX11_send_r3 ++ (wsX11_send_r4 ++ wsX11_send_r5)))) ++ wsX110)
def wsX11_ack_r1 : List Cond := [Cond.fieldLink RX11 145 "HeaderLineModel" "thrown" "I", Cond.fieldLink RX11 204 "HeaderLineModel" "letters" "I", Cond.fieldLink RX11 87 "HeaderLineModel" "has" "[Z", Cond.fieldLink RX11 90 "HeaderLineModel" "contextNumber" "[I", Cond.methodLink RX11 175 yX11_isFlow, Cond.static yX11_isFlow, Cond.initialized RX11, Cond.code yX11_isFlow cX11_isFlow 1 (some .boolean), Cond.methodLink RX11 216 yX11_head, Cond.instanceMethod yX11_head, Cond.selects RX11 yX11_head yX11_head, Cond.code yX11_head cX11_head 4 none, Cond.fieldLink RX11 195 "HeaderLineModel" "put" "I", Cond.constant RX11 207 (65536), Cond.methodLink RX11 212 yX11_say, Cond.instanceMethod yX11_say, Cond.selects RX11 yX11_say yX11_say, Cond.code yX11_say cX11_say 5 none, Cond.fieldLink RX11 108 "HeaderLineModel" "bit" "[I", Cond.methodLink RX11 220 yX11_laid, Cond.instanceMethod yX11_laid, Cond.selects RX11 yX11_laid yX11_laid, Cond.code yX11_laid cX11_laid 10 (some .int), Cond.fieldLink RX11 54 "HeaderLineModel" "letterKind" "[I"]
def wsX11_ack_r2 : List Cond := [Cond.fieldLink RX11 57 "HeaderLineModel" "letterFlow" "[I", Cond.fieldLink RX11 60 "HeaderLineModel" "letterNumber" "[I", Cond.fieldLink RX11 63 "HeaderLineModel" "bits" "[I", Cond.fieldLink RX11 66 "HeaderLineModel" "outcome" "[I", Cond.fieldLink RX11 69 "HeaderLineModel" "lost" "[Z", Cond.fieldLink RX11 72 "HeaderLineModel" "copied" "[Z", Cond.fieldLink RX11 51 "HeaderLineModel" "row" "[I", Cond.fieldLink RX11 48 "HeaderLineModel" "bytes" "[I", Cond.fieldLink RX11 165 "HeaderLineModel" "closed" "Z", Cond.methodLink RX11 208 yX11_checkOf, Cond.instanceMethod yX11_checkOf, Cond.selects RX11 yX11_checkOf yX11_checkOf, Cond.code yX11_checkOf cX11_checkOf 5 (some .int)]
def wsX11_ack : List Cond := .code yX11_ack cX11_ack 2 (some .int) :: ((wsX11_ack_r1 ++ wsX11_ack_r2) ++ wsX110)
def wsX11_nack_r1 : List Cond := [Cond.fieldLink RX11 145 "HeaderLineModel" "thrown" "I", Cond.fieldLink RX11 204 "HeaderLineModel" "letters" "I", Cond.fieldLink RX11 87 "HeaderLineModel" "has" "[Z", Cond.fieldLink RX11 90 "HeaderLineModel" "contextNumber" "[I", Cond.methodLink RX11 175 yX11_isFlow, Cond.static yX11_isFlow, Cond.initialized RX11, Cond.code yX11_isFlow cX11_isFlow 1 (some .boolean), Cond.methodLink RX11 216 yX11_head, Cond.instanceMethod yX11_head, Cond.selects RX11 yX11_head yX11_head, Cond.code yX11_head cX11_head 4 none, Cond.fieldLink RX11 195 "HeaderLineModel" "put" "I", Cond.constant RX11 207 (65536), Cond.methodLink RX11 212 yX11_say, Cond.instanceMethod yX11_say, Cond.selects RX11 yX11_say yX11_say, Cond.code yX11_say cX11_say 5 none, Cond.fieldLink RX11 108 "HeaderLineModel" "bit" "[I", Cond.methodLink RX11 220 yX11_laid, Cond.instanceMethod yX11_laid, Cond.selects RX11 yX11_laid yX11_laid, Cond.code yX11_laid cX11_laid 10 (some .int), Cond.fieldLink RX11 54 "HeaderLineModel" "letterKind" "[I"]
def wsX11_nack_r2 : List Cond := [Cond.fieldLink RX11 57 "HeaderLineModel" "letterFlow" "[I", Cond.fieldLink RX11 60 "HeaderLineModel" "letterNumber" "[I", Cond.fieldLink RX11 63 "HeaderLineModel" "bits" "[I", Cond.fieldLink RX11 66 "HeaderLineModel" "outcome" "[I", Cond.fieldLink RX11 69 "HeaderLineModel" "lost" "[Z", Cond.fieldLink RX11 72 "HeaderLineModel" "copied" "[Z", Cond.fieldLink RX11 51 "HeaderLineModel" "row" "[I", Cond.fieldLink RX11 48 "HeaderLineModel" "bytes" "[I", Cond.fieldLink RX11 165 "HeaderLineModel" "closed" "Z", Cond.methodLink RX11 208 yX11_checkOf, Cond.instanceMethod yX11_checkOf, Cond.selects RX11 yX11_checkOf yX11_checkOf, Cond.code yX11_checkOf cX11_checkOf 5 (some .int)]
def wsX11_nack : List Cond := .code yX11_nack cX11_nack 4 (some .int) :: ((wsX11_nack_r1 ++ wsX11_nack_r2) ++ wsX110)
def wsX11_take : List Cond := .code yX11_take cX11_take 6 (some .long) :: ([.fieldLink RX11 256 "HeaderLineModel" "read" "I", .fieldLink RX11 259 "HeaderLineModel" "end" "I", .fieldLink RX11 262 "HeaderLineModel" "broken" "Z", .constantLong RX11 265 (2), .fieldLink RX11 51 "HeaderLineModel" "row" "[I"] ++ wsX110)
def wsX11_takeEnd : List Cond := .code yX11_takeEnd cX11_takeEnd 4 none :: ([.fieldLink RX11 262 "HeaderLineModel" "broken" "Z", .fieldLink RX11 256 "HeaderLineModel" "read" "I", .fieldLink RX11 48 "HeaderLineModel" "bytes" "[I", .fieldLink RX11 51 "HeaderLineModel" "row" "[I", .methodLink RX11 267 yX11_take, .instanceMethod yX11_take, .selects RX11 yX11_take yX11_take, .initialized RX11, .code yX11_take cX11_take 6 (some .long), .fieldLink RX11 259 "HeaderLineModel" "end" "I", .constantLong RX11 265 (2), .methodLink RX11 208 yX11_checkOf, .instanceMethod yX11_checkOf, .selects RX11 yX11_checkOf yX11_checkOf, .code yX11_checkOf cX11_checkOf 5 (some .int)] ++ wsX110)
def wsX11_takeFields_r1 : List Cond := [Cond.fieldLink RX11 271 "HeaderLineModel" "cameRound" "I", Cond.fieldLink RX11 148 "HeaderLineModel" "fields" "I", Cond.fieldLink RX11 262 "HeaderLineModel" "broken" "Z", Cond.fieldLink RX11 120 "HeaderLineModel" "steps" "[I", Cond.fieldLink RX11 114 "HeaderLineModel" "by" "[I", Cond.fieldLink RX11 7 "HeaderLineModel" "kind" "[I", Cond.fieldLink RX11 111 "HeaderLineModel" "stands" "[I", Cond.fieldLink RX11 13 "HeaderLineModel" "width" "[I", Cond.fieldLink RX11 117 "HeaderLineModel" "value" "[J", Cond.fieldLink RX11 274 "HeaderLineModel" "cameSum" "J", Cond.methodLink RX11 267 yX11_take, Cond.instanceMethod yX11_take, Cond.selects RX11 yX11_take yX11_take, Cond.initialized RX11, Cond.code yX11_take cX11_take 6 (some .long), Cond.fieldLink RX11 256 "HeaderLineModel" "read" "I", Cond.fieldLink RX11 259 "HeaderLineModel" "end" "I", Cond.constantLong RX11 265 (2), Cond.fieldLink RX11 51 "HeaderLineModel" "row" "[I", Cond.methodLink RX11 178 yX11_runs, Cond.instanceMethod yX11_runs, Cond.selects RX11 yX11_runs yX11_runs, Cond.code yX11_runs cX11_runs 2 (some .boolean), Cond.methodLink RX11 278 yX11_takeEnd]
def wsX11_takeFields_r2 : List Cond := [Cond.instanceMethod yX11_takeEnd, Cond.selects RX11 yX11_takeEnd yX11_takeEnd, Cond.code yX11_takeEnd cX11_takeEnd 4 none, Cond.fieldLink RX11 48 "HeaderLineModel" "bytes" "[I", Cond.methodLink RX11 208 yX11_checkOf, Cond.instanceMethod yX11_checkOf, Cond.selects RX11 yX11_checkOf yX11_checkOf, Cond.code yX11_checkOf cX11_checkOf 5 (some .int)]
def wsX11_takeFields : List Cond := .code yX11_takeFields cX11_takeFields 5 none :: ((wsX11_takeFields_r1 ++ wsX11_takeFields_r2) ++ wsX110)
def wsX11_found : List Cond := .code yX11_found cX11_found 11 (some .long) :: ([.methodLink RX11 171 yX11_cut, .instanceMethod yX11_cut, .selects RX11 yX11_cut yX11_cut, .initialized RX11, .code yX11_cut cX11_cut 4 (some .long), .fieldLink RX11 13 "HeaderLineModel" "width" "[I"] ++ wsX110)
def wsX11_open_r1 : List Cond := [Cond.fieldLink RX11 148 "HeaderLineModel" "fields" "I", Cond.fieldLink RX11 7 "HeaderLineModel" "kind" "[I", Cond.fieldLink RX11 123 "HeaderLineModel" "next" "[J", Cond.fieldLink RX11 16 "HeaderLineModel" "tied" "[I", Cond.fieldLink RX11 19 "HeaderLineModel" "extra" "[J", Cond.fieldLink RX11 99 "HeaderLineModel" "context" "[J", Cond.fieldLink RX11 90 "HeaderLineModel" "contextNumber" "[I", Cond.fieldLink RX11 96 "HeaderLineModel" "contextStride" "[I", Cond.fieldLink RX11 111 "HeaderLineModel" "stands" "[I", Cond.fieldLink RX11 117 "HeaderLineModel" "value" "[J", Cond.fieldLink RX11 114 "HeaderLineModel" "by" "[I", Cond.methodLink RX11 171 yX11_cut, Cond.instanceMethod yX11_cut, Cond.selects RX11 yX11_cut yX11_cut, Cond.initialized RX11, Cond.code yX11_cut cX11_cut 4 (some .long), Cond.fieldLink RX11 13 "HeaderLineModel" "width" "[I", Cond.methodLink RX11 183 yX11_onwards, Cond.instanceMethod yX11_onwards, Cond.selects RX11 yX11_onwards yX11_onwards, Cond.code yX11_onwards cX11_onwards 6 (some .long), Cond.methodLink RX11 282 yX11_found, Cond.instanceMethod yX11_found, Cond.selects RX11 yX11_found yX11_found]
def wsX11_open_r2 : List Cond := [Cond.code yX11_found cX11_found 11 (some .long)]
def wsX11_open : List Cond := .code yX11_open cX11_open 6 none :: ((wsX11_open_r1 ++ wsX11_open_r2) ++ wsX110)
def wsX11_isUnlike : List Cond := .code yX11_isUnlike cX11_isUnlike 3 (some .boolean) :: ([.fieldLink RX11 148 "HeaderLineModel" "fields" "I", .fieldLink RX11 123 "HeaderLineModel" "next" "[J", .fieldLink RX11 274 "HeaderLineModel" "cameSum" "J", .methodLink RX11 200 yX11_sumOf, .instanceMethod yX11_sumOf, .selects RX11 yX11_sumOf yX11_sumOf, .initialized RX11, .code yX11_sumOf cX11_sumOf 5 (some .int), .constantLong RX11 198 (31), .constantLong RX11 181 (255)] ++ wsX110)
def wsX11_opened_r1 : List Cond := [Cond.fieldLink RX11 262 "HeaderLineModel" "broken" "Z", Cond.fieldLink RX11 87 "HeaderLineModel" "has" "[Z", Cond.fieldLink RX11 93 "HeaderLineModel" "contextRound" "[I", Cond.fieldLink RX11 271 "HeaderLineModel" "cameRound" "I", Cond.fieldLink RX11 90 "HeaderLineModel" "contextNumber" "[I", Cond.fieldLink RX11 141 "HeaderLineModel" "window" "I", Cond.fieldLink RX11 296 "HeaderLineModel" "gotFrom" "I", Cond.fieldLink RX11 299 "HeaderLineModel" "gotFlow" "I", Cond.fieldLink RX11 302 "HeaderLineModel" "gotNumber" "I", Cond.fieldLink RX11 305 "HeaderLineModel" "gets" "I", Cond.fieldLink RX11 148 "HeaderLineModel" "fields" "I", Cond.fieldLink RX11 102 "HeaderLineModel" "got" "[J", Cond.fieldLink RX11 123 "HeaderLineModel" "next" "[J", Cond.fieldLink RX11 105 "HeaderLineModel" "way" "[I", Cond.fieldLink RX11 111 "HeaderLineModel" "stands" "[I", Cond.fieldLink RX11 99 "HeaderLineModel" "context" "[J", Cond.fieldLink RX11 96 "HeaderLineModel" "contextStride" "[I", Cond.fieldLink RX11 120 "HeaderLineModel" "steps" "[I", Cond.methodLink RX11 286 yX11_takeFields, Cond.instanceMethod yX11_takeFields, Cond.selects RX11 yX11_takeFields yX11_takeFields, Cond.initialized RX11, Cond.code yX11_takeFields cX11_takeFields 5 none, Cond.fieldLink RX11 114 "HeaderLineModel" "by" "[I"]
def wsX11_opened_r2 : List Cond := [Cond.fieldLink RX11 7 "HeaderLineModel" "kind" "[I", Cond.fieldLink RX11 13 "HeaderLineModel" "width" "[I", Cond.fieldLink RX11 117 "HeaderLineModel" "value" "[J", Cond.fieldLink RX11 274 "HeaderLineModel" "cameSum" "J", Cond.methodLink RX11 267 yX11_take, Cond.instanceMethod yX11_take, Cond.selects RX11 yX11_take yX11_take, Cond.code yX11_take cX11_take 6 (some .long), Cond.fieldLink RX11 256 "HeaderLineModel" "read" "I", Cond.fieldLink RX11 259 "HeaderLineModel" "end" "I", Cond.constantLong RX11 265 (2), Cond.fieldLink RX11 51 "HeaderLineModel" "row" "[I", Cond.methodLink RX11 178 yX11_runs, Cond.instanceMethod yX11_runs, Cond.selects RX11 yX11_runs yX11_runs, Cond.code yX11_runs cX11_runs 2 (some .boolean), Cond.methodLink RX11 278 yX11_takeEnd, Cond.instanceMethod yX11_takeEnd, Cond.selects RX11 yX11_takeEnd yX11_takeEnd, Cond.code yX11_takeEnd cX11_takeEnd 4 none, Cond.fieldLink RX11 48 "HeaderLineModel" "bytes" "[I", Cond.methodLink RX11 208 yX11_checkOf, Cond.instanceMethod yX11_checkOf, Cond.selects RX11 yX11_checkOf yX11_checkOf]
def wsX11_opened_r3 : List Cond := [Cond.code yX11_checkOf cX11_checkOf 5 (some .int), Cond.methodLink RX11 289 yX11_open, Cond.instanceMethod yX11_open, Cond.selects RX11 yX11_open yX11_open, Cond.code yX11_open cX11_open 6 none, Cond.fieldLink RX11 16 "HeaderLineModel" "tied" "[I", Cond.fieldLink RX11 19 "HeaderLineModel" "extra" "[J", Cond.methodLink RX11 171 yX11_cut, Cond.instanceMethod yX11_cut, Cond.selects RX11 yX11_cut yX11_cut, Cond.code yX11_cut cX11_cut 4 (some .long), Cond.methodLink RX11 183 yX11_onwards, Cond.instanceMethod yX11_onwards, Cond.selects RX11 yX11_onwards yX11_onwards, Cond.code yX11_onwards cX11_onwards 6 (some .long), Cond.methodLink RX11 282 yX11_found, Cond.instanceMethod yX11_found, Cond.selects RX11 yX11_found yX11_found, Cond.code yX11_found cX11_found 11 (some .long), Cond.methodLink RX11 292 yX11_isUnlike, Cond.instanceMethod yX11_isUnlike, Cond.selects RX11 yX11_isUnlike yX11_isUnlike, Cond.code yX11_isUnlike cX11_isUnlike 3 (some .boolean), Cond.methodLink RX11 200 yX11_sumOf]
def wsX11_opened_r4 : List Cond := [Cond.instanceMethod yX11_sumOf, Cond.selects RX11 yX11_sumOf yX11_sumOf, Cond.code yX11_sumOf cX11_sumOf 5 (some .int), Cond.constantLong RX11 198 (31), Cond.constantLong RX11 181 (255)]
def wsX11_opened : List Cond := .code yX11_opened cX11_opened 6 (some .int) :: ((wsX11_opened_r1 ++ (wsX11_opened_r2 ++ (wsX11_opened_r3 ++ wsX11_opened_r4))) ++ wsX110)
def wsX11_answered_r1 : List Cond := [Cond.fieldLink RX11 262 "HeaderLineModel" "broken" "Z", Cond.fieldLink RX11 35 "HeaderLineModel" "owes" "[Z", Cond.fieldLink RX11 39 "HeaderLineModel" "references" "[I", Cond.fieldLink RX11 42 "HeaderLineModel" "number" "[I", Cond.constant RX11 207 (65536), Cond.methodLink RX11 278 yX11_takeEnd, Cond.instanceMethod yX11_takeEnd, Cond.selects RX11 yX11_takeEnd yX11_takeEnd, Cond.initialized RX11, Cond.code yX11_takeEnd cX11_takeEnd 4 none, Cond.fieldLink RX11 256 "HeaderLineModel" "read" "I", Cond.fieldLink RX11 48 "HeaderLineModel" "bytes" "[I", Cond.fieldLink RX11 51 "HeaderLineModel" "row" "[I", Cond.methodLink RX11 267 yX11_take, Cond.instanceMethod yX11_take, Cond.selects RX11 yX11_take yX11_take, Cond.code yX11_take cX11_take 6 (some .long), Cond.fieldLink RX11 259 "HeaderLineModel" "end" "I", Cond.constantLong RX11 265 (2), Cond.methodLink RX11 208 yX11_checkOf, Cond.instanceMethod yX11_checkOf, Cond.selects RX11 yX11_checkOf yX11_checkOf, Cond.code yX11_checkOf cX11_checkOf 5 (some .int), Cond.methodLink RX11 253 yX11_drop]
def wsX11_answered_r2 : List Cond := [Cond.instanceMethod yX11_drop, Cond.selects RX11 yX11_drop yX11_drop, Cond.code yX11_drop cX11_drop 6 none, Cond.fieldLink RX11 148 "HeaderLineModel" "fields" "I", Cond.fieldLink RX11 45 "HeaderLineModel" "header" "[J"]
def wsX11_answered : List Cond := .code yX11_answered cX11_answered 6 (some .int) :: ((wsX11_answered_r1 ++ wsX11_answered_r2) ++ wsX110)
def wsX11_isUnderWay : List Cond := .code yX11_isUnderWay cX11_isUnderWay 2 (some .boolean) :: ([.fieldLink RX11 204 "HeaderLineModel" "letters" "I", .fieldLink RX11 69 "HeaderLineModel" "lost" "[Z"] ++ wsX110)
def wsX11_deliver_r1 : List Cond := [Cond.fieldLink RX11 145 "HeaderLineModel" "thrown" "I", Cond.fieldLink RX11 256 "HeaderLineModel" "read" "I", Cond.fieldLink RX11 48 "HeaderLineModel" "bytes" "[I", Cond.fieldLink RX11 259 "HeaderLineModel" "end" "I", Cond.fieldLink RX11 262 "HeaderLineModel" "broken" "Z", Cond.fieldLink RX11 66 "HeaderLineModel" "outcome" "[I", Cond.methodLink RX11 308 yX11_isUnderWay, Cond.instanceMethod yX11_isUnderWay, Cond.selects RX11 yX11_isUnderWay yX11_isUnderWay, Cond.initialized RX11, Cond.code yX11_isUnderWay cX11_isUnderWay 2 (some .boolean), Cond.fieldLink RX11 204 "HeaderLineModel" "letters" "I", Cond.fieldLink RX11 69 "HeaderLineModel" "lost" "[Z", Cond.methodLink RX11 267 yX11_take, Cond.instanceMethod yX11_take, Cond.selects RX11 yX11_take yX11_take, Cond.code yX11_take cX11_take 6 (some .long), Cond.constantLong RX11 265 (2), Cond.fieldLink RX11 51 "HeaderLineModel" "row" "[I", Cond.methodLink RX11 311 yX11_answered, Cond.instanceMethod yX11_answered, Cond.selects RX11 yX11_answered yX11_answered, Cond.code yX11_answered cX11_answered 6 (some .int), Cond.fieldLink RX11 35 "HeaderLineModel" "owes" "[Z"]
def wsX11_deliver_r2 : List Cond := [Cond.fieldLink RX11 39 "HeaderLineModel" "references" "[I", Cond.fieldLink RX11 42 "HeaderLineModel" "number" "[I", Cond.constant RX11 207 (65536), Cond.methodLink RX11 278 yX11_takeEnd, Cond.instanceMethod yX11_takeEnd, Cond.selects RX11 yX11_takeEnd yX11_takeEnd, Cond.code yX11_takeEnd cX11_takeEnd 4 none, Cond.methodLink RX11 208 yX11_checkOf, Cond.instanceMethod yX11_checkOf, Cond.selects RX11 yX11_checkOf yX11_checkOf, Cond.code yX11_checkOf cX11_checkOf 5 (some .int), Cond.methodLink RX11 253 yX11_drop, Cond.instanceMethod yX11_drop, Cond.selects RX11 yX11_drop yX11_drop, Cond.code yX11_drop cX11_drop 6 none, Cond.fieldLink RX11 148 "HeaderLineModel" "fields" "I", Cond.fieldLink RX11 45 "HeaderLineModel" "header" "[J", Cond.methodLink RX11 314 yX11_opened, Cond.instanceMethod yX11_opened, Cond.selects RX11 yX11_opened yX11_opened, Cond.code yX11_opened cX11_opened 6 (some .int), Cond.fieldLink RX11 87 "HeaderLineModel" "has" "[Z", Cond.fieldLink RX11 93 "HeaderLineModel" "contextRound" "[I", Cond.fieldLink RX11 271 "HeaderLineModel" "cameRound" "I"]
def wsX11_deliver_r3 : List Cond := [Cond.fieldLink RX11 90 "HeaderLineModel" "contextNumber" "[I", Cond.fieldLink RX11 141 "HeaderLineModel" "window" "I", Cond.fieldLink RX11 296 "HeaderLineModel" "gotFrom" "I", Cond.fieldLink RX11 299 "HeaderLineModel" "gotFlow" "I", Cond.fieldLink RX11 302 "HeaderLineModel" "gotNumber" "I", Cond.fieldLink RX11 305 "HeaderLineModel" "gets" "I", Cond.fieldLink RX11 102 "HeaderLineModel" "got" "[J", Cond.fieldLink RX11 123 "HeaderLineModel" "next" "[J", Cond.fieldLink RX11 105 "HeaderLineModel" "way" "[I", Cond.fieldLink RX11 111 "HeaderLineModel" "stands" "[I", Cond.fieldLink RX11 99 "HeaderLineModel" "context" "[J", Cond.fieldLink RX11 96 "HeaderLineModel" "contextStride" "[I", Cond.fieldLink RX11 120 "HeaderLineModel" "steps" "[I", Cond.methodLink RX11 286 yX11_takeFields, Cond.instanceMethod yX11_takeFields, Cond.selects RX11 yX11_takeFields yX11_takeFields, Cond.code yX11_takeFields cX11_takeFields 5 none, Cond.fieldLink RX11 114 "HeaderLineModel" "by" "[I", Cond.fieldLink RX11 7 "HeaderLineModel" "kind" "[I", Cond.fieldLink RX11 13 "HeaderLineModel" "width" "[I", Cond.fieldLink RX11 117 "HeaderLineModel" "value" "[J", Cond.fieldLink RX11 274 "HeaderLineModel" "cameSum" "J", Cond.methodLink RX11 178 yX11_runs, Cond.instanceMethod yX11_runs]
def wsX11_deliver_r4 : List Cond := [Cond.selects RX11 yX11_runs yX11_runs, Cond.code yX11_runs cX11_runs 2 (some .boolean), Cond.methodLink RX11 289 yX11_open, Cond.instanceMethod yX11_open, Cond.selects RX11 yX11_open yX11_open, Cond.code yX11_open cX11_open 6 none, Cond.fieldLink RX11 16 "HeaderLineModel" "tied" "[I", Cond.fieldLink RX11 19 "HeaderLineModel" "extra" "[J", Cond.methodLink RX11 171 yX11_cut, Cond.instanceMethod yX11_cut, Cond.selects RX11 yX11_cut yX11_cut, Cond.code yX11_cut cX11_cut 4 (some .long), Cond.methodLink RX11 183 yX11_onwards, Cond.instanceMethod yX11_onwards, Cond.selects RX11 yX11_onwards yX11_onwards, Cond.code yX11_onwards cX11_onwards 6 (some .long), Cond.methodLink RX11 282 yX11_found, Cond.instanceMethod yX11_found, Cond.selects RX11 yX11_found yX11_found, Cond.code yX11_found cX11_found 11 (some .long), Cond.methodLink RX11 292 yX11_isUnlike, Cond.instanceMethod yX11_isUnlike, Cond.selects RX11 yX11_isUnlike yX11_isUnlike, Cond.code yX11_isUnlike cX11_isUnlike 3 (some .boolean)]
def wsX11_deliver_r5 : List Cond := [Cond.methodLink RX11 200 yX11_sumOf, Cond.instanceMethod yX11_sumOf, Cond.selects RX11 yX11_sumOf yX11_sumOf, Cond.code yX11_sumOf cX11_sumOf 5 (some .int), Cond.constantLong RX11 198 (31), Cond.constantLong RX11 181 (255)]
def wsX11_deliver : List Cond := .code yX11_deliver cX11_deliver 5 (some .int) :: ((wsX11_deliver_r1 ++ (wsX11_deliver_r2 ++ (wsX11_deliver_r3 ++ (wsX11_deliver_r4 ++ wsX11_deliver_r5)))) ++ wsX110)
def wsX11_lose : List Cond := .code yX11_lose cX11_lose 2 (some .int) :: ([.fieldLink RX11 145 "HeaderLineModel" "thrown" "I", .fieldLink RX11 69 "HeaderLineModel" "lost" "[Z", .methodLink RX11 308 yX11_isUnderWay, .instanceMethod yX11_isUnderWay, .selects RX11 yX11_isUnderWay yX11_isUnderWay, .initialized RX11, .code yX11_isUnderWay cX11_isUnderWay 2 (some .boolean), .fieldLink RX11 204 "HeaderLineModel" "letters" "I"] ++ wsX110)
def wsX11_twice : List Cond := .code yX11_twice cX11_twice 4 (some .int) :: ([.fieldLink RX11 145 "HeaderLineModel" "thrown" "I", .fieldLink RX11 204 "HeaderLineModel" "letters" "I", .fieldLink RX11 54 "HeaderLineModel" "letterKind" "[I", .fieldLink RX11 57 "HeaderLineModel" "letterFlow" "[I", .fieldLink RX11 60 "HeaderLineModel" "letterNumber" "[I", .fieldLink RX11 63 "HeaderLineModel" "bits" "[I", .fieldLink RX11 48 "HeaderLineModel" "bytes" "[I", .fieldLink RX11 66 "HeaderLineModel" "outcome" "[I", .fieldLink RX11 69 "HeaderLineModel" "lost" "[Z", .fieldLink RX11 72 "HeaderLineModel" "copied" "[Z", .fieldLink RX11 51 "HeaderLineModel" "row" "[I", .methodLink RX11 308 yX11_isUnderWay, .instanceMethod yX11_isUnderWay, .selects RX11 yX11_isUnderWay yX11_isUnderWay, .initialized RX11, .code yX11_isUnderWay cX11_isUnderWay 2 (some .boolean)] ++ wsX110)
def wsX11_bend : List Cond := .code yX11_bend cX11_bend 4 (some .int) :: ([.fieldLink RX11 145 "HeaderLineModel" "thrown" "I", .fieldLink RX11 48 "HeaderLineModel" "bytes" "[I", .constantLong RX11 181 (255), .fieldLink RX11 51 "HeaderLineModel" "row" "[I", .methodLink RX11 308 yX11_isUnderWay, .instanceMethod yX11_isUnderWay, .selects RX11 yX11_isUnderWay yX11_isUnderWay, .initialized RX11, .code yX11_isUnderWay cX11_isUnderWay 2 (some .boolean), .fieldLink RX11 204 "HeaderLineModel" "letters" "I", .fieldLink RX11 69 "HeaderLineModel" "lost" "[Z", .methodLink RX11 153 yX11_isIn, .static yX11_isIn, .code yX11_isIn cX11_isIn 6 (some .boolean)] ++ wsX110)
def wsX11_octet : List Cond := .code yX11_octet cX11_octet 3 (some .int) :: ([.fieldLink RX11 145 "HeaderLineModel" "thrown" "I", .fieldLink RX11 204 "HeaderLineModel" "letters" "I", .fieldLink RX11 48 "HeaderLineModel" "bytes" "[I", .fieldLink RX11 51 "HeaderLineModel" "row" "[I"] ++ wsX110)
def wsX11_look : List Cond := .code yX11_look cX11_look 3 (some .int) :: ([.fieldLink RX11 145 "HeaderLineModel" "thrown" "I", .fieldLink RX11 204 "HeaderLineModel" "letters" "I", .fieldLink RX11 54 "HeaderLineModel" "letterKind" "[I", .fieldLink RX11 57 "HeaderLineModel" "letterFlow" "[I", .fieldLink RX11 60 "HeaderLineModel" "letterNumber" "[I", .fieldLink RX11 48 "HeaderLineModel" "bytes" "[I", .fieldLink RX11 63 "HeaderLineModel" "bits" "[I", .fieldLink RX11 66 "HeaderLineModel" "outcome" "[I", .fieldLink RX11 69 "HeaderLineModel" "lost" "[Z"] ++ wsX110)
def wsX11_prove : List Cond := .code yX11_prove cX11_prove 4 (some .int) :: ([.fieldLink RX11 145 "HeaderLineModel" "thrown" "I", .fieldLink RX11 204 "HeaderLineModel" "letters" "I", .fieldLink RX11 72 "HeaderLineModel" "copied" "[Z", .fieldLink RX11 54 "HeaderLineModel" "letterKind" "[I", .constantLong RX11 317 (3), .fieldLink RX11 75 "HeaderLineModel" "proven" "[I", .fieldLink RX11 78 "HeaderLineModel" "against" "[I", .fieldLink RX11 81 "HeaderLineModel" "hangs" "[I", .fieldLink RX11 84 "HeaderLineModel" "oldest" "[I", .methodLink RX11 159 yX11_isField, .instanceMethod yX11_isField, .selects RX11 yX11_isField yX11_isField, .initialized RX11, .code yX11_isField cX11_isField 2 (some .boolean), .fieldLink RX11 148 "HeaderLineModel" "fields" "I", .methodLink RX11 178 yX11_runs, .instanceMethod yX11_runs, .selects RX11 yX11_runs yX11_runs, .code yX11_runs cX11_runs 2 (some .boolean), .fieldLink RX11 7 "HeaderLineModel" "kind" "[I", .methodLink RX11 153 yX11_isIn, .static yX11_isIn, .code yX11_isIn cX11_isIn 6 (some .boolean)] ++ wsX110)
def wsX11_got : List Cond := .code yX11_got cX11_got 2 (some .long) :: ([.fieldLink RX11 145 "HeaderLineModel" "thrown" "I", .constantLong RX11 169 (-1), .fieldLink RX11 305 "HeaderLineModel" "gets" "I", .constantLong RX11 319 (-2), .fieldLink RX11 102 "HeaderLineModel" "got" "[J", .methodLink RX11 159 yX11_isField, .instanceMethod yX11_isField, .selects RX11 yX11_isField yX11_isField, .initialized RX11, .code yX11_isField cX11_isField 2 (some .boolean), .fieldLink RX11 148 "HeaderLineModel" "fields" "I"] ++ wsX110)
def wsX11_way : List Cond := .code yX11_way cX11_way 2 (some .int) :: ([.fieldLink RX11 145 "HeaderLineModel" "thrown" "I", .fieldLink RX11 305 "HeaderLineModel" "gets" "I", .fieldLink RX11 105 "HeaderLineModel" "way" "[I", .methodLink RX11 159 yX11_isField, .instanceMethod yX11_isField, .selects RX11 yX11_isField yX11_isField, .initialized RX11, .code yX11_isField cX11_isField 2 (some .boolean), .fieldLink RX11 148 "HeaderLineModel" "fields" "I"] ++ wsX110)
def wsX11_hung : List Cond := .code yX11_hung cX11_hung 2 (some .int) :: ([.fieldLink RX11 145 "HeaderLineModel" "thrown" "I", .constantLong RX11 317 (3), .fieldLink RX11 305 "HeaderLineModel" "gets" "I", .fieldLink RX11 299 "HeaderLineModel" "gotFlow" "I", .fieldLink RX11 302 "HeaderLineModel" "gotNumber" "I", .fieldLink RX11 296 "HeaderLineModel" "gotFrom" "I", .methodLink RX11 153 yX11_isIn, .static yX11_isIn, .initialized RX11, .code yX11_isIn cX11_isIn 6 (some .boolean)] ++ wsX110)
def wsX11_context : List Cond := .code yX11_context cX11_context 3 (some .int) :: ([.fieldLink RX11 145 "HeaderLineModel" "thrown" "I", .constantLong RX11 265 (2), .fieldLink RX11 87 "HeaderLineModel" "has" "[Z", .fieldLink RX11 90 "HeaderLineModel" "contextNumber" "[I", .fieldLink RX11 93 "HeaderLineModel" "contextRound" "[I", .methodLink RX11 175 yX11_isFlow, .static yX11_isFlow, .initialized RX11, .code yX11_isFlow cX11_isFlow 1 (some .boolean), .methodLink RX11 153 yX11_isIn, .static yX11_isIn, .code yX11_isIn cX11_isIn 6 (some .boolean)] ++ wsX110)
def wsX11_known : List Cond := .code yX11_known cX11_known 4 (some .long) :: ([.fieldLink RX11 145 "HeaderLineModel" "thrown" "I", .constantLong RX11 169 (-1), .fieldLink RX11 87 "HeaderLineModel" "has" "[Z", .constantLong RX11 319 (-2), .fieldLink RX11 96 "HeaderLineModel" "contextStride" "[I", .fieldLink RX11 99 "HeaderLineModel" "context" "[J", .methodLink RX11 175 yX11_isFlow, .static yX11_isFlow, .initialized RX11, .code yX11_isFlow cX11_isFlow 1 (some .boolean), .methodLink RX11 159 yX11_isField, .instanceMethod yX11_isField, .selects RX11 yX11_isField yX11_isField, .code yX11_isField cX11_isField 2 (some .boolean), .fieldLink RX11 148 "HeaderLineModel" "fields" "I"] ++ wsX110)
def wsX11_squeezer : List Cond := .code yX11_squeezer cX11_squeezer 3 (some .int) :: ([.fieldLink RX11 145 "HeaderLineModel" "thrown" "I", .constantLong RX11 151 (4), .fieldLink RX11 26 "HeaderLineModel" "told" "[I", .fieldLink RX11 29 "HeaderLineModel" "round" "[I", .fieldLink RX11 39 "HeaderLineModel" "references" "[I", .fieldLink RX11 42 "HeaderLineModel" "number" "[I", .fieldLink RX11 35 "HeaderLineModel" "owes" "[Z", .methodLink RX11 175 yX11_isFlow, .static yX11_isFlow, .initialized RX11, .code yX11_isFlow cX11_isFlow 1 (some .boolean), .methodLink RX11 153 yX11_isIn, .static yX11_isIn, .code yX11_isIn cX11_isIn 6 (some .boolean)] ++ wsX110)
def wsX11_forget : List Cond := .code yX11_forget cX11_forget 4 (some .int) :: ([.fieldLink RX11 145 "HeaderLineModel" "thrown" "I", .fieldLink RX11 87 "HeaderLineModel" "has" "[Z", .fieldLink RX11 39 "HeaderLineModel" "references" "[I", .fieldLink RX11 35 "HeaderLineModel" "owes" "[Z", .methodLink RX11 175 yX11_isFlow, .static yX11_isFlow, .initialized RX11, .code yX11_isFlow cX11_isFlow 1 (some .boolean), .methodLink RX11 153 yX11_isIn, .static yX11_isIn, .code yX11_isIn cX11_isIn 6 (some .boolean)] ++ wsX110)
def wsX11_wholeBits : List Cond := .code yX11_wholeBits cX11_wholeBits 3 (some .int) :: ([.fieldLink RX11 148 "HeaderLineModel" "fields" "I", .fieldLink RX11 13 "HeaderLineModel" "width" "[I", .methodLink RX11 178 yX11_runs, .instanceMethod yX11_runs, .selects RX11 yX11_runs yX11_runs, .initialized RX11, .code yX11_runs cX11_runs 2 (some .boolean), .fieldLink RX11 7 "HeaderLineModel" "kind" "[I"] ++ wsX110)
def wsX11_spent_r1 : List Cond := [Cond.fieldLink RX11 145 "HeaderLineModel" "thrown" "I", Cond.constantLong RX11 321 (5), Cond.constantLong RX11 265 (2), Cond.constantLong RX11 169 (-1), Cond.fieldLink RX11 204 "HeaderLineModel" "letters" "I", Cond.fieldLink RX11 72 "HeaderLineModel" "copied" "[Z", Cond.fieldLink RX11 57 "HeaderLineModel" "letterFlow" "[I", Cond.fieldLink RX11 54 "HeaderLineModel" "letterKind" "[I", Cond.fieldLink RX11 63 "HeaderLineModel" "bits" "[I", Cond.methodLink RX11 175 yX11_isFlow, Cond.static yX11_isFlow, Cond.initialized RX11, Cond.code yX11_isFlow cX11_isFlow 1 (some .boolean), Cond.methodLink RX11 153 yX11_isIn, Cond.static yX11_isIn, Cond.code yX11_isIn cX11_isIn 6 (some .boolean), Cond.methodLink RX11 323 yX11_wholeBits, Cond.instanceMethod yX11_wholeBits, Cond.selects RX11 yX11_wholeBits yX11_wholeBits, Cond.code yX11_wholeBits cX11_wholeBits 3 (some .int), Cond.fieldLink RX11 148 "HeaderLineModel" "fields" "I", Cond.fieldLink RX11 13 "HeaderLineModel" "width" "[I", Cond.methodLink RX11 178 yX11_runs, Cond.instanceMethod yX11_runs]
def wsX11_spent_r2 : List Cond := [Cond.selects RX11 yX11_runs yX11_runs, Cond.code yX11_runs cX11_runs 2 (some .boolean), Cond.fieldLink RX11 7 "HeaderLineModel" "kind" "[I"]
def wsX11_spent : List Cond := .code yX11_spent cX11_spent 7 (some .long) :: ((wsX11_spent_r1 ++ wsX11_spent_r2) ++ wsX110)
def wsX11_isShelf : List Cond := .code yX11_isShelf cX11_isShelf 1 (some .boolean) :: ([])
def wsX11_canKeep : List Cond := .code yX11_canKeep cX11_canKeep 3 (some .boolean) :: ([.fieldLink RX11 204 "HeaderLineModel" "letters" "I", .fieldLink RX11 87 "HeaderLineModel" "has" "[Z", .methodLink RX11 175 yX11_isFlow, .static yX11_isFlow, .initialized RX11, .code yX11_isFlow cX11_isFlow 1 (some .boolean)] ++ wsX110)
def wsX11_keep_r1 : List Cond := [Cond.fieldLink RX11 145 "HeaderLineModel" "thrown" "I", Cond.constantLong RX11 151 (4), Cond.fieldLink RX11 126 "HeaderLineModel" "held" "[I", Cond.fieldLink RX11 129 "HeaderLineModel" "heldSize" "[I", Cond.fieldLink RX11 48 "HeaderLineModel" "bytes" "[I", Cond.fieldLink RX11 39 "HeaderLineModel" "references" "[I", Cond.fieldLink RX11 148 "HeaderLineModel" "fields" "I", Cond.fieldLink RX11 132 "HeaderLineModel" "heldKind" "[I", Cond.fieldLink RX11 54 "HeaderLineModel" "letterKind" "[I", Cond.fieldLink RX11 135 "HeaderLineModel" "heldRow" "[J", Cond.fieldLink RX11 51 "HeaderLineModel" "row" "[I", Cond.fieldLink RX11 42 "HeaderLineModel" "number" "[I", Cond.fieldLink RX11 99 "HeaderLineModel" "context" "[J", Cond.methodLink RX11 326 yX11_isShelf, Cond.static yX11_isShelf, Cond.initialized RX11, Cond.code yX11_isShelf cX11_isShelf 1 (some .boolean), Cond.methodLink RX11 153 yX11_isIn, Cond.static yX11_isIn, Cond.code yX11_isIn cX11_isIn 6 (some .boolean), Cond.methodLink RX11 329 yX11_canKeep, Cond.instanceMethod yX11_canKeep, Cond.selects RX11 yX11_canKeep yX11_canKeep, Cond.code yX11_canKeep cX11_canKeep 3 (some .boolean)]
def wsX11_keep_r2 : List Cond := [Cond.fieldLink RX11 204 "HeaderLineModel" "letters" "I", Cond.fieldLink RX11 87 "HeaderLineModel" "has" "[Z", Cond.methodLink RX11 175 yX11_isFlow, Cond.static yX11_isFlow, Cond.code yX11_isFlow cX11_isFlow 1 (some .boolean)]
def wsX11_keep : List Cond := .code yX11_keep cX11_keep 5 (some .int) :: ((wsX11_keep_r1 ++ wsX11_keep_r2) ++ wsX110)
def wsX11_make : List Cond := .code yX11_make cX11_make 5 (some .int) :: ([.fieldLink RX11 145 "HeaderLineModel" "thrown" "I", .constantLong RX11 265 (2), .constantLong RX11 151 (4), .fieldLink RX11 126 "HeaderLineModel" "held" "[I", .fieldLink RX11 129 "HeaderLineModel" "heldSize" "[I", .fieldLink RX11 135 "HeaderLineModel" "heldRow" "[J", .methodLink RX11 326 yX11_isShelf, .static yX11_isShelf, .initialized RX11, .code yX11_isShelf cX11_isShelf 1 (some .boolean), .methodLink RX11 153 yX11_isIn, .static yX11_isIn, .code yX11_isIn cX11_isIn 6 (some .boolean)] ++ wsX110)
def wsX11_put : List Cond := .code yX11_put cX11_put 6 (some .long) :: ([.fieldLink RX11 145 "HeaderLineModel" "thrown" "I", .constantLong RX11 333 (30000), .constantLong RX11 169 (-1), .fieldLink RX11 126 "HeaderLineModel" "held" "[I", .constantLong RX11 335 (-11), .constantLong RX11 337 (-12), .fieldLink RX11 129 "HeaderLineModel" "heldSize" "[I", .constantLong RX11 339 (-13), .fieldLink RX11 135 "HeaderLineModel" "heldRow" "[J", .methodLink RX11 326 yX11_isShelf, .static yX11_isShelf, .initialized RX11, .code yX11_isShelf cX11_isShelf 1 (some .boolean), .methodLink RX11 153 yX11_isIn, .static yX11_isIn, .code yX11_isIn cX11_isIn 6 (some .boolean)] ++ wsX110)
def wsX11_hasPlaces : List Cond := .code yX11_hasPlaces cX11_hasPlaces 4 (some .boolean) :: ([.fieldLink RX11 129 "HeaderLineModel" "heldSize" "[I"] ++ wsX110)
def wsX11_copy : List Cond := .code yX11_copy cX11_copy 7 (some .int) :: ([.fieldLink RX11 145 "HeaderLineModel" "thrown" "I", .fieldLink RX11 126 "HeaderLineModel" "held" "[I", .fieldLink RX11 138 "HeaderLineModel" "between" "[J", .fieldLink RX11 135 "HeaderLineModel" "heldRow" "[J", .methodLink RX11 326 yX11_isShelf, .static yX11_isShelf, .initialized RX11, .code yX11_isShelf cX11_isShelf 1 (some .boolean), .methodLink RX11 341 yX11_hasPlaces, .instanceMethod yX11_hasPlaces, .selects RX11 yX11_hasPlaces yX11_hasPlaces, .code yX11_hasPlaces cX11_hasPlaces 4 (some .boolean), .fieldLink RX11 129 "HeaderLineModel" "heldSize" "[I"] ++ wsX110)
def wsX11_denied : List Cond := .code yX11_denied cX11_denied 2 (some .int) :: ([.fieldLink RX11 126 "HeaderLineModel" "held" "[I", .methodLink RX11 326 yX11_isShelf, .static yX11_isShelf, .initialized RX11, .code yX11_isShelf cX11_isShelf 1 (some .boolean)] ++ wsX110)
def wsX11_worth : List Cond := .code yX11_worth cX11_worth 5 (some .int) :: ([.fieldLink RX11 145 "HeaderLineModel" "thrown" "I", .fieldLink RX11 132 "HeaderLineModel" "heldKind" "[I", .fieldLink RX11 129 "HeaderLineModel" "heldSize" "[I", .methodLink RX11 344 yX11_denied, .instanceMethod yX11_denied, .selects RX11 yX11_denied yX11_denied, .initialized RX11, .code yX11_denied cX11_denied 2 (some .int), .fieldLink RX11 126 "HeaderLineModel" "held" "[I", .methodLink RX11 326 yX11_isShelf, .static yX11_isShelf, .code yX11_isShelf cX11_isShelf 1 (some .boolean)] ++ wsX110)
def wsX11_toss : List Cond := .code yX11_toss cX11_toss 3 (some .int) :: ([.fieldLink RX11 145 "HeaderLineModel" "thrown" "I", .fieldLink RX11 132 "HeaderLineModel" "heldKind" "[I", .methodLink RX11 344 yX11_denied, .instanceMethod yX11_denied, .selects RX11 yX11_denied yX11_denied, .initialized RX11, .code yX11_denied cX11_denied 2 (some .int), .fieldLink RX11 126 "HeaderLineModel" "held" "[I", .methodLink RX11 326 yX11_isShelf, .static yX11_isShelf, .code yX11_isShelf cX11_isShelf 1 (some .boolean)] ++ wsX110)
def wsX11_count : List Cond := .code yX11_count cX11_count 4 (some .int) :: ([.fieldLink RX11 145 "HeaderLineModel" "thrown" "I", .fieldLink RX11 204 "HeaderLineModel" "letters" "I", .fieldLink RX11 69 "HeaderLineModel" "lost" "[Z", .fieldLink RX11 148 "HeaderLineModel" "fields" "I", .fieldLink RX11 141 "HeaderLineModel" "window" "I"] ++ wsX110)
def wsJ9_max_7cf53 : List Cond := .code yJ9_max_7cf53 cJ9_max_7cf53 2 (some .int) :: ([])
def wsJ9_min_7cf53 : List Cond := .code yJ9_min_7cf53 cJ9_min_7cf53 2 (some .int) :: ([])
def wsL_cell : List Cond := .code yL_cell cL_cell 2 (some .int) :: ([])
def wsL_law_r1 : List Cond := [Cond.classLink RL 7 RX10, Cond.instantiable RX10 12, Cond.initialized RX10, Cond.classLink RL 18 RX11, Cond.instantiable RX11 58, Cond.initialized RX11, Cond.constantLong RL 26 (4294967295), Cond.methodLink RL 9 yL_cell, Cond.static yL_cell, Cond.initialized RL, Cond.code yL_cell cL_cell 2 (some .int), Cond.methodLink RL 15 yX10_init, Cond.instanceMethod yX10_init, Cond.code yX10_init cX10_init 3 none, Cond.methodLink RX10 1 objectInit, Cond.instanceMethod objectInit, Cond.code objectInit ⟨#[0xb1]⟩ 1 none, Cond.fieldLink RX10 15 "HeaderLine" "window" "I", Cond.classLink RX10 19 RX6, Cond.instantiable RX6 5, Cond.initialized RX6, Cond.fieldLink RX10 22 "HeaderLine" "plan" "LHeaderLine$Plan;", Cond.classLink RX10 26 RX3, Cond.instantiable RX3 2]
def wsL_law_r2 : List Cond := [Cond.initialized RX3, Cond.fieldLink RX10 29 "HeaderLine" "draft" "LHeaderLine$Header;", Cond.classLink RX10 33 RX9, Cond.fieldLink RX10 35 "HeaderLine" "squeezers" "[LHeaderLine$Squeezer;", Cond.classLink RX10 39 RX1, Cond.fieldLink RX10 41 "HeaderLine" "contexts" "[LHeaderLine$Context;", Cond.instantiable RX9 7, Cond.initialized RX9, Cond.instantiable RX1 4, Cond.initialized RX1, Cond.classLink RX10 47 RX4, Cond.fieldLink RX10 49 "HeaderLine" "letters" "[LHeaderLine$Letter;", Cond.classLink RX10 53 RX8, Cond.fieldLink RX10 55 "HeaderLine" "shelves" "[LHeaderLine$Shelf;", Cond.instantiable RX8 5, Cond.initialized RX8, Cond.classLink RX10 60 RX5, Cond.instantiable RX5 2, Cond.initialized RX5, Cond.fieldLink RX10 63 "HeaderLine" "pen" "LHeaderLine$Pen;", Cond.classLink RX10 67 RX0, Cond.instantiable RX0 12, Cond.initialized RX0, Cond.fieldLink RX10 70 "HeaderLine" "arrival" "LHeaderLine$Arrival;"]
def wsL_law_r3 : List Cond := [Cond.classLink RX10 74 RX2, Cond.instantiable RX2 5, Cond.initialized RX2, Cond.fieldLink RX10 77 "HeaderLine" "latest" "LHeaderLine$Got;", Cond.methodLink RX10 9 yJ9_floorMod_7cf53, Cond.static yJ9_floorMod_7cf53, Cond.initialized RJ9, Cond.code yJ9_floorMod_7cf53 cJ9_floorMod_7cf53 3 (some .int), Cond.instanceMethod yX6_init, Cond.code yX6_init cX6_init 1 none, Cond.methodLink RX6 3 objectInit, Cond.arrayClass .int, Cond.fieldLink RX6 9 "HeaderLine$Plan" "kinds" "[I", Cond.fieldLink RX6 15 "HeaderLine$Plan" "widths" "[I", Cond.fieldLink RX6 18 "HeaderLine$Plan" "ties" "[I", Cond.fieldLink RX6 21 "HeaderLine$Plan" "extras" "[I", Cond.instanceMethod yX3_init, Cond.code yX3_init cX3_init 1 none, Cond.methodLink RX3 3 objectInit, Cond.arrayClass .long, Cond.fieldLink RX3 9 "HeaderLine$Header" "values" "[J", Cond.methodLink RX10 45 yX9_init, Cond.instanceMethod yX9_init, Cond.code yX9_init cX9_init 2 none]
def wsL_law_r4 : List Cond := [Cond.methodLink RX9 3 objectInit, Cond.fieldLink RX9 9 "HeaderLine$Squeezer" "strides" "[I", Cond.fieldLink RX9 15 "HeaderLine$Squeezer" "owes" "Z", Cond.classLink RX9 19 RX3, Cond.fieldLink RX9 21 "HeaderLine$Squeezer" "ring" "[LHeaderLine$Header;", Cond.methodLink RX9 25 yJ7_fill_53178, Cond.static yJ7_fill_53178, Cond.initialized RJ7, Cond.code yJ7_fill_53178 cJ7_fill_53178 4 none, Cond.instanceMethod yX1_init, Cond.code yX1_init cX1_init 1 none, Cond.methodLink RX1 3 objectInit, Cond.classLink RX1 9 RX3, Cond.fieldLink RX1 12 "HeaderLine$Context" "header" "LHeaderLine$Header;", Cond.fieldLink RX1 18 "HeaderLine$Context" "strides" "[I", Cond.instanceMethod yX8_init, Cond.code yX8_init cX8_init 1 none, Cond.methodLink RX8 3 objectInit, Cond.fieldLink RX8 9 "HeaderLine$Shelf" "row" "[J", Cond.instanceMethod yX5_init, Cond.code yX5_init cX5_init 1 none, Cond.methodLink RX5 3 objectInit, Cond.fieldLink RX5 9 "HeaderLine$Pen" "bytes" "[I", Cond.instanceMethod yX0_init]
def wsL_law_r5 : List Cond := [Cond.code yX0_init cX0_init 1 none, Cond.methodLink RX0 3 objectInit, Cond.classLink RX0 9 RX3, Cond.fieldLink RX0 12 "HeaderLine$Arrival" "header" "LHeaderLine$Header;", Cond.fieldLink RX0 18 "HeaderLine$Arrival" "strides" "[I", Cond.fieldLink RX0 22 "HeaderLine$Arrival" "ways" "[I", Cond.fieldLink RX0 25 "HeaderLine$Arrival" "lengths" "[I", Cond.fieldLink RX0 28 "HeaderLine$Arrival" "told" "[J", Cond.fieldLink RX0 32 "HeaderLine$Arrival" "bytes" "[I", Cond.instanceMethod yX2_init, Cond.code yX2_init cX2_init 1 none, Cond.methodLink RX2 3 objectInit, Cond.classLink RX2 9 RX3, Cond.fieldLink RX2 12 "HeaderLine$Got" "header" "LHeaderLine$Header;", Cond.fieldLink RX2 18 "HeaderLine$Got" "ways" "[I", Cond.methodLink RL 20 yX11_init, Cond.instanceMethod yX11_init, Cond.code yX11_init cX11_init 3 none, Cond.methodLink RX11 1 objectInit, Cond.fieldLink RX11 7 "HeaderLineModel" "kind" "[I", Cond.fieldLink RX11 13 "HeaderLineModel" "width" "[I", Cond.fieldLink RX11 16 "HeaderLineModel" "tied" "[I", Cond.fieldLink RX11 19 "HeaderLineModel" "extra" "[J", Cond.fieldLink RX11 23 "HeaderLineModel" "draft" "[J"]
def wsL_law_r6 : List Cond := [Cond.fieldLink RX11 26 "HeaderLineModel" "told" "[I", Cond.fieldLink RX11 29 "HeaderLineModel" "round" "[I", Cond.fieldLink RX11 32 "HeaderLineModel" "stride" "[I", Cond.arrayClass .boolean, Cond.fieldLink RX11 35 "HeaderLineModel" "owes" "[Z", Cond.fieldLink RX11 39 "HeaderLineModel" "references" "[I", Cond.fieldLink RX11 42 "HeaderLineModel" "number" "[I", Cond.fieldLink RX11 45 "HeaderLineModel" "header" "[J", Cond.fieldLink RX11 48 "HeaderLineModel" "bytes" "[I", Cond.fieldLink RX11 51 "HeaderLineModel" "row" "[I", Cond.fieldLink RX11 54 "HeaderLineModel" "letterKind" "[I", Cond.fieldLink RX11 57 "HeaderLineModel" "letterFlow" "[I", Cond.fieldLink RX11 60 "HeaderLineModel" "letterNumber" "[I", Cond.fieldLink RX11 63 "HeaderLineModel" "bits" "[I", Cond.fieldLink RX11 66 "HeaderLineModel" "outcome" "[I", Cond.fieldLink RX11 69 "HeaderLineModel" "lost" "[Z", Cond.fieldLink RX11 72 "HeaderLineModel" "copied" "[Z", Cond.fieldLink RX11 75 "HeaderLineModel" "proven" "[I", Cond.fieldLink RX11 78 "HeaderLineModel" "against" "[I", Cond.fieldLink RX11 81 "HeaderLineModel" "hangs" "[I", Cond.fieldLink RX11 84 "HeaderLineModel" "oldest" "[I", Cond.fieldLink RX11 87 "HeaderLineModel" "has" "[Z", Cond.fieldLink RX11 90 "HeaderLineModel" "contextNumber" "[I", Cond.fieldLink RX11 93 "HeaderLineModel" "contextRound" "[I"]
def wsL_law_r7 : List Cond := [Cond.fieldLink RX11 96 "HeaderLineModel" "contextStride" "[I", Cond.fieldLink RX11 99 "HeaderLineModel" "context" "[J", Cond.fieldLink RX11 102 "HeaderLineModel" "got" "[J", Cond.fieldLink RX11 105 "HeaderLineModel" "way" "[I", Cond.fieldLink RX11 108 "HeaderLineModel" "bit" "[I", Cond.fieldLink RX11 111 "HeaderLineModel" "stands" "[I", Cond.fieldLink RX11 114 "HeaderLineModel" "by" "[I", Cond.fieldLink RX11 117 "HeaderLineModel" "value" "[J", Cond.fieldLink RX11 120 "HeaderLineModel" "steps" "[I", Cond.fieldLink RX11 123 "HeaderLineModel" "next" "[J", Cond.fieldLink RX11 126 "HeaderLineModel" "held" "[I", Cond.fieldLink RX11 129 "HeaderLineModel" "heldSize" "[I", Cond.fieldLink RX11 132 "HeaderLineModel" "heldKind" "[I", Cond.fieldLink RX11 135 "HeaderLineModel" "heldRow" "[J", Cond.fieldLink RX11 138 "HeaderLineModel" "between" "[J", Cond.fieldLink RX11 141 "HeaderLineModel" "window" "I", Cond.methodLink RL 21 yX10_field, Cond.instanceMethod yX10_field, Cond.selects RX10 yX10_field yX10_field, Cond.code yX10_field cX10_field 5 (some .int), Cond.fieldLink RX10 85 "HeaderLine$Plan" "size" "I", Cond.fieldLink RX10 88 "HeaderLine" "letterCount" "I", Cond.methodLink RX10 81 yX6_allows, Cond.instanceMethod yX6_allows]
def wsL_law_r8 : List Cond := [Cond.selects RX6 yX6_allows yX6_allows, Cond.code yX6_allows cX6_allows 5 (some .boolean), Cond.methodLink RX6 24 yX6_has, Cond.instanceMethod yX6_has, Cond.selects RX6 yX6_has yX6_has, Cond.code yX6_has cX6_has 2 (some .boolean), Cond.fieldLink RX6 28 "HeaderLine$Plan" "size" "I", Cond.methodLink RX10 91 yX6_append, Cond.instanceMethod yX6_append, Cond.selects RX6 yX6_append yX6_append, Cond.code yX6_append cX6_append 5 (some .int), Cond.methodLink RL 25 yX11_field, Cond.instanceMethod yX11_field, Cond.selects RX11 yX11_field yX11_field, Cond.code yX11_field cX11_field 6 (some .int), Cond.fieldLink RX11 145 "HeaderLineModel" "thrown" "I", Cond.constantLong RX11 151 (4), Cond.constantLong RX11 157 (32), Cond.constantLong RX11 163 (1000), Cond.fieldLink RX11 148 "HeaderLineModel" "fields" "I", Cond.fieldLink RX11 165 "HeaderLineModel" "closed" "Z", Cond.methodLink RX11 153 yX11_isIn, Cond.static yX11_isIn, Cond.code yX11_isIn cX11_isIn 6 (some .boolean)]
def wsL_law_r9 : List Cond := [Cond.methodLink RX11 159 yX11_isField, Cond.instanceMethod yX11_isField, Cond.selects RX11 yX11_isField yX11_isField, Cond.code yX11_isField cX11_isField 2 (some .boolean), Cond.methodLink RL 28 yX10_set, Cond.instanceMethod yX10_set, Cond.selects RX10 yX10_set yX10_set, Cond.code yX10_set cX10_set 6 (some .long), Cond.constantLong RX10 99 (-1), Cond.fieldLink RX10 101 "HeaderLine$Header" "values" "[J", Cond.methodLink RX10 95 yX6_has, Cond.methodLink RX10 105 yX6_lowBits, Cond.instanceMethod yX6_lowBits, Cond.selects RX6 yX6_lowBits yX6_lowBits, Cond.code yX6_lowBits cX6_lowBits 4 (some .long), Cond.static yX10_lowest, Cond.code yX10_lowest cX10_lowest 3 (some .long), Cond.methodLink RL 32 yX11_set, Cond.instanceMethod yX11_set, Cond.selects RX11 yX11_set yX11_set, Cond.code yX11_set cX11_set 6 (some .long), Cond.constantLong RX11 169 (-1), Cond.methodLink RX11 171 yX11_cut, Cond.instanceMethod yX11_cut]
def wsL_law_r10 : List Cond := [Cond.selects RX11 yX11_cut yX11_cut, Cond.code yX11_cut cX11_cut 4 (some .long), Cond.methodLink RL 33 yX10_stride, Cond.instanceMethod yX10_stride, Cond.selects RX10 yX10_stride yX10_stride, Cond.code yX10_stride cX10_stride 6 (some .int), Cond.fieldLink RX10 115 "HeaderLine$Squeezer" "strides" "[I", Cond.fieldLink RX10 119 "HeaderLine$Squeezer" "owes" "Z", Cond.methodLink RX10 109 yX10_isFlow, Cond.static yX10_isFlow, Cond.code yX10_isFlow cX10_isFlow 1 (some .boolean), Cond.methodLink RX10 112 yX6_hasStride, Cond.instanceMethod yX6_hasStride, Cond.selects RX6 yX6_hasStride yX6_hasStride, Cond.code yX6_hasStride cX6_hasStride 2 (some .boolean), Cond.methodLink RL 37 yX11_stride, Cond.instanceMethod yX11_stride, Cond.selects RX11 yX11_stride yX11_stride, Cond.code yX11_stride cX11_stride 5 (some .int), Cond.constantLong RX11 181 (255), Cond.methodLink RX11 175 yX11_isFlow, Cond.static yX11_isFlow, Cond.code yX11_isFlow cX11_isFlow 1 (some .boolean), Cond.methodLink RX11 178 yX11_runs]
def wsL_law_r11 : List Cond := [Cond.instanceMethod yX11_runs, Cond.selects RX11 yX11_runs yX11_runs, Cond.code yX11_runs cX11_runs 2 (some .boolean), Cond.methodLink RL 38 yX10_send, Cond.instanceMethod yX10_send, Cond.selects RX10 yX10_send yX10_send, Cond.code yX10_send cX10_send 6 (some .int), Cond.fieldLink RX10 127 "HeaderLine$Squeezer" "number" "I", Cond.fieldLink RX10 130 "HeaderLine$Header" "number" "I", Cond.classLink RX10 149 RX7, Cond.instantiable RX7 4, Cond.initialized RX7, Cond.methodLink RX10 123 yX10_isLineFull, Cond.instanceMethod yX10_isLineFull, Cond.selects RX10 yX10_isLineFull yX10_isLineFull, Cond.code yX10_isLineFull cX10_isLineFull 1 (some .boolean), Cond.methodLink RX10 131 yX9_kindFor, Cond.instanceMethod yX9_kindFor, Cond.selects RX9 yX9_kindFor yX9_kindFor, Cond.code yX9_kindFor cX9_kindFor 6 (some .int), Cond.fieldLink RX9 42 "HeaderLine$Squeezer" "held" "I", Cond.fieldLink RX9 52 "HeaderLine$Plan" "size" "I", Cond.fieldLink RX9 57 "HeaderLine$Plan" "kinds" "[I", Cond.methodLink RX9 60 yX9_isGivenByAll]
def wsL_law_r12 : List Cond := [Cond.instanceMethod yX9_isGivenByAll, Cond.selects RX9 yX9_isGivenByAll yX9_isGivenByAll, Cond.code yX9_isGivenByAll cX9_isGivenByAll 4 (some .boolean), Cond.methodLink RX9 117 yX9_oldestMiss, Cond.instanceMethod yX9_oldestMiss, Cond.selects RX9 yX9_oldestMiss yX9_oldestMiss, Cond.code yX9_oldestMiss cX9_oldestMiss 10 (some .int), Cond.fieldLink RX9 73 "HeaderLine$Header" "values" "[J", Cond.fieldLink RX9 49 "HeaderLine$Header" "number" "I", Cond.methodLink RX9 45 yX9_reference, Cond.instanceMethod yX9_reference, Cond.selects RX9 yX9_reference yX9_reference, Cond.code yX9_reference cX9_reference 2 (some (.object "HeaderLine$Header")), Cond.fieldLink RX9 32 "HeaderLine$Squeezer" "first" "I", Cond.methodLink RX9 36 yJ9_floorMod_7cf53, Cond.methodLink RX9 121 yX6_given, Cond.instanceMethod yX6_given, Cond.selects RX6 yX6_given yX6_given, Cond.code yX6_given cX6_given 7 (some .long), Cond.fieldLink RX6 49 "HeaderLine$Header" "number" "I", Cond.fieldLink RX6 43 "HeaderLine$Header" "values" "[J", Cond.methodLink RX6 52 yX6_lowBits, Cond.methodLink RX9 125 yX6_found, Cond.instanceMethod yX6_found]
def wsL_law_r13 : List Cond := [Cond.selects RX6 yX6_found yX6_found, Cond.code yX6_found cX6_found 9 (some .long), Cond.methodLink RX10 135 yX5_begin, Cond.instanceMethod yX5_begin, Cond.selects RX5 yX5_begin yX5_begin, Cond.code yX5_begin cX5_begin 4 none, Cond.fieldLink RX5 21 "HeaderLine$Pen" "bits" "I", Cond.methodLink RX5 15 yJ7_fill_53178, Cond.methodLink RX5 25 yX5_write, Cond.instanceMethod yX5_write, Cond.selects RX5 yX5_write yX5_write, Cond.code yX5_write cX5_write 6 none, Cond.static yX10_wholeBytes, Cond.code yX10_wholeBytes cX10_wholeBytes 1 (some .int), Cond.methodLink RX10 139 yX9_beginRound, Cond.instanceMethod yX9_beginRound, Cond.selects RX9 yX9_beginRound yX9_beginRound, Cond.code yX9_beginRound cX9_beginRound 1 none, Cond.fieldLink RX9 64 "HeaderLine$Squeezer" "round" "I", Cond.methodLink RX10 142 yX9_writeWhole, Cond.instanceMethod yX9_writeWhole, Cond.selects RX9 yX9_writeWhole yX9_writeWhole, Cond.code yX9_writeWhole cX9_writeWhole 5 none, Cond.fieldLink RX9 77 "HeaderLine$Plan" "widths" "[I"]
def wsL_law_r14 : List Cond := [Cond.methodLink RX9 67 yX5_write, Cond.methodLink RX9 80 yX6_hasStride, Cond.methodLink RX10 146 yX9_writePart, Cond.instanceMethod yX9_writePart, Cond.selects RX9 yX9_writePart yX9_writePart, Cond.code yX9_writePart cX9_writePart 7 none, Cond.methodLink RX9 84 yX6_sumOf, Cond.instanceMethod yX6_sumOf, Cond.selects RX6 yX6_sumOf yX6_sumOf, Cond.code yX6_sumOf cX6_sumOf 5 (some .int), Cond.constantLong RX6 39 (17), Cond.constantLong RX6 41 (31), Cond.instanceMethod yX7_init, Cond.code yX7_init cX7_init 1 none, Cond.methodLink RX7 3 objectInit, Cond.fieldLink RX7 9 "HeaderLine$Proof" "lengths" "[I", Cond.fieldLink RX7 15 "HeaderLine$Proof" "misses" "[I", Cond.methodLink RX10 152 yX9_writeShort, Cond.instanceMethod yX9_writeShort, Cond.selects RX9 yX9_writeShort yX9_writeShort, Cond.code yX9_writeShort cX9_writeShort 6 none, Cond.fieldLink RX9 88 "HeaderLine$Proof" "references" "I", Cond.fieldLink RX9 97 "HeaderLine$Proof" "oldest" "I", Cond.fieldLink RX9 104 "HeaderLine$Proof" "lengths" "[I"]
def wsL_law_r15 : List Cond := [Cond.methodLink RX9 93 yX9_oldestNumber, Cond.instanceMethod yX9_oldestNumber, Cond.selects RX9 yX9_oldestNumber yX9_oldestNumber, Cond.code yX9_oldestNumber cX9_oldestNumber 1 (some .int), Cond.methodLink RX9 100 yX9_findLeast, Cond.instanceMethod yX9_findLeast, Cond.selects RX9 yX9_findLeast yX9_findLeast, Cond.code yX9_findLeast cX9_findLeast 7 none, Cond.fieldLink RX9 129 "HeaderLine$Proof" "misses" "[I", Cond.methodLink RX10 156 yX9_remember, Cond.instanceMethod yX9_remember, Cond.selects RX9 yX9_remember yX9_remember, Cond.code yX9_remember cX9_remember 3 none, Cond.fieldLink RX9 115 "HeaderLine$Squeezer" "number" "I", Cond.methodLink RX9 107 yX9_dropOldest, Cond.instanceMethod yX9_dropOldest, Cond.selects RX9 yX9_dropOldest yX9_dropOldest, Cond.code yX9_dropOldest cX9_dropOldest 2 none, Cond.methodLink RX9 111 yX3_become, Cond.instanceMethod yX3_become, Cond.selects RX3 yX3_become yX3_become, Cond.code yX3_become cX3_become 2 none, Cond.methodLink RX3 15 arraycopyName, Cond.native arraycopyName]
def wsL_law_r16 : List Cond := [Cond.static arraycopyName, Cond.initialized "java/lang/System", Cond.fieldLink RX3 21 "HeaderLine$Header" "number" "I", Cond.methodLink RX10 160 yX10_addWritten, Cond.instanceMethod yX10_addWritten, Cond.selects RX10 yX10_addWritten yX10_addWritten, Cond.code yX10_addWritten cX10_addWritten 7 (some .int), Cond.instantiable RX4 9, Cond.initialized RX4, Cond.constant RX10 327 (65536), Cond.fieldLink RX10 328 "HeaderLine$Pen" "bits" "I", Cond.fieldLink RX10 226 "HeaderLine$Letter" "proof" "LHeaderLine$Proof;", Cond.methodLink RX10 320 yX10_endsInCheck, Cond.static yX10_endsInCheck, Cond.code yX10_endsInCheck cX10_endsInCheck 1 (some .boolean), Cond.methodLink RX10 323 yX5_finished, Cond.instanceMethod yX5_finished, Cond.selects RX5 yX5_finished yX5_finished, Cond.code yX5_finished cX5_finished 4 (some (.array .int)), Cond.methodLink RX5 33 yJ7_copyOf_59c91, Cond.static yJ7_copyOf_59c91, Cond.code yJ7_copyOf_59c91 cJ7_copyOf_59c91 3 (some (.array .int)), Cond.methodLink RJ7 316 ⟨"[I", "clone", "()Ljava/lang/Object;"⟩, Cond.sameMethod "[I" "java/lang/Object" "clone" "()Ljava/lang/Object;"]
def wsL_law_r17 : List Cond := [Cond.native ⟨"java/lang/Object", "clone", "()Ljava/lang/Object;"⟩, Cond.instanceMethod ⟨"java/lang/Object", "clone", "()Ljava/lang/Object;"⟩, Cond.selects "[I" ⟨"[I", "clone", "()Ljava/lang/Object;"⟩ ⟨"java/lang/Object", "clone", "()Ljava/lang/Object;"⟩, Cond.classLink RJ7 317 "[I", Cond.methodLink RJ7 304 Lib.Math.min.name, Cond.static Lib.Math.min.name, Cond.initialized "java/lang/Math", Cond.code Lib.Math.min.name Lib.Math.min.code 2 (some .int), Cond.methodLink RJ7 150 arraycopyName, Cond.static yX10_checkOf, Cond.code yX10_checkOf cX10_checkOf 4 (some .int), Cond.methodLink RX10 210 yX4_init, Cond.instanceMethod yX4_init, Cond.code yX4_init cX4_init 6 none, Cond.methodLink RX4 1 objectInit, Cond.fieldLink RX4 7 "HeaderLine$Letter" "outcome" "I", Cond.fieldLink RX4 13 "HeaderLine$Letter" "kind" "I", Cond.fieldLink RX4 16 "HeaderLine$Letter" "flow" "I", Cond.fieldLink RX4 19 "HeaderLine$Letter" "number" "I", Cond.fieldLink RX4 22 "HeaderLine$Letter" "bytes" "[I", Cond.fieldLink RX4 26 "HeaderLine$Letter" "bits" "I", Cond.methodLink RX10 216 yX10_add, Cond.instanceMethod yX10_add, Cond.selects RX10 yX10_add yX10_add]
def wsL_law_r18 : List Cond := [Cond.code yX10_add cX10_add 2 (some .int), Cond.methodLink RL 42 yX11_send, Cond.instanceMethod yX11_send, Cond.selects RX11 yX11_send yX11_send, Cond.code yX11_send cX11_send 7 (some .int), Cond.fieldLink RX11 204 "HeaderLineModel" "letters" "I", Cond.methodLink RX11 224 yX11_giveAll, Cond.instanceMethod yX11_giveAll, Cond.selects RX11 yX11_giveAll yX11_giveAll, Cond.code yX11_giveAll cX11_giveAll 6 (some .boolean), Cond.methodLink RX11 187 yX11_given, Cond.instanceMethod yX11_given, Cond.selects RX11 yX11_given yX11_given, Cond.code yX11_given cX11_given 6 (some .long), Cond.methodLink RX11 183 yX11_onwards, Cond.instanceMethod yX11_onwards, Cond.selects RX11 yX11_onwards yX11_onwards, Cond.code yX11_onwards cX11_onwards 6 (some .long), Cond.methodLink RX11 240 yX11_sendWhole, Cond.instanceMethod yX11_sendWhole, Cond.selects RX11 yX11_sendWhole yX11_sendWhole, Cond.code yX11_sendWhole cX11_sendWhole 4 (some .int), Cond.methodLink RX11 216 yX11_head, Cond.instanceMethod yX11_head]
def wsL_law_r19 : List Cond := [Cond.selects RX11 yX11_head yX11_head, Cond.code yX11_head cX11_head 4 none, Cond.fieldLink RX11 195 "HeaderLineModel" "put" "I", Cond.constant RX11 207 (65536), Cond.methodLink RX11 212 yX11_say, Cond.instanceMethod yX11_say, Cond.selects RX11 yX11_say yX11_say, Cond.code yX11_say cX11_say 5 none, Cond.methodLink RX11 220 yX11_laid, Cond.instanceMethod yX11_laid, Cond.selects RX11 yX11_laid yX11_laid, Cond.code yX11_laid cX11_laid 10 (some .int), Cond.methodLink RX11 208 yX11_checkOf, Cond.instanceMethod yX11_checkOf, Cond.selects RX11 yX11_checkOf yX11_checkOf, Cond.code yX11_checkOf cX11_checkOf 5 (some .int), Cond.methodLink RX11 243 yX11_sendShort, Cond.instanceMethod yX11_sendShort, Cond.selects RX11 yX11_sendShort yX11_sendShort, Cond.code yX11_sendShort cX11_sendShort 5 (some .int), Cond.methodLink RX11 232 yX11_serves, Cond.instanceMethod yX11_serves, Cond.selects RX11 yX11_serves yX11_serves, Cond.code yX11_serves cX11_serves 7 (some .boolean)]
def wsL_law_r20 : List Cond := [Cond.methodLink RX11 191 yX11_finds, Cond.instanceMethod yX11_finds, Cond.selects RX11 yX11_finds yX11_finds, Cond.code yX11_finds cX11_finds 7 (some .boolean), Cond.methodLink RX11 236 yX11_fails, Cond.instanceMethod yX11_fails, Cond.selects RX11 yX11_fails yX11_fails, Cond.code yX11_fails cX11_fails 7 (some .int), Cond.methodLink RX11 228 yX11_draftSum, Cond.instanceMethod yX11_draftSum, Cond.selects RX11 yX11_draftSum yX11_draftSum, Cond.code yX11_draftSum cX11_draftSum 3 (some .int), Cond.methodLink RX11 200 yX11_sumOf, Cond.instanceMethod yX11_sumOf, Cond.selects RX11 yX11_sumOf yX11_sumOf, Cond.code yX11_sumOf cX11_sumOf 5 (some .int), Cond.constantLong RX11 198 (31), Cond.methodLink RX11 246 yX11_sendPart, Cond.instanceMethod yX11_sendPart, Cond.selects RX11 yX11_sendPart yX11_sendPart, Cond.code yX11_sendPart cX11_sendPart 5 (some .int), Cond.methodLink RX11 249 yX11_refer, Cond.instanceMethod yX11_refer, Cond.selects RX11 yX11_refer yX11_refer]
def wsL_law_r21 : List Cond := [Cond.code yX11_refer cX11_refer 5 none, Cond.methodLink RX11 253 yX11_drop, Cond.instanceMethod yX11_drop, Cond.selects RX11 yX11_drop yX11_drop, Cond.code yX11_drop cX11_drop 6 none, Cond.methodLink RL 43 yX10_ack, Cond.instanceMethod yX10_ack, Cond.selects RX10 yX10_ack yX10_ack, Cond.code yX10_ack cX10_ack 2 (some .int), Cond.fieldLink RX10 164 "HeaderLine$Context" "isThere" "Z", Cond.fieldLink RX10 167 "HeaderLine$Context" "header" "LHeaderLine$Header;", Cond.methodLink RX10 170 yX10_addAnswer, Cond.instanceMethod yX10_addAnswer, Cond.selects RX10 yX10_addAnswer yX10_addAnswer, Cond.code yX10_addAnswer cX10_addAnswer 4 (some .int), Cond.methodLink RL 47 yX11_ack, Cond.instanceMethod yX11_ack, Cond.selects RX11 yX11_ack yX11_ack, Cond.code yX11_ack cX11_ack 2 (some .int), Cond.methodLink RL 48 yX10_nack, Cond.instanceMethod yX10_nack, Cond.selects RX10 yX10_nack yX10_nack, Cond.code yX10_nack cX10_nack 2 (some .int), Cond.methodLink RL 51 yX11_nack]
def wsL_law_r22 : List Cond := [Cond.instanceMethod yX11_nack, Cond.selects RX11 yX11_nack yX11_nack, Cond.code yX11_nack cX11_nack 4 (some .int), Cond.methodLink RL 52 yX10_deliver, Cond.instanceMethod yX10_deliver, Cond.selects RX10 yX10_deliver yX10_deliver, Cond.code yX10_deliver cX10_deliver 3 (some .int), Cond.fieldLink RX10 178 "HeaderLine$Letter" "bytes" "[I", Cond.fieldLink RX10 185 "HeaderLine$Letter" "outcome" "I", Cond.methodLink RX10 174 yX10_letterUnderWay, Cond.instanceMethod yX10_letterUnderWay, Cond.selects RX10 yX10_letterUnderWay yX10_letterUnderWay, Cond.code yX10_letterUnderWay cX10_letterUnderWay 3 (some (.object "HeaderLine$Letter")), Cond.fieldLink RX10 188 "HeaderLine$Letter" "isLost" "Z", Cond.methodLink RX10 223 yX10_letterAt, Cond.instanceMethod yX10_letterAt, Cond.selects RX10 yX10_letterAt yX10_letterAt, Cond.code yX10_letterAt cX10_letterAt 2 (some (.object "HeaderLine$Letter")), Cond.methodLink RX10 181 yX10_outcomeOf, Cond.instanceMethod yX10_outcomeOf, Cond.selects RX10 yX10_outcomeOf yX10_outcomeOf, Cond.code yX10_outcomeOf cX10_outcomeOf 2 (some .int), Cond.fieldLink RX10 333 "HeaderLine$Arrival" "flow" "I", Cond.fieldLink RX10 334 "HeaderLine$Arrival" "kind" "I"]
def wsL_law_r23 : List Cond := [Cond.fieldLink RX10 335 "HeaderLine$Arrival" "header" "LHeaderLine$Header;", Cond.methodLink RX10 329 yX0_parse, Cond.instanceMethod yX0_parse, Cond.selects RX0 yX0_parse yX0_parse, Cond.code yX0_parse cX0_parse 4 (some .boolean), Cond.fieldLink RX0 35 "HeaderLine$Arrival" "at" "I", Cond.fieldLink RX0 39 "HeaderLine$Arrival" "isBroken" "Z", Cond.fieldLink RX0 47 "HeaderLine$Arrival" "kind" "I", Cond.fieldLink RX0 50 "HeaderLine$Arrival" "flow" "I", Cond.fieldLink RX0 53 "HeaderLine$Header" "number" "I", Cond.fieldLink RX0 56 "HeaderLine$Arrival" "round" "I", Cond.fieldLink RX0 59 "HeaderLine$Plan" "size" "I", Cond.fieldLink RX0 72 "HeaderLine$Arrival" "sum" "I", Cond.methodLink RX0 43 yX0_read, Cond.instanceMethod yX0_read, Cond.selects RX0 yX0_read yX0_read, Cond.code yX0_read cX0_read 5 (some .long), Cond.methodLink RX0 64 yX0_readField, Cond.instanceMethod yX0_readField, Cond.selects RX0 yX0_readField yX0_readField, Cond.code yX0_readField cX0_readField 5 none, Cond.fieldLink RX0 94 "HeaderLine$Plan" "kinds" "[I", Cond.fieldLink RX0 97 "HeaderLine$Plan" "widths" "[I", Cond.methodLink RX0 100 yX0_readValue]
def wsL_law_r24 : List Cond := [Cond.instanceMethod yX0_readValue, Cond.selects RX0 yX0_readValue yX0_readValue, Cond.code yX0_readValue cX0_readValue 4 none, Cond.methodLink RX0 104 yX6_hasStride, Cond.methodLink RX0 75 yX0_isEndRight, Cond.instanceMethod yX0_isEndRight, Cond.selects RX0 yX0_isEndRight yX0_isEndRight, Cond.code yX0_isEndRight cX0_isEndRight 3 (some .boolean), Cond.methodLink RX10 336 yX9_heed, Cond.instanceMethod yX9_heed, Cond.selects RX9 yX9_heed yX9_heed, Cond.code yX9_heed cX9_heed 4 (some .int), Cond.constant RX9 116 (65536), Cond.methodLink RX10 339 yX10_open, Cond.instanceMethod yX10_open, Cond.selects RX10 yX10_open yX10_open, Cond.code yX10_open cX10_open 4 (some .int), Cond.fieldLink RX10 255 "HeaderLine$Context" "round" "I", Cond.fieldLink RX10 343 "HeaderLine$Arrival" "round" "I", Cond.fieldLink RX10 352 "HeaderLine$Arrival" "sum" "I", Cond.methodLink RX10 344 yX0_rebuild, Cond.instanceMethod yX0_rebuild, Cond.selects RX0 yX0_rebuild yX0_rebuild, Cond.code yX0_rebuild cX0_rebuild 8 none]
def wsL_law_r25 : List Cond := [Cond.fieldLink RX0 79 "HeaderLine$Context" "header" "LHeaderLine$Header;", Cond.fieldLink RX0 82 "HeaderLine$Context" "strides" "[I", Cond.fieldLink RX0 91 "HeaderLine$Header" "values" "[J", Cond.methodLink RX0 83 yX6_given, Cond.methodLink RX0 87 yX6_found, Cond.methodLink RX10 348 yX6_sumOf, Cond.methodLink RX10 355 yX2_accept, Cond.instanceMethod yX2_accept, Cond.selects RX2 yX2_accept yX2_accept, Cond.code yX2_accept cX2_accept 3 none, Cond.fieldLink RX2 22 "HeaderLine$Arrival" "header" "LHeaderLine$Header;", Cond.fieldLink RX2 29 "HeaderLine$Arrival" "ways" "[I", Cond.methodLink RX2 30 arraycopyName, Cond.fieldLink RX2 36 "HeaderLine$Arrival" "flow" "I", Cond.fieldLink RX2 40 "HeaderLine$Got" "flow" "I", Cond.fieldLink RX2 41 "HeaderLine$Got" "hungOn" "I", Cond.fieldLink RX2 44 "HeaderLine$Got" "total" "I", Cond.methodLink RX2 25 yX3_become, Cond.methodLink RX10 359 yX1_accept, Cond.instanceMethod yX1_accept, Cond.selects RX1 yX1_accept yX1_accept, Cond.code yX1_accept cX1_accept 2 none, Cond.fieldLink RX1 22 "HeaderLine$Arrival" "header" "LHeaderLine$Header;", Cond.fieldLink RX1 29 "HeaderLine$Context" "isThere" "Z"]
def wsL_law_r26 : List Cond := [Cond.fieldLink RX1 33 "HeaderLine$Arrival" "kind" "I", Cond.fieldLink RX1 37 "HeaderLine$Arrival" "round" "I", Cond.fieldLink RX1 40 "HeaderLine$Context" "round" "I", Cond.fieldLink RX1 41 "HeaderLine$Arrival" "strides" "[I", Cond.methodLink RX1 42 arraycopyName, Cond.methodLink RX1 25 yX3_become, Cond.methodLink RL 55 yX11_deliver, Cond.instanceMethod yX11_deliver, Cond.selects RX11 yX11_deliver yX11_deliver, Cond.code yX11_deliver cX11_deliver 5 (some .int), Cond.fieldLink RX11 256 "HeaderLineModel" "read" "I", Cond.fieldLink RX11 259 "HeaderLineModel" "end" "I", Cond.fieldLink RX11 262 "HeaderLineModel" "broken" "Z", Cond.methodLink RX11 308 yX11_isUnderWay, Cond.instanceMethod yX11_isUnderWay, Cond.selects RX11 yX11_isUnderWay yX11_isUnderWay, Cond.code yX11_isUnderWay cX11_isUnderWay 2 (some .boolean), Cond.methodLink RX11 267 yX11_take, Cond.instanceMethod yX11_take, Cond.selects RX11 yX11_take yX11_take, Cond.code yX11_take cX11_take 6 (some .long), Cond.constantLong RX11 265 (2), Cond.methodLink RX11 311 yX11_answered, Cond.instanceMethod yX11_answered]
def wsL_law_r27 : List Cond := [Cond.selects RX11 yX11_answered yX11_answered, Cond.code yX11_answered cX11_answered 6 (some .int), Cond.methodLink RX11 278 yX11_takeEnd, Cond.instanceMethod yX11_takeEnd, Cond.selects RX11 yX11_takeEnd yX11_takeEnd, Cond.code yX11_takeEnd cX11_takeEnd 4 none, Cond.methodLink RX11 314 yX11_opened, Cond.instanceMethod yX11_opened, Cond.selects RX11 yX11_opened yX11_opened, Cond.code yX11_opened cX11_opened 6 (some .int), Cond.fieldLink RX11 271 "HeaderLineModel" "cameRound" "I", Cond.fieldLink RX11 296 "HeaderLineModel" "gotFrom" "I", Cond.fieldLink RX11 299 "HeaderLineModel" "gotFlow" "I", Cond.fieldLink RX11 302 "HeaderLineModel" "gotNumber" "I", Cond.fieldLink RX11 305 "HeaderLineModel" "gets" "I", Cond.methodLink RX11 286 yX11_takeFields, Cond.instanceMethod yX11_takeFields, Cond.selects RX11 yX11_takeFields yX11_takeFields, Cond.code yX11_takeFields cX11_takeFields 5 none, Cond.fieldLink RX11 274 "HeaderLineModel" "cameSum" "J", Cond.methodLink RX11 289 yX11_open, Cond.instanceMethod yX11_open, Cond.selects RX11 yX11_open yX11_open, Cond.code yX11_open cX11_open 6 none]
def wsL_law_r28 : List Cond := [Cond.methodLink RX11 282 yX11_found, Cond.instanceMethod yX11_found, Cond.selects RX11 yX11_found yX11_found, Cond.code yX11_found cX11_found 11 (some .long), Cond.methodLink RX11 292 yX11_isUnlike, Cond.instanceMethod yX11_isUnlike, Cond.selects RX11 yX11_isUnlike yX11_isUnlike, Cond.code yX11_isUnlike cX11_isUnlike 3 (some .boolean), Cond.methodLink RL 56 yX10_lose, Cond.instanceMethod yX10_lose, Cond.selects RX10 yX10_lose yX10_lose, Cond.code yX10_lose cX10_lose 3 (some .int), Cond.fieldLink RX10 191 "HeaderLine" "lostCount" "I", Cond.methodLink RL 59 yX11_lose, Cond.instanceMethod yX11_lose, Cond.selects RX11 yX11_lose yX11_lose, Cond.code yX11_lose cX11_lose 2 (some .int), Cond.methodLink RL 60 yX10_twice, Cond.instanceMethod yX10_twice, Cond.selects RX10 yX10_twice yX10_twice, Cond.code yX10_twice cX10_twice 5 (some .int), Cond.fieldLink RX10 200 "HeaderLine$Letter" "kind" "I", Cond.fieldLink RX10 203 "HeaderLine$Letter" "flow" "I", Cond.fieldLink RX10 206 "HeaderLine$Letter" "number" "I"]
def wsL_law_r29 : List Cond := [Cond.fieldLink RX10 207 "HeaderLine$Letter" "bits" "I", Cond.fieldLink RX10 213 "HeaderLine$Letter" "isCopy" "Z", Cond.methodLink RX10 194 yJ7_copyOf_59c91, Cond.methodLink RL 63 yX11_twice, Cond.instanceMethod yX11_twice, Cond.selects RX11 yX11_twice yX11_twice, Cond.code yX11_twice cX11_twice 4 (some .int), Cond.methodLink RL 64 yX10_bend, Cond.instanceMethod yX10_bend, Cond.selects RX10 yX10_bend yX10_bend, Cond.code yX10_bend cX10_bend 5 (some .int), Cond.methodLink RX10 220 yX4_hasByte, Cond.instanceMethod yX4_hasByte, Cond.selects RX4 yX4_hasByte yX4_hasByte, Cond.code yX4_hasByte cX4_hasByte 2 (some .boolean), Cond.methodLink RL 67 yX11_bend, Cond.instanceMethod yX11_bend, Cond.selects RX11 yX11_bend yX11_bend, Cond.code yX11_bend cX11_bend 4 (some .int), Cond.methodLink RL 68 yX10_octet, Cond.instanceMethod yX10_octet, Cond.selects RX10 yX10_octet yX10_octet, Cond.code yX10_octet cX10_octet 4 (some .int), Cond.methodLink RL 72 yX11_octet]
def wsL_law_r30 : List Cond := [Cond.instanceMethod yX11_octet, Cond.selects RX11 yX11_octet yX11_octet, Cond.code yX11_octet cX11_octet 3 (some .int), Cond.methodLink RL 73 yX10_look, Cond.instanceMethod yX10_look, Cond.selects RX10 yX10_look yX10_look, Cond.code yX10_look cX10_look 4 (some .int), Cond.methodLink RL 76 yX11_look, Cond.instanceMethod yX11_look, Cond.selects RX11 yX11_look yX11_look, Cond.code yX11_look cX11_look 3 (some .int), Cond.methodLink RL 77 yX10_prove, Cond.instanceMethod yX10_prove, Cond.selects RX10 yX10_prove yX10_prove, Cond.code yX10_prove cX10_prove 6 (some .int), Cond.fieldLink RX10 230 "HeaderLine$Proof" "lengths" "[I", Cond.fieldLink RX10 233 "HeaderLine$Proof" "misses" "[I", Cond.fieldLink RX10 236 "HeaderLine$Proof" "references" "I", Cond.fieldLink RX10 239 "HeaderLine$Proof" "oldest" "I", Cond.methodLink RL 80 yX11_prove, Cond.instanceMethod yX11_prove, Cond.selects RX11 yX11_prove yX11_prove, Cond.code yX11_prove cX11_prove 4 (some .int), Cond.constantLong RX11 317 (3)]
def wsL_law_r31 : List Cond := [Cond.methodLink RL 81 yX10_got, Cond.instanceMethod yX10_got, Cond.selects RX10 yX10_got yX10_got, Cond.code yX10_got cX10_got 2 (some .long), Cond.fieldLink RX10 242 "HeaderLine$Got" "total" "I", Cond.constantLong RX10 245 (-2), Cond.fieldLink RX10 247 "HeaderLine$Got" "header" "LHeaderLine$Header;", Cond.methodLink RL 85 yX11_got, Cond.instanceMethod yX11_got, Cond.selects RX11 yX11_got yX11_got, Cond.code yX11_got cX11_got 2 (some .long), Cond.constantLong RX11 319 (-2), Cond.methodLink RL 86 yX10_way, Cond.instanceMethod yX10_way, Cond.selects RX10 yX10_way yX10_way, Cond.code yX10_way cX10_way 2 (some .int), Cond.fieldLink RX10 248 "HeaderLine$Got" "ways" "[I", Cond.methodLink RL 89 yX11_way, Cond.instanceMethod yX11_way, Cond.selects RX11 yX11_way yX11_way, Cond.code yX11_way cX11_way 2 (some .int), Cond.methodLink RL 90 yX10_hung, Cond.instanceMethod yX10_hung, Cond.selects RX10 yX10_hung yX10_hung]
def wsL_law_r32 : List Cond := [Cond.code yX10_hung cX10_hung 2 (some .int), Cond.fieldLink RX10 251 "HeaderLine$Got" "flow" "I", Cond.fieldLink RX10 252 "HeaderLine$Got" "hungOn" "I", Cond.methodLink RL 93 yX11_hung, Cond.instanceMethod yX11_hung, Cond.selects RX11 yX11_hung yX11_hung, Cond.code yX11_hung cX11_hung 2 (some .int), Cond.methodLink RL 94 yX10_context, Cond.instanceMethod yX10_context, Cond.selects RX10 yX10_context yX10_context, Cond.code yX10_context cX10_context 4 (some .int), Cond.methodLink RL 97 yX11_context, Cond.instanceMethod yX11_context, Cond.selects RX11 yX11_context yX11_context, Cond.code yX11_context cX11_context 3 (some .int), Cond.methodLink RL 98 yX10_known, Cond.instanceMethod yX10_known, Cond.selects RX10 yX10_known yX10_known, Cond.code yX10_known cX10_known 5 (some .long), Cond.fieldLink RX10 258 "HeaderLine$Context" "strides" "[I", Cond.methodLink RL 102 yX11_known, Cond.instanceMethod yX11_known, Cond.selects RX11 yX11_known yX11_known, Cond.code yX11_known cX11_known 4 (some .long)]
def wsL_law_r33 : List Cond := [Cond.methodLink RL 103 yX10_squeezer, Cond.instanceMethod yX10_squeezer, Cond.selects RX10 yX10_squeezer yX10_squeezer, Cond.code yX10_squeezer cX10_squeezer 4 (some .int), Cond.fieldLink RX10 259 "HeaderLine$Squeezer" "round" "I", Cond.fieldLink RX10 260 "HeaderLine$Squeezer" "held" "I", Cond.methodLink RX10 263 yX9_oldestNumber, Cond.methodLink RL 106 yX11_squeezer, Cond.instanceMethod yX11_squeezer, Cond.selects RX11 yX11_squeezer yX11_squeezer, Cond.code yX11_squeezer cX11_squeezer 3 (some .int), Cond.methodLink RL 107 yX10_forget, Cond.instanceMethod yX10_forget, Cond.selects RX10 yX10_forget yX10_forget, Cond.code yX10_forget cX10_forget 4 (some .int), Cond.methodLink RL 110 yX11_forget, Cond.instanceMethod yX11_forget, Cond.selects RX11 yX11_forget yX11_forget, Cond.code yX11_forget cX11_forget 4 (some .int), Cond.methodLink RL 111 yX10_spent, Cond.instanceMethod yX10_spent, Cond.selects RX10 yX10_spent yX10_spent, Cond.code yX10_spent cX10_spent 10 (some .long), Cond.methodLink RX10 267 yX6_wholeBits]
def wsL_law_r34 : List Cond := [Cond.instanceMethod yX6_wholeBits, Cond.selects RX6 yX6_wholeBits yX6_wholeBits, Cond.code yX6_wholeBits cX6_wholeBits 3 (some .int), Cond.methodLink RX6 36 yX6_hasStride, Cond.methodLink RL 115 yX11_spent, Cond.instanceMethod yX11_spent, Cond.selects RX11 yX11_spent yX11_spent, Cond.code yX11_spent cX11_spent 7 (some .long), Cond.constantLong RX11 321 (5), Cond.methodLink RX11 323 yX11_wholeBits, Cond.instanceMethod yX11_wholeBits, Cond.selects RX11 yX11_wholeBits yX11_wholeBits, Cond.code yX11_wholeBits cX11_wholeBits 3 (some .int), Cond.methodLink RL 116 yX10_keep, Cond.instanceMethod yX10_keep, Cond.selects RX10 yX10_keep yX10_keep, Cond.code yX10_keep cX10_keep 5 (some .int), Cond.fieldLink RX10 273 "HeaderLine$Shelf" "holds" "I", Cond.methodLink RX10 270 yX10_isShelf, Cond.static yX10_isShelf, Cond.code yX10_isShelf cX10_isShelf 1 (some .boolean), Cond.methodLink RX10 276 yX10_keepLetter, Cond.static yX10_keepLetter, Cond.code yX10_keepLetter cX10_keepLetter 4 (some .int)]
def wsL_law_r35 : List Cond := [Cond.fieldLink RX10 366 "HeaderLine$Shelf" "size" "I", Cond.fieldLink RX10 301 "HeaderLine$Shelf" "row" "[J", Cond.methodLink RX10 362 yX8_holdLetter, Cond.instanceMethod yX8_holdLetter, Cond.selects RX8 yX8_holdLetter yX8_holdLetter, Cond.code yX8_holdLetter cX8_holdLetter 2 none, Cond.fieldLink RX8 15 "HeaderLine$Shelf" "holds" "I", Cond.fieldLink RX8 19 "HeaderLine$Letter" "kind" "I", Cond.fieldLink RX8 24 "HeaderLine$Shelf" "letterKind" "I", Cond.fieldLink RX8 27 "HeaderLine$Letter" "bytes" "[I", Cond.fieldLink RX8 31 "HeaderLine$Shelf" "letterBytes" "I", Cond.methodLink RX10 287 yX8_holdRow, Cond.instanceMethod yX8_holdRow, Cond.selects RX8 yX8_holdRow yX8_holdRow, Cond.code yX8_holdRow cX8_holdRow 3 none, Cond.methodLink RX8 34 Lib.Math.min.name, Cond.methodLink RX8 40 Lib.Math.max.name, Cond.static Lib.Math.max.name, Cond.code Lib.Math.max.name Lib.Math.max.code 2 (some .int), Cond.fieldLink RX8 43 "HeaderLine$Shelf" "size" "I", Cond.methodLink RX8 46 yJ7_fill_d0a16, Cond.static yJ7_fill_d0a16, Cond.code yJ7_fill_d0a16 cJ7_fill_d0a16 5 none, Cond.methodLink RX10 280 yX10_keepReferences]
def wsL_law_r36 : List Cond := [Cond.instanceMethod yX10_keepReferences, Cond.selects RX10 yX10_keepReferences yX10_keepReferences, Cond.code yX10_keepReferences cX10_keepReferences 5 (some .int), Cond.methodLink RX10 367 yX9_reference, Cond.methodLink RX10 284 yX10_keepContext, Cond.instanceMethod yX10_keepContext, Cond.selects RX10 yX10_keepContext yX10_keepContext, Cond.code yX10_keepContext cX10_keepContext 4 (some .int), Cond.methodLink RL 119 yX11_keep, Cond.instanceMethod yX11_keep, Cond.selects RX11 yX11_keep yX11_keep, Cond.code yX11_keep cX11_keep 5 (some .int), Cond.methodLink RX11 326 yX11_isShelf, Cond.static yX11_isShelf, Cond.code yX11_isShelf cX11_isShelf 1 (some .boolean), Cond.methodLink RX11 329 yX11_canKeep, Cond.instanceMethod yX11_canKeep, Cond.selects RX11 yX11_canKeep yX11_canKeep, Cond.code yX11_canKeep cX11_canKeep 3 (some .boolean), Cond.methodLink RL 120 yX10_make, Cond.instanceMethod yX10_make, Cond.selects RX10 yX10_make yX10_make, Cond.code yX10_make cX10_make 4 (some .int), Cond.methodLink RL 123 yX11_make]
def wsL_law_r37 : List Cond := [Cond.instanceMethod yX11_make, Cond.selects RX11 yX11_make yX11_make, Cond.code yX11_make cX11_make 5 (some .int), Cond.methodLink RL 124 yX10_put, Cond.instanceMethod yX10_put, Cond.selects RX10 yX10_put yX10_put, Cond.code yX10_put cX10_put 7 (some .long), Cond.constantLong RX10 291 (-11), Cond.constantLong RX10 293 (-12), Cond.constantLong RX10 299 (-13), Cond.methodLink RX10 295 yX8_hasPlaces, Cond.instanceMethod yX8_hasPlaces, Cond.selects RX8 yX8_hasPlaces yX8_hasPlaces, Cond.code yX8_hasPlaces cX8_hasPlaces 3 (some .boolean), Cond.methodLink RL 127 yX11_put, Cond.instanceMethod yX11_put, Cond.selects RX11 yX11_put yX11_put, Cond.code yX11_put cX11_put 6 (some .long), Cond.constantLong RX11 333 (30000), Cond.constantLong RX11 335 (-11), Cond.constantLong RX11 337 (-12), Cond.constantLong RX11 339 (-13), Cond.methodLink RL 128 yX10_copy, Cond.instanceMethod yX10_copy]
def wsL_law_r38 : List Cond := [Cond.selects RX10 yX10_copy yX10_copy, Cond.code yX10_copy cX10_copy 8 (some .int), Cond.methodLink RX10 304 arraycopyName, Cond.methodLink RL 132 yX11_copy, Cond.instanceMethod yX11_copy, Cond.selects RX11 yX11_copy yX11_copy, Cond.code yX11_copy cX11_copy 7 (some .int), Cond.methodLink RX11 341 yX11_hasPlaces, Cond.instanceMethod yX11_hasPlaces, Cond.selects RX11 yX11_hasPlaces yX11_hasPlaces, Cond.code yX11_hasPlaces cX11_hasPlaces 4 (some .boolean), Cond.methodLink RL 133 yX10_worth, Cond.instanceMethod yX10_worth, Cond.selects RX10 yX10_worth yX10_worth, Cond.code yX10_worth cX10_worth 5 (some .int), Cond.fieldLink RX10 314 "HeaderLine$Shelf" "letterKind" "I", Cond.fieldLink RX10 317 "HeaderLine$Shelf" "letterBytes" "I", Cond.methodLink RX10 310 yX10_refusalOfLetterOn, Cond.instanceMethod yX10_refusalOfLetterOn, Cond.selects RX10 yX10_refusalOfLetterOn yX10_refusalOfLetterOn, Cond.code yX10_refusalOfLetterOn cX10_refusalOfLetterOn 2 (some .int), Cond.methodLink RL 136 yX11_worth, Cond.instanceMethod yX11_worth, Cond.selects RX11 yX11_worth yX11_worth]
def wsL_law_r39 : List Cond := [Cond.code yX11_worth cX11_worth 5 (some .int), Cond.methodLink RX11 344 yX11_denied, Cond.instanceMethod yX11_denied, Cond.selects RX11 yX11_denied yX11_denied, Cond.code yX11_denied cX11_denied 2 (some .int), Cond.methodLink RL 137 yX10_toss, Cond.instanceMethod yX10_toss, Cond.selects RX10 yX10_toss yX10_toss, Cond.code yX10_toss cX10_toss 4 (some .int), Cond.methodLink RL 140 yX11_toss, Cond.instanceMethod yX11_toss, Cond.selects RX11 yX11_toss yX11_toss, Cond.code yX11_toss cX11_toss 3 (some .int), Cond.methodLink RL 141 yX10_count, Cond.instanceMethod yX10_count, Cond.selects RX10 yX10_count yX10_count, Cond.code yX10_count cX10_count 2 (some .int), Cond.methodLink RL 144 yX11_count, Cond.instanceMethod yX11_count, Cond.selects RX11 yX11_count yX11_count, Cond.code yX11_count cX11_count 4 (some .int)]
def wsL_law : List Cond := (wsL_law_r1 ++ (wsL_law_r2 ++ (wsL_law_r3 ++ (wsL_law_r4 ++ (wsL_law_r5 ++ (wsL_law_r6 ++ (wsL_law_r7 ++ (wsL_law_r8 ++ (wsL_law_r9 ++ (wsL_law_r10 ++ (wsL_law_r11 ++ (wsL_law_r12 ++ (wsL_law_r13 ++ (wsL_law_r14 ++ (wsL_law_r15 ++ (wsL_law_r16 ++ (wsL_law_r17 ++ (wsL_law_r18 ++ (wsL_law_r19 ++ (wsL_law_r20 ++ (wsL_law_r21 ++ (wsL_law_r22 ++ (wsL_law_r23 ++ (wsL_law_r24 ++ (wsL_law_r25 ++ (wsL_law_r26 ++ (wsL_law_r27 ++ (wsL_law_r28 ++ (wsL_law_r29 ++ (wsL_law_r30 ++ (wsL_law_r31 ++ (wsL_law_r32 ++ (wsL_law_r33 ++ (wsL_law_r34 ++ (wsL_law_r35 ++ (wsL_law_r36 ++ (wsL_law_r37 ++ (wsL_law_r38 ++ wsL_law_r39)))))))))))))))))))))))))))))))))))))) ++ wsX100 ++ wsX110 ++ wsX60 ++ wsX30 ++ wsX90 ++ wsX10 ++ wsX80 ++ wsX50 ++ wsX00 ++ wsX20 ++ wsX70 ++ wsX40 ++ ([] : List Cond)
abbrev vwCl : List vw_C := [(RX0, TX0, 12), (RX1, TX1, 4), (RX2, TX2, 5), (RX3, TX3, 2), (RX4, TX4, 9), (RX5, TX5, 2), (RX6, TX6, 5), (RX7, TX7, 4), (RX8, TX8, 5), (RX9, TX9, 7), (RX10, TX10, 12), (RX11, TX11, 58)]
end
section
/-! The memory as a pure value: kinds, lengths, fields by number and address, rows by address, the heap's size. -/
abbrev Mm : Type := (Nat → Nat) × (Nat → Nat) × (Nat → Nat → Int32) × (Nat → Nat → Int64) × (Nat → Nat → Option Nat) × (Nat → Nat → Int32) × (Nat → Nat → Int64) × (Nat → Nat → Option Nat) × Nat
def mK (M : Mm) : Nat → Nat := M.1
def mN (M : Mm) : Nat → Nat := M.2.1
def mI (M : Mm) : Nat → Nat → Int32 := M.2.2.1
def mJ (M : Mm) : Nat → Nat → Int64 := M.2.2.2.1
def mR (M : Mm) : Nat → Nat → Option Nat := M.2.2.2.2.1
def mA (M : Mm) : Nat → Nat → Int32 := M.2.2.2.2.2.1
def mB (M : Mm) : Nat → Nat → Int64 := M.2.2.2.2.2.2.1
def mQ (M : Mm) : Nat → Nat → Option Nat := M.2.2.2.2.2.2.2.1
def mS (M : Mm) : Nat := M.2.2.2.2.2.2.2.2
def up2 {α : Type} (f : Nat → Nat → α) (k a : Nat) (v : α) : Nat → Nat → α := fun x y => if x = k then (if y = a then v else f x y) else f x y
def sI (M : Mm) (k a : Nat) (v : Int32) : Mm := (mK M, mN M, up2 (mI M) k a v, mJ M, mR M, mA M, mB M, mQ M, mS M)
def sJ (M : Mm) (k a : Nat) (v : Int64) : Mm := (mK M, mN M, mI M, up2 (mJ M) k a v, mR M, mA M, mB M, mQ M, mS M)
def sR (M : Mm) (k a : Nat) (v : Option Nat) : Mm := (mK M, mN M, mI M, mJ M, up2 (mR M) k a v, mA M, mB M, mQ M, mS M)
def sA (M : Mm) (a : Nat) (g : Nat → Int32) : Mm := (mK M, mN M, mI M, mJ M, mR M, va_up (mA M) a g, mB M, mQ M, mS M)
def sB (M : Mm) (a : Nat) (g : Nat → Int64) : Mm := (mK M, mN M, mI M, mJ M, mR M, mA M, va_up (mB M) a g, mQ M, mS M)
def sQ (M : Mm) (a : Nat) (g : Nat → Option Nat) : Mm := (mK M, mN M, mI M, mJ M, mR M, mA M, mB M, va_up (mQ M) a g, mS M)
/-- a new object of kind kd at the heap's end: all its fields are 0 or null -/
def nO (M : Mm) (kd : Nat) : Mm := (va_up (mK M) (mS M) kd, mN M, (fun k a => if a = mS M then 0 else mI M k a), (fun k a => if a = mS M then 0 else mJ M k a), (fun k a => if a = mS M then none else mR M k a), mA M, mB M, mQ M, mS M + 1)
/-- a new row of kind kd (20 int, 21 long, 22 boolean, from 23 on of references) and length n -/
def nA (M : Mm) (kd n : Nat) : Mm := (va_up (mK M) (mS M) kd, va_up (mN M) (mS M) n, mI M, mJ M, mR M, va_up (mA M) (mS M) (fun _ => 0), va_up (mB M) (mS M) (fun _ => 0), va_up (mQ M) (mS M) (fun _ => none), mS M + 1)
def ix (i : Int32) : Nat := i.toNatClampNeg
def vin (i : Int32) (n : Nat) : Bool := decide (0 ≤ i.toInt) && decide (i.toInt < (n : Int))
def gI (M : Mm) (kd num a : Nat) : Option Int32 := if mK M a = kd then some (mI M num a) else none
def gJ (M : Mm) (kd num a : Nat) : Option Int64 := if mK M a = kd then some (mJ M num a) else none
/-- a reference that isn't null -/
def gR (M : Mm) (kd num a : Nat) : Option Nat := if mK M a = kd then mR M num a else none
/-- a reference or null -/
def gN (M : Mm) (kd num a : Nat) : Option (Option Nat) := if mK M a = kd then some (mR M num a) else none
def pI (M : Mm) (kd num a : Nat) (v : Int32) : Option Mm := if mK M a = kd then some (sI M num a v) else none
def pZ (M : Mm) (kd num a : Nat) (v : Int32) : Option Mm := if mK M a = kd then if v = 0 ∨ v = 1 then some (sI M num a v) else none else none
def pJ (M : Mm) (kd num a : Nat) (v : Int64) : Option Mm := if mK M a = kd then some (sJ M num a v) else none
def pR (M : Mm) (kd num a : Nat) (v : Option Nat) : Option Mm := if mK M a = kd then some (sR M num a v) else none
def aI (M : Mm) (a : Nat) (i : Int32) : Option Int32 := if mK M a = 20 then if vin i (mN M a) then some (mA M a (ix i)) else none else none
def aZ (M : Mm) (a : Nat) (i : Int32) : Option Int32 := if mK M a = 22 then if vin i (mN M a) then some (mA M a (ix i)) else none else none
def aJ (M : Mm) (a : Nat) (i : Int32) : Option Int64 := if mK M a = 21 then if vin i (mN M a) then some (mB M a (ix i)) else none else none
def aR (M : Mm) (kd a : Nat) (i : Int32) : Option Nat := if mK M a = kd then if vin i (mN M a) then mQ M a (ix i) else none else none
def aN (M : Mm) (kd a : Nat) (i : Int32) : Option (Option Nat) := if mK M a = kd then if vin i (mN M a) then some (mQ M a (ix i)) else none else none
def wI (M : Mm) (a : Nat) (i : Int32) (v : Int32) : Option Mm := if mK M a = 20 then if vin i (mN M a) then some (sA M a (va_up (mA M a) (ix i) v)) else none else none
def wZ (M : Mm) (a : Nat) (i : Int32) (v : Int32) : Option Mm := if mK M a = 22 then if vin i (mN M a) then some (sA M a (va_up (mA M a) (ix i) (vp_nar .boolean v))) else none else none
def wJ (M : Mm) (a : Nat) (i : Int32) (v : Int64) : Option Mm := if mK M a = 21 then if vin i (mN M a) then some (sB M a (va_up (mB M a) (ix i) v)) else none else none
/-- store of a reference to an object of kind ke into a row of kind kd -/
def wR (M : Mm) (kd ke a : Nat) (i : Int32) (v : Nat) : Option Mm := if mK M a = kd then if vin i (mN M a) then if mK M v = ke then some (sQ M a (va_up (mQ M a) (ix i) (some v))) else none else none else none
def aL (M : Mm) (a : Nat) : Option Int32 := if 20 ≤ mK M a then if mK M a < 28 then some (nI (mN M a)) else none else none
/-- a new row of n places, n of the machine: refused here beyond B -/
def mA0 (M : Mm) (kd B : Nat) (n : Int32) : Option Mm := if 0 ≤ n.toInt then if n.toInt ≤ (B : Int) then some (nA M kd (ix n)) else none else none
def cpI (M : Mm) (a : Nat) (i : Int32) (b : Nat) (j n : Int32) : Option Mm := if mK M a = 20 then if mK M b = 20 then if 0 ≤ i.toInt then if 0 ≤ j.toInt then if 0 ≤ n.toInt then if i.toInt + n.toInt ≤ (mN M a : Int) then if j.toInt + n.toInt ≤ (mN M b : Int) then some (sA M b (va_cpy (mA M a) (mA M b) (ix i) (ix j) (ix n))) else none else none else none else none else none else none else none
def cpJ (M : Mm) (a : Nat) (i : Int32) (b : Nat) (j n : Int32) : Option Mm := if mK M a = 21 then if mK M b = 21 then if 0 ≤ i.toInt then if 0 ≤ j.toInt then if 0 ≤ n.toInt then if i.toInt + n.toInt ≤ (mN M a : Int) then if j.toInt + n.toInt ≤ (mN M b : Int) then some (sB M b (va_cpy (mB M a) (mB M b) (ix i) (ix j) (ix n))) else none else none else none else none else none else none else none
/-- a clone of an int row -/
def clI (M : Mm) (B a : Nat) : Option Mm := if mK M a = 20 then if mN M a ≤ B then some (sA (nA M 20 (mN M a)) (mS M) (mA M a)) else none else none
def ob2 {α β : Type} (x : Option (Mm × α)) (f : Mm → α → Option β) : Option β := match x with
  | none => none
  | some q => f q.1 q.2
def nm {β : Type} (x : Option Nat) (A : Option β) (B : Nat → Option β) : Option β := match x with
  | none => A
  | some a => B a
def ck {β : Type} (c : Bool) (x : Option β) : Option β := if c then x else none
theorem ob_some {α β : Type} {x : Option α} {f : α → Option β} {r : β} (h : x.bind f = some r) : ∃ v, x = some v ∧ f v = some r := by
  cases x with
  | none => cases h
  | some v => exact ⟨v, rfl, h⟩
theorem ob2_some {α β : Type} {x : Option (Mm × α)} {f : Mm → α → Option β} {r : β} (h : ob2 x f = some r) : ∃ M v, x = some (M, v) ∧ f M v = some r := by
  cases x with
  | none => cases h
  | some q => exact ⟨q.1, q.2, rfl, h⟩
theorem ck_some {β : Type} {c : Bool} {x : Option β} {r : β} (h : ck c x = some r) : c = true ∧ x = some r := by
  cases c with
  | false => cases h
  | true => exact ⟨rfl, h⟩
theorem it_t {α : Type} {c : Prop} [Decidable c] {A B : α} {r : α} (h : (if c then A else B) = r) (hc : c) : A = r := by rw [if_pos hc] at h; exact h
theorem it_f {α : Type} {c : Prop} [Decidable c] {A B : α} {r : α} (h : (if c then A else B) = r) (hc : ¬ c) : B = r := by rw [if_neg hc] at h; exact h
theorem if_some {α : Type} {c : Prop} [Decidable c] {A : Option α} {r : α} (h : (if c then A else none) = some r) : c ∧ A = some r := by
  by_cases hc : c
  · rw [if_pos hc] at h; exact ⟨hc, h⟩
  · rw [if_neg hc] at h; cases h
theorem vin_in {i : Int32} {n : Nat} (h : vin i n = true) : vp_in i n := by
  unfold vin at h
  rw [Bool.and_eq_true, decide_eq_true_eq, decide_eq_true_eq] at h
  exact vp_in_iff.mpr h
end
section
/-! What the machine's heap is, of a memory; and the rows: an instruction, a step of the pure value. -/
def tyTab : List (List Nat) := [[2, 2, 2, 2, 2, 0, 0, 0, 0, 2, 0, 0], [2, 2, 0, 0], [2, 2, 0, 0, 0], [2, 0], [0, 0, 0, 2, 0, 0, 0, 0, 2], [2, 0], [2, 2, 2, 2, 0], [2, 2, 0, 0], [2, 0, 0, 0, 0], [2, 0, 0, 0, 0, 2, 0], [0, 2, 2, 2, 2, 2, 2, 2, 2, 2, 0, 0], [0, 0, 2, 2, 2, 2, 0, 0, 2, 2, 2, 2, 2, 2, 2, 2, 0, 2, 2, 2, 2, 2, 2, 2, 2, 2, 2, 2, 2, 2, 2, 2, 2, 2, 2, 0, 0, 0, 0, 2, 2, 2, 0, 0, 0, 0, 2, 2, 2, 2, 0, 1, 2, 2, 2, 2, 2, 2]]
def tyO (c k : Nat) : Nat := (tyTab.getD c []).getD k 0
def fv (M : Mm) (c k a : Nat) : Value := if tyO c k = 0 then .int (mI M (100 * c + k) a) else if tyO c k = 1 then .long (mJ M (100 * c + k) a) else va_rf (mR M (100 * c + k) a)
def tysC (cy : Nat → ClassId) : List (ClassId × FieldType) := [(cy 0, .int), (cy 1, .long), (cy 2, .boolean), (cy 3, .object RX1), (cy 4, .object RX3), (cy 5, .object RX4), (cy 6, .object RX8), (cy 7, .object RX9)]
def cAt (D : va_G) (cy : Nat → ClassId) (M : Mm) (H : Heap) (a : Nat) : Prop :=
  (mK M a ≤ 12 → ∃ r : vw_C, vwCl[mK M a - 1]? = some r ∧ t_OB a (D.1 (mK M a - 1)) r.2.2 (D.2 (mK M a - 1)) H (fun k => fv M (mK M a - 1) k a)) ∧
  (mK M a = 20 → H[a]? = some (arrV (cy 0) (mN M a) (fun j => .int (mA M a j)))) ∧
  (mK M a = 21 → H[a]? = some (arrV (cy 1) (mN M a) (fun j => .long (mB M a j)))) ∧
  (mK M a = 22 → H[a]? = some (arrV (cy 2) (mN M a) (fun j => .int (mA M a j)))) ∧
  (23 ≤ mK M a → H[a]? = some (arrV (cy (mK M a - 20)) (mN M a) (fun j => va_rf (mQ M a j))))
def Hp (b0 : Nat) (D : va_G) (cy : Nat → ClassId) (M : Mm) (H : Heap) : Prop := H.size = mS M ∧ ∀ a, mK M a ≠ 0 → b0 ≤ a ∧ a < H.size ∧ cAt D cy M H a
theorem cAt_kept {D : va_G} {cy : Nat → ClassId} {M M1 : Mm} {H H1 : Heap} {a : Nat} (h : cAt D cy M H a) (hH : H1[a]? = H[a]?) (hk : mK M1 a = mK M a) (hn : mN M1 a = mN M a) (hi : ∀ k, mI M1 k a = mI M k a) (hj : ∀ k, mJ M1 k a = mJ M k a) (hr : ∀ k, mR M1 k a = mR M k a) (hA : mA M1 a = mA M a) (hB : mB M1 a = mB M a) (hQ : mQ M1 a = mQ M a) : cAt D cy M1 H1 a := by
  obtain ⟨h0, h1, h2, h3, h4⟩ := h
  refine ⟨fun g => ?_, fun g => ?_, fun g => ?_, fun g => ?_, fun g => ?_⟩
  · rw [hk] at g
    obtain ⟨r, e1, e2⟩ := h0 g
    refine ⟨r, by rw [hk]; exact e1, ?_⟩
    rw [hk]
    refine (e2.kept hH).to (fun k _ => ?_)
    simp only [fv, hi, hj, hr]
  · rw [hk] at g; rw [hH, hn, hA]; exact h1 g
  · rw [hk] at g; rw [hH, hn, hB]; exact h2 g
  · rw [hk] at g; rw [hH, hn, hA]; exact h3 g
  · rw [hk] at g; rw [hH, hn, hQ, hk]; exact h4 g
theorem Hp_of {b0 : Nat} {D : va_G} {cy : Nat → ClassId} {M M1 : Mm} {H H1 : Heap} {a : Nat} (hP : Hp b0 D cy M H) (z : H1.size = H.size) (oq : ∀ q : Nat, q ≠ a → H1[q]? = H[q]?) (hs : mS M1 = mS M) (hk : mK M1 = mK M) (hn : mN M1 = mN M)
    (hi : ∀ b, b ≠ a → ∀ k, mI M1 k b = mI M k b) (hj : ∀ b, b ≠ a → ∀ k, mJ M1 k b = mJ M k b) (hr : ∀ b, b ≠ a → ∀ k, mR M1 k b = mR M k b) (hA : ∀ b, b ≠ a → mA M1 b = mA M b) (hB : ∀ b, b ≠ a → mB M1 b = mB M b) (hQ : ∀ b, b ≠ a → mQ M1 b = mQ M b) (ha : mK M a ≠ 0 → cAt D cy M1 H1 a) : Hp b0 D cy M1 H1 := by
  refine ⟨by rw [z, hs]; exact hP.1, fun b hb => ?_⟩
  rw [hk] at hb
  obtain ⟨g1, g2, g3⟩ := hP.2 b hb
  refine ⟨g1, by rw [z]; exact g2, ?_⟩
  by_cases e : b = a
  · subst e; exact ha hb
  · exact cAt_kept g3 (oq b e) (by rw [hk]) (by rw [hn]) (hi b e) (hj b e) (hr b e) (hA b e) (hB b e) (hQ b e)
theorem up2_ne {α : Type} {f : Nat → Nat → α} {k a : Nat} {v : α} {x y : Nat} (h : y ≠ a) : up2 f k a v x y = f x y := by
  simp only [up2, if_neg h, ite_self]
theorem vau_ne {α : Type} {f : Nat → α} {k : Nat} {v : α} {j : Nat} (h : j ≠ k) : va_up f k v j = f j := if_neg h
theorem vau_eq {α : Type} {f : Nat → α} {k : Nat} {v : α} : va_up f k v k = v := if_pos rfl
theorem Hp_obj {b0 : Nat} {D : va_G} {cy : Nat → ClassId} {M : Mm} {H : Heap} {a ci : Nat} {C : String} {T : u_T} {N : Nat} (hP : Hp b0 D cy M H) (hk : mK M a = ci + 1) (hc : vwCl[ci]? = some (C, T, N)) : b0 ≤ a ∧ t_OB a (D.1 ci) N (D.2 ci) H (fun k => fv M ci k a) := by
  have hlt : ci < 12 := (List.getElem?_eq_some_iff.mp hc).1
  obtain ⟨g1, -, g3, -⟩ := hP.2 a (by omega)
  obtain ⟨r, e1, e2⟩ := g3 (by omega)
  rw [hk] at e1 e2
  have hr : r = (C, T, N) := Option.some.inj (e1.symm.trans hc)
  subst hr
  exact ⟨g1, e2⟩
theorem Hp_I {b0 : Nat} {D : va_G} {cy : Nat → ClassId} {M : Mm} {H : Heap} {a : Nat} (hP : Hp b0 D cy M H) (hk : mK M a = 20) : b0 ≤ a ∧ H[a]? = some (arrV (cy 0) (mN M a) (fun j => .int (mA M a j))) := by
  obtain ⟨g1, -, -, g4, -⟩ := hP.2 a (by omega)
  exact ⟨g1, g4 hk⟩
theorem Hp_J {b0 : Nat} {D : va_G} {cy : Nat → ClassId} {M : Mm} {H : Heap} {a : Nat} (hP : Hp b0 D cy M H) (hk : mK M a = 21) : b0 ≤ a ∧ H[a]? = some (arrV (cy 1) (mN M a) (fun j => .long (mB M a j))) := by
  obtain ⟨g1, -, -, -, g4, -⟩ := hP.2 a (by omega)
  exact ⟨g1, g4 hk⟩
theorem Hp_Z {b0 : Nat} {D : va_G} {cy : Nat → ClassId} {M : Mm} {H : Heap} {a : Nat} (hP : Hp b0 D cy M H) (hk : mK M a = 22) : b0 ≤ a ∧ H[a]? = some (arrV (cy 2) (mN M a) (fun j => .int (mA M a j))) := by
  obtain ⟨g1, -, -, -, -, g4, -⟩ := hP.2 a (by omega)
  exact ⟨g1, g4 hk⟩
theorem Hp_Q {b0 : Nat} {D : va_G} {cy : Nat → ClassId} {M : Mm} {H : Heap} {a kd : Nat} (hP : Hp b0 D cy M H) (hk : mK M a = kd) (h23 : 23 ≤ kd) : b0 ≤ a ∧ H[a]? = some (arrV (cy (kd - 20)) (mN M a) (fun j => va_rf (mQ M a j))) := by
  obtain ⟨g1, -, -, -, -, -, g4⟩ := hP.2 a (by omega)
  rw [← hk]
  exact ⟨g1, g4 (by omega)⟩
def BA (b0 : Nat) : Nat → Prop := fun q => b0 ≤ q
section XRows
variable {p : Program} {l : Launch} {e : Env} {R : Room} {s : State} {m : MethodId} {args : Array Value} {below : List Frame} {meth : Method} {c : Code} {H : Heap} {locs : List Loc} {cells slots : Nat} {Q : State → Prop}
variable {cc : ByteArray} {pc : Nat} {ls : Array Slot} {rest : List Value} {D : va_G} {cy : Nat → ClassId} {a b0 : Nat} {M : Mm} {H0 : Heap} {Ts : List Cond} {own C : String} {T : u_T} {N ci k idx kd num : Nat} {ρ : Type} {r : ρ}
/-- getfield: the value, whatever its type -/
theorem xr_getV (hx : p.tables.exec = Jvm.exec) (hb : c.code = cc) (hts : ∀ w ∈ Ts, w.before args s = true) (hin : ∀ w ∈ u_ws C T N, w ∈ Ts) (hown : s.vm.findClass own = some m.cls) (hK : va_K D vwCl (tysC cy) s) (hP : Hp b0 D cy M H) (hc : vwCl[ci]? = some (C, T, N)) (hk : k < N) (hl : Cond.fieldLink own idx (T k).1 (T k).2.1 (T k).2.2.1 ∈ Ts) (hkd : mK M a = ci + 1) {v : Value} (hv : fv M ci k a = v) (hd : decode cc pc = .ok (.getfield idx, 3))
    (kk : W p l e R s m args below meth c H locs cells slots Q (F0 m (pc + 3) ls (v :: rest))) : W p l e R s m args below meth c H locs cells slots Q (F0 m pc ls (.ref a :: rest)) := by
  obtain ⟨-, cell, q1, q2, q3, q4⟩ := Hp_obj hP hkd hc
  obtain ⟨hS, hfc, kC, hkC, hkind⟩ := hK.1 ci _ hc
  obtain ⟨cf, kf, fi, f, hi, hsl⟩ := hS k hk
  refine W.getf hx hb hown (hts _ hl) hi (u_facts hfc hkC (u_lays hts hin hk) hi).1 q1 (by rw [q3]; exact fun h => by cases h) (v := v) ?_ rfl rfl hd kk
  have hsl2 : f.slot = D.2 ci k := hsl
  rw [hsl2, q4 k hk]
  exact congrArg some hv
theorem xr_getI (hx : p.tables.exec = Jvm.exec) (hb : c.code = cc) (hts : ∀ w ∈ Ts, w.before args s = true) (hin : ∀ w ∈ u_ws C T N, w ∈ Ts) (hown : s.vm.findClass own = some m.cls) (hK : va_K D vwCl (tysC cy) s) (hP : Hp b0 D cy M H) {f : Int32 → Option ρ} (hF : (gI M kd num a).bind f = some r) (ci k : Nat) (hc : vwCl[ci]? = some (C, T, N)) (hk : k < N) (hl : Cond.fieldLink own idx (T k).1 (T k).2.1 (T k).2.2.1 ∈ Ts) (hz : tyO ci k = 0 ∧ kd = ci + 1 ∧ num = 100 * ci + k) (hd : decode cc pc = .ok (.getfield idx, 3))
    (kk : ∀ v, f v = some r → W p l e R s m args below meth c H locs cells slots Q (F0 m (pc + 3) ls (.int v :: rest))) : W p l e R s m args below meth c H locs cells slots Q (F0 m pc ls (.ref a :: rest)) := by
  obtain ⟨v, h1, h2⟩ := ob_some hF
  obtain ⟨h3, h4⟩ := if_some h1
  obtain ⟨z1, z2, z3⟩ := hz
  have h5 : mI M num a = v := Option.some.inj h4
  exact xr_getV hx hb hts hin hown hK hP hc hk hl (by rw [h3, z2]) (v := .int v) (by simp only [fv, z1, if_true, ← z3, h5]) hd (kk v h2)
theorem xr_getJ (hx : p.tables.exec = Jvm.exec) (hb : c.code = cc) (hts : ∀ w ∈ Ts, w.before args s = true) (hin : ∀ w ∈ u_ws C T N, w ∈ Ts) (hown : s.vm.findClass own = some m.cls) (hK : va_K D vwCl (tysC cy) s) (hP : Hp b0 D cy M H) {f : Int64 → Option ρ} (hF : (gJ M kd num a).bind f = some r) (ci k : Nat) (hc : vwCl[ci]? = some (C, T, N)) (hk : k < N) (hl : Cond.fieldLink own idx (T k).1 (T k).2.1 (T k).2.2.1 ∈ Ts) (hz : tyO ci k = 1 ∧ kd = ci + 1 ∧ num = 100 * ci + k) (hd : decode cc pc = .ok (.getfield idx, 3))
    (kk : ∀ v, f v = some r → W p l e R s m args below meth c H locs cells slots Q (F0 m (pc + 3) ls (.long v :: rest))) : W p l e R s m args below meth c H locs cells slots Q (F0 m pc ls (.ref a :: rest)) := by
  obtain ⟨v, h1, h2⟩ := ob_some hF
  obtain ⟨h3, h4⟩ := if_some h1
  obtain ⟨z1, z2, z3⟩ := hz
  have h5 : mJ M num a = v := Option.some.inj h4
  exact xr_getV hx hb hts hin hown hK hP hc hk hl (by rw [h3, z2]) (v := .long v) (by simp only [fv, z1, ← z3, h5]; rfl) hd (kk v h2)
theorem xr_getR (hx : p.tables.exec = Jvm.exec) (hb : c.code = cc) (hts : ∀ w ∈ Ts, w.before args s = true) (hin : ∀ w ∈ u_ws C T N, w ∈ Ts) (hown : s.vm.findClass own = some m.cls) (hK : va_K D vwCl (tysC cy) s) (hP : Hp b0 D cy M H) {f : Nat → Option ρ} (hF : (gR M kd num a).bind f = some r) (ci k : Nat) (hc : vwCl[ci]? = some (C, T, N)) (hk : k < N) (hl : Cond.fieldLink own idx (T k).1 (T k).2.1 (T k).2.2.1 ∈ Ts) (hz : tyO ci k = 2 ∧ kd = ci + 1 ∧ num = 100 * ci + k) (hd : decode cc pc = .ok (.getfield idx, 3))
    (kk : ∀ v, f v = some r → W p l e R s m args below meth c H locs cells slots Q (F0 m (pc + 3) ls (.ref v :: rest))) : W p l e R s m args below meth c H locs cells slots Q (F0 m pc ls (.ref a :: rest)) := by
  obtain ⟨v, h1, h2⟩ := ob_some hF
  obtain ⟨h3, h4⟩ := if_some h1
  obtain ⟨z1, z2, z3⟩ := hz
  exact xr_getV hx hb hts hin hown hK hP hc hk hl (by rw [h3, z2]) (v := .ref v) (by simp only [fv, z1, ← z3, h4]; rfl) hd (kk v h2)
theorem xr_getN (hx : p.tables.exec = Jvm.exec) (hb : c.code = cc) (hts : ∀ w ∈ Ts, w.before args s = true) (hin : ∀ w ∈ u_ws C T N, w ∈ Ts) (hown : s.vm.findClass own = some m.cls) (hK : va_K D vwCl (tysC cy) s) (hP : Hp b0 D cy M H) {f : Option Nat → Option ρ} (hF : (gN M kd num a).bind f = some r) (ci k : Nat) (hc : vwCl[ci]? = some (C, T, N)) (hk : k < N) (hl : Cond.fieldLink own idx (T k).1 (T k).2.1 (T k).2.2.1 ∈ Ts) (hz : tyO ci k = 2 ∧ kd = ci + 1 ∧ num = 100 * ci + k) (hd : decode cc pc = .ok (.getfield idx, 3))
    (kk : ∀ v, f v = some r → W p l e R s m args below meth c H locs cells slots Q (F0 m (pc + 3) ls (va_rf v :: rest))) : W p l e R s m args below meth c H locs cells slots Q (F0 m pc ls (.ref a :: rest)) := by
  obtain ⟨v, h1, h2⟩ := ob_some hF
  obtain ⟨h3, h4⟩ := if_some h1
  obtain ⟨z1, z2, z3⟩ := hz
  have h5 : mR M num a = v := Option.some.inj h4
  exact xr_getV hx hb hts hin hown hK hP hc hk hl (by rw [h3, z2]) (v := va_rf v) (by simp only [fv, z1, ← z3, h5]; rfl) hd (kk v h2)
/-- putfield, whatever the type: M1 is M but for that field of that object -/
theorem xr_putV (hx : p.tables.exec = Jvm.exec) (hb : c.code = cc) (hts : ∀ w ∈ Ts, w.before args s = true) (hin : ∀ w ∈ u_ws C T N, w ∈ Ts) (hown : s.vm.findClass own = some m.cls) (hK : va_K D vwCl (tysC cy) s) (hP : Hp b0 D cy M H) (hS0 : va_S (BA b0) H0 H locs) (hc : vwCl[ci]? = some (C, T, N)) (hk : k < N) (ty0 : Nat → FieldType) (hty : ∀ k, k < N → parseFieldDescriptor (T k).2.2.1 = some (ty0 k)) (hnm : ∀ a, a < N → ∀ b, b < N → a ≠ b → (T a).2.1 ≠ (T b).2.1) (hl : Cond.fieldLink own idx (T k).1 (T k).2.1 (T k).2.2.1 ∈ Ts)
    (hfin : (T k).2.2.2 = false ∨ ((T k).2.2.2 = true ∧ meth.name = "<init>" ∧ (T k).1 = own)) (hkd : mK M a = ci + 1) {v : Value} {M1 : Mm} (hn : narrow (ty0 k) v = v) (hfit : fits (ty0 k) v = true)
    (hs1 : mS M1 = mS M) (hk1 : mK M1 = mK M) (hn1 : mN M1 = mN M) (hi : ∀ b, b ≠ a → ∀ k, mI M1 k b = mI M k b) (hj : ∀ b, b ≠ a → ∀ k, mJ M1 k b = mJ M k b) (hr : ∀ b, b ≠ a → ∀ k, mR M1 k b = mR M k b) (hA : mA M1 = mA M) (hB : mB M1 = mB M) (hQ : mQ M1 = mQ M) (hf : ∀ j, fv M1 ci j a = updV (fun k => fv M ci k a) k v j)
    (hd : decode cc pc = .ok (.putfield idx, 3)) (kk : ∀ (H1 : Heap) (locs1 : List Loc), Hp b0 D cy M1 H1 → va_S (BA b0) H0 H1 locs1 → W p l e R s m args below meth c H1 locs1 cells slots Q (F0 m (pc + 3) ls rest)) : W p l e R s m args below meth c H locs cells slots Q (F0 m pc ls (v :: .ref a :: rest)) := by
  have hap := va_apart (own := own) hts hin ty0 hty hnm hK hc
  obtain ⟨hba, cell, q1, q2, q3, q4⟩ := Hp_obj hP hkd hc
  obtain ⟨hS, hfc, kC, hkC, hkind⟩ := hK.1 ci _ hc
  obtain ⟨cf, kf, fi, f, hi0, hsl⟩ := hS k hk
  have hsl2 : f.slot = D.2 ci k := hsl
  have hlay := u_lays hts hin hk
  have hst := (u_facts hfc hkC hlay hi0).1
  have h6 := u_fits hfc hkC hkind hlay hi0 (hty k hk) hn hfit
  have fin : ∀ H' : Heap, H'[a]? = some (cell.setSlot f.slot v) → H'.size = H.size → (∀ q, q ≠ a → H'[q]? = H[q]?) → W p l e R s m args below meth c H' (locs ++ [⟨a, f.slot⟩]) cells slots Q (F0 m (pc + 3) ls rest) := by
    intro H' e1 e2 e3
    rw [hsl2] at e1
    refine kk H' _ (Hp_of (a := a) hP e2 e3 hs1 hk1 hn1 hi hj hr (fun b _ => by rw [hA]) (fun b _ => by rw [hB]) (fun b _ => by rw [hQ]) (fun _ => ?_)) (hS0.put e2 e3 hba)
    have hlt : ci < 12 := (List.getElem?_eq_some_iff.mp hc).1
    refine ⟨fun _ => ?_, fun g => by rw [hk1] at g; omega, fun g => by rw [hk1] at g; omega, fun g => by rw [hk1] at g; omega, fun g => by rw [hk1] at g; omega⟩
    rw [hk1, hkd]
    refine ⟨_, hc, t_OB.to (V := updV (fun k => fv M ci k a) k v) ⟨_, e1, q2, q3, t_set q4 hap hk v⟩ (fun j _ => (hf j).symm)⟩
  rcases hfin with hfin | ⟨hfin, hin2, hdecl⟩
  · have hlay2 := hts _ (hin _ (u_in_lay hk))
    unfold u_lay at hlay2
    rw [if_neg (by rw [hfin]; decide)] at hlay2
    have h7 := u_store hfc hkC hkind hlay2 hi0 (hty k hk) hn hfit
    exact W.putK hx hb (f := f) ⟨hown, hts _ hl, ⟨_, _, _, hi0⟩, hst⟩ (by rw [q2]; exact h7) q1 q3 (by rw [hsl2]; exact k2_hasslot (q4 k hk)) rfl rfl hd fin
  · have hlay2 := hts _ (hin _ (u_in_lay hk))
    unfold u_lay at hlay2
    rw [if_pos hfin] at hlay2
    have hcf : m.cls = cf := by
      obtain ⟨_, _, c', _, _, _, -, -, hf', -, -, -, hown2, -⟩ := Cond.laysFinal_spec hlay2
      have e1 : c' = cf := by have := hi0.symm.trans hf'; simp at this; exact this.1.symm
      rw [hdecl] at hown2
      rw [← e1]; exact Option.some.inj (hown.symm.trans hown2)
    exact W.putFinK hx hb hown (hts _ hl) hi0 hst hcf hin2 (by rw [q2]; exact h6) q1 q3 (by rw [hsl2]; exact k2_hasslot (q4 k hk)) rfl rfl hd fin
theorem xr_putI (hx : p.tables.exec = Jvm.exec) (hb : c.code = cc) (hts : ∀ w ∈ Ts, w.before args s = true) (hin : ∀ w ∈ u_ws C T N, w ∈ Ts) (hown : s.vm.findClass own = some m.cls) (hK : va_K D vwCl (tysC cy) s) (hP : Hp b0 D cy M H) (hS : va_S (BA b0) H0 H locs) {v : Int32} {f : Mm → Option ρ} (hF : (pI M kd num a v).bind f = some r) (ci k : Nat) (hc : vwCl[ci]? = some (C, T, N)) (hk : k < N) (ty0 : Nat → FieldType) (hty : ∀ k, k < N → parseFieldDescriptor (T k).2.2.1 = some (ty0 k)) (hnm : ∀ a, a < N → ∀ b, b < N → a ≠ b → (T a).2.1 ≠ (T b).2.1) (hl : Cond.fieldLink own idx (T k).1 (T k).2.1 (T k).2.2.1 ∈ Ts) (hfin : (T k).2.2.2 = false ∨ ((T k).2.2.2 = true ∧ meth.name = "<init>" ∧ (T k).1 = own)) (hti : ty0 k = .int) (hz : tyO ci k = 0 ∧ kd = ci + 1 ∧ num = 100 * ci + k) (hd : decode cc pc = .ok (.putfield idx, 3))
    (kk : ∀ (M : Mm) (H : Heap) (locs : List Loc), f M = some r → Hp b0 D cy M H → va_S (BA b0) H0 H locs → W p l e R s m args below meth c H locs cells slots Q (F0 m (pc + 3) ls rest)) : W p l e R s m args below meth c H locs cells slots Q (F0 m pc ls (.int v :: .ref a :: rest)) := by
  obtain ⟨M1, h1, h2⟩ := ob_some hF
  obtain ⟨h3, h4⟩ := if_some h1
  obtain ⟨z1, z2, z3⟩ := hz
  have h5 : sI M num a v = M1 := Option.some.inj h4
  subst h5
  refine xr_putV (M1 := sI M num a v) hx hb hts hin hown hK hP hS hc hk ty0 hty hnm hl hfin (by rw [h3, z2]) (by rw [hti]; rfl) (by rw [hti]; rfl) rfl rfl rfl (fun b hb2 k2 => ?_) (fun b hb2 k2 => ?_) (fun b hb2 k2 => ?_) rfl rfl rfl (fun j => ?_) hd (fun H1 locs1 g1 g2 => kk _ H1 locs1 h2 g1 g2)
  · first | exact up2_ne hb2 | rfl
  · first | exact up2_ne hb2 | rfl
  · first | exact up2_ne hb2 | rfl
  · by_cases hj : j = k
    · subst hj
      simp only [fv, updV, z1, ← z3, if_true]
      simp [sI, mI, up2]
    · have hne : ¬ 100 * ci + j = num := by omega
      simp [fv, updV, hj, sI, mI, mJ, mR, up2, hne]
theorem xr_putZ (hx : p.tables.exec = Jvm.exec) (hb : c.code = cc) (hts : ∀ w ∈ Ts, w.before args s = true) (hin : ∀ w ∈ u_ws C T N, w ∈ Ts) (hown : s.vm.findClass own = some m.cls) (hK : va_K D vwCl (tysC cy) s) (hP : Hp b0 D cy M H) (hS : va_S (BA b0) H0 H locs) {v : Int32} {f : Mm → Option ρ} (hF : (pZ M kd num a v).bind f = some r) (ci k : Nat) (hc : vwCl[ci]? = some (C, T, N)) (hk : k < N) (ty0 : Nat → FieldType) (hty : ∀ k, k < N → parseFieldDescriptor (T k).2.2.1 = some (ty0 k)) (hnm : ∀ a, a < N → ∀ b, b < N → a ≠ b → (T a).2.1 ≠ (T b).2.1) (hl : Cond.fieldLink own idx (T k).1 (T k).2.1 (T k).2.2.1 ∈ Ts) (hfin : (T k).2.2.2 = false ∨ ((T k).2.2.2 = true ∧ meth.name = "<init>" ∧ (T k).1 = own)) (hti : ty0 k = .boolean) (hz : tyO ci k = 0 ∧ kd = ci + 1 ∧ num = 100 * ci + k) (hd : decode cc pc = .ok (.putfield idx, 3))
    (kk : ∀ (M : Mm) (H : Heap) (locs : List Loc), f M = some r → Hp b0 D cy M H → va_S (BA b0) H0 H locs → W p l e R s m args below meth c H locs cells slots Q (F0 m (pc + 3) ls rest)) : W p l e R s m args below meth c H locs cells slots Q (F0 m pc ls (.int v :: .ref a :: rest)) := by
  obtain ⟨M1, h1, h2⟩ := ob_some hF
  obtain ⟨h3, h4⟩ := if_some h1
  obtain ⟨hv01, h4⟩ := if_some h4
  obtain ⟨z1, z2, z3⟩ := hz
  have h5 : sI M num a v = M1 := Option.some.inj h4
  subst h5
  refine xr_putV (M1 := sI M num a v) hx hb hts hin hown hK hP hS hc hk ty0 hty hnm hl hfin (by rw [h3, z2]) (by rw [hti]; rcases hv01 with e | e <;> subst e <;> rfl) (by rw [hti]; rcases hv01 with e | e <;> subst e <;> rfl) rfl rfl rfl (fun b hb2 k2 => ?_) (fun b hb2 k2 => ?_) (fun b hb2 k2 => ?_) rfl rfl rfl (fun j => ?_) hd (fun H1 locs1 g1 g2 => kk _ H1 locs1 h2 g1 g2)
  · first | exact up2_ne hb2 | rfl
  · first | exact up2_ne hb2 | rfl
  · first | exact up2_ne hb2 | rfl
  · by_cases hj : j = k
    · subst hj
      simp only [fv, updV, z1, ← z3, if_true]
      simp [sI, mI, up2]
    · have hne : ¬ 100 * ci + j = num := by omega
      simp [fv, updV, hj, sI, mI, mJ, mR, up2, hne]
theorem xr_putJ (hx : p.tables.exec = Jvm.exec) (hb : c.code = cc) (hts : ∀ w ∈ Ts, w.before args s = true) (hin : ∀ w ∈ u_ws C T N, w ∈ Ts) (hown : s.vm.findClass own = some m.cls) (hK : va_K D vwCl (tysC cy) s) (hP : Hp b0 D cy M H) (hS : va_S (BA b0) H0 H locs) {v : Int64} {f : Mm → Option ρ} (hF : (pJ M kd num a v).bind f = some r) (ci k : Nat) (hc : vwCl[ci]? = some (C, T, N)) (hk : k < N) (ty0 : Nat → FieldType) (hty : ∀ k, k < N → parseFieldDescriptor (T k).2.2.1 = some (ty0 k)) (hnm : ∀ a, a < N → ∀ b, b < N → a ≠ b → (T a).2.1 ≠ (T b).2.1) (hl : Cond.fieldLink own idx (T k).1 (T k).2.1 (T k).2.2.1 ∈ Ts) (hfin : (T k).2.2.2 = false ∨ ((T k).2.2.2 = true ∧ meth.name = "<init>" ∧ (T k).1 = own)) (hti : ty0 k = .long) (hz : tyO ci k = 1 ∧ kd = ci + 1 ∧ num = 100 * ci + k) (hd : decode cc pc = .ok (.putfield idx, 3))
    (kk : ∀ (M : Mm) (H : Heap) (locs : List Loc), f M = some r → Hp b0 D cy M H → va_S (BA b0) H0 H locs → W p l e R s m args below meth c H locs cells slots Q (F0 m (pc + 3) ls rest)) : W p l e R s m args below meth c H locs cells slots Q (F0 m pc ls (.long v :: .ref a :: rest)) := by
  obtain ⟨M1, h1, h2⟩ := ob_some hF
  obtain ⟨h3, h4⟩ := if_some h1
  obtain ⟨z1, z2, z3⟩ := hz
  have h5 : sJ M num a v = M1 := Option.some.inj h4
  subst h5
  refine xr_putV (M1 := sJ M num a v) hx hb hts hin hown hK hP hS hc hk ty0 hty hnm hl hfin (by rw [h3, z2]) (by rw [hti]; rfl) (by rw [hti]; rfl) rfl rfl rfl (fun b hb2 k2 => ?_) (fun b hb2 k2 => ?_) (fun b hb2 k2 => ?_) rfl rfl rfl (fun j => ?_) hd (fun H1 locs1 g1 g2 => kk _ H1 locs1 h2 g1 g2)
  · first | exact up2_ne hb2 | rfl
  · first | exact up2_ne hb2 | rfl
  · first | exact up2_ne hb2 | rfl
  · by_cases hj : j = k
    · subst hj
      simp only [fv, updV, z1, ← z3, if_true]
      simp [sJ, mJ, up2]
    · have hne : ¬ 100 * ci + j = num := by omega
      simp [fv, updV, hj, sJ, mI, mJ, mR, up2, hne]
theorem xr_putR (hx : p.tables.exec = Jvm.exec) (hb : c.code = cc) (hts : ∀ w ∈ Ts, w.before args s = true) (hin : ∀ w ∈ u_ws C T N, w ∈ Ts) (hown : s.vm.findClass own = some m.cls) (hK : va_K D vwCl (tysC cy) s) (hP : Hp b0 D cy M H) (hS : va_S (BA b0) H0 H locs) {v : Option Nat} {f : Mm → Option ρ} (hF : (pR M kd num a v).bind f = some r) (ci k : Nat) (hc : vwCl[ci]? = some (C, T, N)) (hk : k < N) (ty0 : Nat → FieldType) (hty : ∀ k, k < N → parseFieldDescriptor (T k).2.2.1 = some (ty0 k)) (hnm : ∀ a, a < N → ∀ b, b < N → a ≠ b → (T a).2.1 ≠ (T b).2.1) (hl : Cond.fieldLink own idx (T k).1 (T k).2.1 (T k).2.2.1 ∈ Ts) (hfin : (T k).2.2.2 = false ∨ ((T k).2.2.2 = true ∧ meth.name = "<init>" ∧ (T k).1 = own)) (hti : (∃ n, ty0 k = .object n) ∨ ∃ t, ty0 k = .array t) (hz : tyO ci k = 2 ∧ kd = ci + 1 ∧ num = 100 * ci + k) (hd : decode cc pc = .ok (.putfield idx, 3))
    (kk : ∀ (M : Mm) (H : Heap) (locs : List Loc), f M = some r → Hp b0 D cy M H → va_S (BA b0) H0 H locs → W p l e R s m args below meth c H locs cells slots Q (F0 m (pc + 3) ls rest)) : W p l e R s m args below meth c H locs cells slots Q (F0 m pc ls (va_rf v :: .ref a :: rest)) := by
  obtain ⟨M1, h1, h2⟩ := ob_some hF
  obtain ⟨h3, h4⟩ := if_some h1
  obtain ⟨z1, z2, z3⟩ := hz
  have h5 : sR M num a v = M1 := Option.some.inj h4
  subst h5
  refine xr_putV (M1 := sR M num a v) hx hb hts hin hown hK hP hS hc hk ty0 hty hnm hl hfin (by rw [h3, z2]) (by rcases hti with ⟨n, e⟩ | ⟨t, e⟩ <;> rw [e] <;> cases v <;> rfl) (by rcases hti with ⟨n, e⟩ | ⟨t, e⟩ <;> rw [e] <;> cases v <;> rfl) rfl rfl rfl (fun b hb2 k2 => ?_) (fun b hb2 k2 => ?_) (fun b hb2 k2 => ?_) rfl rfl rfl (fun j => ?_) hd (fun H1 locs1 g1 g2 => kk _ H1 locs1 h2 g1 g2)
  · first | exact up2_ne hb2 | rfl
  · first | exact up2_ne hb2 | rfl
  · first | exact up2_ne hb2 | rfl
  · by_cases hj : j = k
    · subst hj
      simp only [fv, updV, z1, ← z3, if_true]
      simp [sR, mR, up2]
    · have hne : ¬ 100 * ci + j = num := by omega
      simp [fv, updV, hj, sR, mI, mJ, mR, up2, hne]
theorem xr_aI (hx : p.tables.exec = Jvm.exec) (hb : c.code = cc) (hK : va_K D vwCl (tysC cy) s) (hP : Hp b0 D cy M H) {i : Int32} {f : Int32 → Option ρ} (hF : (aI M a i).bind f = some r) (hd : decode cc pc = .ok (.iaload, 1))
    (kk : ∀ v, f v = some r → W p l e R s m args below meth c H locs cells slots Q (F0 m (pc + 1) ls (.int v :: rest))) : W p l e R s m args below meth c H locs cells slots Q (F0 m pc ls (.int i :: .ref a :: rest)) := by
  obtain ⟨v, h1, h2⟩ := ob_some hF
  obtain ⟨h3, h4⟩ := if_some h1
  obtain ⟨h5, h6⟩ := if_some h4
  have hin := vin_in h5
  have hlt : i.toNatClampNeg < mN M a := Nat.not_le.mp fun q => hin (Or.inr q)
  have h7 := Option.some.inj h6
  exact W.iald (v := .int v) hx hb (Hp_I hP h3).2 ((hK.2 0 _ rfl).1 _ _) (fun q => by cases q) (by rw [arrV_size]; exact hin) (by rw [arrV_read _ _ hlt, ← h7]; rfl) rfl rfl hd (kk v h2)
theorem xr_aJ (hx : p.tables.exec = Jvm.exec) (hb : c.code = cc) (hK : va_K D vwCl (tysC cy) s) (hP : Hp b0 D cy M H) {i : Int32} {f : Int64 → Option ρ} (hF : (aJ M a i).bind f = some r) (hd : decode cc pc = .ok (.laload, 1))
    (kk : ∀ v, f v = some r → W p l e R s m args below meth c H locs cells slots Q (F0 m (pc + 1) ls (.long v :: rest))) : W p l e R s m args below meth c H locs cells slots Q (F0 m pc ls (.int i :: .ref a :: rest)) := by
  obtain ⟨v, h1, h2⟩ := ob_some hF
  obtain ⟨h3, h4⟩ := if_some h1
  obtain ⟨h5, h6⟩ := if_some h4
  have hin := vin_in h5
  have hlt : i.toNatClampNeg < mN M a := Nat.not_le.mp fun q => hin (Or.inr q)
  have h7 := Option.some.inj h6
  exact W.lald (v := .long v) hx hb (Hp_J hP h3).2 ((hK.2 1 _ rfl).1 _ _) (fun q => by cases q) (by rw [arrV_size]; exact hin) (by rw [arrV_read _ _ hlt, ← h7]; rfl) rfl rfl hd (kk v h2)
theorem xr_aZ (hx : p.tables.exec = Jvm.exec) (hb : c.code = cc) (hK : va_K D vwCl (tysC cy) s) (hP : Hp b0 D cy M H) {i : Int32} {f : Int32 → Option ρ} (hF : (aZ M a i).bind f = some r) (hd : decode cc pc = .ok (.baload, 1))
    (kk : ∀ v, f v = some r → W p l e R s m args below meth c H locs cells slots Q (F0 m (pc + 1) ls (.int v :: rest))) : W p l e R s m args below meth c H locs cells slots Q (F0 m pc ls (.int i :: .ref a :: rest)) := by
  obtain ⟨v, h1, h2⟩ := ob_some hF
  obtain ⟨h3, h4⟩ := if_some h1
  obtain ⟨h5, h6⟩ := if_some h4
  have hin := vin_in h5
  have hlt : i.toNatClampNeg < mN M a := Nat.not_le.mp fun q => hin (Or.inr q)
  have h7 := Option.some.inj h6
  exact W.zald (v := .int v) hx hb (Hp_Z hP h3).2 ((hK.2 2 _ rfl).1 _ _) (fun q => by cases q) (by rw [arrV_size]; exact hin) (by rw [arrV_read _ _ hlt, ← h7]; rfl) rfl rfl hd (kk v h2)
theorem xr_aR (hx : p.tables.exec = Jvm.exec) (hb : c.code = cc) (hK : va_K D vwCl (tysC cy) s) (hP : Hp b0 D cy M H) {i : Int32} {f : Nat → Option ρ} (hF : (aR M kd a i).bind f = some r) {En : String} (t0 : Nat) (ht : (tysC cy)[t0]? = some (cy (kd - 20), .object En)) (h23 : 23 ≤ kd) (hd : decode cc pc = .ok (.aaload, 1))
    (kk : ∀ v, f v = some r → W p l e R s m args below meth c H locs cells slots Q (F0 m (pc + 1) ls (.ref v :: rest))) : W p l e R s m args below meth c H locs cells slots Q (F0 m pc ls (.int i :: .ref a :: rest)) := by
  obtain ⟨v, h1, h2⟩ := ob_some hF
  obtain ⟨h3, h4⟩ := if_some h1
  obtain ⟨h5, h6⟩ := if_some h4
  have hin := vin_in h5
  have hlt : i.toNatClampNeg < mN M a := Nat.not_le.mp fun q => hin (Or.inr q)
  have h7 : mQ M a i.toNatClampNeg = some v := h6
  exact W.aald (v := .ref v) (ty := .object En) hx hb (Hp_Q hP h3 h23).2 ((hK.2 t0 _ ht).1 _ _) rfl (fun q => by cases q) (by rw [arrV_size]; exact hin) (by rw [arrV_read _ _ hlt, h7]; rfl) rfl rfl hd (kk v h2)
theorem xr_aN (hx : p.tables.exec = Jvm.exec) (hb : c.code = cc) (hK : va_K D vwCl (tysC cy) s) (hP : Hp b0 D cy M H) {i : Int32} {f : Option Nat → Option ρ} (hF : (aN M kd a i).bind f = some r) {En : String} (t0 : Nat) (ht : (tysC cy)[t0]? = some (cy (kd - 20), .object En)) (h23 : 23 ≤ kd) (hd : decode cc pc = .ok (.aaload, 1))
    (kk : ∀ v, f v = some r → W p l e R s m args below meth c H locs cells slots Q (F0 m (pc + 1) ls (va_rf v :: rest))) : W p l e R s m args below meth c H locs cells slots Q (F0 m pc ls (.int i :: .ref a :: rest)) := by
  obtain ⟨v, h1, h2⟩ := ob_some hF
  obtain ⟨h3, h4⟩ := if_some h1
  obtain ⟨h5, h6⟩ := if_some h4
  have hin := vin_in h5
  have hlt : i.toNatClampNeg < mN M a := Nat.not_le.mp fun q => hin (Or.inr q)
  have h7 : mQ M a i.toNatClampNeg = v := Option.some.inj h6
  exact W.aald (v := va_rf v) (ty := .object En) hx hb (Hp_Q hP h3 h23).2 ((hK.2 t0 _ ht).1 _ _) rfl (fun q => by cases q) (by rw [arrV_size]; exact hin) (by rw [arrV_read _ _ hlt, h7]) rfl rfl hd (kk v h2)
theorem xr_wI (hx : p.tables.exec = Jvm.exec) (hb : c.code = cc) (hK : va_K D vwCl (tysC cy) s) (hP : Hp b0 D cy M H) (hS : va_S (BA b0) H0 H locs) {i : Int32} {x : Int32} {f : Mm → Option ρ} (hF : (wI M a i x).bind f = some r) (hd : decode cc pc = .ok (.iastore, 1))
    (kk : ∀ (M : Mm) (H : Heap) (locs : List Loc), f M = some r → Hp b0 D cy M H → va_S (BA b0) H0 H locs → W p l e R s m args below meth c H locs cells slots Q (F0 m (pc + 1) ls rest)) : W p l e R s m args below meth c H locs cells slots Q (F0 m pc ls (.int x :: .int i :: .ref a :: rest)) := by
  obtain ⟨M1, h1, h2⟩ := ob_some hF
  obtain ⟨h3, h4⟩ := if_some h1
  obtain ⟨h5, h6⟩ := if_some h4
  have hin := vin_in h5
  have h7 : sA M a (va_up (mA M a) (ix i) x) = M1 := Option.some.inj h6
  subst h7
  have hc1 := Hp_I hP h3
  refine W.iast hx hb hc1.2 ((hK.2 0 _ rfl).1 _ _) (fun q => by cases q) (by rw [arrV_size]; exact hin) rfl rfl hd fun H1 e z oq => ?_
  have hcell : H1[a]? = some (arrV (cy 0) (mN M a) (fun j => .int (va_up (mA M) a (va_up (mA M a) (ix i) x) a j))) := by
    rw [e, arrV_store]
    congr 2
    funext q
    rw [vau_eq]
    by_cases hq : q = i.toNatClampNeg
    · subst hq
      simp [updV, va_up, ix, vp_nar]
      try rfl
    · simp [updV, va_up, ix, hq]
  refine kk _ H1 _ h2 (Hp_of (a := a) hP z oq rfl rfl rfl (fun _ _ _ => rfl) (fun _ _ _ => rfl) (fun _ _ _ => rfl) (fun b hb2 => ?_) (fun b hb2 => ?_) (fun b hb2 => ?_) (fun _ => ⟨fun g => by have g2 : mK M a ≤ 12 := g; omega, fun _ => hcell, fun g => by have g2 : mK M a = 21 := g; omega, fun g => by have g2 : mK M a = 22 := g; omega, fun g => by have g2 : 23 ≤ mK M a := g; omega⟩)) (hS.put z oq hc1.1)
  · first | exact vau_ne hb2 | rfl
  · first | exact vau_ne hb2 | rfl
  · first | exact vau_ne hb2 | rfl
theorem xr_wJ (hx : p.tables.exec = Jvm.exec) (hb : c.code = cc) (hK : va_K D vwCl (tysC cy) s) (hP : Hp b0 D cy M H) (hS : va_S (BA b0) H0 H locs) {i : Int32} {x : Int64} {f : Mm → Option ρ} (hF : (wJ M a i x).bind f = some r) (hd : decode cc pc = .ok (.lastore, 1))
    (kk : ∀ (M : Mm) (H : Heap) (locs : List Loc), f M = some r → Hp b0 D cy M H → va_S (BA b0) H0 H locs → W p l e R s m args below meth c H locs cells slots Q (F0 m (pc + 1) ls rest)) : W p l e R s m args below meth c H locs cells slots Q (F0 m pc ls (.long x :: .int i :: .ref a :: rest)) := by
  obtain ⟨M1, h1, h2⟩ := ob_some hF
  obtain ⟨h3, h4⟩ := if_some h1
  obtain ⟨h5, h6⟩ := if_some h4
  have hin := vin_in h5
  have h7 : sB M a (va_up (mB M a) (ix i) x) = M1 := Option.some.inj h6
  subst h7
  have hc1 := Hp_J hP h3
  refine W.last hx hb hc1.2 ((hK.2 1 _ rfl).1 _ _) (fun q => by cases q) (by rw [arrV_size]; exact hin) rfl rfl hd fun H1 e z oq => ?_
  have hcell : H1[a]? = some (arrV (cy 1) (mN M a) (fun j => .long (va_up (mB M) a (va_up (mB M a) (ix i) x) a j))) := by
    rw [e, arrV_store]
    congr 2
    funext q
    rw [vau_eq]
    by_cases hq : q = i.toNatClampNeg
    · subst hq
      simp [updV, va_up, ix, vp_nar]
      try rfl
    · simp [updV, va_up, ix, hq]
  refine kk _ H1 _ h2 (Hp_of (a := a) hP z oq rfl rfl rfl (fun _ _ _ => rfl) (fun _ _ _ => rfl) (fun _ _ _ => rfl) (fun b hb2 => ?_) (fun b hb2 => ?_) (fun b hb2 => ?_) (fun _ => ⟨fun g => by have g2 : mK M a ≤ 12 := g; omega, fun g => by have g2 : mK M a = 20 := g; omega, fun _ => hcell, fun g => by have g2 : mK M a = 22 := g; omega, fun g => by have g2 : 23 ≤ mK M a := g; omega⟩)) (hS.put z oq hc1.1)
  · first | exact vau_ne hb2 | rfl
  · first | exact vau_ne hb2 | rfl
  · first | exact vau_ne hb2 | rfl
theorem xr_wZ (hx : p.tables.exec = Jvm.exec) (hb : c.code = cc) (hK : va_K D vwCl (tysC cy) s) (hP : Hp b0 D cy M H) (hS : va_S (BA b0) H0 H locs) {i : Int32} {x : Int32} {f : Mm → Option ρ} (hF : (wZ M a i x).bind f = some r) (hd : decode cc pc = .ok (.bastore, 1))
    (kk : ∀ (M : Mm) (H : Heap) (locs : List Loc), f M = some r → Hp b0 D cy M H → va_S (BA b0) H0 H locs → W p l e R s m args below meth c H locs cells slots Q (F0 m (pc + 1) ls rest)) : W p l e R s m args below meth c H locs cells slots Q (F0 m pc ls (.int x :: .int i :: .ref a :: rest)) := by
  obtain ⟨M1, h1, h2⟩ := ob_some hF
  obtain ⟨h3, h4⟩ := if_some h1
  obtain ⟨h5, h6⟩ := if_some h4
  have hin := vin_in h5
  have h7 : sA M a (va_up (mA M a) (ix i) (vp_nar .boolean x)) = M1 := Option.some.inj h6
  subst h7
  have hc1 := Hp_Z hP h3
  refine W.zast hx hb hc1.2 ((hK.2 2 _ rfl).1 _ _) (fun q => by cases q) (by rw [arrV_size]; exact hin) rfl rfl hd fun H1 e z oq => ?_
  have hcell : H1[a]? = some (arrV (cy 2) (mN M a) (fun j => .int (va_up (mA M) a (va_up (mA M a) (ix i) (vp_nar .boolean x)) a j))) := by
    rw [e, arrV_store]
    congr 2
    funext q
    rw [vau_eq]
    by_cases hq : q = i.toNatClampNeg
    · subst hq
      simp [updV, va_up, ix, vp_nar]
      try rfl
    · simp [updV, va_up, ix, hq]
  refine kk _ H1 _ h2 (Hp_of (a := a) hP z oq rfl rfl rfl (fun _ _ _ => rfl) (fun _ _ _ => rfl) (fun _ _ _ => rfl) (fun b hb2 => ?_) (fun b hb2 => ?_) (fun b hb2 => ?_) (fun _ => ⟨fun g => by have g2 : mK M a ≤ 12 := g; omega, fun g => by have g2 : mK M a = 20 := g; omega, fun g => by have g2 : mK M a = 21 := g; omega, fun _ => hcell, fun g => by have g2 : 23 ≤ mK M a := g; omega⟩)) (hS.put z oq hc1.1)
  · first | exact vau_ne hb2 | rfl
  · first | exact vau_ne hb2 | rfl
  · first | exact vau_ne hb2 | rfl
theorem xr_wR (hx : p.tables.exec = Jvm.exec) (hb : c.code = cc) (hK : va_K D vwCl (tysC cy) s) (hP : Hp b0 D cy M H) (hS : va_S (BA b0) H0 H locs) {i : Int32} {x ke : Nat} {f : Mm → Option ρ} (hF : (wR M kd ke a i x).bind f = some r) (t0 ci : Nat) {q0 : vw_C} (ht : (tysC cy)[t0]? = some (cy (kd - 20), .object q0.1)) (h23 : 23 ≤ kd) (hc : vwCl[ci]? = some q0) (hke : ke = ci + 1) (hd : decode cc pc = .ok (.aastore, 1))
    (kk : ∀ (M : Mm) (H : Heap) (locs : List Loc), f M = some r → Hp b0 D cy M H → va_S (BA b0) H0 H locs → W p l e R s m args below meth c H locs cells slots Q (F0 m (pc + 1) ls rest)) : W p l e R s m args below meth c H locs cells slots Q (F0 m pc ls (.ref x :: .int i :: .ref a :: rest)) := by
  obtain ⟨M1, h1, h2⟩ := ob_some hF
  obtain ⟨h3, h4⟩ := if_some h1
  obtain ⟨h5, h6⟩ := if_some h4
  obtain ⟨h8, h9⟩ := if_some h6
  have hin := vin_in h5
  have hlt : i.toNatClampNeg < mN M a := Nat.not_le.mp fun q => hin (Or.inr q)
  have h0 : ¬ i < 0 := fun q => hin (Or.inl q)
  have h7 : sQ M a (va_up (mQ M a) (ix i) (some x)) = M1 := Option.some.inj h9
  subst h7
  have hc1 := Hp_Q hP h3 h23
  obtain ⟨-, cellV, g1, g2, g3, -⟩ := Hp_obj (C := q0.1) (T := q0.2.1) (N := q0.2.2) hP (by rw [h8, hke]) hc
  have hcls := (hK.1 ci q0 hc).2
  obtain ⟨kA, comp, k1, k2, k3, -⟩ := (hK.2 t0 _ ht).2
  have hcomp : comp = D.1 ci := Option.some.inj (k3.symm.trans hcls.1)
  subst hcomp
  obtain ⟨kC, hkC, -⟩ := hcls.2
  refine W.aast hx hb hc1.2 (fun q h => by cases h) (fun h => by cases h) k1 k2 rfl hkC ⟨h0, by rw [arrV_size]; exact hlt⟩ g1 (fun q h => by rw [g3] at h; cases h) (by rw [g2]; exact hkC) (by rw [g2]; exact va_assign hcls) rfl rfl hd fun H1 e z oq => ?_
  have hcell : H1[a]? = some (arrV (cy (kd - 20)) (mN M a) (fun j => va_rf (va_up (mQ M) a (va_up (mQ M a) (ix i) (some x)) a j))) := by
    rw [e, arrV_store]
    congr 2
    funext q
    rw [vau_eq]
    by_cases hq : q = i.toNatClampNeg
    · subst hq
      simp [updV, va_up, ix, va_rf]
    · simp [updV, va_up, ix, hq]
  refine kk _ H1 _ h2 (Hp_of (a := a) hP z oq rfl rfl rfl (fun _ _ _ => rfl) (fun _ _ _ => rfl) (fun _ _ _ => rfl) (fun b hb2 => rfl) (fun b hb2 => rfl) (fun b hb2 => vau_ne hb2) (fun _ => ⟨fun g => by have g2 : mK M a ≤ 12 := g; omega, fun g => by have g2 : mK M a = 20 := g; omega, fun g => by have g2 : mK M a = 21 := g; omega, fun g => by have g2 : mK M a = 22 := g; omega, fun _ => ?_⟩)) (hS.put z oq hc1.1)
  show H1[a]? = some (arrV (cy (mK M a - 20)) _ _)
  rw [h3]
  exact hcell
end XRows
end
section
/-! New cells, lengths, copies, calls, returns. -/
theorem Hp_new {b0 : Nat} {D : va_G} {cy : Nat → ClassId} {M M1 : Mm} {H H1 : Heap} (hP : Hp b0 D cy M H) (hb0 : b0 ≤ H.size) (z : H1.size = H.size + 1) (oq : ∀ q : Nat, q < H.size → H1[q]? = H[q]?) (hs : mS M1 = mS M + 1) (hk : ∀ b, b ≠ mS M → mK M1 b = mK M b) (hn : ∀ b, b ≠ mS M → mN M1 b = mN M b)
    (hi : ∀ b, b ≠ mS M → ∀ k, mI M1 k b = mI M k b) (hj : ∀ b, b ≠ mS M → ∀ k, mJ M1 k b = mJ M k b) (hr : ∀ b, b ≠ mS M → ∀ k, mR M1 k b = mR M k b) (hA : ∀ b, b ≠ mS M → mA M1 b = mA M b) (hB : ∀ b, b ≠ mS M → mB M1 b = mB M b) (hQ : ∀ b, b ≠ mS M → mQ M1 b = mQ M b) (ha : cAt D cy M1 H1 (mS M)) : Hp b0 D cy M1 H1 := by
  refine ⟨by rw [z, hs, hP.1], fun b hb => ?_⟩
  by_cases e : b = mS M
  · subst e; exact ⟨by rw [← hP.1]; exact hb0, by rw [z, hP.1]; omega, ha⟩
  · rw [hk b e] at hb
    obtain ⟨g1, g2, g3⟩ := hP.2 b hb
    exact ⟨g1, by omega, cAt_kept g3 (oq b g2) (hk b e) (hn b e) (hi b e) (hj b e) (hr b e) (hA b e) (hB b e) (hQ b e)⟩
theorem va_S_new {A : Nat → Prop} {H0 H H1 : Heap} {locs : List Loc} (hS : va_S A H0 H locs) (z : H1.size = H.size + 1) (oq : ∀ q : Nat, q < H.size → H1[q]? = H[q]?) : va_S A H0 H1 locs :=
  ⟨Nat.le_trans hS.1 (by omega), fun x h1 h2 => (oq x (Nat.lt_of_lt_of_le h1 hS.1)).trans (hS.2.1 x h1 h2), hS.2.2⟩
/-- the words on nest mates, and on casts, that the tables give and no list of words may hold -/
def nests : List (String × Nat × MethodName × String) := [("HeaderLine", 21, ⟨"HeaderLine$Plan", "<init>", "()V"⟩, "HeaderLine"), ("HeaderLine", 28, ⟨"HeaderLine$Header", "<init>", "()V"⟩, "HeaderLine"), ("HeaderLine$Squeezer", 31, ⟨"HeaderLine$Header", "<init>", "()V"⟩, "HeaderLine"), ("HeaderLine", 46, ⟨"HeaderLine$Context", "<init>", "()V"⟩, "HeaderLine"), ("HeaderLine$Context", 11, ⟨"HeaderLine$Header", "<init>", "()V"⟩, "HeaderLine"), ("HeaderLine", 59, ⟨"HeaderLine$Shelf", "<init>", "()V"⟩, "HeaderLine"), ("HeaderLine", 62, ⟨"HeaderLine$Pen", "<init>", "()V"⟩, "HeaderLine"), ("HeaderLine", 69, ⟨"HeaderLine$Arrival", "<init>", "()V"⟩, "HeaderLine"), ("HeaderLine$Arrival", 11, ⟨"HeaderLine$Header", "<init>", "()V"⟩, "HeaderLine"), ("HeaderLine", 76, ⟨"HeaderLine$Got", "<init>", "()V"⟩, "HeaderLine"), ("HeaderLine$Got", 11, ⟨"HeaderLine$Header", "<init>", "()V"⟩, "HeaderLine"), ("HeaderLine$Plan", 32, ⟨"HeaderLine", "lowest", "(JI)J"⟩, "HeaderLine"), ("HeaderLine$Pen", 29, ⟨"HeaderLine", "wholeBytes", "(I)I"⟩, "HeaderLine"), ("HeaderLine", 151, ⟨"HeaderLine$Proof", "<init>", "()V"⟩, "HeaderLine"), ("HeaderLine$Pen", 37, ⟨"HeaderLine", "checkOf", "([II)I"⟩, "HeaderLine"), ("HeaderLine$Arrival", 68, ⟨"HeaderLine", "endsInCheck", "(I)Z"⟩, "HeaderLine"), ("HeaderLine$Arrival", 107, ⟨"HeaderLine", "wholeBytes", "(I)I"⟩, "HeaderLine"), ("HeaderLine$Arrival", 111, ⟨"HeaderLine", "checkOf", "([II)I"⟩, "HeaderLine")]
def NK (U : State) : Prop := (∀ q ∈ nests, va_Nw (.methodLinkNest q.1 q.2.1 q.2.2.1 q.2.2.2) U) ∧ va_Nw (.castable "[I" "java/lang/Cloneable") U ∧ va_AO RX1 U ∧ va_AO RX3 U ∧ va_AO RX4 U ∧ va_AO RX8 U ∧ va_AO RX9 U
theorem NK.warm {s U : State} (hW : s.WarmedH U.vm) (h : NK s) : NK U := ⟨fun q hq => va_Nw.warmM hW (h.1 q hq), va_Nw.warmC hW h.2.1, h.2.2.1.moved hW.alike, h.2.2.2.1.moved hW.alike, h.2.2.2.2.1.moved hW.alike, h.2.2.2.2.2.1.moved hW.alike, h.2.2.2.2.2.2.moved hW.alike⟩
theorem NK.same {u U : State} (e : u.vm = U.vm) (h : NK u) : NK U := ⟨fun q hq => va_Nw.same rfl e (h.1 q hq), va_Nw.same rfl e h.2.1, h.2.2.1.moved (by rw [e]; exact Vm.Alike.refl _), h.2.2.2.1.moved (by rw [e]; exact Vm.Alike.refl _), h.2.2.2.2.1.moved (by rw [e]; exact Vm.Alike.refl _), h.2.2.2.2.2.1.moved (by rw [e]; exact Vm.Alike.refl _), h.2.2.2.2.2.2.moved (by rw [e]; exact Vm.Alike.refl _)⟩
/-- a method's start and end, in terms of the memory -/
def Pm (b0 : Nat) (D : va_G) (cy : Nat → ClassId) (M : Mm) (U : State) : Prop := Hp b0 D cy M U.heap ∧ va_K D vwCl (tysC cy) U ∧ NK U ∧ b0 ≤ U.heap.size
def Qm (b0 : Nat) (D : va_G) (cy : Nat → ClassId) (M : Mm) (ov : Option Value) : Array Value → State → Outcome → State → Prop := fun _ st oc t => oc = .returned ov ∧ Hp b0 D cy M t.heap ∧ va_F (BA b0) st t
section XRows2
variable {p : Program} {l : Launch} {e : Env} {R : Room} {s : State} {m : MethodId} {args : Array Value} {below : List Frame} {meth : Method} {c : Code} {H : Heap} {locs : List Loc} {cells slots : Nat} {Q : State → Prop}
variable {cc : ByteArray} {pc : Nat} {ls : Array Slot} {rest : List Value} {D : va_G} {cy : Nat → ClassId} {a b0 : Nat} {M : Mm} {H0 : Heap} {Ts : List Cond} {own C : String} {T : u_T} {N ci k idx kd num : Nat} {ρ : Type} {r : ρ}
theorem xr_aL (hx : p.tables.exec = Jvm.exec) (hb : c.code = cc) (hK : va_K D vwCl (tysC cy) s) (hP : Hp b0 D cy M H) {f : Int32 → Option ρ} (hF : (aL M a).bind f = some r) (hd : decode cc pc = .ok (.arraylength, 1))
    (kk : ∀ v, f v = some r → W p l e R s m args below meth c H locs cells slots Q (F0 m (pc + 1) ls (.int v :: rest))) : W p l e R s m args below meth c H locs cells slots Q (F0 m pc ls (.ref a :: rest)) := by
  obtain ⟨v, h1, h2⟩ := ob_some hF
  obtain ⟨h3, h4⟩ := if_some h1
  obtain ⟨h5, h6⟩ := if_some h4
  have h7 : nI (mN M a) = v := Option.some.inj h6
  subst h7
  rcases (show mK M a = 20 ∨ mK M a = 21 ∨ mK M a = 22 ∨ mK M a = 23 ∨ mK M a = 24 ∨ mK M a = 25 ∨ mK M a = 26 ∨ mK M a = 27 by omega) with g | g | g | g | g | g | g | g
  · exact W.alen (n := nI (mN M a)) hx hb (Hp_I hP g).2 ((hK.2 0 _ rfl).1 _ _) (by rw [arrV_size]; rfl) rfl rfl hd (kk _ h2)
  · exact W.alen (n := nI (mN M a)) hx hb (Hp_J hP g).2 ((hK.2 1 _ rfl).1 _ _) (by rw [arrV_size]; rfl) rfl rfl hd (kk _ h2)
  · exact W.alen (n := nI (mN M a)) hx hb (Hp_Z hP g).2 ((hK.2 2 _ rfl).1 _ _) (by rw [arrV_size]; rfl) rfl rfl hd (kk _ h2)
  · exact W.alen (n := nI (mN M a)) hx hb (Hp_Q hP g (by omega)).2 ((hK.2 3 _ rfl).1 _ _) (by rw [arrV_size]; rfl) rfl rfl hd (kk _ h2)
  · exact W.alen (n := nI (mN M a)) hx hb (Hp_Q hP g (by omega)).2 ((hK.2 4 _ rfl).1 _ _) (by rw [arrV_size]; rfl) rfl rfl hd (kk _ h2)
  · exact W.alen (n := nI (mN M a)) hx hb (Hp_Q hP g (by omega)).2 ((hK.2 5 _ rfl).1 _ _) (by rw [arrV_size]; rfl) rfl rfl hd (kk _ h2)
  · exact W.alen (n := nI (mN M a)) hx hb (Hp_Q hP g (by omega)).2 ((hK.2 6 _ rfl).1 _ _) (by rw [arrV_size]; rfl) rfl rfl hd (kk _ h2)
  · exact W.alen (n := nI (mN M a)) hx hb (Hp_Q hP g (by omega)).2 ((hK.2 7 _ rfl).1 _ _) (by rw [arrV_size]; rfl) rfl rfl hd (kk _ h2)
theorem ix_le {n : Int32} {B : Nat} (h0 : 0 ≤ n.toInt) (h : n.toInt ≤ (B : Int)) : ¬ n < 0 ∧ n.toNatClampNeg ≤ B := by
  refine ⟨fun q => ?_, ?_⟩
  · have := Int32.lt_iff_toInt_lt.mp q
    simp at this
    omega
  · show n.toInt.toNat ≤ B
    omega
/-- newarray of int, long, boolean: kd 20, 21, 22 -/
theorem xr_newA (hx : p.tables.exec = Jvm.exec) (hb : c.code = cc) (hts : ∀ w ∈ Ts, w.before args s = true) (hK : va_K D vwCl (tysC cy) s) (hP : Hp b0 D cy M H) (hS : va_S (BA b0) H0 H locs) (hb0 : b0 ≤ H0.size) {n : Int32} {B : Nat} {f : Mm → Option ρ} (hF : (mA0 M kd B n).bind f = some r) {atype : ArrayType} (harr : Cond.arrayClass (newarray.typeOf atype) ∈ Ts) (hz : (atype = .int ∧ kd = 20) ∨ (atype = .long ∧ kd = 21) ∨ (atype = .boolean ∧ kd = 22)) (hB : B ≤ 20000) (hcells : cells + 1 ≤ R.cells) (hslots : slots + B ≤ R.slots) (hd : decode cc pc = .ok (.newarray atype, 2))
    (kk : ∀ (M1 : Mm) (H : Heap), f M1 = some r → Hp b0 D cy M1 H → va_S (BA b0) H0 H locs → W p l e R s m args below meth c H locs (cells + 1) (slots + B) Q (F0 m (pc + 2) ls (.ref (mS M) :: rest))) : W p l e R s m args below meth c H locs cells slots Q (F0 m pc ls (.int n :: rest)) := by
  obtain ⟨M1, h1, h2⟩ := ob_some hF
  obtain ⟨h3, h4⟩ := if_some h1
  obtain ⟨h5, h6⟩ := if_some h4
  obtain ⟨g1, g2⟩ := ix_le h3 h5
  have h7 : nA M kd (ix n) = M1 := Option.some.inj h6
  subst h7
  have hbH : b0 ≤ H.size := Nat.le_trans hb0 hS.1
  refine va_newaK hx hb (hts _ harr) rfl hd rfl g1 rfl (by rcases hz with ⟨rfl, -⟩ | ⟨rfl, -⟩ | ⟨rfl, -⟩ <;> simp [newarray.typeOf, componentBytes] <;> omega) hcells (by omega) rfl fun H1 cA e1 z1 o1 hAr hNm => ?_
  refine W.widen (k := cells + 1) (n := slots + B) (Nat.le_refl _) (by omega) ?_
  refine W.eq (g2 := F0 m (pc + 2) ls (.ref (mS M) :: rest)) (by rw [← hP.1]) ?_
  rw [hP.1] at e1
  refine kk _ H1 h2 (Hp_new hP hbH z1 o1 rfl (fun b q => vau_ne q) (fun b q => vau_ne q) (fun _ _ _ => rfl) (fun _ _ _ => rfl) (fun _ _ _ => rfl) (fun b q => vau_ne q) (fun b q => vau_ne q) (fun b q => vau_ne q) ?_) (va_S_new hS z1 o1)
  have hkk : mK (nA M kd (ix n)) (mS M) = kd := vau_eq
  have hnn : mN (nA M kd (ix n)) (mS M) = ix n := vau_eq
  have hAA : mA (nA M kd (ix n)) (mS M) = fun _ => 0 := vau_eq
  have hBB : mB (nA M kd (ix n)) (mS M) = fun _ => 0 := vau_eq
  rcases hz with ⟨rfl, rfl⟩ | ⟨rfl, rfl⟩ | ⟨rfl, rfl⟩
  · have hcy : cA = cy 0 := Option.some.inj (hNm.symm.trans (hK.2 0 _ rfl).2)
    subst hcy
    refine ⟨fun g => by rw [hkk] at g; omega, fun g => ?_, fun g => by rw [hkk] at g; omega, fun g => by rw [hkk] at g; omega, fun g => by rw [hkk] at g; omega⟩
    rw [hnn, hAA]
    exact e1
  · have hcy : cA = cy 1 := Option.some.inj (hNm.symm.trans (hK.2 1 _ rfl).2)
    subst hcy
    refine ⟨fun g => by rw [hkk] at g; omega, fun g => by rw [hkk] at g; omega, fun g => ?_, fun g => by rw [hkk] at g; omega, fun g => by rw [hkk] at g; omega⟩
    rw [hnn, hBB]
    exact e1
  · have hcy : cA = cy 2 := Option.some.inj (hNm.symm.trans (hK.2 2 _ rfl).2)
    subst hcy
    refine ⟨fun g => by rw [hkk] at g; omega, fun g => by rw [hkk] at g; omega, fun g => by rw [hkk] at g; omega, fun g => ?_, fun g => by rw [hkk] at g; omega⟩
    rw [hnn, hAA]
    exact e1
theorem xr_newQ (hx : p.tables.exec = Jvm.exec) (hb : c.code = cc) (hts : ∀ w ∈ Ts, w.before args s = true) (hown : s.vm.findClass own = some m.cls) (hK : va_K D vwCl (tysC cy) s) (hP : Hp b0 D cy M H) (hS : va_S (BA b0) H0 H locs) (hb0 : b0 ≤ H0.size) {n : Int32} {B : Nat} {f : Mm → Option ρ} (hF : (mA0 M kd B n).bind f = some r) (t0 : Nat) (ht : (tysC cy)[t0]? = some (cy (kd - 20), .object C)) (h23 : 23 ≤ kd) (hl : Cond.classLink own idx C ∈ Ts) (hover : va_AO C s) (hB : B ≤ 20000) (hcells : cells + 1 ≤ R.cells) (hslots : slots + B ≤ R.slots) (hd : decode cc pc = .ok (.anewarray idx, 3))
    (kk : ∀ (M1 : Mm) (H : Heap), f M1 = some r → Hp b0 D cy M1 H → va_S (BA b0) H0 H locs → W p l e R s m args below meth c H locs (cells + 1) (slots + B) Q (F0 m (pc + 3) ls (.ref (mS M) :: rest))) : W p l e R s m args below meth c H locs cells slots Q (F0 m pc ls (.int n :: rest)) := by
  obtain ⟨M1, h1, h2⟩ := ob_some hF
  obtain ⟨h3, h4⟩ := if_some h1
  obtain ⟨h5, h6⟩ := if_some h4
  obtain ⟨g1, g2⟩ := ix_le h3 h5
  have h7 : nA M kd (ix n) = M1 := Option.some.inj h6
  subst h7
  have hbH : b0 ≤ H.size := Nat.le_trans hb0 hS.1
  refine W.anew hx hb hown (hts _ hl) (va_AO.use hover) rfl hd rfl g1 (by omega) hcells (by omega) fun cA kA comp f1 f2 f3 f4 => ?_
  generalize hH1 : H.push ({ cls := cA, slots := Array.replicate n.toNatClampNeg .null, vm := .none } : Cell) = H1
  have z1 : H1.size = H.size + 1 := by rw [← hH1, Array.size_push]
  have e1 : H1[H.size]? = some (arrV cA n.toNatClampNeg (fun _ => .null)) := by rw [← hH1, Array.getElem?_push_size, ← arrV_new]
  have o1 : ∀ q : Nat, q < H.size → H1[q]? = H[q]? := fun q hq => by rw [← hH1, Array.getElem?_push, if_neg (Nat.ne_of_lt hq)]
  refine W.widen (k := cells + 1) (n := slots + B) (Nat.le_refl _) (by omega) ?_
  refine W.eq (g2 := F0 m (pc + 3) ls (.ref (mS M) :: rest)) (by rw [← hP.1]) ?_
  rw [hP.1] at e1
  obtain ⟨-, -, -, -, -, hcy0⟩ := (hK.2 t0 _ ht).2
  have hcy : cA = cy (kd - 20) := Option.some.inj (f1.symm.trans hcy0)
  subst hcy
  refine kk _ H1 h2 (Hp_new hP hbH z1 o1 rfl (fun b q => vau_ne q) (fun b q => vau_ne q) (fun _ _ _ => rfl) (fun _ _ _ => rfl) (fun _ _ _ => rfl) (fun b q => vau_ne q) (fun b q => vau_ne q) (fun b q => vau_ne q) ?_) (va_S_new hS z1 o1)
  have hkk : mK (nA M kd (ix n)) (mS M) = kd := vau_eq
  have hnn : mN (nA M kd (ix n)) (mS M) = ix n := vau_eq
  have hQQ : mQ (nA M kd (ix n)) (mS M) = fun _ => none := vau_eq
  refine ⟨fun g => by rw [hkk] at g; omega, fun g => by rw [hkk] at g; omega, fun g => by rw [hkk] at g; omega, fun g => by rw [hkk] at g; omega, fun g => ?_⟩
  rw [hnn, hQQ, hkk]
  exact e1
theorem xr_new (hx : p.tables.exec = Jvm.exec) (hb : c.code = cc) (hts : ∀ w ∈ Ts, w.before args s = true) (hin : ∀ w ∈ u_ws C T N, w ∈ Ts) (hown : s.vm.findClass own = some m.cls) (hK : va_K D vwCl (tysC cy) s) (hP : Hp b0 D cy M H) (hS : va_S (BA b0) H0 H locs) (hb0 : b0 ≤ H0.size) (ci : Nat) (hc : vwCl[ci]? = some (C, T, N)) (ty0 : Nat → FieldType) (hty : ∀ k, k < N → parseFieldDescriptor (T k).2.2.1 = some (ty0 k)) (hdf : ∀ k, k < N → defaultValue (ty0 k) = if tyO ci k = 0 then .int 0 else if tyO ci k = 1 then .long 0 else .null) (hl : Cond.classLink own idx C ∈ Ts) (hli : Cond.instantiable C N ∈ Ts) (hln : Cond.initialized C ∈ Ts) (hcells : cells + 1 ≤ R.cells) (hslots : slots + N ≤ R.slots) (hd : decode cc pc = .ok (.new idx, 3)) (hkd : kd = ci + 1)
    (kk : ∀ (H : Heap), Hp b0 D cy (nO M kd) H → va_S (BA b0) H0 H locs → W p l e R s m args below meth c H locs (cells + 1) (slots + N) Q (F0 m (pc + 3) ls (.ref (mS M) :: rest))) : W p l e R s m args below meth c H locs cells slots Q (F0 m pc ls rest) := by
  subst hkd
  have hKn := hK.1 ci _ hc
  have hbH : b0 ≤ H.size := Nat.le_trans hb0 hS.1
  refine W.newcK hx hb hown (hts _ hl) (hts _ hli) (hts _ hln) rfl hd hcells hslots hKn.2.1 rfl fun H1 kC hkC e1 z1 o1 => ?_
  refine W.eq (g2 := F0 m (pc + 3) ls (.ref (mS M) :: rest)) (by rw [← hP.1]) ?_
  have hb1 := u_born ty0 hts hin hKn hkC e1 hty
  rw [hP.1] at hb1
  refine kk H1 (Hp_new hP hbH z1 o1 rfl (fun b q => vau_ne q) (fun _ _ => rfl) (fun b q k => if_neg q) (fun b q k => if_neg q) (fun b q k => if_neg q) (fun _ _ => rfl) (fun _ _ => rfl) (fun _ _ => rfl) ?_) (va_S_new hS z1 o1)
  have hkk : mK (nO M (ci + 1)) (mS M) = ci + 1 := vau_eq
  have hlt : ci < 12 := (List.getElem?_eq_some_iff.mp hc).1
  refine ⟨fun _ => ?_, fun g => by rw [hkk] at g; omega, fun g => by rw [hkk] at g; omega, fun g => by rw [hkk] at g; omega, fun g => by rw [hkk] at g; omega⟩
  rw [hkk]
  refine ⟨_, hc, hb1.to (fun j hj => ?_)⟩
  rw [hdf j hj]
  show _ = fv (nO M (ci + 1)) ci j (mS M)
  simp [fv, nO, mI, mJ, mR, mS, va_rf]
theorem xr_cpI (hx : p.tables.exec = Jvm.exec) (hb : c.code = cc) (hml : c.maxLocals = ls.size) (hts : ∀ w ∈ Ts, w.before args s = true) (hown : s.vm.findClass own = some m.cls) (hK : va_K D vwCl (tysC cy) s) (hP : Hp b0 D cy M H) (hS : va_S (BA b0) H0 H locs) {a2 : Nat} {i j n : Int32} {f : Mm → Option ρ} (hF : (cpI M a i a2 j n).bind f = some r) (hl : Cond.methodLink own idx arraycopyName ∈ Ts) (hw : Cond.native arraycopyName ∈ Ts ∧ Cond.static arraycopyName ∈ Ts ∧ Cond.initialized "java/lang/System" ∈ Ts) (hframes : 1 ≤ R.frames) (hlocals : (rest.map fun v => v.category).sum + (nativeFrameWords "java/lang/System" "arraycopy" 5 + 11) ≤ R.locals) (hd : decode cc pc = .ok (.invokestatic idx, 3))
    (kk : ∀ (M : Mm) (H : Heap) (locs : List Loc), f M = some r → Hp b0 D cy M H → va_S (BA b0) H0 H locs → W p l e R s m args below meth c H locs cells slots Q (F0 m (pc + 3) ls rest)) : W p l e R s m args below meth c H locs cells slots Q (F0 m pc ls (.int n :: .int j :: .ref a2 :: .int i :: .ref a :: rest)) := by
  obtain ⟨M1, h1, h2⟩ := ob_some hF
  obtain ⟨k1, h1⟩ := if_some h1
  obtain ⟨k2, h1⟩ := if_some h1
  obtain ⟨k3, h1⟩ := if_some h1
  obtain ⟨k4, h1⟩ := if_some h1
  obtain ⟨k5, h1⟩ := if_some h1
  obtain ⟨k6, h1⟩ := if_some h1
  obtain ⟨k7, h1⟩ := if_some h1
  have h7 : sA M a2 (va_cpy (mA M a) (mA M a2) (ix i) (ix j) (ix n)) = M1 := Option.some.inj h1
  subst h7
  have nn : ∀ z : Int32, 0 ≤ z.toInt → ¬ z < 0 := fun z hz q => by
    have := Int32.lt_iff_toInt_lt.mp q
    simp at this
    omega
  have tn : ∀ z : Int32, 0 ≤ z.toInt → (z.toNatClampNeg : Int) = z.toInt := fun z hz => by show ((z.toInt.toNat : Nat) : Int) = _; omega
  have c0 := Hp_I hP k1
  have c1 := Hp_I hP k2
  have e6 : i.toNatClampNeg + n.toNatClampNeg ≤ mN M a := by have := tn i k3; have := tn n k5; omega
  have e7 : j.toNatClampNeg + n.toNatClampNeg ≤ mN M a2 := by have := tn j k4; have := tn n k5; omega
  intro T hT X
  obtain ⟨-, kk0, hk0, cm0, hkk0⟩ := (hK.2 0 _ rfl).1 (mN M a) (fun j => .int (mA M a j))
  obtain ⟨vm', X', step⟩ := X.arraycopy hx hown (hts _ hl) (hts _ hw.1) (hts _ hw.2.1) (hts _ hw.2.2) (src := a) (dst := a2) (cs := arrV (cy 0) (mN M a) (fun j => .int (mA M a j))) (cd := arrV (cy 0) (mN M a2) (fun j => .int (mA M a2 j))) (srcPos := i) (destPos := j) (n := n) (by rw [hT]; exact c0.2) (by rw [hT]; exact c1.2)
    (fun _ h => by cases h) (fun _ h => by cases h) (fun h => by cases h) (fun h => by cases h) hk0 hk0 hkk0 hkk0 (by simp [refKind]) (nn i k3) (nn j k4) (nn n k5)
    (by rw [arrV_size]; omega) (by rw [arrV_size]; omega)
    (fun vm₁ _ q hq => by
      have e : (arrV (cy 0) (mN M a) (fun j => .int (mA M a j))).slots.getD (i.toNatClampNeg + q) .null = .int (mA M a (i.toNatClampNeg + q)) := by
        rw [Array.getD_eq_getD_getElem?, arrV_read _ _ (by omega)]
        rfl
      refine ⟨?_, ?_⟩
      · rw [e]; rfl
      · rw [e]; exact trivial)
    (g := F0 m pc ls (.int n :: .int j :: .ref a2 :: .int i :: .ref a :: rest)) rfl (by rw [hml]) (rest := rest) rfl (by rw [hb]; exact hd) hframes (by show 2 * 0 + _ + _ ≤ _; omega)
  have e1 : copied (arrV (cy 0) (mN M a) (fun j => .int (mA M a j))) (arrV (cy 0) (mN M a2) (fun j => .int (mA M a2 j))) i j n = arrV (cy 0) (mN M a2) (fun q => .int (va_cpy (mA M a) (mA M a2) (ix i) (ix j) (ix n) q)) := va_copied (fun z => .int z) _ _ _ _ e6
  rw [e1] at X' step
  have hl2 : a2 < H.size := (Array.getElem?_eq_some_iff.mp c1.2).1
  have hheap : ((T.setVm vm').setCell a2 (arrV (cy 0) (mN M a2) (fun q => .int (va_cpy (mA M a) (mA M a2) (ix i) (ix j) (ix n) q)))).heap = H.setIfInBounds a2 (arrV (cy 0) (mN M a2) (fun q => .int (va_cpy (mA M a) (mA M a2) (ix i) (ix j) (ix n) q))) := by rw [← hT]; rfl
  generalize hH1 : H.setIfInBounds a2 (arrV (cy 0) (mN M a2) (fun q => .int (va_cpy (mA M a) (mA M a2) (ix i) (ix j) (ix n) q))) = H1 at hheap
  have oq : ∀ q : Nat, q ≠ a2 → H1[q]? = H[q]? := fun q hq => by rw [← hH1]; simp [Array.getElem?_setIfInBounds, Ne.symm hq]
  have z1 : H1.size = H.size := by rw [← hH1]; simp
  have ec : H1[a2]? = some (arrV (cy 0) (mN M a2) (fun q => .int (va_up (mA M) a2 (va_cpy (mA M a) (mA M a2) (ix i) (ix j) (ix n)) a2 q))) := by rw [← hH1, vau_eq]; simp [Array.getElem?_setIfInBounds, hl2]
  obtain ⟨t, a1, b1⟩ := kk _ H1 _ h2 (Hp_of (a := a2) hP z1 oq rfl rfl rfl (fun _ _ _ => rfl) (fun _ _ _ => rfl) (fun _ _ _ => rfl) (fun b q => vau_ne q) (fun _ _ => rfl) (fun _ _ => rfl) (fun _ => ⟨fun g => by have g2 : mK M a2 ≤ 12 := g; omega, fun _ => ec, fun g => by have g2 : mK M a2 = 21 := g; omega, fun g => by have g2 : mK M a2 = 22 := g; omega, fun g => by have g2 : 23 ≤ mK M a2 := g; omega⟩))
    ⟨by rw [z1]; exact hS.1, fun q g1 g2 => by rw [oq q (fun e => g2 (by rw [e]; exact c1.1))]; exact hS.2.1 q g1 g2, fun q hq => by
      rcases List.mem_append.mp hq with h | h
      · exact hS.2.2 q h
      · obtain ⟨z, -, hz⟩ := List.mem_map.mp h
        rw [← hz]
        exact c1.1⟩ _ hheap X'
  exact ⟨t, step t a1, b1⟩
theorem xr_cpJ (hx : p.tables.exec = Jvm.exec) (hb : c.code = cc) (hml : c.maxLocals = ls.size) (hts : ∀ w ∈ Ts, w.before args s = true) (hown : s.vm.findClass own = some m.cls) (hK : va_K D vwCl (tysC cy) s) (hP : Hp b0 D cy M H) (hS : va_S (BA b0) H0 H locs) {a2 : Nat} {i j n : Int32} {f : Mm → Option ρ} (hF : (cpJ M a i a2 j n).bind f = some r) (hl : Cond.methodLink own idx arraycopyName ∈ Ts) (hw : Cond.native arraycopyName ∈ Ts ∧ Cond.static arraycopyName ∈ Ts ∧ Cond.initialized "java/lang/System" ∈ Ts) (hframes : 1 ≤ R.frames) (hlocals : (rest.map fun v => v.category).sum + (nativeFrameWords "java/lang/System" "arraycopy" 5 + 11) ≤ R.locals) (hd : decode cc pc = .ok (.invokestatic idx, 3))
    (kk : ∀ (M : Mm) (H : Heap) (locs : List Loc), f M = some r → Hp b0 D cy M H → va_S (BA b0) H0 H locs → W p l e R s m args below meth c H locs cells slots Q (F0 m (pc + 3) ls rest)) : W p l e R s m args below meth c H locs cells slots Q (F0 m pc ls (.int n :: .int j :: .ref a2 :: .int i :: .ref a :: rest)) := by
  obtain ⟨M1, h1, h2⟩ := ob_some hF
  obtain ⟨k1, h1⟩ := if_some h1
  obtain ⟨k2, h1⟩ := if_some h1
  obtain ⟨k3, h1⟩ := if_some h1
  obtain ⟨k4, h1⟩ := if_some h1
  obtain ⟨k5, h1⟩ := if_some h1
  obtain ⟨k6, h1⟩ := if_some h1
  obtain ⟨k7, h1⟩ := if_some h1
  have h7 : sB M a2 (va_cpy (mB M a) (mB M a2) (ix i) (ix j) (ix n)) = M1 := Option.some.inj h1
  subst h7
  have nn : ∀ z : Int32, 0 ≤ z.toInt → ¬ z < 0 := fun z hz q => by
    have := Int32.lt_iff_toInt_lt.mp q
    simp at this
    omega
  have tn : ∀ z : Int32, 0 ≤ z.toInt → (z.toNatClampNeg : Int) = z.toInt := fun z hz => by show ((z.toInt.toNat : Nat) : Int) = _; omega
  have c0 := Hp_J hP k1
  have c1 := Hp_J hP k2
  have e6 : i.toNatClampNeg + n.toNatClampNeg ≤ mN M a := by have := tn i k3; have := tn n k5; omega
  have e7 : j.toNatClampNeg + n.toNatClampNeg ≤ mN M a2 := by have := tn j k4; have := tn n k5; omega
  intro T hT X
  obtain ⟨-, kk0, hk0, cm0, hkk0⟩ := (hK.2 1 _ rfl).1 (mN M a) (fun j => .long (mB M a j))
  obtain ⟨vm', X', step⟩ := X.arraycopy hx hown (hts _ hl) (hts _ hw.1) (hts _ hw.2.1) (hts _ hw.2.2) (src := a) (dst := a2) (cs := arrV (cy 1) (mN M a) (fun j => .long (mB M a j))) (cd := arrV (cy 1) (mN M a2) (fun j => .long (mB M a2 j))) (srcPos := i) (destPos := j) (n := n) (by rw [hT]; exact c0.2) (by rw [hT]; exact c1.2)
    (fun _ h => by cases h) (fun _ h => by cases h) (fun h => by cases h) (fun h => by cases h) hk0 hk0 hkk0 hkk0 (by simp [refKind]) (nn i k3) (nn j k4) (nn n k5)
    (by rw [arrV_size]; omega) (by rw [arrV_size]; omega)
    (fun vm₁ _ q hq => by
      have e : (arrV (cy 1) (mN M a) (fun j => .long (mB M a j))).slots.getD (i.toNatClampNeg + q) .null = .long (mB M a (i.toNatClampNeg + q)) := by
        rw [Array.getD_eq_getD_getElem?, arrV_read _ _ (by omega)]
        rfl
      refine ⟨?_, ?_⟩
      · rw [e]; rfl
      · rw [e]; exact trivial)
    (g := F0 m pc ls (.int n :: .int j :: .ref a2 :: .int i :: .ref a :: rest)) rfl (by rw [hml]) (rest := rest) rfl (by rw [hb]; exact hd) hframes (by show 2 * 0 + _ + _ ≤ _; omega)
  have e1 : copied (arrV (cy 1) (mN M a) (fun j => .long (mB M a j))) (arrV (cy 1) (mN M a2) (fun j => .long (mB M a2 j))) i j n = arrV (cy 1) (mN M a2) (fun q => .long (va_cpy (mB M a) (mB M a2) (ix i) (ix j) (ix n) q)) := va_copied (fun z => .long z) _ _ _ _ e6
  rw [e1] at X' step
  have hl2 : a2 < H.size := (Array.getElem?_eq_some_iff.mp c1.2).1
  have hheap : ((T.setVm vm').setCell a2 (arrV (cy 1) (mN M a2) (fun q => .long (va_cpy (mB M a) (mB M a2) (ix i) (ix j) (ix n) q)))).heap = H.setIfInBounds a2 (arrV (cy 1) (mN M a2) (fun q => .long (va_cpy (mB M a) (mB M a2) (ix i) (ix j) (ix n) q))) := by rw [← hT]; rfl
  generalize hH1 : H.setIfInBounds a2 (arrV (cy 1) (mN M a2) (fun q => .long (va_cpy (mB M a) (mB M a2) (ix i) (ix j) (ix n) q))) = H1 at hheap
  have oq : ∀ q : Nat, q ≠ a2 → H1[q]? = H[q]? := fun q hq => by rw [← hH1]; simp [Array.getElem?_setIfInBounds, Ne.symm hq]
  have z1 : H1.size = H.size := by rw [← hH1]; simp
  have ec : H1[a2]? = some (arrV (cy 1) (mN M a2) (fun q => .long (va_up (mB M) a2 (va_cpy (mB M a) (mB M a2) (ix i) (ix j) (ix n)) a2 q))) := by rw [← hH1, vau_eq]; simp [Array.getElem?_setIfInBounds, hl2]
  obtain ⟨t, a1, b1⟩ := kk _ H1 _ h2 (Hp_of (a := a2) hP z1 oq rfl rfl rfl (fun _ _ _ => rfl) (fun _ _ _ => rfl) (fun _ _ _ => rfl) (fun _ _ => rfl) (fun b q => vau_ne q) (fun _ _ => rfl) (fun _ => ⟨fun g => by have g2 : mK M a2 ≤ 12 := g; omega, fun g => by have g2 : mK M a2 = 20 := g; omega, fun _ => ec, fun g => by have g2 : mK M a2 = 22 := g; omega, fun g => by have g2 : 23 ≤ mK M a2 := g; omega⟩))
    ⟨by rw [z1]; exact hS.1, fun q g1 g2 => by rw [oq q (fun e => g2 (by rw [e]; exact c1.1))]; exact hS.2.1 q g1 g2, fun q hq => by
      rcases List.mem_append.mp hq with h | h
      · exact hS.2.2 q h
      · obtain ⟨z, -, hz⟩ := List.mem_map.mp h
        rw [← hz]
        exact c1.1⟩ _ hheap X'
  exact ⟨t, step t a1, b1⟩
end XRows2
end
section
/-! Clones, casts, null, calls, returns. -/
section XRows3
variable {p : Program} {l : Launch} {e : Env} {R : Room} {s : State} {m : MethodId} {args : Array Value} {below : List Frame} {meth : Method} {c : Code} {H : Heap} {locs : List Loc} {cells slots : Nat} {Q : State → Prop}
variable {cc : ByteArray} {pc : Nat} {ls : Array Slot} {rest : List Value} {D : va_G} {cy : Nat → ClassId} {a b0 : Nat} {M : Mm} {H0 : Heap} {Ts : List Cond} {own C : String} {T : u_T} {N ci k idx kd num : Nat} {ρ : Type} {r : ρ}
theorem xr_clI (hx : p.tables.exec = Jvm.exec) (hb : c.code = cc) (hml : c.maxLocals = ls.size) (hts : ∀ w ∈ Ts, w.before args s = true) (hown : s.vm.findClass own = some m.cls) (hK : va_K D vwCl (tysC cy) s) (hN : NK s) (hP : Hp b0 D cy M H) (hS : va_S (BA b0) H0 H locs) (hb0 : b0 ≤ H0.size) {B : Nat} {f : Mm → Option ρ} (hF : (clI M B a).bind f = some r)
    (hlink : Cond.methodLink own idx ⟨"[I", "clone", "()Ljava/lang/Object;"⟩ ∈ Ts) (hw : Cond.sameMethod "[I" "java/lang/Object" "clone" "()Ljava/lang/Object;" ∈ Ts ∧ Cond.native ⟨"java/lang/Object", "clone", "()Ljava/lang/Object;"⟩ ∈ Ts ∧ Cond.instanceMethod ⟨"java/lang/Object", "clone", "()Ljava/lang/Object;"⟩ ∈ Ts ∧ Cond.selects "[I" ⟨"[I", "clone", "()Ljava/lang/Object;"⟩ ⟨"java/lang/Object", "clone", "()Ljava/lang/Object;"⟩ ∈ Ts)
    (hframes : 1 ≤ R.frames) (hlocals : (rest.map fun v => v.category).sum + 14 ≤ R.locals) (hcells : cells + 1 ≤ R.cells) (hslots : slots + B ≤ R.slots) (hd : decode cc pc = .ok (.invokevirtual idx, 3))
    (kk : ∀ (M1 : Mm) (H : Heap), f M1 = some r → mK M1 (mS M) = 20 → Hp b0 D cy M1 H → va_S (BA b0) H0 H locs → W p l e R s m args below meth c H locs (cells + 1) (slots + B) Q (F0 m (pc + 3) ls (.ref (mS M) :: rest))) : W p l e R s m args below meth c H locs cells slots Q (F0 m pc ls (.ref a :: rest)) := by
  obtain ⟨M1, h1, h2⟩ := ob_some hF
  obtain ⟨h3, h4⟩ := if_some h1
  obtain ⟨h5, h6⟩ := if_some h4
  have h7 : sA (nA M 20 (mN M a)) (mS M) (mA M a) = M1 := Option.some.inj h6
  subst h7
  have hbH : b0 ≤ H.size := Nat.le_trans hb0 hS.1
  have hnm : s.vm.findClass "[I" = some (cy 0) := (hK.2 0 _ rfl).2
  obtain ⟨c0, t0', f1, f2, f3⟩ := Cond.castable_spec (va_Nw.use (A := args) rfl hN.2.1)
  cases hnm.symm.trans f1
  generalize hcell : arrV (cy 0) (mN M a) (fun j => .int (mA M a j)) = cell
  have hsz : cell.slots.size = mN M a := by rw [← hcell]; exact arrV_size _ _ _
  have hvm0 : cell.vm = .none := by rw [← hcell]; rfl
  have hcl0 : cell.cls = cy 0 := by rw [← hcell]; rfl
  have hcellE : ({ cls := cell.cls, slots := cell.slots } : Cell) = cell := by rw [← hcell]; rfl
  have hat : H[a]? = some cell := by rw [← hcell]; exact (Hp_I hP h3).2
  intro T hT X
  have hcellT : T.heap[a]? = some cell := by rw [hT]; exact hat
  obtain ⟨-, kA, hkA, comp, hkind⟩ := State.isArrayOf_alike X.warmed.alike ((hK.2 0 _ rfl).1 0 (fun _ => .null))
  obtain ⟨-, kS, hkS, compS, hkindS⟩ := (hK.2 0 _ rfl).1 0 (fun _ => .null)
  obtain ⟨vm', X', st⟩ := X.cloneArray hx hown (hts _ hlink) (hts _ hw.1) (hts _ hw.2.1) (hts _ hw.2.2.1) (hts _ hw.2.2.2) (a := a) (cell := cell) hcellT (fun k h => by rw [hvm0] at h; cases h) (by rw [hvm0]; exact fun h => by cases h) (by rw [hcl0]; exact hnm) f2 (by rw [hcl0]; exact f3)
    (fun i v hv => by
      rw [hcl0]
      have hk' : T.vm.classes[cy 0]? = some kA := hkA
      have hfit : fits .int v = true := by
        have hi : i < mN M a := by
          have := (Array.getElem?_eq_some_iff.mp hv).1
          rw [hsz] at this
          exact this
        rw [← hcell, arrV_read _ _ hi] at hv
        rw [← Option.some.inj hv]
        rfl
      simpa [State.fitsSlot, State.slotType?, hk', hkind] using hfit)
    (g := F0 m pc ls (.ref a :: rest)) rfl (by rw [hml]) rfl (by rw [hb]; exact hd) hframes (by show 2 * 0 + _ + 14 ≤ _; omega) hcells (by rw [hsz]; omega) (hloader := by rw [hcl0]; exact Vm.clonesLoader_of_array hkS hkindS)
  rw [hcellE, hsz] at X'
  generalize hH1 : H.push cell = H1
  have z1 : H1.size = H.size + 1 := by rw [← hH1, Array.size_push]
  have e1 : H1[H.size]? = some cell := by rw [← hH1, Array.getElem?_push_size]
  have o1 : ∀ q : Nat, q < H.size → H1[q]? = H[q]? := fun q hq => by rw [← hH1, Array.getElem?_push, if_neg (Nat.ne_of_lt hq)]
  rw [hP.1, ← hcell] at e1
  have hkk : mK (sA (nA M 20 (mN M a)) (mS M) (mA M a)) (mS M) = 20 := vau_eq
  have hnn : mN (sA (nA M 20 (mN M a)) (mS M) (mA M a)) (mS M) = mN M a := vau_eq
  have hAA : mA (sA (nA M 20 (mN M a)) (mS M) (mA M a)) (mS M) = mA M a := vau_eq
  have hPn : Hp b0 D cy (sA (nA M 20 (mN M a)) (mS M) (mA M a)) H1 := by
    refine Hp_new hP hbH z1 o1 rfl (fun b q => vau_ne q) (fun b q => vau_ne q) (fun _ _ _ => rfl) (fun _ _ _ => rfl) (fun _ _ _ => rfl) (fun b q => (vau_ne q).trans (vau_ne q)) (fun b q => vau_ne q) (fun b q => vau_ne q) ?_
    refine ⟨fun g => by rw [hkk] at g; omega, fun g => ?_, fun g => by rw [hkk] at g; omega, fun g => by rw [hkk] at g; omega, fun g => by rw [hkk] at g; omega⟩
    rw [hnn, hAA]
    exact e1
  have kw := kk _ H1 h2 hkk hPn (va_S_new hS z1 o1)
  have kw2 := W.widen (k := cells + 1) (n := slots + B) (cells := cells + 1) (slots := slots + mN M a) (Nat.le_refl _) (by omega) kw
  obtain ⟨t, b1, b2⟩ := kw2 ((T.setVm vm').pushCell cell) (by rw [← hH1, ← hT]; rfl) X'
  refine ⟨t, st t ?_, b2⟩
  rw [hcellE, hT, hP.1]
  exact b1
theorem xr_castI (hx : p.tables.exec = Jvm.exec) (hb : c.code = cc) (hts : ∀ w ∈ Ts, w.before args s = true) (hown : s.vm.findClass own = some m.cls) (hK : va_K D vwCl (tysC cy) s) (hP : Hp b0 D cy M H) (hk : mK M a = 20) (hlink : Cond.classLink own idx "[I" ∈ Ts) (hd : decode cc pc = .ok (.checkcast idx, 3))
    (kk : W p l e R s m args below meth c H locs cells slots Q (F0 m (pc + 3) ls (.ref a :: rest))) : W p l e R s m args below meth c H locs cells slots Q (F0 m pc ls (.ref a :: rest)) := by
  have hat := (Hp_I hP hk).2
  have hP1 : va_P D vwCl [(a, .inl (cy 0, mN M a, .inl (mA M a)))] H := by
    intro k q hq
    have hz : k < 1 := (List.getElem?_eq_some_iff.mp hq).1
    rw [show k = 0 by omega] at hq
    cases hq
    exact hat
  exact va_castA hx hb hown (hts _ hlink) hP1 0 rfl (hK.2 0 _ rfl).2 hd kk
theorem cat_rf (v : Option Nat) : (va_rf v).category = 1 := by cases v <;> rfl
theorem xr_aload_n (hx : p.tables.exec = Jvm.exec) (hb : c.code = cc) {v : Option Nat} {k : Fin 4} {i : Nat} (hd : decode cc pc = .ok (.aload_n k, 1)) (hi : (k : Nat) = i) (hl : ls[i]? = some (.val (va_rf v)))
    (kk : W p l e R s m args below meth c H locs cells slots Q (F0 m (pc + 1) ls (va_rf v :: rest))) : W p l e R s m args below meth c H locs cells slots Q (F0 m pc ls rest) := by
  cases v with
  | none => exact lv_aload_nN hx hb hd hi hl kk
  | some x => exact lv_aload_n hx hb hd hi hl kk
theorem xr_aload (hx : p.tables.exec = Jvm.exec) (hb : c.code = cc) {v : Option Nat} {i : Nat} (hd : decode cc pc = .ok (.aload i, 2)) (hl : ls[i]? = some (.val (va_rf v)))
    (kk : W p l e R s m args below meth c H locs cells slots Q (F0 m (pc + 2) ls (va_rf v :: rest))) : W p l e R s m args below meth c H locs cells slots Q (F0 m pc ls rest) := by
  cases v with
  | none => exact lv_aloadN hx hb hd hl kk
  | some x => exact lv_aload hx hb hd hl kk
theorem xr_astore_n (hx : p.tables.exec = Jvm.exec) (hb : c.code = cc) {v : Option Nat} {k : Fin 4} {i nL : Nat} {lv lv' : List (Nat × Value)} (hd : decode cc pc = .ok (.astore_n k, 1)) (hi : (k : Nat) = i) (h : lv_has ls nL lv) (hn : i < nL) (hl : (i, va_rf v) :: lv.filter (fun q => !(q.1 == i) && !(q.1 + 1 == i && q.2.category == 2)) = lv')
    (kk : ∀ ls : Array Slot, lv_has ls nL lv' → W p l e R s m args below meth c H locs cells slots Q (F0 m (pc + 1) ls rest)) : W p l e R s m args below meth c H locs cells slots Q (F0 m pc ls (va_rf v :: rest)) := by
  cases v with
  | none => exact lv_astore_nN hx hb hd hi h hn hl kk
  | some x => exact lv_astore_n hx hb hd hi h hn hl kk
theorem xr_astore (hx : p.tables.exec = Jvm.exec) (hb : c.code = cc) {v : Option Nat} {i nL : Nat} {lv lv' : List (Nat × Value)} (hd : decode cc pc = .ok (.astore i, 2)) (h : lv_has ls nL lv) (hn : i < nL) (hl : (i, va_rf v) :: lv.filter (fun q => !(q.1 == i) && !(q.1 + 1 == i && q.2.category == 2)) = lv')
    (kk : ∀ ls : Array Slot, lv_has ls nL lv' → W p l e R s m args below meth c H locs cells slots Q (F0 m (pc + 2) ls rest)) : W p l e R s m args below meth c H locs cells slots Q (F0 m pc ls (va_rf v :: rest)) := by
  cases v with
  | none => exact lv_astoreN hx hb hd h hn hl kk
  | some x => exact lv_astore hx hb hd h hn hl kk
theorem nm_n {β : Type} {A : Option β} {B : Nat → Option β} {r : Option β} (h : nm none A B = r) : A = r := h
theorem nm_s {β : Type} {x : Nat} {A : Option β} {B : Nat → Option β} {r : Option β} (h : nm (some x) A B = r) : B x = r := h
theorem nz01 {v : Int32} (h : v = 0 ∨ v = 1) : narrow .boolean (.int v) = .int v := by rcases h with e | e <;> subst e <;> rfl
theorem ov_rf (v : Option Nat) : va_rf v = .null ∨ ∃ a, va_rf v = .ref a := by
  cases v with
  | none => exact Or.inl rfl
  | some x => exact Or.inr ⟨x, rfl⟩
theorem xr_call1 {mc ms : Nat} {st0 : List Value} {M1 : Mm} {v : Value} {aa : Array Value} (hr : va_Run p l e R s m args below meth c H locs cells slots mc ms (F0 m pc ls st0) rest (Qm b0 D cy M1 (some v) aa) (BA b0)) (hS : va_S (BA b0) H0 H locs)
    (kk : ∀ (H : Heap) (locs : List Loc), Hp b0 D cy M1 H → va_S (BA b0) H0 H locs → W p l e R s m args below meth c H locs (cells + mc) (slots + ms) Q (F0 m (pc + 3) ls (v :: rest))) : W p l e R s m args below meth c H locs cells slots Q (F0 m pc ls st0) := by
  intro T hT X
  obtain ⟨v', st₀, t, T', L, h0, X', hL, e1, e2, ⟨hv, hp, hz, hk⟩, st⟩ := hr T hT X
  cases hv
  rw [h0] at hz hk
  obtain ⟨t2, a1, b1⟩ := kk T'.heap (locs ++ L) (by rw [e1]; exact hp)
    ⟨Nat.le_trans hS.1 (by rw [e1]; exact hz), fun q h1 h2 => by rw [e1, hk q (Nat.lt_of_lt_of_le h1 hS.1) h2]; exact hS.2.1 q h1 h2, fun q hq => by
      rcases List.mem_append.mp hq with h | h
      · exact hS.2.2 q h
      · exact hL q h⟩ T' rfl X'
  exact ⟨t2, st t2 a1, b1⟩
theorem xr_call0 {mc ms : Nat} {st0 : List Value} {M1 : Mm} {aa : Array Value} (hr : va_Run p l e R s m args below meth c H locs cells slots mc ms (F0 m pc ls st0) rest (Qm b0 D cy M1 none aa) (BA b0)) (hS : va_S (BA b0) H0 H locs)
    (kk : ∀ (H : Heap) (locs : List Loc), Hp b0 D cy M1 H → va_S (BA b0) H0 H locs → W p l e R s m args below meth c H locs (cells + mc) (slots + ms) Q (F0 m (pc + 3) ls rest)) : W p l e R s m args below meth c H locs cells slots Q (F0 m pc ls st0) := by
  intro T hT X
  obtain ⟨v', st₀, t, T', L, h0, X', hL, e1, e2, ⟨hv, hp, hz, hk⟩, st⟩ := hr T hT X
  cases hv
  rw [h0] at hz hk
  obtain ⟨t2, a1, b1⟩ := kk T'.heap (locs ++ L) (by rw [e1]; exact hp)
    ⟨Nat.le_trans hS.1 (by rw [e1]; exact hz), fun q h1 h2 => by rw [e1, hk q (Nat.lt_of_lt_of_le h1 hS.1) h2]; exact hS.2.1 q h1 h2, fun q hq => by
      rcases List.mem_append.mp hq with h | h
      · exact hS.2.2 q h
      · exact hL q h⟩ T' rfl X'
  exact ⟨t2, st t2 a1, b1⟩
theorem xp_B {av : List Value} : FrameBlind (va_Pc av (Pm b0 D cy M)) := fun a U g mk q => ⟨q.1, q.2.1, va_K.moved (u := U) (U := U.calling g mk a) (Vm.Alike.refl U.vm) q.2.2.1, NK.same (u := U) (U := U.calling g mk a) rfl q.2.2.2.1, q.2.2.2.2⟩
theorem xp_S {As : List Value} (hP : Hp b0 D cy M H) (hK : va_K D vwCl (tysC cy) s) (hN : NK s) (hS : va_S (BA b0) H0 H locs) (hb0 : b0 ≤ H0.size) : PreS s H (va_Pc As (Pm b0 D cy M)) As :=
  ⟨xp_B, fun U hU hW => ⟨rfl, by rw [hU]; exact hP, va_K.moved hW.alike hK, NK.warm hW hN, by rw [hU]; exact Nat.le_trans hb0 hS.1⟩⟩
theorem xp_V {As : List Value} (hP : Hp b0 D cy M H) (hK : va_K D vwCl (tysC cy) s) (hN : NK s) (hS : va_S (BA b0) H0 H locs) (hb0 : b0 ≤ H0.size) (ci : Nat) (hc : vwCl[ci]? = some (C, T, N)) (hk : mK M a = ci + 1) : PreV s H C a (va_Pc (.ref a :: As) (Pm b0 D cy M)) As := by
  obtain ⟨-, cell, g1, g2, g3, -⟩ := Hp_obj hP hk hc
  exact ⟨xp_B, ⟨cell, g1, by rw [g3]; rfl, by rw [g2]; exact (hK.1 ci _ hc).2.1⟩, fun U hU hW => ⟨rfl, by rw [hU]; exact hP, va_K.moved hW.alike hK, NK.warm hW hN, by rw [hU]; exact Nat.le_trans hb0 hS.1⟩⟩
end XRows3
/-- what a walk of a method takes along -/
def Cx (y : MethodName) (cc : ByteArray) (nL : Nat) (ret : Option FieldType) (ws : List Cond) (b0 : Nat) (D : va_G) (cy : Nat → ClassId) (p : Program) (s : State) (m : MethodId) (args : Array Value) (meth : Method) (c : Code) : Prop :=
  p.tables.exec = Jvm.exec ∧ c.code = cc ∧ meth.sig.returnType = ret ∧ c.maxLocals = nL ∧ s.vm.findClass y.cls = some m.cls ∧ (∀ w ∈ ws, w.before args s = true) ∧ meth.locks = false ∧ va_K D vwCl (tysC cy) s ∧ NK s ∧ b0 ≤ s.heap.size ∧ meth.name = y.name
theorem ct_of {l : Launch} {y : MethodName} {cc : ByteArray} {nL : Nat} {ret : Option FieldType} {ws ws' : List Cond} {rm : Room} {b0 : Nat} {D : va_G} {cy : Nat → ClassId} {M M1 : Mm} {ov : Option Value} {mc ms : Nat} (av : List Value) (hy : plainName y.cls = true) (hw : ws = Cond.code y cc nL ret :: ws')
    (body : ∀ p e s m below meth c, Cx y cc nL ret ws b0 D cy p s m av.toArray meth c → Hp b0 D cy M s.heap → W p l e rm s m av.toArray below meth c s.heap [] 0 0 (MQ below (Qm b0 D cy M1 ov) av.toArray s mc ms (BA b0)) (F0 m 0 ((lg_sl av ++ List.replicate (nL - (lg_sl av).length) Slot.unset).toArray) [])) :
    Met l y ws rm (va_Pc av (Pm b0 D cy M)) (Qm b0 D cy M1 ov) mc ms (BA b0) := by
  refine Met.ofW (cc := cc) (maxL := nL) (ret := ret) hy hw ?_
  intro p e s m args below meth c s₁ B hml hv
  obtain ⟨rfl, hP, hK, hN, hb0⟩ := hv
  rw [lg_entry_eq]
  exact body p e s m below meth c ⟨B.exec, B.bytes, B.returns, hml, findClass_of_methodNamed B.named, atoms_spec (ws := ws) B.pre, B.notSynchronized, hK, hN, hb0, (name_of_methodNamed B.named B.method).1⟩ hP
end
section
def f_X3_init (M : Mm) (a0 : Nat) : Option Mm :=
if mK M a0 = 4 then ((mA0 M 21 8 8).bind fun M1 =>
(pR M1 4 300 a0 (some (mS M))).bind fun M2 =>
some M2) else none


def f_X0_init (M : Mm) (a0 : Nat) : Option Mm :=
if mK M a0 = 1 then ((f_X3_init (nO M 4) (mS M)).bind fun M2 =>
(pR M2 1 0 a0 (some (mS M))).bind fun M3 =>
(mA0 M3 20 8 8).bind fun M4 =>
(pR M4 1 1 a0 (some (mS M3))).bind fun M5 =>
(mA0 M5 20 8 8).bind fun M6 =>
(pR M6 1 2 a0 (some (mS M5))).bind fun M7 =>
(mA0 M7 20 8 8).bind fun M8 =>
(pR M8 1 3 a0 (some (mS M7))).bind fun M9 =>
(mA0 M9 21 8 8).bind fun M10 =>
(pR M10 1 4 a0 (some (mS M9))).bind fun M11 =>
(mA0 M11 20 0 0).bind fun M12 =>
(pR M12 1 9 a0 (some (mS M11))).bind fun M13 =>
some M13) else none


def f_X0_read_L36 : Nat → Mm → Nat → Int32 → Int64 → Int32 → Option (Mm × Int64)
  | 0, _, _, _, _, _ => none
  | fu + 1, M, x0, x1, x2, x4 =>
    if x1 ≤ x4 then (some (M, x2)) else ((gR M 1 9 x0).bind fun v2 =>
    (gI M 1 10 x0).bind fun v3 =>
    (aI M v2 (v3 >>> (3 &&& 31))).bind fun v4 =>
    (gI M 1 10 x0).bind fun v5 =>
    (gI M 1 10 x0).bind fun v6 =>
    (pI M 1 10 x0 (v6 + 1)).bind fun M7 =>
    f_X0_read_L36 fu M7 x0 x1 ((x2 <<< ((1 : Int32).toInt64 &&& 63)) ||| (((v4 >>> ((7 - (v5 &&& 7)) &&& 31)) &&& 1).toInt64)) (x4 + 1))

def f_X0_read (M : Mm) (a0 : Nat) (a1 : Int32) : Option (Mm × Int64) :=
if mK M a0 = 1 then ((gI M 1 11 a0).bind fun v1 =>
if v1 = 0 then ((gI M 1 10 a0).bind fun v4 =>
(gR M 1 9 a0).bind fun v5 =>
(aL M v5).bind fun v6 =>
if (v4 + a1) ≤ (v6 * 8) then (f_X0_read_L36 1000 M a0 a1 0 0) else ((pZ M 1 11 a0 1).bind fun M8 =>
some (M8, 0))) else ((pZ M 1 11 a0 1).bind fun M3 =>
some (M3, 0))) else none


def f_X0_readValue (M : Mm) (a0 : Nat) (a1 : Int32) (a2 : Int32) (a3 : Int32) : Option Mm :=
if mK M a0 = 1 then ((gR M 1 2 a0).bind fun v1 =>
(wI M v1 a1 a2).bind fun M2 =>
(gR M2 1 3 a0).bind fun v3 =>
(wI M2 v3 a1 a3).bind fun M4 =>
(gR M4 1 4 a0).bind fun v5 =>
ob2 (f_X0_read M4 a0 a3) fun M7 v8 =>
(wJ M7 v5 a1 v8).bind fun M9 =>
some M9) else none


def f_X6_has (M : Mm) (a0 : Nat) (a1 : Int32) : Option Int32 :=
if mK M a0 = 7 then (if a1 < 0 then (some 0) else ((gI M 7 604 a0).bind fun v2 =>
if v2 ≤ a1 then (some 0) else (some 1))) else none


def f_X6_hasStride (M : Mm) (a0 : Nat) (a1 : Int32) : Option Int32 :=
if mK M a0 = 7 then ((f_X6_has M a0 a1).bind fun v2 =>
if v2 = 0 then (some 0) else ((gR M 7 600 a0).bind fun v4 =>
(aI M v4 a1).bind fun v5 =>
if v5 = 2 then (some 1) else ((gR M 7 600 a0).bind fun v7 =>
(aI M v7 a1).bind fun v8 =>
if v8 = 3 then (some 1) else (some 0)))) else none


def f_X0_readField_J166 (M : Mm) (x0 : Nat) (x2 : Int32) (x4 : Int32) (s0 : Nat) (s1 : Int32) : Option Mm :=
(pZ M 1 11 s0 s1).bind fun M1 =>
(f_X0_readValue M1 x0 x2 1 x4).bind fun M3 =>
some M3

def f_X0_readField_J161 (M : Mm) (x0 : Nat) (x2 : Int32) (x4 : Int32) (s0 : Nat) : Option Mm :=
f_X0_readField_J166 M x0 x2 x4 s0 1

def f_X0_readField_J119 (M : Mm) (s0 : Nat) (s1 : Int32) (s2 : Int32) (s3 : Int32) : Option Mm :=
(f_X0_readValue M s0 s1 s2 s3).bind fun M2 =>
some M2

def f_X0_readField_J104 (M : Mm) (x1 : Nat) (x2 : Int32) (x4 : Int32) (s0 : Nat) (s1 : Int32) (s2 : Int32) : Option Mm :=
if x4 = 0 then (f_X0_readField_J119 M s0 s1 s2 0) else ((gR M 7 601 x1).bind fun v2 =>
(aI M v2 x2).bind fun v3 =>
f_X0_readField_J119 M s0 s1 s2 v3)

def f_X0_readField_J90 (M : Mm) (x0 : Nat) (x1 : Nat) (x2 : Int32) (s0 : Int32) : Option Mm :=
if s0 = 0 then (f_X0_readField_J104 M x1 x2 s0 x0 x2 0) else (f_X0_readField_J104 M x1 x2 s0 x0 x2 2)

def f_X0_readField_J27 (M : Mm) (x0 : Nat) (x1 : Nat) (x2 : Int32) : Option Mm :=
(gR M 7 601 x1).bind fun v1 =>
(aI M v1 x2).bind fun v2 =>
(f_X0_readValue M x0 x2 2 v2).bind fun M4 =>
(gR M4 1 1 x0).bind fun v5 =>
(f_X6_hasStride M4 x1 x2).bind fun v7 =>
if v7 = 0 then ((wI M4 v5 x2 1).bind fun M9 =>
some M9) else (ob2 (f_X0_read M4 x0 8) fun M11 v12 =>
(wI M11 v5 x2 v12.toInt32).bind fun M13 =>
some M13)

def f_X0_readField_J15 (M : Mm) (x0 : Nat) (x1 : Nat) (x2 : Int32) (s0 : Int32) : Option Mm :=
(gI M 1 5 x0).bind fun v1 =>
if v1 = 0 then (f_X0_readField_J27 M x0 x1 x2) else (if s0 = 0 then ((gI M 1 5 x0).bind fun v4 =>
if v4 = 1 then (ob2 (f_X0_read M x0 1) fun M20 v21 =>
if (lg_cmp v21 1) = 0 then (f_X0_readField_J90 M20 x0 x1 x2 1) else (f_X0_readField_J90 M20 x0 x1 x2 0)) else ((f_X6_hasStride M x1 x2).bind fun v7 =>
if v7 = 0 then ((f_X0_readValue M x0 x2 0 0).bind fun M10 =>
some M10) else (ob2 (f_X0_read M x0 6) fun M12 v13 =>
(gI M12 1 11 x0).bind fun v14 =>
if v14 = 0 then ((gR M12 7 601 x1).bind fun v16 =>
(aI M12 v16 x2).bind fun v17 =>
if v13.toInt32 ≤ v17 then (f_X0_readField_J166 M12 x0 x2 v13.toInt32 x0 0) else (f_X0_readField_J161 M12 x0 x2 v13.toInt32 x0)) else (f_X0_readField_J161 M12 x0 x2 v13.toInt32 x0)))) else (f_X0_readField_J27 M x0 x1 x2))

def f_X0_readField (M : Mm) (a0 : Nat) (a1 : Nat) (a2 : Int32) : Option Mm :=
if mK M a0 = 1 then ((gR M 7 600 a1).bind fun v1 =>
(aI M v1 a2).bind fun v2 =>
if v2 = 4 then (f_X0_readField_J15 M a0 a1 a2 1) else (f_X0_readField_J15 M a0 a1 a2 0)) else none


def f_X10_endsInCheck (a0 : Int32) : Option Int32 :=
if a0 = 1 then (some 0) else (if a0 = 2 then (some 0) else (some 1))


def f_X10_wholeBytes (a0 : Int32) : Option Int32 :=
some ((a0 + 7) >>> (3 &&& 31))


def f_X10_checkOf_L4 (M : Mm) : Nat → Nat → Int32 → Int32 → Int32 → Option Int32
  | 0, _, _, _, _ => none
  | fu + 1, x0, x1, x2, x3 =>
    if x1 ≤ x3 then (some (255 - (x2 &&& 255))) else ((aL M x0).bind fun v2 =>
    if v2 ≤ x3 then (some (255 - (x2 &&& 255))) else ((aI M x0 x3).bind fun v4 =>
    f_X10_checkOf_L4 M fu x0 x1 (x2 + v4) (x3 + 1)))

def f_X10_checkOf (M : Mm) (a0 : Nat) (a1 : Int32) : Option Int32 :=
f_X10_checkOf_L4 M 1000 a0 a1 0 0


def f_X0_isEndRight_J31 (M : Mm) (x0 : Nat) (x1 : Int32) (x2 : Int32) (s0 : Int32) (s1 : Int32) (s2 : Int32) : Option (Mm × Int32) :=
if s0 = (s1 + s2) then ((gI M 1 10 x0).bind fun v2 =>
ob2 (f_X0_read M x0 ((x1 * 8) - v2)) fun M4 v5 =>
if (lg_cmp v5 0) = 0 then (if x2 = 0 then (some (M4, 1)) else ((gR M4 1 9 x0).bind fun v8 =>
(aI M4 v8 x1).bind fun v9 =>
(gR M4 1 9 x0).bind fun v10 =>
(f_X10_checkOf M4 v10 x1).bind fun v12 =>
if v9 = v12 then (some (M4, 1)) else (some (M4, 0)))) else (some (M4, 0))) else (some (M, 0))

def f_X0_isEndRight (M : Mm) (a0 : Nat) : Option (Mm × Int32) :=
if mK M a0 = 1 then ((gI M 1 10 a0).bind fun v1 =>
(f_X10_wholeBytes v1).bind fun v3 =>
(gI M 1 5 a0).bind fun v4 =>
(f_X10_endsInCheck v4).bind fun v6 =>
(gR M 1 9 a0).bind fun v7 =>
(aL M v7).bind fun v8 =>
if v6 = 0 then (f_X0_isEndRight_J31 M a0 v3 v6 v8 v3 0) else (f_X0_isEndRight_J31 M a0 v3 v6 v8 v3 1)) else none


def f_X0_parse_J120 (M : Mm) (x0 : Nat) : Option (Mm × Int32) :=
(gI M 1 11 x0).bind fun v1 =>
if v1 = 0 then (ob2 (f_X0_isEndRight M x0) fun M4 v5 =>
if v5 = 0 then (some (M4, 0)) else (some (M4, 1))) else (some (M, 0))

def f_X0_parse_J99 (M : Mm) (x0 : Nat) : Option (Mm × Int32) :=
(gI M 1 5 x0).bind fun v1 =>
(f_X10_endsInCheck v1).bind fun v3 =>
if v3 = 0 then (ob2 (f_X0_read M x0 8) fun M6 v7 =>
(pI M6 1 8 x0 v7.toInt32).bind fun M8 =>
f_X0_parse_J120 M8 x0) else (f_X0_parse_J120 M x0)

def f_X0_parse_L79 : Nat → Mm → Nat → Nat → Int32 → Option (Mm × Int32)
  | 0, _, _, _, _ => none
  | fu + 1, M, x0, x1, x3 =>
    (gI M 7 604 x1).bind fun v1 =>
    if v1 ≤ x3 then (f_X0_parse_J99 M x0) else ((f_X0_readField M x0 x1 x3).bind fun M4 =>
    f_X0_parse_L79 fu M4 x0 x1 (x3 + 1))

def f_X0_parse (M : Mm) (a0 : Nat) (a1 : Nat) (a2 : Nat) : Option (Mm × Int32) :=
if mK M a0 = 1 then ((pR M 1 9 a0 (some a2)).bind fun M1 =>
(pI M1 1 10 a0 0).bind fun M2 =>
(pZ M2 1 11 a0 0).bind fun M3 =>
ob2 (f_X0_read M3 a0 3) fun M5 v6 =>
(pI M5 1 5 a0 v6.toInt32).bind fun M7 =>
ob2 (f_X0_read M7 a0 3) fun M9 v10 =>
(pI M9 1 6 a0 v10.toInt32).bind fun M11 =>
(gR M11 1 0 a0).bind fun v12 =>
ob2 (f_X0_read M11 a0 16) fun M14 v15 =>
(pI M14 4 301 v12 v15.toInt32).bind fun M16 =>
(gI M16 1 5 a0).bind fun v17 =>
if v17 ≤ 5 then ((gI M16 1 5 a0).bind fun v19 =>
if 2 < v19 then (f_X0_parse_J99 M16 a0) else (ob2 (f_X0_read M16 a0 4) fun M22 v23 =>
(pI M22 1 7 a0 v23.toInt32).bind fun M24 =>
f_X0_parse_L79 1000 M24 a0 a1 0)) else (some (M16, 0))) else none


def f_X10_lowest (a0 : Int64) (a2 : Int32) : Option Int64 :=
some (a0 &&& (((1 : Int64) <<< (a2.toInt64 &&& 63)) - 1))


def f_X6_lowBits (M : Mm) (a0 : Nat) (a1 : Int32) (a2 : Int64) : Option Int64 :=
if mK M a0 = 7 then ((gR M 7 601 a0).bind fun v1 =>
(aI M v1 a1).bind fun v2 =>
(f_X10_lowest a2 v2).bind fun v4 =>
some v4) else none


def f_X6_given (M : Mm) (a0 : Nat) (a1 : Int32) (a2 : Nat) (a3 : Nat) (a4 : Nat) : Option Int64 :=
if mK M a0 = 7 then ((gI M 4 301 a4).bind fun v1 =>
(gI M 4 301 a2).bind fun v2 =>
(aI M a3 a1).bind fun v3 =>
(gR M 7 600 a0).bind fun v4 =>
(aI M v4 a1).bind fun v5 =>
if v5 = 0 then ((gR M 4 300 a2).bind fun v7 =>
(aJ M v7 a1).bind fun v8 =>
some v8) else (if v5 = 1 then ((gR M 4 300 a4).bind fun v10 =>
(gR M 7 602 a0).bind fun v11 =>
(aI M v11 a1).bind fun v12 =>
(aJ M v10 v12).bind fun v13 =>
(gR M 7 603 a0).bind fun v14 =>
(aI M v14 a1).bind fun v15 =>
(f_X6_lowBits M a0 a1 (v13 + v15.toInt64)).bind fun v17 =>
some v17) else (if v5 = 2 then ((gR M 4 300 a2).bind fun v19 =>
(aJ M v19 a1).bind fun v20 =>
(f_X6_lowBits M a0 a1 (v20 + (((v1 - v2).toInt64) * v3.toInt64))).bind fun v22 =>
some v22) else (if v5 = 3 then ((gR M 4 300 a2).bind fun v24 =>
(aJ M v24 a1).bind fun v25 =>
(gR M 7 603 a0).bind fun v26 =>
(aI M v26 a1).bind fun v27 =>
(f_X6_lowBits M a0 a1 (v25 + ((((v1 - v2).toInt64) * v3.toInt64) * v27.toInt64))).bind fun v29 =>
some v29) else ((some 0)))))) else none


def f_X6_found (M : Mm) (a0 : Nat) (a1 : Int32) (a2 : Int64) (a4 : Int32) (a5 : Int64) : Option Int64 :=
if mK M a0 = 7 then (if 1 ≤ a4 then ((f_X10_lowest (a5 - (a2 - ((1 : Int64) <<< ((a4 - 1).toInt64 &&& 63)))) a4).bind fun v3 =>
(f_X6_lowBits M a0 a1 ((a2 - ((1 : Int64) <<< ((a4 - 1).toInt64 &&& 63))) + v3)).bind fun v5 =>
some v5) else (some a2)) else none


def f_X0_rebuild_J79 (k2 : Mm → Nat → Nat → Nat → Int32 → Option Mm) (M : Mm) (x0 : Nat) (x1 : Nat) (x2 : Nat) (x3 : Int32) (x4 : Int64) : Option Mm :=
(gR M 1 0 x0).bind fun v1 =>
(gR M 4 300 v1).bind fun v2 =>
(wJ M v2 x3 x4).bind fun M3 =>
k2 M3 x0 x1 x2 (x3 + 1)

def f_X0_rebuild_J77 (k2 : Mm → Nat → Nat → Nat → Int32 → Option Mm) (M : Mm) (x0 : Nat) (x1 : Nat) (x2 : Nat) (x3 : Int32) (s0 : Int64) : Option Mm :=
f_X0_rebuild_J79 k2 M x0 x1 x2 x3 s0

def f_X0_rebuild_L2 : Nat → Mm → Nat → Nat → Nat → Int32 → Option Mm
  | 0, _, _, _, _, _ => none
  | fu + 1, M, x0, x1, x2, x3 =>
    (gI M 7 604 x1).bind fun v1 =>
    if v1 ≤ x3 then (some M) else ((gR M 1 4 x0).bind fun v3 =>
    (aJ M v3 x3).bind fun v4 =>
    (gR M 1 2 x0).bind fun v5 =>
    (aI M v5 x3).bind fun v6 =>
    if v6 = 2 then (f_X0_rebuild_J79 (f_X0_rebuild_L2 fu) M x0 x1 x2 x3 v4) else ((gR M 2 100 x2).bind fun v8 =>
    (gR M 2 101 x2).bind fun v9 =>
    (gR M 1 0 x0).bind fun v10 =>
    (f_X6_given M x1 x3 v8 v9 v10).bind fun v12 =>
    (gR M 1 2 x0).bind fun v13 =>
    (aI M v13 x3).bind fun v14 =>
    if v14 = 1 then ((gR M 1 3 x0).bind fun v16 =>
    (aI M v16 x3).bind fun v17 =>
    (f_X6_found M x1 x3 v12 v17 v4).bind fun v19 =>
    f_X0_rebuild_J77 (f_X0_rebuild_L2 fu) M x0 x1 x2 x3 v19) else (f_X0_rebuild_J77 (f_X0_rebuild_L2 fu) M x0 x1 x2 x3 v12)))

def f_X0_rebuild (M : Mm) (a0 : Nat) (a1 : Nat) (a2 : Nat) : Option Mm :=
if mK M a0 = 1 then (f_X0_rebuild_L2 1000 M a0 a1 a2 0) else none


def f_X1_init (M : Mm) (a0 : Nat) : Option Mm :=
if mK M a0 = 2 then ((f_X3_init (nO M 4) (mS M)).bind fun M2 =>
(pR M2 2 100 a0 (some (mS M))).bind fun M3 =>
(mA0 M3 20 8 8).bind fun M4 =>
(pR M4 2 101 a0 (some (mS M3))).bind fun M5 =>
some M5) else none


def f_X3_become (M : Mm) (a0 : Nat) (a1 : Nat) : Option Mm :=
if mK M a0 = 4 then ((gR M 4 300 a1).bind fun v1 =>
(gR M 4 300 a0).bind fun v2 =>
(cpJ M v1 0 v2 0 8).bind fun M3 =>
(gI M3 4 301 a1).bind fun v4 =>
(pI M3 4 301 a0 v4).bind fun M5 =>
some M5) else none


def f_X1_accept (M : Mm) (a0 : Nat) (a1 : Nat) : Option Mm :=
if mK M a0 = 2 then ((gR M 2 100 a0).bind fun v1 =>
(gR M 1 0 a1).bind fun v2 =>
(f_X3_become M v1 v2).bind fun M4 =>
(pZ M4 2 103 a0 1).bind fun M5 =>
(gI M5 1 5 a1).bind fun v6 =>
if v6 = 0 then ((gI M5 1 7 a1).bind fun v8 =>
(pI M5 2 102 a0 v8).bind fun M9 =>
(gR M9 1 1 a1).bind fun v10 =>
(gR M9 2 101 a0).bind fun v11 =>
(cpI M9 v10 0 v11 0 8).bind fun M12 =>
some M12) else (some M5)) else none


def f_X2_init (M : Mm) (a0 : Nat) : Option Mm :=
if mK M a0 = 3 then ((f_X3_init (nO M 4) (mS M)).bind fun M2 =>
(pR M2 3 200 a0 (some (mS M))).bind fun M3 =>
(mA0 M3 20 8 8).bind fun M4 =>
(pR M4 3 201 a0 (some (mS M3))).bind fun M5 =>
some M5) else none


def f_X2_accept (M : Mm) (a0 : Nat) (a1 : Nat) (a2 : Int32) : Option Mm :=
if mK M a0 = 3 then ((gR M 3 200 a0).bind fun v1 =>
(gR M 1 0 a1).bind fun v2 =>
(f_X3_become M v1 v2).bind fun M4 =>
(gR M4 1 2 a1).bind fun v5 =>
(gR M4 3 201 a0).bind fun v6 =>
(cpI M4 v5 0 v6 0 8).bind fun M7 =>
(gI M7 1 6 a1).bind fun v8 =>
(pI M7 3 202 a0 v8).bind fun M9 =>
(pI M9 3 203 a0 a2).bind fun M10 =>
(gI M10 3 204 a0).bind fun v11 =>
(pI M10 3 204 a0 (v11 + 1)).bind fun M12 =>
some M12) else none


def f_X4_init (M : Mm) (a0 : Nat) (a1 : Int32) (a2 : Int32) (a3 : Int32) (a4 : Nat) (a5 : Int32) : Option Mm :=
if mK M a0 = 5 then ((pI M 5 405 a0 (-1)).bind fun M1 =>
(pI M1 5 400 a0 a1).bind fun M2 =>
(pI M2 5 401 a0 a2).bind fun M3 =>
(pI M3 5 402 a0 a3).bind fun M4 =>
(pR M4 5 403 a0 (some a4)).bind fun M5 =>
(pI M5 5 404 a0 a5).bind fun M6 =>
some M6) else none


def f_X4_hasByte (M : Mm) (a0 : Nat) (a1 : Int32) : Option Int32 :=
if mK M a0 = 5 then (if a1 < 0 then (some 0) else ((gR M 5 403 a0).bind fun v2 =>
(aL M v2).bind fun v3 =>
if v3 ≤ a1 then (some 0) else (some 1))) else none


def f_X5_init (M : Mm) (a0 : Nat) : Option Mm :=
if mK M a0 = 6 then ((mA0 M 20 60 60).bind fun M1 =>
(pR M1 6 500 a0 (some (mS M))).bind fun M2 =>
some M2) else none


def f_J7_fill_53178_L5 : Nat → Mm → Nat → Int32 → Int32 → Int32 → Option Mm
  | 0, _, _, _, _, _ => none
  | fu + 1, M, x0, x1, x2, x3 =>
    if x3 ≤ x2 then (some M) else ((wI M x0 x2 x1).bind fun M2 =>
    f_J7_fill_53178_L5 fu M2 x0 x1 (x2 + 1) x3)

def f_J7_fill_53178 (M : Mm) (a0 : Nat) (a1 : Int32) : Option Mm :=
(aL M a0).bind fun v1 =>
f_J7_fill_53178_L5 1000 M a0 a1 0 v1


def f_X5_write_L5 : Nat → Mm → Nat → Int64 → Int32 → Option Mm
  | 0, _, _, _, _ => none
  | fu + 1, M, x0, x1, x4 =>
    if x4 < 0 then (some M) else ((gI M 6 501 x0).bind fun v2 =>
    (f_X10_wholeBytes (v2 + 1)).bind fun v4 =>
    (gR M 6 500 x0).bind fun v5 =>
    (aL M v5).bind fun v6 =>
    if v6 < v4 then (some M) else ((gR M 6 500 x0).bind fun v8 =>
    (gI M 6 501 x0).bind fun v9 =>
    (aI M v8 (v9 >>> (3 &&& 31))).bind fun v10 =>
    (gI M 6 501 x0).bind fun v11 =>
    (wI M v8 (v9 >>> (3 &&& 31)) (v10 ||| ((((x1 >>> (x4.toInt64 &&& 63)).toInt32) &&& 1) <<< ((7 - (v11 &&& 7)) &&& 31)))).bind fun M12 =>
    (gI M12 6 501 x0).bind fun v13 =>
    (pI M12 6 501 x0 (v13 + 1)).bind fun M14 =>
    f_X5_write_L5 fu M14 x0 x1 (x4 + (-1))))

def f_X5_write (M : Mm) (a0 : Nat) (a1 : Int64) (a3 : Int32) : Option Mm :=
if mK M a0 = 6 then (f_X5_write_L5 1000 M a0 a1 (a3 - 1)) else none


def f_X5_begin (M : Mm) (a0 : Nat) (a1 : Int32) (a2 : Int32) (a3 : Int32) : Option Mm :=
if mK M a0 = 6 then ((gR M 6 500 a0).bind fun v1 =>
(f_J7_fill_53178 M v1 0).bind fun M3 =>
(pI M3 6 501 a0 0).bind fun M4 =>
(f_X5_write M4 a0 a1.toInt64 3).bind fun M6 =>
(f_X5_write M6 a0 a2.toInt64 3).bind fun M8 =>
(f_X5_write M8 a0 a3.toInt64 16).bind fun M10 =>
some M10) else none


def f_J7_copyOf_59c91 (M : Mm) (a0 : Nat) (a1 : Int32) : Option (Mm × Nat) :=
(aL M a0).bind fun v1 =>
if a1 = v1 then ((clI M 64 a0).bind fun M6 =>
some (M6, (mS M))) else ((mA0 M 20 64 a1).bind fun M3 =>
(aL M3 a0).bind fun v4 =>
(cpI M3 a0 0 (mS M) 0 (if a1 < v4 then a1 else v4)).bind fun M5 =>
some (M5, (mS M)))


def f_X5_finished (M : Mm) (a0 : Nat) (a1 : Int32) : Option (Mm × Nat) :=
if mK M a0 = 6 then ((gI M 6 501 a0).bind fun v1 =>
(f_X10_wholeBytes v1).bind fun v3 =>
if a1 = 0 then ((gR M 6 500 a0).bind fun v12 =>
ob2 (f_J7_copyOf_59c91 M v12 v3) fun M14 v15 =>
some (M14, v15)) else ((gR M 6 500 a0).bind fun v5 =>
ob2 (f_J7_copyOf_59c91 M v5 (v3 + 1)) fun M7 v8 =>
(f_X10_checkOf M7 v8 v3).bind fun v10 =>
(wI M7 v8 v3 v10).bind fun M11 =>
some (M11, v8))) else none


def f_X6_init (M : Mm) (a0 : Nat) : Option Mm :=
if mK M a0 = 7 then ((mA0 M 20 8 8).bind fun M1 =>
(pR M1 7 600 a0 (some (mS M))).bind fun M2 =>
(mA0 M2 20 8 8).bind fun M3 =>
(pR M3 7 601 a0 (some (mS M2))).bind fun M4 =>
(mA0 M4 20 8 8).bind fun M5 =>
(pR M5 7 602 a0 (some (mS M4))).bind fun M6 =>
(mA0 M6 20 8 8).bind fun M7 =>
(pR M7 7 603 a0 (some (mS M6))).bind fun M8 =>
some M8) else none


def f_X6_allows (M : Mm) (a0 : Nat) (a1 : Int32) (a2 : Int32) (a3 : Int32) (a4 : Int32) : Option Int32 :=
if mK M a0 = 7 then (if a1 < 0 then (some 0) else (if 4 < a1 then (some 0) else (if a2 < 1 then (some 0) else (if a2 ≤ 32 then (if a1 = 1 then ((f_X6_has M a0 a3).bind fun v10 =>
if v10 = 0 ∨ v10 = 1 then
some v10 else none) else (if a1 = 3 then (if a4 < 1 then (some 0) else (if 1000 < a4 then (some 0) else (some 1))) else (some 1))) else (some 0))))) else none


def f_X6_append_J50 (M : Mm) (x0 : Nat) (x4 : Int32) (s0 : Nat) (s1 : Int32) (s2 : Int32) : Option (Mm × Int32) :=
(wI M s0 s1 s2).bind fun M1 =>
(gR M1 7 603 x0).bind fun v2 =>
(gI M1 7 604 x0).bind fun v3 =>
(wI M1 v2 v3 x4).bind fun M4 =>
(gI M4 7 604 x0).bind fun v5 =>
(pI M4 7 604 x0 (v5 + 1)).bind fun M6 =>
(gI M6 7 604 x0).bind fun v7 =>
some (M6, v7 - 1)

def f_X6_append (M : Mm) (a0 : Nat) (a1 : Int32) (a2 : Int32) (a3 : Int32) (a4 : Int32) : Option (Mm × Int32) :=
if mK M a0 = 7 then ((gI M 7 604 a0).bind fun v1 =>
if v1 < 8 then ((gR M 7 600 a0).bind fun v3 =>
(gI M 7 604 a0).bind fun v4 =>
(wI M v3 v4 a1).bind fun M5 =>
(gR M5 7 601 a0).bind fun v6 =>
(gI M5 7 604 a0).bind fun v7 =>
(wI M5 v6 v7 a2).bind fun M8 =>
(gR M8 7 602 a0).bind fun v9 =>
(gI M8 7 604 a0).bind fun v10 =>
if a1 = 1 then (f_X6_append_J50 M8 a0 a4 v9 v10 a3) else (f_X6_append_J50 M8 a0 a4 v9 v10 0)) else (some (M, (-2)))) else none


def f_X6_wholeBits_J34 (k5 : Nat → Int32 → Int32 → Option Int32) (M : Mm) (x0 : Nat) (x2 : Int32) (s0 : Int32) (s1 : Int32) (s2 : Int32) : Option Int32 :=
k5 x0 (s0 + (s1 + s2)) (x2 + 1)

def f_X6_wholeBits_L5 (M : Mm) : Nat → Nat → Int32 → Int32 → Option Int32
  | 0, _, _, _ => none
  | fu + 1, x0, x1, x2 =>
    (gI M 7 604 x0).bind fun v1 =>
    if v1 ≤ x2 then (some x1) else ((gR M 7 601 x0).bind fun v3 =>
    (aI M v3 x2).bind fun v4 =>
    (f_X6_hasStride M x0 x2).bind fun v6 =>
    if v6 = 0 then (f_X6_wholeBits_J34 (f_X6_wholeBits_L5 M fu) M x0 x2 x1 v4 0) else (f_X6_wholeBits_J34 (f_X6_wholeBits_L5 M fu) M x0 x2 x1 v4 8))

def f_X6_wholeBits (M : Mm) (a0 : Nat) : Option Int32 :=
if mK M a0 = 7 then (f_X6_wholeBits_L5 M 1000 a0 26 0) else none


def f_X6_sumOf_L7 (M : Mm) : Nat → Nat → Nat → Int64 → Int32 → Option Int32
  | 0, _, _, _, _ => none
  | fu + 1, x0, x1, x2, x4 =>
    (gI M 7 604 x0).bind fun v1 =>
    if v1 ≤ x4 then (some x2.toInt32) else ((gR M 4 300 x1).bind fun v3 =>
    (aJ M v3 x4).bind fun v4 =>
    (f_X10_lowest ((x2 * 31) + v4) 8).bind fun v6 =>
    f_X6_sumOf_L7 M fu x0 x1 v6 (x4 + 1))

def f_X6_sumOf (M : Mm) (a0 : Nat) (a1 : Nat) : Option Int32 :=
if mK M a0 = 7 then (f_X6_sumOf_L7 M 1000 a0 a1 17 0) else none


def f_X7_init (M : Mm) (a0 : Nat) : Option Mm :=
if mK M a0 = 8 then ((mA0 M 20 8 8).bind fun M1 =>
(pR M1 8 700 a0 (some (mS M))).bind fun M2 =>
(mA0 M2 20 8 8).bind fun M3 =>
(pR M3 8 701 a0 (some (mS M2))).bind fun M4 =>
some M4) else none


def f_X8_init (M : Mm) (a0 : Nat) : Option Mm :=
if mK M a0 = 9 then ((mA0 M 21 60 60).bind fun M1 =>
(pR M1 9 800 a0 (some (mS M))).bind fun M2 =>
some M2) else none


def f_X8_holdLetter (M : Mm) (a0 : Nat) (a1 : Nat) : Option Mm :=
if mK M a0 = 9 then ((pI M 9 801 a0 1).bind fun M1 =>
(gI M1 5 400 a1).bind fun v2 =>
(pI M1 9 803 a0 v2).bind fun M3 =>
(gR M3 5 403 a1).bind fun v4 =>
(aL M3 v4).bind fun v5 =>
(pI M3 9 804 a0 v5).bind fun M6 =>
some M6) else none


def f_J7_fill_d0a16_L6 : Nat → Mm → Nat → Int64 → Int32 → Int32 → Option Mm
  | 0, _, _, _, _, _ => none
  | fu + 1, M, x0, x1, x3, x4 =>
    if x4 ≤ x3 then (some M) else ((wJ M x0 x3 x1).bind fun M2 =>
    f_J7_fill_d0a16_L6 fu M2 x0 x1 (x3 + 1) x4)

def f_J7_fill_d0a16 (M : Mm) (a0 : Nat) (a1 : Int64) : Option Mm :=
(aL M a0).bind fun v1 =>
f_J7_fill_d0a16_L6 1000 M a0 a1 0 v1


def f_X8_holdRow (M : Mm) (a0 : Nat) (a1 : Int32) (a2 : Int32) : Option Mm :=
if mK M a0 = 9 then ((pI M 9 801 a0 a1).bind fun M1 =>
(pI M1 9 802 a0 (if 0 < (if 60 < a2 then 60 else a2) then (if 60 < a2 then 60 else a2) else 0)).bind fun M2 =>
(gR M2 9 800 a0).bind fun v3 =>
(f_J7_fill_d0a16 M2 v3 0).bind fun M5 =>
some M5) else none


def f_X8_hasPlaces (M : Mm) (a0 : Nat) (a1 : Int32) (a2 : Int32) : Option Int32 :=
if mK M a0 = 9 then (if a1 < 0 then (some 0) else (if a2 < 0 then (some 0) else ((gI M 9 802 a0).bind fun v3 =>
if (v3 - a2) < a1 then (some 0) else (some 1)))) else none


def f_X9_init (M : Mm) (a0 : Nat) : Option Mm :=
if mK M a0 = 10 then ((mA0 M 20 8 8).bind fun M1 =>
(pR M1 10 900 a0 (some (mS M))).bind fun M2 =>
(pZ M2 10 903 a0 1).bind fun M3 =>
(mA0 M3 24 8 8).bind fun M4 =>
(pR M4 10 905 a0 (some (mS M3))).bind fun M5 =>
(gR M5 10 900 a0).bind fun v6 =>
(f_J7_fill_53178 M5 v6 1).bind fun M8 =>
(gR M8 10 905 a0).bind fun v9 =>
(f_X3_init (nO M8 4) (mS M8)).bind fun M11 =>
(wR M11 24 4 v9 0 (mS M8)).bind fun M12 =>
(gR M12 10 905 a0).bind fun v13 =>
(f_X3_init (nO M12 4) (mS M12)).bind fun M15 =>
(wR M15 24 4 v13 1 (mS M12)).bind fun M16 =>
(gR M16 10 905 a0).bind fun v17 =>
(f_X3_init (nO M16 4) (mS M16)).bind fun M19 =>
(wR M19 24 4 v17 2 (mS M16)).bind fun M20 =>
(gR M20 10 905 a0).bind fun v21 =>
(f_X3_init (nO M20 4) (mS M20)).bind fun M23 =>
(wR M23 24 4 v21 3 (mS M20)).bind fun M24 =>
(gR M24 10 905 a0).bind fun v25 =>
(f_X3_init (nO M24 4) (mS M24)).bind fun M27 =>
(wR M27 24 4 v25 4 (mS M24)).bind fun M28 =>
(gR M28 10 905 a0).bind fun v29 =>
(f_X3_init (nO M28 4) (mS M28)).bind fun M31 =>
(wR M31 24 4 v29 5 (mS M28)).bind fun M32 =>
(gR M32 10 905 a0).bind fun v33 =>
(f_X3_init (nO M32 4) (mS M32)).bind fun M35 =>
(wR M35 24 4 v33 6 (mS M32)).bind fun M36 =>
(gR M36 10 905 a0).bind fun v37 =>
(f_X3_init (nO M36 4) (mS M36)).bind fun M39 =>
(wR M39 24 4 v37 7 (mS M36)).bind fun M40 =>
some M40) else none


def f_J9_floorMod_7cf53 (a0 : Int32) (a1 : Int32) : Option Int32 :=
if a1 = 0 then none else
if 0 ≤ (a0 ^^^ a1) then (some (a0 - a0 / a1 * a1)) else (if (a0 - a0 / a1 * a1) = 0 then (some (a0 - a0 / a1 * a1)) else (some ((a0 - a0 / a1 * a1) + a1)))


def f_X9_reference (M : Mm) (a0 : Nat) (a1 : Int32) : Option Nat :=
if mK M a0 = 10 then ((gR M 10 905 a0).bind fun v1 =>
(gI M 10 906 a0).bind fun v2 =>
(f_J9_floorMod_7cf53 (v2 + a1) 8).bind fun v4 =>
(aR M 24 v1 v4).bind fun v5 =>
some v5) else none


def f_X9_oldestNumber (M : Mm) (a0 : Nat) : Option Int32 :=
if mK M a0 = 10 then ((gI M 10 904 a0).bind fun v1 =>
if v1 = 0 then (some (-2)) else ((f_X9_reference M a0 0).bind fun v4 =>
(gI M 4 301 v4).bind fun v5 =>
some v5)) else none


def f_X9_oldestMiss_L11 (M : Mm) : Nat → Nat → Nat → Nat → Int32 → Int32 → Int64 → Int32 → Option Int32
  | 0, _, _, _, _, _, _, _ => none
  | fu + 1, x0, x1, x2, x3, x4, x5, x7 =>
    (gI M 10 904 x0).bind fun v1 =>
    if v1 ≤ x7 then (some (-2)) else ((f_X9_reference M x0 x7).bind fun v4 =>
    (gR M 10 900 x0).bind fun v5 =>
    (f_X6_given M x1 x3 v4 v5 x2).bind fun v7 =>
    (f_X6_found M x1 x3 v7 x4 x5).bind fun v9 =>
    if (lg_cmp v9 x5) = 0 then (f_X9_oldestMiss_L11 M fu x0 x1 x2 x3 x4 x5 (x7 + 1)) else ((f_X9_reference M x0 x7).bind fun v12 =>
    (gI M 4 301 v12).bind fun v13 =>
    some v13))

def f_X9_oldestMiss (M : Mm) (a0 : Nat) (a1 : Nat) (a2 : Nat) (a3 : Int32) (a4 : Int32) : Option Int32 :=
if mK M a0 = 10 then ((gR M 4 300 a2).bind fun v1 =>
(aJ M v1 a3).bind fun v2 =>
f_X9_oldestMiss_L11 M 1000 a0 a1 a2 a3 a4 v2 0) else none


def f_X9_isGivenByAll (M : Mm) (a0 : Nat) (a1 : Nat) (a2 : Nat) (a3 : Int32) : Option Int32 :=
if mK M a0 = 10 then ((f_X9_oldestMiss M a0 a1 a2 a3 0).bind fun v2 =>
if v2 = (-2) then (some 1) else (some 0)) else none


def f_X9_kindFor_J78 (k23 : Nat → Nat → Nat → Int32 → Option Int32) (M : Mm) (x0 : Nat) (x1 : Nat) (x2 : Nat) (x4 : Int32) : Option Int32 :=
k23 x0 x1 x2 (x4 + 1)

def f_X9_kindFor_J58 (k23 : Nat → Nat → Nat → Int32 → Option Int32) (M : Mm) (x0 : Nat) (x1 : Nat) (x2 : Nat) (x4 : Int32) (s0 : Int32) : Option Int32 :=
if s0 = 0 then (f_X9_kindFor_J78 k23 M x0 x1 x2 x4) else ((f_X9_isGivenByAll M x0 x1 x2 x4).bind fun v3 =>
if v3 = 0 then (some 1) else (f_X9_kindFor_J78 k23 M x0 x1 x2 x4))

def f_X9_kindFor_J53 (k23 : Nat → Nat → Nat → Int32 → Option Int32) (M : Mm) (x0 : Nat) (x1 : Nat) (x2 : Nat) (x4 : Int32) : Option Int32 :=
f_X9_kindFor_J58 k23 M x0 x1 x2 x4 1

def f_X9_kindFor_L23 (M : Mm) : Nat → Nat → Nat → Nat → Int32 → Option Int32
  | 0, _, _, _, _ => none
  | fu + 1, x0, x1, x2, x4 =>
    (gI M 7 604 x1).bind fun v1 =>
    if v1 ≤ x4 then (some 2) else ((gR M 7 600 x1).bind fun v3 =>
    (aI M v3 x4).bind fun v4 =>
    if v4 = 0 then (f_X9_kindFor_J53 (f_X9_kindFor_L23 M fu) M x0 x1 x2 x4) else ((gR M 7 600 x1).bind fun v6 =>
    (aI M v6 x4).bind fun v7 =>
    if v7 = 1 then (f_X9_kindFor_J53 (f_X9_kindFor_L23 M fu) M x0 x1 x2 x4) else (f_X9_kindFor_J58 (f_X9_kindFor_L23 M fu) M x0 x1 x2 x4 0)))

def f_X9_kindFor (M : Mm) (a0 : Nat) (a1 : Nat) (a2 : Nat) (a3 : Int32) : Option Int32 :=
if mK M a0 = 10 then (if a3 = 0 then ((gI M 10 903 a0).bind fun v2 =>
if v2 = 0 then ((gI M 10 904 a0).bind fun v4 =>
if v4 = 0 then (some 0) else (f_X9_kindFor_L23 M 1000 a0 a1 a2 0)) else (some 0)) else (some 0)) else none


def f_X9_beginRound (M : Mm) (a0 : Nat) : Option Mm :=
if mK M a0 = 10 then ((gI M 10 902 a0).bind fun v1 =>
(pI M 10 902 a0 ((v1 + 1) - (v1 + 1) / 16 * 16)).bind fun M2 =>
(pI M2 10 904 a0 0).bind fun M3 =>
(pZ M3 10 903 a0 0).bind fun M4 =>
some M4) else none


def f_X9_writeWhole_J63 (k13 : Mm → Nat → Nat → Nat → Nat → Int32 → Option Mm) (M : Mm) (x0 : Nat) (x1 : Nat) (x2 : Nat) (x3 : Nat) (x4 : Int32) : Option Mm :=
k13 M x0 x1 x2 x3 (x4 + 1)

def f_X9_writeWhole_L13 : Nat → Mm → Nat → Nat → Nat → Nat → Int32 → Option Mm
  | 0, _, _, _, _, _, _ => none
  | fu + 1, M, x0, x1, x2, x3, x4 =>
    (gI M 7 604 x1).bind fun v1 =>
    if v1 ≤ x4 then (some M) else ((gR M 4 300 x2).bind fun v3 =>
    (aJ M v3 x4).bind fun v4 =>
    (gR M 7 601 x1).bind fun v5 =>
    (aI M v5 x4).bind fun v6 =>
    (f_X5_write M x3 v4 v6).bind fun M8 =>
    (f_X6_hasStride M8 x1 x4).bind fun v10 =>
    if v10 = 0 then (f_X9_writeWhole_J63 (f_X9_writeWhole_L13 fu) M8 x0 x1 x2 x3 x4) else ((gR M8 10 900 x0).bind fun v12 =>
    (aI M8 v12 x4).bind fun v13 =>
    (f_X5_write M8 x3 v13.toInt64 8).bind fun M15 =>
    f_X9_writeWhole_J63 (f_X9_writeWhole_L13 fu) M15 x0 x1 x2 x3 x4))

def f_X9_writeWhole (M : Mm) (a0 : Nat) (a1 : Nat) (a2 : Nat) (a3 : Nat) : Option Mm :=
if mK M a0 = 10 then ((gI M 10 902 a0).bind fun v1 =>
(f_X5_write M a3 v1.toInt64 4).bind fun M3 =>
f_X9_writeWhole_L13 1000 M3 a0 a1 a2 a3 0) else none


def f_X9_writePart_J106 (k13 : Mm → Nat → Nat → Nat → Nat → Int32 → Option Mm) (M : Mm) (x0 : Nat) (x1 : Nat) (x2 : Nat) (x3 : Nat) (x4 : Int32) : Option Mm :=
k13 M x0 x1 x2 x3 (x4 + 1)

def f_X9_writePart_J83 (k13 : Mm → Nat → Nat → Nat → Nat → Int32 → Option Mm) (M : Mm) (x0 : Nat) (x1 : Nat) (x2 : Nat) (x3 : Nat) (x4 : Int32) (x6 : Int32) : Option Mm :=
if x6 = 0 then (f_X9_writePart_J106 k13 M x0 x1 x2 x3 x4) else ((gR M 4 300 x2).bind fun v2 =>
(aJ M v2 x4).bind fun v3 =>
(gR M 7 601 x1).bind fun v4 =>
(aI M v4 x4).bind fun v5 =>
(f_X5_write M x3 v3 v5).bind fun M7 =>
f_X9_writePart_J106 k13 M7 x0 x1 x2 x3 x4)

def f_X9_writePart_J79 (k13 : Mm → Nat → Nat → Nat → Nat → Int32 → Option Mm) (M : Mm) (x0 : Nat) (x1 : Nat) (x2 : Nat) (x3 : Nat) (x4 : Int32) (x6 : Int32) (s0 : Nat) (s1 : Int64) : Option Mm :=
(f_X5_write M s0 s1 1).bind fun M2 =>
f_X9_writePart_J83 k13 M2 x0 x1 x2 x3 x4 x6

def f_X9_writePart_J61 (k13 : Mm → Nat → Nat → Nat → Nat → Int32 → Option Mm) (M : Mm) (x0 : Nat) (x1 : Nat) (x2 : Nat) (x3 : Nat) (x4 : Int32) (x5 : Int32) (s0 : Int32) : Option Mm :=
if x5 = 0 then (if s0 = 0 then (f_X9_writePart_J79 k13 M x0 x1 x2 x3 x4 s0 x3 0) else (f_X9_writePart_J79 k13 M x0 x1 x2 x3 x4 s0 x3 1)) else (f_X9_writePart_J83 k13 M x0 x1 x2 x3 x4 s0)

def f_X9_writePart_J56 (k13 : Mm → Nat → Nat → Nat → Nat → Int32 → Option Mm) (M : Mm) (x0 : Nat) (x1 : Nat) (x2 : Nat) (x3 : Nat) (x4 : Int32) (x5 : Int32) : Option Mm :=
f_X9_writePart_J61 k13 M x0 x1 x2 x3 x4 x5 1

def f_X9_writePart_J38 (k13 : Mm → Nat → Nat → Nat → Nat → Int32 → Option Mm) (M : Mm) (x0 : Nat) (x1 : Nat) (x2 : Nat) (x3 : Nat) (x4 : Int32) (s0 : Int32) : Option Mm :=
if s0 = 0 then ((f_X9_isGivenByAll M x0 x1 x2 x4).bind fun v3 =>
if v3 = 0 then (f_X9_writePart_J56 k13 M x0 x1 x2 x3 x4 s0) else (f_X9_writePart_J61 k13 M x0 x1 x2 x3 x4 s0 0)) else (f_X9_writePart_J56 k13 M x0 x1 x2 x3 x4 s0)

def f_X9_writePart_L13 : Nat → Mm → Nat → Nat → Nat → Nat → Int32 → Option Mm
  | 0, _, _, _, _, _, _ => none
  | fu + 1, M, x0, x1, x2, x3, x4 =>
    (gI M 7 604 x1).bind fun v1 =>
    if v1 ≤ x4 then ((f_X6_sumOf M x1 x2).bind fun v4 =>
    (f_X5_write M x3 v4.toInt64 8).bind fun M6 =>
    some M6) else ((gR M 7 600 x1).bind fun v7 =>
    (aI M v7 x4).bind fun v8 =>
    if v8 = 4 then (f_X9_writePart_J38 (f_X9_writePart_L13 fu) M x0 x1 x2 x3 x4 1) else (f_X9_writePart_J38 (f_X9_writePart_L13 fu) M x0 x1 x2 x3 x4 0))

def f_X9_writePart (M : Mm) (a0 : Nat) (a1 : Nat) (a2 : Nat) (a3 : Nat) : Option Mm :=
if mK M a0 = 10 then ((gI M 10 902 a0).bind fun v1 =>
(f_X5_write M a3 v1.toInt64 4).bind fun M3 =>
f_X9_writePart_L13 1000 M3 a0 a1 a2 a3 0) else none


def f_X9_findLeast_L7 : Nat → Mm → Nat → Nat → Nat → Int32 → Nat → Int32 → Int32 → Option Mm
  | 0, _, _, _, _, _, _, _, _ => none
  | fu + 1, M, x0, x1, x2, x3, x4, x5, x6 =>
    (gR M 7 601 x1).bind fun v1 =>
    (aI M v1 x3).bind fun v2 =>
    if v2 < x6 then (some M) else ((gR M 8 700 x4).bind fun v4 =>
    (wI M v4 x3 x6).bind fun M5 =>
    (gR M5 8 701 x4).bind fun v6 =>
    (wI M5 v6 x3 x5).bind fun M7 =>
    (f_X9_oldestMiss M7 x0 x1 x2 x3 x6).bind fun v9 =>
    if v9 = (-2) then (some M7) else (f_X9_findLeast_L7 fu M7 x0 x1 x2 x3 x4 v9 (x6 + 1)))

def f_X9_findLeast (M : Mm) (a0 : Nat) (a1 : Nat) (a2 : Nat) (a3 : Int32) (a4 : Nat) : Option Mm :=
if mK M a0 = 10 then (f_X9_findLeast_L7 1000 M a0 a1 a2 a3 a4 (-2) 0) else none


def f_X9_writeShort_J125 (k31 : Mm → Nat → Nat → Nat → Nat → Nat → Int32 → Option Mm) (M : Mm) (x0 : Nat) (x1 : Nat) (x2 : Nat) (x3 : Nat) (x4 : Nat) (x5 : Int32) : Option Mm :=
k31 M x0 x1 x2 x3 x4 (x5 + 1)

def f_X9_writeShort_L31 : Nat → Mm → Nat → Nat → Nat → Nat → Nat → Int32 → Option Mm
  | 0, _, _, _, _, _, _, _ => none
  | fu + 1, M, x0, x1, x2, x3, x4, x5 =>
    (gI M 7 604 x1).bind fun v1 =>
    if v1 ≤ x5 then ((f_X6_sumOf M x1 x2).bind fun v4 =>
    (f_X5_write M x3 v4.toInt64 8).bind fun M6 =>
    some M6) else ((f_X6_hasStride M x1 x5).bind fun v8 =>
    if v8 = 0 then ((gR M 7 600 x1).bind fun v10 =>
    (aI M v10 x5).bind fun v11 =>
    if v11 = 4 then ((gR M 4 300 x2).bind fun v13 =>
    (aJ M v13 x5).bind fun v14 =>
    (gR M 7 601 x1).bind fun v15 =>
    (aI M v15 x5).bind fun v16 =>
    (f_X5_write M x3 v14 v16).bind fun M18 =>
    f_X9_writeShort_J125 (f_X9_writeShort_L31 fu) M18 x0 x1 x2 x3 x4 x5) else (f_X9_writeShort_J125 (f_X9_writeShort_L31 fu) M x0 x1 x2 x3 x4 x5)) else ((f_X9_findLeast M x0 x1 x2 x5 x4).bind fun M20 =>
    (gR M20 8 700 x4).bind fun v21 =>
    (aI M20 v21 x5).bind fun v22 =>
    (f_X5_write M20 x3 v22.toInt64 6).bind fun M24 =>
    (gR M24 4 300 x2).bind fun v25 =>
    (aJ M24 v25 x5).bind fun v26 =>
    (gR M24 8 700 x4).bind fun v27 =>
    (aI M24 v27 x5).bind fun v28 =>
    (f_X5_write M24 x3 v26 v28).bind fun M30 =>
    f_X9_writeShort_J125 (f_X9_writeShort_L31 fu) M30 x0 x1 x2 x3 x4 x5))

def f_X9_writeShort (M : Mm) (a0 : Nat) (a1 : Nat) (a2 : Nat) (a3 : Nat) (a4 : Nat) : Option Mm :=
if mK M a0 = 10 then ((gI M 10 904 a0).bind fun v1 =>
(pI M 8 702 a4 v1).bind fun M2 =>
(f_X9_oldestNumber M2 a0).bind fun v4 =>
(pI M2 8 703 a4 v4).bind fun M5 =>
(gI M5 10 902 a0).bind fun v6 =>
(f_X5_write M5 a3 v6.toInt64 4).bind fun M8 =>
f_X9_writeShort_L31 1000 M8 a0 a1 a2 a3 a4 0) else none


def f_X9_dropOldest (M : Mm) (a0 : Nat) (a1 : Int32) : Option Mm :=
if mK M a0 = 10 then ((gI M 10 906 a0).bind fun v1 =>
(f_J9_floorMod_7cf53 (v1 + a1) 8).bind fun v3 =>
(pI M 10 906 a0 v3).bind fun M4 =>
(gI M4 10 904 a0).bind fun v5 =>
(pI M4 10 904 a0 (v5 - a1)).bind fun M6 =>
some M6) else none


def f_X9_remember_J20 (M : Mm) (x0 : Nat) (x1 : Nat) : Option Mm :=
(gI M 10 904 x0).bind fun v1 =>
(f_X9_reference M x0 v1).bind fun v3 =>
(f_X3_become M v3 x1).bind fun M5 =>
(gI M5 10 904 x0).bind fun v6 =>
(pI M5 10 904 x0 (v6 + 1)).bind fun M7 =>
(gI M7 10 901 x0).bind fun v8 =>
(pI M7 10 901 x0 (v8 + 1)).bind fun M9 =>
some M9

def f_X9_remember (M : Mm) (a0 : Nat) (a1 : Nat) (a2 : Int32) : Option Mm :=
if mK M a0 = 10 then ((gI M 10 904 a0).bind fun v1 =>
if v1 < a2 then (f_X9_remember_J20 M a0 a1) else ((gI M 10 904 a0).bind fun v3 =>
(f_X9_dropOldest M a0 ((v3 - a2) + 1)).bind fun M5 =>
f_X9_remember_J20 M5 a0 a1)) else none


def f_X9_heed_L29 : Nat → Mm → Nat → Int32 → Int32 → Option (Mm × Int32)
  | 0, _, _, _, _ => none
  | fu + 1, M, x0, x2, x3 =>
    (gI M 10 904 x0).bind fun v1 =>
    if v1 ≤ x3 then (some (M, 7)) else ((f_X9_reference M x0 x3).bind fun v4 =>
    (gI M 4 301 v4).bind fun v5 =>
    if (v5 - v5 / 65536 * 65536) = x2 then ((f_X9_dropOldest M x0 x3).bind fun M8 =>
    some (M8, 6)) else (f_X9_heed_L29 fu M x0 x2 (x3 + 1)))

def f_X9_heed (M : Mm) (a0 : Nat) (a1 : Int32) (a2 : Int32) : Option (Mm × Int32) :=
if mK M a0 = 10 then (if a1 = 3 then (f_X9_heed_L29 1000 M a0 a2 0) else ((gI M 10 903 a0).bind fun v2 =>
(pZ M 10 903 a0 1).bind fun M3 =>
if v2 = 0 then (some (M3, 6)) else (some (M3, 7)))) else none


def f_X10_init (M : Mm) (a0 : Nat) (a1 : Int32) : Option Mm :=
if mK M a0 = 11 then ((f_J9_floorMod_7cf53 a1 8).bind fun v2 =>
(pI M 11 1000 a0 (1 + v2)).bind fun M3 =>
(f_X6_init (nO M3 7) (mS M3)).bind fun M5 =>
(pR M5 11 1001 a0 (some (mS M3))).bind fun M6 =>
(f_X3_init (nO M6 4) (mS M6)).bind fun M8 =>
(pR M8 11 1002 a0 (some (mS M6))).bind fun M9 =>
(mA0 M9 27 8 8).bind fun M10 =>
(pR M10 11 1003 a0 (some (mS M9))).bind fun M11 =>
(mA0 M11 23 8 8).bind fun M12 =>
(pR M12 11 1004 a0 (some (mS M11))).bind fun M13 =>
(gR M13 11 1003 a0).bind fun v14 =>
(f_X9_init (nO M13 10) (mS M13)).bind fun M16 =>
(wR M16 27 10 v14 0 (mS M13)).bind fun M17 =>
(gR M17 11 1004 a0).bind fun v18 =>
(f_X1_init (nO M17 2) (mS M17)).bind fun M20 =>
(wR M20 23 2 v18 0 (mS M17)).bind fun M21 =>
(gR M21 11 1003 a0).bind fun v22 =>
(f_X9_init (nO M21 10) (mS M21)).bind fun M24 =>
(wR M24 27 10 v22 1 (mS M21)).bind fun M25 =>
(gR M25 11 1004 a0).bind fun v26 =>
(f_X1_init (nO M25 2) (mS M25)).bind fun M28 =>
(wR M28 23 2 v26 1 (mS M25)).bind fun M29 =>
(gR M29 11 1003 a0).bind fun v30 =>
(f_X9_init (nO M29 10) (mS M29)).bind fun M32 =>
(wR M32 27 10 v30 2 (mS M29)).bind fun M33 =>
(gR M33 11 1004 a0).bind fun v34 =>
(f_X1_init (nO M33 2) (mS M33)).bind fun M36 =>
(wR M36 23 2 v34 2 (mS M33)).bind fun M37 =>
(gR M37 11 1003 a0).bind fun v38 =>
(f_X9_init (nO M37 10) (mS M37)).bind fun M40 =>
(wR M40 27 10 v38 3 (mS M37)).bind fun M41 =>
(gR M41 11 1004 a0).bind fun v42 =>
(f_X1_init (nO M41 2) (mS M41)).bind fun M44 =>
(wR M44 23 2 v42 3 (mS M41)).bind fun M45 =>
(gR M45 11 1003 a0).bind fun v46 =>
(f_X9_init (nO M45 10) (mS M45)).bind fun M48 =>
(wR M48 27 10 v46 4 (mS M45)).bind fun M49 =>
(gR M49 11 1004 a0).bind fun v50 =>
(f_X1_init (nO M49 2) (mS M49)).bind fun M52 =>
(wR M52 23 2 v50 4 (mS M49)).bind fun M53 =>
(gR M53 11 1003 a0).bind fun v54 =>
(f_X9_init (nO M53 10) (mS M53)).bind fun M56 =>
(wR M56 27 10 v54 5 (mS M53)).bind fun M57 =>
(gR M57 11 1004 a0).bind fun v58 =>
(f_X1_init (nO M57 2) (mS M57)).bind fun M60 =>
(wR M60 23 2 v58 5 (mS M57)).bind fun M61 =>
(gR M61 11 1003 a0).bind fun v62 =>
(f_X9_init (nO M61 10) (mS M61)).bind fun M64 =>
(wR M64 27 10 v62 6 (mS M61)).bind fun M65 =>
(gR M65 11 1004 a0).bind fun v66 =>
(f_X1_init (nO M65 2) (mS M65)).bind fun M68 =>
(wR M68 23 2 v66 6 (mS M65)).bind fun M69 =>
(gR M69 11 1003 a0).bind fun v70 =>
(f_X9_init (nO M69 10) (mS M69)).bind fun M72 =>
(wR M72 27 10 v70 7 (mS M69)).bind fun M73 =>
(gR M73 11 1004 a0).bind fun v74 =>
(f_X1_init (nO M73 2) (mS M73)).bind fun M76 =>
(wR M76 23 2 v74 7 (mS M73)).bind fun M77 =>
(mA0 M77 25 200 200).bind fun M78 =>
(pR M78 11 1005 a0 (some (mS M77))).bind fun M79 =>
(mA0 M79 26 8 8).bind fun M80 =>
(pR M80 11 1006 a0 (some (mS M79))).bind fun M81 =>
(gR M81 11 1006 a0).bind fun v82 =>
(f_X8_init (nO M81 9) (mS M81)).bind fun M84 =>
(wR M84 26 9 v82 0 (mS M81)).bind fun M85 =>
(gR M85 11 1006 a0).bind fun v86 =>
(f_X8_init (nO M85 9) (mS M85)).bind fun M88 =>
(wR M88 26 9 v86 1 (mS M85)).bind fun M89 =>
(gR M89 11 1006 a0).bind fun v90 =>
(f_X8_init (nO M89 9) (mS M89)).bind fun M92 =>
(wR M92 26 9 v90 2 (mS M89)).bind fun M93 =>
(gR M93 11 1006 a0).bind fun v94 =>
(f_X8_init (nO M93 9) (mS M93)).bind fun M96 =>
(wR M96 26 9 v94 3 (mS M93)).bind fun M97 =>
(gR M97 11 1006 a0).bind fun v98 =>
(f_X8_init (nO M97 9) (mS M97)).bind fun M100 =>
(wR M100 26 9 v98 4 (mS M97)).bind fun M101 =>
(gR M101 11 1006 a0).bind fun v102 =>
(f_X8_init (nO M101 9) (mS M101)).bind fun M104 =>
(wR M104 26 9 v102 5 (mS M101)).bind fun M105 =>
(gR M105 11 1006 a0).bind fun v106 =>
(f_X8_init (nO M105 9) (mS M105)).bind fun M108 =>
(wR M108 26 9 v106 6 (mS M105)).bind fun M109 =>
(gR M109 11 1006 a0).bind fun v110 =>
(f_X8_init (nO M109 9) (mS M109)).bind fun M112 =>
(wR M112 26 9 v110 7 (mS M109)).bind fun M113 =>
(f_X5_init (nO M113 6) (mS M113)).bind fun M115 =>
(pR M115 11 1007 a0 (some (mS M113))).bind fun M116 =>
(f_X0_init (nO M116 1) (mS M116)).bind fun M118 =>
(pR M118 11 1008 a0 (some (mS M116))).bind fun M119 =>
(f_X2_init (nO M119 3) (mS M119)).bind fun M121 =>
(pR M121 11 1009 a0 (some (mS M119))).bind fun M122 =>
some M122) else none


def f_X10_field (M : Mm) (a0 : Nat) (a1 : Int32) (a2 : Int32) (a3 : Int32) (a4 : Int32) : Option (Mm × Int32) :=
if mK M a0 = 11 then ((gR M 11 1001 a0).bind fun v1 =>
(f_X6_allows M v1 a1 a2 a3 a4).bind fun v3 =>
if v3 = 0 then (some (M, (-1))) else ((gR M 11 1001 a0).bind fun v5 =>
(gI M 7 604 v5).bind fun v6 =>
if v6 < 8 then ((gI M 11 1010 a0).bind fun v8 =>
if v8 ≤ 0 then ((gR M 11 1001 a0).bind fun v10 =>
ob2 (f_X6_append M v10 a1 a2 a3 a4) fun M12 v13 =>
some (M12, v13)) else (some (M, (-3)))) else (some (M, (-2))))) else none


def f_X10_set (M : Mm) (a0 : Nat) (a1 : Int32) (a2 : Int64) : Option (Mm × Int64) :=
if mK M a0 = 11 then ((gR M 11 1001 a0).bind fun v1 =>
(f_X6_has M v1 a1).bind fun v3 =>
if v3 = 0 then (some (M, (-1))) else ((gR M 11 1002 a0).bind fun v5 =>
(gR M 4 300 v5).bind fun v6 =>
(aJ M v6 a1).bind fun v7 =>
(gR M 11 1002 a0).bind fun v8 =>
(gR M 4 300 v8).bind fun v9 =>
(gR M 11 1001 a0).bind fun v10 =>
(f_X6_lowBits M v10 a1 a2).bind fun v12 =>
(wJ M v9 a1 v12).bind fun M13 =>
some (M13, v7))) else none


def f_X10_isFlow (a0 : Int32) : Option Int32 :=
if a0 < 0 then (some 0) else (if 8 ≤ a0 then (some 0) else (some 1))


def f_X10_stride (M : Mm) (a0 : Nat) (a1 : Int32) (a2 : Int32) (a3 : Int32) : Option (Mm × Int32) :=
if mK M a0 = 11 then ((f_X10_isFlow a1).bind fun v2 =>
if v2 = 0 then (some (M, (-1))) else ((gR M 11 1001 a0).bind fun v4 =>
(f_X6_hasStride M v4 a2).bind fun v6 =>
if v6 = 0 then (some (M, (-1))) else (if a3 < 0 then (some (M, (-1))) else (if a3 ≤ 255 then ((gR M 11 1003 a0).bind fun v10 =>
(aR M 27 v10 a1).bind fun v11 =>
(gR M 10 900 v11).bind fun v12 =>
(aI M v12 a2).bind fun v13 =>
(gR M 10 900 v11).bind fun v14 =>
(wI M v14 a2 a3).bind fun M15 =>
(pZ M15 10 903 v11 1).bind fun M16 =>
some (M16, v13)) else (some (M, (-1))))))) else none


def f_X10_isLineFull (M : Mm) (a0 : Nat) : Option Int32 :=
if mK M a0 = 11 then ((gI M 11 1010 a0).bind fun v1 =>
if v1 < 200 then (some 0) else (some 1)) else none


def f_X10_add (M : Mm) (a0 : Nat) (a1 : Nat) : Option (Mm × Int32) :=
if mK M a0 = 11 then ((f_X10_isLineFull M a0).bind fun v2 =>
if v2 = 0 then ((gR M 11 1005 a0).bind fun v4 =>
(gI M 11 1010 a0).bind fun v5 =>
(wR M 25 5 v4 v5 a1).bind fun M6 =>
(gI M6 11 1010 a0).bind fun v7 =>
(pI M6 11 1010 a0 (v7 + 1)).bind fun M8 =>
(gI M8 11 1010 a0).bind fun v9 =>
some (M8, v9 - 1)) else (some (M, (-2)))) else none


def f_X10_addWritten (M : Mm) (a0 : Nat) (a1 : Int32) (a2 : Int32) (a3 : Int32) (a4 : Option Nat) : Option (Mm × Int32) :=
if mK M a0 = 11 then ((gR M 11 1007 a0).bind fun v1 =>
(f_X10_endsInCheck a1).bind fun v3 =>
ob2 (f_X5_finished M v1 v3) fun M5 v6 =>
(gR (nO M5 5) 11 1007 a0).bind fun v7 =>
(gI (nO M5 5) 6 501 v7).bind fun v8 =>
(f_X4_init (nO M5 5) (mS M5) a1 a2 (a3 - a3 / 65536 * 65536) v6 v8).bind fun M10 =>
(pR M10 5 408 (mS M5) a4).bind fun M11 =>
ob2 (f_X10_add M11 a0 (mS M5)) fun M13 v14 =>
some (M13, v14)) else none


def f_X10_send_J165 (M : Mm) (x0 : Nat) (x1 : Int32) (x3 : Nat) (x4 : Int32) (x5 : Option Nat) : Option (Mm × Int32) :=
(gR M 11 1002 x0).bind fun v1 =>
(gI M 11 1000 x0).bind fun v2 =>
(f_X9_remember M x3 v1 v2).bind fun M4 =>
(gR M4 11 1002 x0).bind fun v5 =>
(gI M4 4 301 v5).bind fun v6 =>
ob2 (f_X10_addWritten M4 x0 x4 x1 v6 x5) fun M8 v9 =>
some (M8, v9)

def f_X10_send (M : Mm) (a0 : Nat) (a1 : Int32) (a2 : Int32) : Option (Mm × Int32) :=
if mK M a0 = 11 then ((f_X10_isFlow a1).bind fun v2 =>
if v2 = 0 then (some (M, (-1))) else ((f_X10_isLineFull M a0).bind fun v5 =>
if v5 = 0 then ((gR M 11 1001 a0).bind fun v7 =>
(gI M 7 604 v7).bind fun v8 =>
if v8 = 0 then (some (M, (-3))) else ((gR M 11 1003 a0).bind fun v10 =>
(aR M 27 v10 a1).bind fun v11 =>
(gR M 11 1002 a0).bind fun v12 =>
(gI M 10 901 v11).bind fun v13 =>
(pI M 4 301 v12 v13).bind fun M14 =>
(gR M14 11 1001 a0).bind fun v15 =>
(gR M14 11 1002 a0).bind fun v16 =>
(f_X9_kindFor M14 v11 v15 v16 a2).bind fun v18 =>
(gR M14 11 1007 a0).bind fun v19 =>
(gR M14 11 1002 a0).bind fun v20 =>
(gI M14 4 301 v20).bind fun v21 =>
(f_X5_begin M14 v19 v18 a1 v21).bind fun M23 =>
if v18 = 0 then ((f_X9_beginRound M23 v11).bind fun M39 =>
(gR M39 11 1001 a0).bind fun v40 =>
(gR M39 11 1002 a0).bind fun v41 =>
(gR M39 11 1007 a0).bind fun v42 =>
(f_X9_writeWhole M39 v11 v40 v41 v42).bind fun M44 =>
f_X10_send_J165 M44 a0 a1 v11 v18 none) else (if v18 = 1 then ((gR M23 11 1001 a0).bind fun v33 =>
(gR M23 11 1002 a0).bind fun v34 =>
(gR M23 11 1007 a0).bind fun v35 =>
(f_X9_writePart M23 v11 v33 v34 v35).bind fun M37 =>
f_X10_send_J165 M37 a0 a1 v11 v18 none) else ((f_X7_init (nO M23 8) (mS M23)).bind fun M27 =>
(gR M27 11 1001 a0).bind fun v28 =>
(gR M27 11 1002 a0).bind fun v29 =>
(gR M27 11 1007 a0).bind fun v30 =>
(f_X9_writeShort M27 v11 v28 v29 v30 (mS M23)).bind fun M32 =>
f_X10_send_J165 M32 a0 a1 v11 v18 (some (mS M23)))))) else (some (M, (-2))))) else none


def f_X10_addAnswer (M : Mm) (a0 : Nat) (a1 : Int32) (a2 : Int32) (a3 : Int32) : Option (Mm × Int32) :=
if mK M a0 = 11 then ((gR M 11 1007 a0).bind fun v1 =>
(f_X5_begin M v1 a1 a2 a3).bind fun M3 =>
ob2 (f_X10_addWritten M3 a0 a1 a2 a3 none) fun M5 v6 =>
some (M5, v6)) else none


def f_X10_ack (M : Mm) (a0 : Nat) (a1 : Int32) : Option (Mm × Int32) :=
if mK M a0 = 11 then ((f_X10_isFlow a1).bind fun v2 =>
if v2 = 0 then (some (M, (-1))) else ((f_X10_isLineFull M a0).bind fun v5 =>
if v5 = 0 then ((gR M 11 1004 a0).bind fun v7 =>
(aR M 23 v7 a1).bind fun v8 =>
(gI M 2 103 v8).bind fun v9 =>
if v9 = 0 then (some (M, (-3))) else ((gR M 11 1004 a0).bind fun v11 =>
(aR M 23 v11 a1).bind fun v12 =>
(gR M 2 100 v12).bind fun v13 =>
(gI M 4 301 v13).bind fun v14 =>
ob2 (f_X10_addAnswer M a0 3 a1 v14) fun M16 v17 =>
some (M16, v17))) else (some (M, (-2))))) else none


def f_X10_nack (M : Mm) (a0 : Nat) (a1 : Int32) : Option (Mm × Int32) :=
if mK M a0 = 11 then ((f_X10_isFlow a1).bind fun v2 =>
if v2 = 0 then (some (M, (-1))) else ((f_X10_isLineFull M a0).bind fun v5 =>
if v5 = 0 then ((gR M 11 1004 a0).bind fun v7 =>
(aR M 23 v7 a1).bind fun v8 =>
(gI M 2 103 v8).bind fun v9 =>
if v9 = 0 then (ob2 (f_X10_addAnswer M a0 5 a1 0) fun M19 v20 =>
some (M19, v20)) else ((gR M 11 1004 a0).bind fun v11 =>
(aR M 23 v11 a1).bind fun v12 =>
(gR M 2 100 v12).bind fun v13 =>
(gI M 4 301 v13).bind fun v14 =>
ob2 (f_X10_addAnswer M a0 4 a1 (v14 + 1)) fun M16 v17 =>
some (M16, v17))) else (some (M, (-2))))) else none


def f_X10_letterAt (M : Mm) (a0 : Nat) (a1 : Int32) : Option (Option Nat) :=
if mK M a0 = 11 then (if a1 < 0 then (some none) else ((gI M 11 1010 a0).bind fun v2 =>
if v2 ≤ a1 then (some none) else ((gR M 11 1005 a0).bind fun v4 =>
(aN M 25 v4 a1).bind fun v5 =>
some v5))) else none


def f_X10_letterUnderWay (M : Mm) (a0 : Nat) (a1 : Int32) : Option (Option Nat) :=
if mK M a0 = 11 then ((f_X10_letterAt M a0 a1).bind fun v2 =>
nm v2 (some none) (fun w3 => (gI M 5 406 w3).bind fun v4 =>
if v4 = 0 then (some (some w3)) else (some none))) else none


def f_X10_open_J154 (M : Mm) (x0 : Nat) (x1 : Nat) (s0 : Nat) (s1 : Nat) (s2 : Int32) : Option (Mm × Int32) :=
(f_X2_accept M s0 s1 s2).bind fun M2 =>
(gR M2 11 1008 x0).bind fun v3 =>
(f_X1_accept M2 x1 v3).bind fun M5 =>
some (M5, 0)

def f_X10_open_J131 (M : Mm) (x0 : Nat) (x1 : Nat) (x2 : Int32) : Option (Mm × Int32) :=
(gR M 11 1009 x0).bind fun v1 =>
(gR M 11 1008 x0).bind fun v2 =>
if x2 = 0 then ((gR M 2 100 x1).bind fun v4 =>
(gI M 4 301 v4).bind fun v5 =>
f_X10_open_J154 M x0 x1 v1 v2 v5) else (f_X10_open_J154 M x0 x1 v1 v2 (-1))

def f_X10_open_J89 (M : Mm) (x0 : Nat) (x1 : Nat) (x2 : Int32) : Option (Mm × Int32) :=
(gR M 11 1008 x0).bind fun v1 =>
(gR M 11 1001 x0).bind fun v2 =>
(f_X0_rebuild M v1 v2 x1).bind fun M4 =>
if x2 = 0 then ((gR M4 11 1001 x0).bind fun v6 =>
(gR M4 11 1008 x0).bind fun v7 =>
(gR M4 1 0 v7).bind fun v8 =>
(f_X6_sumOf M4 v6 v8).bind fun v10 =>
(gR M4 11 1008 x0).bind fun v11 =>
(gI M4 1 8 v11).bind fun v12 =>
if v10 = v12 then (f_X10_open_J131 M4 x0 x1 x2) else (some (M4, 4))) else (f_X10_open_J131 M4 x0 x1 x2)

def f_X10_open_J75 (M : Mm) (x0 : Nat) (x1 : Nat) (x2 : Int32) (x3 : Int32) : Option (Mm × Int32) :=
if x2 = 0 then ((gI M 11 1000 x0).bind fun v2 =>
if x3 ≤ v2 then (f_X10_open_J89 M x0 x1 x2) else (some (M, 2))) else (f_X10_open_J89 M x0 x1 x2)

def f_X10_open_J43 (M : Mm) (x0 : Nat) (x1 : Nat) (x2 : Int32) : Option (Mm × Int32) :=
(gR M 11 1008 x0).bind fun v1 =>
(gR M 1 0 v1).bind fun v2 =>
(gI M 4 301 v2).bind fun v3 =>
(gR M 2 100 x1).bind fun v4 =>
(gI M 4 301 v4).bind fun v5 =>
(gI M 2 103 x1).bind fun v6 =>
if v6 = 0 then (f_X10_open_J75 M x0 x1 x2 (v3 - v5)) else (if 0 < (v3 - v5) then (f_X10_open_J75 M x0 x1 x2 (v3 - v5)) else (some (M, 1)))

def f_X10_open_J15 (M : Mm) (x0 : Nat) (x1 : Nat) (s0 : Int32) : Option (Mm × Int32) :=
if s0 = 0 then ((gI M 2 103 x1).bind fun v2 =>
if v2 = 0 then (some (M, 3)) else ((gI M 2 102 x1).bind fun v4 =>
(gR M 11 1008 x0).bind fun v5 =>
(gI M 1 7 v5).bind fun v6 =>
if v4 = v6 then (f_X10_open_J43 M x0 x1 s0) else (some (M, 3)))) else (f_X10_open_J43 M x0 x1 s0)

def f_X10_open (M : Mm) (a0 : Nat) (a1 : Nat) : Option (Mm × Int32) :=
if mK M a0 = 11 then ((gR M 11 1008 a0).bind fun v1 =>
(gI M 1 5 v1).bind fun v2 =>
if v2 = 0 then (f_X10_open_J15 M a0 a1 1) else (f_X10_open_J15 M a0 a1 0)) else none


def f_X10_outcomeOf (M : Mm) (a0 : Nat) (a1 : Nat) : Option (Mm × Int32) :=
if mK M a0 = 11 then ((gR M 11 1008 a0).bind fun v1 =>
(gR M 11 1001 a0).bind fun v2 =>
ob2 (f_X0_parse M v1 v2 a1) fun M4 v5 =>
if v5 = 0 then (some (M4, 5)) else ((gR M4 11 1008 a0).bind fun v7 =>
(gI M4 1 6 v7).bind fun v8 =>
(f_X10_isFlow v8).bind fun v10 =>
if v10 = 0 then (some (M4, 5)) else ((gR M4 11 1008 a0).bind fun v12 =>
(gI M4 1 5 v12).bind fun v13 =>
if v13 ≤ 2 then ((gR M4 11 1004 a0).bind fun v15 =>
(gR M4 11 1008 a0).bind fun v16 =>
(gI M4 1 6 v16).bind fun v17 =>
(aR M4 23 v15 v17).bind fun v18 =>
ob2 (f_X10_open M4 a0 v18) fun M20 v21 =>
some (M20, v21)) else ((gR M4 11 1003 a0).bind fun v22 =>
(gR M4 11 1008 a0).bind fun v23 =>
(gI M4 1 6 v23).bind fun v24 =>
(aR M4 27 v22 v24).bind fun v25 =>
(gR M4 11 1008 a0).bind fun v26 =>
(gI M4 1 5 v26).bind fun v27 =>
(gR M4 11 1008 a0).bind fun v28 =>
(gR M4 1 0 v28).bind fun v29 =>
(gI M4 4 301 v29).bind fun v30 =>
ob2 (f_X9_heed M4 v25 v27 v30) fun M32 v33 =>
some (M32, v33))))) else none


def f_X10_deliver (M : Mm) (a0 : Nat) (a1 : Int32) : Option (Mm × Int32) :=
if mK M a0 = 11 then ((f_X10_letterUnderWay M a0 a1).bind fun v2 =>
nm v2 (some (M, (-1))) (fun w3 => (gR M 5 403 w3).bind fun v4 =>
ob2 (f_X10_outcomeOf M a0 v4) fun M6 v7 =>
(pI M6 5 405 w3 v7).bind fun M8 =>
(gI M8 5 405 w3).bind fun v9 =>
some (M8, v9))) else none


def f_X10_lose (M : Mm) (a0 : Nat) (a1 : Int32) : Option (Mm × Int32) :=
if mK M a0 = 11 then ((f_X10_letterUnderWay M a0 a1).bind fun v2 =>
nm v2 (some (M, (-1))) (fun w3 => (pZ M 5 406 w3 1).bind fun M4 =>
(gI M4 11 1011 a0).bind fun v5 =>
(pI M4 11 1011 a0 (v5 + 1)).bind fun M6 =>
some (M6, 0))) else none


def f_X10_twice (M : Mm) (a0 : Nat) (a1 : Int32) : Option (Mm × Int32) :=
if mK M a0 = 11 then ((f_X10_letterUnderWay M a0 a1).bind fun v2 =>
nm v2 (some (M, (-1))) (fun w3 => (f_X10_isLineFull M a0).bind fun v5 =>
if v5 = 0 then ((gR M 5 403 w3).bind fun v7 =>
(gR M 5 403 w3).bind fun v8 =>
(aL M v8).bind fun v9 =>
ob2 (f_J7_copyOf_59c91 M v7 v9) fun M11 v12 =>
(gI (nO M11 5) 5 400 w3).bind fun v13 =>
(gI (nO M11 5) 5 401 w3).bind fun v14 =>
(gI (nO M11 5) 5 402 w3).bind fun v15 =>
(gI (nO M11 5) 5 404 w3).bind fun v16 =>
(f_X4_init (nO M11 5) (mS M11) v13 v14 v15 v12 v16).bind fun M18 =>
(pZ M18 5 407 (mS M11) 1).bind fun M19 =>
ob2 (f_X10_add M19 a0 (mS M11)) fun M21 v22 =>
some (M21, v22)) else (some (M, (-2))))) else none


def f_X10_bend (M : Mm) (a0 : Nat) (a1 : Int32) (a2 : Int32) (a3 : Int32) : Option (Mm × Int32) :=
if mK M a0 = 11 then ((f_X10_letterUnderWay M a0 a1).bind fun v2 =>
nm v2 (some (M, (-1))) (fun w3 => (f_X4_hasByte M w3 a2).bind fun v5 =>
if v5 = 0 then (some (M, (-1))) else (if a3 < 1 then (some (M, (-1))) else (if a3 ≤ 255 then ((gR M 5 403 w3).bind fun v9 =>
(aI M v9 a2).bind fun v10 =>
(wI M v9 a2 (v10 ^^^ a3)).bind fun M11 =>
(gR M11 5 403 w3).bind fun v12 =>
(aI M11 v12 a2).bind fun v13 =>
some (M11, v13)) else (some (M, (-1))))))) else none


def f_X10_octet (M : Mm) (a0 : Nat) (a1 : Int32) (a2 : Int32) : Option Int32 :=
if mK M a0 = 11 then ((f_X10_letterAt M a0 a1).bind fun v2 =>
nm v2 (some (-1)) (fun w3 => (f_X4_hasByte M w3 a2).bind fun v5 =>
if v5 = 0 then (some (-1)) else ((gR M 5 403 w3).bind fun v7 =>
(aI M v7 a2).bind fun v8 =>
some v8))) else none


def f_X10_look (M : Mm) (a0 : Nat) (a1 : Int32) (a2 : Int32) : Option Int32 :=
if mK M a0 = 11 then ((f_X10_letterAt M a0 a1).bind fun v2 =>
nm v2 (some (-1)) (fun w3 => if a2 = 0 then ((gI M 5 400 w3).bind fun v5 =>
some v5) else (if a2 = 1 then ((gI M 5 401 w3).bind fun v7 =>
some v7) else (if a2 = 2 then ((gI M 5 402 w3).bind fun v9 =>
some v9) else (if a2 = 3 then ((gR M 5 403 w3).bind fun v11 =>
(aL M v11).bind fun v12 =>
some v12) else (if a2 = 4 then ((gI M 5 404 w3).bind fun v14 =>
some v14) else (if a2 = 5 then ((gI M 5 405 w3).bind fun v16 =>
some v16) else (if a2 = 6 then ((gI M 5 406 w3).bind fun v18 =>
if v18 = 0 then (some 0) else (some 1)) else ((some (-1))))))))))) else none


def f_X10_prove (M : Mm) (a0 : Nat) (a1 : Int32) (a2 : Int32) (a3 : Int32) : Option Int32 :=
if mK M a0 = 11 then ((f_X10_letterAt M a0 a1).bind fun v2 =>
nm v2 (some (-1)) (fun w3 => (gN M 5 408 w3).bind fun v4 =>
nm v4 (some (-1)) (fun w5 => (gR M 11 1001 a0).bind fun v6 =>
(f_X6_hasStride M v6 a2).bind fun v8 =>
if v8 = 0 then (some (-1)) else ((gN M 5 408 w3).bind fun v10 =>
if a3 = 0 then (v10.bind fun w12 =>
(gR M 8 700 w12).bind fun v14 =>
(aI M v14 a2).bind fun v15 =>
some v15) else (if a3 = 1 then (v10.bind fun w17 =>
(gR M 8 701 w17).bind fun v19 =>
(aI M v19 a2).bind fun v20 =>
some v20) else (if a3 = 2 then (v10.bind fun w22 =>
(gI M 8 702 w22).bind fun v24 =>
some v24) else (if a3 = 3 then (v10.bind fun w26 =>
(gI M 8 703 w26).bind fun v28 =>
some v28) else ((some (-1)))))))))) else none


def f_X10_got (M : Mm) (a0 : Nat) (a1 : Int32) : Option Int64 :=
if mK M a0 = 11 then ((gR M 11 1001 a0).bind fun v1 =>
(f_X6_has M v1 a1).bind fun v3 =>
if v3 = 0 then (some (-1)) else ((gR M 11 1009 a0).bind fun v5 =>
(gI M 3 204 v5).bind fun v6 =>
if v6 = 0 then (some (-2)) else ((gR M 11 1009 a0).bind fun v8 =>
(gR M 3 200 v8).bind fun v9 =>
(gR M 4 300 v9).bind fun v10 =>
(aJ M v10 a1).bind fun v11 =>
some v11))) else none


def f_X10_way (M : Mm) (a0 : Nat) (a1 : Int32) : Option Int32 :=
if mK M a0 = 11 then ((gR M 11 1001 a0).bind fun v1 =>
(f_X6_has M v1 a1).bind fun v3 =>
if v3 = 0 then (some (-1)) else ((gR M 11 1009 a0).bind fun v5 =>
(gI M 3 204 v5).bind fun v6 =>
if v6 = 0 then (some (-2)) else ((gR M 11 1009 a0).bind fun v8 =>
(gR M 3 201 v8).bind fun v9 =>
(aI M v9 a1).bind fun v10 =>
some v10))) else none


def f_X10_hung (M : Mm) (a0 : Nat) (a1 : Int32) : Option Int32 :=
if mK M a0 = 11 then (if a1 < 0 then (some (-1)) else (if a1 ≤ 3 then (if a1 = 3 then ((gR M 11 1009 a0).bind fun v16 =>
(gI M 3 204 v16).bind fun v17 =>
some v17) else ((gR M 11 1009 a0).bind fun v4 =>
(gI M 3 204 v4).bind fun v5 =>
if v5 = 0 then (some (-2)) else (if a1 = 0 then ((gR M 11 1009 a0).bind fun v8 =>
(gI M 3 202 v8).bind fun v9 =>
some v9) else (if a1 = 1 then ((gR M 11 1009 a0).bind fun v11 =>
(gR M 3 200 v11).bind fun v12 =>
(gI M 4 301 v12).bind fun v13 =>
some v13) else (((gR M 11 1009 a0).bind fun v14 =>
(gI M 3 203 v14).bind fun v15 =>
some v15)))))) else (some (-1)))) else none


def f_X10_context (M : Mm) (a0 : Nat) (a1 : Int32) (a2 : Int32) : Option Int32 :=
if mK M a0 = 11 then ((f_X10_isFlow a1).bind fun v2 =>
if v2 = 0 then (some (-1)) else (if a2 < 0 then (some (-1)) else (if a2 ≤ 2 then ((gR M 11 1004 a0).bind fun v6 =>
(aR M 23 v6 a1).bind fun v7 =>
if a2 = 0 then ((gI M 2 103 v7).bind fun v15 =>
if v15 = 0 then (some 0) else (some 1)) else ((gI M 2 103 v7).bind fun v9 =>
if v9 = 0 then (some (-2)) else (if a2 = 1 then ((gR M 2 100 v7).bind fun v13 =>
(gI M 4 301 v13).bind fun v14 =>
some v14) else ((gI M 2 102 v7).bind fun v12 =>
some v12)))) else (some (-1))))) else none


def f_X10_known (M : Mm) (a0 : Nat) (a1 : Int32) (a2 : Int32) (a3 : Int32) : Option Int64 :=
if mK M a0 = 11 then ((f_X10_isFlow a1).bind fun v2 =>
if v2 = 0 then (some (-1)) else ((gR M 11 1001 a0).bind fun v4 =>
(f_X6_has M v4 a2).bind fun v6 =>
if v6 = 0 then (some (-1)) else ((gR M 11 1004 a0).bind fun v8 =>
(aR M 23 v8 a1).bind fun v9 =>
(gI M 2 103 v9).bind fun v10 =>
if v10 = 0 then (some (-2)) else (if a3 = 0 then ((gR M 2 100 v9).bind fun v13 =>
(gR M 4 300 v13).bind fun v14 =>
(aJ M v14 a2).bind fun v15 =>
some v15) else ((gR M 2 101 v9).bind fun v16 =>
(aI M v16 a2).bind fun v17 =>
some v17.toInt64))))) else none


def f_X10_squeezer (M : Mm) (a0 : Nat) (a1 : Int32) (a2 : Int32) : Option Int32 :=
if mK M a0 = 11 then ((f_X10_isFlow a1).bind fun v2 =>
if v2 = 0 then (some (-1)) else ((gR M 11 1003 a0).bind fun v4 =>
(aR M 27 v4 a1).bind fun v5 =>
if a2 = 0 then ((gI M 10 901 v5).bind fun v7 =>
some v7) else (if a2 = 1 then ((gI M 10 902 v5).bind fun v9 =>
some v9) else (if a2 = 2 then ((gI M 10 904 v5).bind fun v11 =>
some v11) else (if a2 = 3 then ((f_X9_oldestNumber M v5).bind fun v14 =>
some v14) else (if a2 = 4 then ((gI M 10 903 v5).bind fun v16 =>
if v16 = 0 then (some 0) else (some 1)) else ((some (-1))))))))) else none


def f_X10_forget_J63 (M : Mm) (x0 : Nat) (x1 : Int32) (s0 : Int32) : Option (Mm × Int32) :=
(gR M 11 1003 x0).bind fun v1 =>
(aR M 27 v1 x1).bind fun v2 =>
(pI M 10 904 v2 0).bind fun M3 =>
(gR M3 11 1003 x0).bind fun v4 =>
(aR M3 27 v4 x1).bind fun v5 =>
(pZ M3 10 903 v5 1).bind fun M6 =>
if s0 = 0 then (some (M6, 0)) else (some (M6, 1))

def f_X10_forget (M : Mm) (a0 : Nat) (a1 : Int32) (a2 : Int32) : Option (Mm × Int32) :=
if mK M a0 = 11 then ((f_X10_isFlow a1).bind fun v2 =>
if v2 = 0 then (some (M, (-1))) else (if a2 < 0 then (some (M, (-1))) else (if a2 ≤ 1 then (if a2 = 1 then ((gR M 11 1004 a0).bind fun v11 =>
(aR M 23 v11 a1).bind fun v12 =>
(gI M 2 103 v12).bind fun v13 =>
(gR M 11 1004 a0).bind fun v14 =>
(aR M 23 v14 a1).bind fun v15 =>
(pZ M 2 103 v15 0).bind fun M16 =>
if v13 = 0 then (some (M16, 0)) else (some (M16, 1))) else ((gR M 11 1003 a0).bind fun v7 =>
(aR M 27 v7 a1).bind fun v8 =>
(gI M 10 904 v8).bind fun v9 =>
if v9 ≤ 0 then (f_X10_forget_J63 M a0 a1 0) else (f_X10_forget_J63 M a0 a1 1))) else (some (M, (-1)))))) else none


def f_X10_spent_J104 (k38 : Nat → Int32 → Int32 → Int32 → Int64 → Int64 → Int32 → Option Int64) (M : Mm) (x0 : Nat) (x1 : Int32) (x2 : Int32) (x3 : Int32) (x4 : Int64) (x6 : Int64) (x8 : Int32) : Option Int64 :=
k38 x0 x1 x2 x3 x4 x6 (x8 + 1)

def f_X10_spent_L38 (M : Mm) : Nat → Nat → Int32 → Int32 → Int32 → Int64 → Int64 → Int32 → Option Int64
  | 0, _, _, _, _, _, _, _ => none
  | fu + 1, x0, x1, x2, x3, x4, x6, x8 =>
    (gI M 11 1010 x0).bind fun v1 =>
    if v1 ≤ x8 then (if x3 = 0 then (some x4) else (if x3 = 1 then (some x6) else (if x2 ≤ 2 then ((gR M 11 1001 x0).bind fun v6 =>
    (f_X6_wholeBits M v6).bind fun v8 =>
    some ((x4 * v8.toInt64) - x6)) else (some 0)))) else ((gR M 11 1005 x0).bind fun v9 =>
    (aN M 25 v9 x8).bind fun v10 =>
    nm v10 (f_X10_spent_J104 (f_X10_spent_L38 M fu) M x0 x1 x2 x3 x4 x6 x8) (fun w11 => (gI M 5 407 w11).bind fun v12 =>
    if v12 = 0 then ((gI M 5 400 w11).bind fun v14 =>
    if v14 = x2 then ((gI M 5 401 w11).bind fun v16 =>
    if v16 = x1 then ((gI M 5 404 w11).bind fun v18 =>
    f_X10_spent_J104 (f_X10_spent_L38 M fu) M x0 x1 x2 x3 (x4 + 1) (x6 + v18.toInt64) x8) else (f_X10_spent_J104 (f_X10_spent_L38 M fu) M x0 x1 x2 x3 x4 x6 x8)) else (f_X10_spent_J104 (f_X10_spent_L38 M fu) M x0 x1 x2 x3 x4 x6 x8)) else (f_X10_spent_J104 (f_X10_spent_L38 M fu) M x0 x1 x2 x3 x4 x6 x8)))

def f_X10_spent (M : Mm) (a0 : Nat) (a1 : Int32) (a2 : Int32) (a3 : Int32) : Option Int64 :=
if mK M a0 = 11 then ((f_X10_isFlow a1).bind fun v2 =>
if v2 = 0 then (some (-1)) else (if a2 < 0 then (some (-1)) else (if 5 < a2 then (some (-1)) else (if a3 < 0 then (some (-1)) else (if a3 ≤ 2 then (f_X10_spent_L38 M 1000 a0 a1 a2 a3 0 0 0) else (some (-1))))))) else none


def f_X10_isShelf (a0 : Int32) : Option Int32 :=
if a0 < 0 then (some 0) else (if 8 ≤ a0 then (some 0) else (some 1))


def f_X10_keepLetter_L30 : Nat → Mm → Nat → Nat → Int32 → Option (Mm × Int32)
  | 0, _, _, _, _ => none
  | fu + 1, M, x0, x2, x3 =>
    (gI M 9 802 x0).bind fun v1 =>
    if v1 ≤ x3 then (some (M, 0)) else ((gR M 9 800 x0).bind fun v3 =>
    (gR M 5 403 x2).bind fun v4 =>
    (aI M v4 x3).bind fun v5 =>
    (wJ M v3 x3 v5.toInt64).bind fun M6 =>
    f_X10_keepLetter_L30 fu M6 x0 x2 (x3 + 1))

def f_X10_keepLetter (M : Mm) (a0 : Nat) (a1 : Int32) (a2 : Option Nat) : Option (Mm × Int32) :=
nm a2 (some (M, (-1))) (fun w1 => if a1 = 1 then ((f_X8_holdLetter M a0 w1).bind fun M8 =>
some (M8, 0)) else ((gR M 5 403 w1).bind fun v3 =>
(aL M v3).bind fun v4 =>
(f_X8_holdRow M a0 2 v4).bind fun M6 =>
f_X10_keepLetter_L30 1000 M6 a0 w1 0))


def f_X10_keepReferences_L28 : Nat → Mm → Nat → Nat → Int32 → Option (Mm × Int32)
  | 0, _, _, _, _ => none
  | fu + 1, M, x1, x3, x4 =>
    (gI M 9 802 x1).bind fun v1 =>
    if v1 ≤ x4 then (some (M, 0)) else ((gR M 9 800 x1).bind fun v3 =>
    (f_X9_reference M x3 x4).bind fun v5 =>
    (gI M 4 301 v5).bind fun v6 =>
    (wJ M v3 x4 v6.toInt64).bind fun M7 =>
    f_X10_keepReferences_L28 fu M7 x1 x3 (x4 + 1))

def f_X10_keepReferences (M : Mm) (a0 : Nat) (a1 : Nat) (a2 : Int32) : Option (Mm × Int32) :=
if mK M a0 = 11 then ((f_X10_isFlow a2).bind fun v2 =>
if v2 = 0 then (some (M, (-1))) else ((gR M 11 1003 a0).bind fun v4 =>
(aR M 27 v4 a2).bind fun v5 =>
(gI M 10 904 v5).bind fun v6 =>
(f_X8_holdRow M a1 3 v6).bind fun M8 =>
f_X10_keepReferences_L28 1000 M8 a1 v5 0)) else none


def f_X10_keepContext_L35 : Nat → Mm → Nat → Nat → Int32 → Int32 → Option (Mm × Int32)
  | 0, _, _, _, _, _ => none
  | fu + 1, M, x0, x1, x2, x3 =>
    (gI M 9 802 x1).bind fun v1 =>
    if v1 ≤ x3 then (some (M, 0)) else ((gR M 9 800 x1).bind fun v3 =>
    (gR M 11 1004 x0).bind fun v4 =>
    (aR M 23 v4 x2).bind fun v5 =>
    (gR M 2 100 v5).bind fun v6 =>
    (gR M 4 300 v6).bind fun v7 =>
    (aJ M v7 x3).bind fun v8 =>
    (wJ M v3 x3 v8).bind fun M9 =>
    f_X10_keepContext_L35 fu M9 x0 x1 x2 (x3 + 1))

def f_X10_keepContext (M : Mm) (a0 : Nat) (a1 : Nat) (a2 : Int32) : Option (Mm × Int32) :=
if mK M a0 = 11 then ((f_X10_isFlow a2).bind fun v2 =>
if v2 = 0 then (some (M, (-1))) else ((gR M 11 1004 a0).bind fun v4 =>
(aR M 23 v4 a2).bind fun v5 =>
(gI M 2 103 v5).bind fun v6 =>
if v6 = 0 then (some (M, (-1))) else ((gR M 11 1001 a0).bind fun v8 =>
(gI M 7 604 v8).bind fun v9 =>
(f_X8_holdRow M a1 4 v9).bind fun M11 =>
f_X10_keepContext_L35 1000 M11 a0 a1 a2 0))) else none


def f_X10_keep_J60 (M : Mm) (x0 : Nat) (x2 : Int32) (x3 : Int32) (x4 : Nat) : Option (Mm × Int32) :=
(f_X10_letterAt M x0 x3).bind fun v2 =>
ob2 (f_X10_keepLetter M x4 x2 v2) fun M4 v5 =>
some (M4, v5)

def f_X10_keep (M : Mm) (a0 : Nat) (a1 : Int32) (a2 : Int32) (a3 : Int32) : Option (Mm × Int32) :=
if mK M a0 = 11 then ((f_X10_isShelf a1).bind fun v2 =>
if v2 = 0 then (some (M, (-1))) else ((gR M 11 1006 a0).bind fun v4 =>
(aR M 26 v4 a1).bind fun v5 =>
if a2 = 0 then ((pI M 9 801 v5 0).bind fun M7 =>
some (M7, 0)) else (if a2 = 1 then (f_X10_keep_J60 M a0 a2 a3 v5) else (if a2 = 2 then (f_X10_keep_J60 M a0 a2 a3 v5) else (if a2 = 3 then (ob2 (f_X10_keepReferences M a0 v5 a3) fun M12 v13 =>
some (M12, v13)) else (if a2 = 4 then (ob2 (f_X10_keepContext M a0 v5 a3) fun M16 v17 =>
some (M16, v17)) else ((some (M, (-1)))))))))) else none


def f_X10_make (M : Mm) (a0 : Nat) (a1 : Int32) (a2 : Int32) (a3 : Int32) : Option (Mm × Int32) :=
if mK M a0 = 11 then ((f_X10_isShelf a1).bind fun v2 =>
if v2 = 0 then (some (M, (-1))) else (if a2 < 2 then (some (M, (-1))) else (if 4 < a2 then (some (M, (-1))) else (if a3 ≤ 60 then (if 0 ≤ a3 then ((gR M 11 1006 a0).bind fun v8 =>
(aR M 26 v8 a1).bind fun v9 =>
(f_X8_holdRow M v9 a2 a3).bind fun M11 =>
some (M11, 0)) else (some (M, (-14)))) else (some (M, (-1))))))) else none


def f_X10_put (M : Mm) (a0 : Nat) (a1 : Int32) (a2 : Int32) (a3 : Int32) : Option (Mm × Int64) :=
if mK M a0 = 11 then ((f_X10_isShelf a1).bind fun v2 =>
if v2 = 0 then (some (M, (-1))) else (if a3 < 0 then (some (M, (-1))) else (if a3 ≤ 30000 then ((gR M 11 1006 a0).bind fun v6 =>
(aR M 26 v6 a1).bind fun v7 =>
(gI M 9 801 v7).bind fun v8 =>
if v8 = 0 then (some (M, (-11))) else ((gI M 9 801 v7).bind fun v10 =>
if v10 = 1 then (some (M, (-12))) else ((f_X8_hasPlaces M v7 a2 1).bind fun v13 =>
if v13 = 0 then (some (M, (-13))) else ((gR M 9 800 v7).bind fun v15 =>
(aJ M v15 a2).bind fun v16 =>
(gR M 9 800 v7).bind fun v17 =>
(wJ M v17 a2 a3.toInt64).bind fun M18 =>
some (M18, v16))))) else (some (M, (-1)))))) else none


def f_X10_copy (M : Mm) (a0 : Nat) (a1 : Int32) (a2 : Int32) (a3 : Int32) (a4 : Int32) (a5 : Int32) : Option (Mm × Int32) :=
if mK M a0 = 11 then ((f_X10_isShelf a1).bind fun v2 =>
if v2 = 0 then (some (M, (-1))) else ((f_X10_isShelf a3).bind fun v5 =>
if v5 = 0 then (some (M, (-1))) else ((gR M 11 1006 a0).bind fun v7 =>
(aR M 26 v7 a1).bind fun v8 =>
(gR M 11 1006 a0).bind fun v9 =>
(aR M 26 v9 a3).bind fun v10 =>
(gI M 9 801 v8).bind fun v11 =>
if v11 = 0 then (some (M, (-11))) else ((gI M 9 801 v10).bind fun v13 =>
if v13 = 0 then (some (M, (-11))) else ((gI M 9 801 v8).bind fun v15 =>
if v15 = 1 then (some (M, (-12))) else ((gI M 9 801 v8).bind fun v17 =>
(gI M 9 801 v10).bind fun v18 =>
if v17 = v18 then ((f_X8_hasPlaces M v8 a2 a5).bind fun v21 =>
if v21 = 0 then (some (M, (-13))) else ((f_X8_hasPlaces M v10 a4 a5).bind fun v24 =>
if v24 = 0 then (some (M, (-13))) else ((gR M 9 800 v8).bind fun v26 =>
(gR M 9 800 v10).bind fun v27 =>
(cpJ M v26 a2 v27 a4 a5).bind fun M28 =>
some (M28, a5)))) else (some (M, (-12))))))))) else none


def f_X10_refusalOfLetterOn (M : Mm) (a0 : Nat) (a1 : Int32) : Option Int32 :=
if mK M a0 = 11 then ((f_X10_isShelf a1).bind fun v2 =>
if v2 = 0 then (some (-1)) else ((gR M 11 1006 a0).bind fun v4 =>
(aR M 26 v4 a1).bind fun v5 =>
(gI M 9 801 v5).bind fun v6 =>
if v6 = 0 then (some (-11)) else ((gR M 11 1006 a0).bind fun v8 =>
(aR M 26 v8 a1).bind fun v9 =>
(gI M 9 801 v9).bind fun v10 =>
if v10 = 1 then (some 0) else (some (-12))))) else none


def f_X10_worth (M : Mm) (a0 : Nat) (a1 : Int32) : Option Int32 :=
if mK M a0 = 11 then ((f_X10_refusalOfLetterOn M a0 a1).bind fun v2 =>
if v2 = 0 then ((gR M 11 1006 a0).bind fun v4 =>
(aR M 26 v4 a1).bind fun v5 =>
(gI M 9 803 v5).bind fun v6 =>
(gR M 11 1006 a0).bind fun v7 =>
(aR M 26 v7 a1).bind fun v8 =>
(gI M 9 804 v8).bind fun v9 =>
if v6 = 1 then (some (((v9 * 10) + v6) + 3)) else (if v6 = 2 then (some ((((v9 * 10) + v6) + 3) * 2)) else (if v6 = 3 then (some (((v9 * 10) + v6) + 1)) else (if v6 = 4 then (some ((((v9 * 10) + v6) + 1) + 5)) else (if v6 = 5 then (some (((((v9 * 10) + v6) + 1) + 5) * 3)) else ((some ((v9 * 10) + v6)))))))) else (some v2)) else none


def f_X10_toss (M : Mm) (a0 : Nat) (a1 : Int32) : Option Int32 :=
if mK M a0 = 11 then ((f_X10_refusalOfLetterOn M a0 a1).bind fun v2 =>
if v2 = 0 then ((gR M 11 1006 a0).bind fun v4 =>
(aR M 26 v4 a1).bind fun v5 =>
(gI M 9 803 v5).bind fun v6 =>
if v6 = 0 then (some (-15)) else (if v6 = 3 then (some (-15)) else (some v6))) else (some v2)) else none


def f_X10_count (M : Mm) (a0 : Nat) (a1 : Int32) : Option Int32 :=
if mK M a0 = 11 then (if a1 = 0 then ((gR M 11 1001 a0).bind fun v2 =>
(gI M 7 604 v2).bind fun v3 =>
some v3) else (if a1 = 1 then ((gI M 11 1010 a0).bind fun v5 =>
some v5) else (if a1 = 2 then ((gI M 11 1000 a0).bind fun v7 =>
some v7) else (if a1 = 3 then ((gI M 11 1011 a0).bind fun v9 =>
some v9) else ((some (-1))))))) else none


def f_X11_init_L410 : Nat → Mm → Nat → Int32 → Option Mm
  | 0, _, _, _ => none
  | fu + 1, M, x0, x2 =>
    if 8 ≤ x2 then (some M) else ((gR M 12 1112 x0).bind fun v2 =>
    (wZ M v2 x2 1).bind fun M3 =>
    f_X11_init_L410 fu M3 x0 (x2 + 1))

def f_X11_init_L382 : Nat → Mm → Nat → Int32 → Option Mm
  | 0, _, _, _ => none
  | fu + 1, M, x0, x2 =>
    if 64 ≤ x2 then (f_X11_init_L410 1000 M x0 0) else ((gR M 12 1111 x0).bind fun v2 =>
    (wI M v2 x2 1).bind fun M3 =>
    (gR M3 12 1133 x0).bind fun v4 =>
    (wI M3 v4 x2 1).bind fun M5 =>
    f_X11_init_L382 fu M5 x0 (x2 + 1))

def f_X11_init (M : Mm) (a0 : Nat) (a1 : Int32) : Option Mm :=
if mK M a0 = 12 then ((mA0 M 20 8 8).bind fun M1 =>
(pR M1 12 1102 a0 (some (mS M))).bind fun M2 =>
(mA0 M2 20 8 8).bind fun M3 =>
(pR M3 12 1103 a0 (some (mS M2))).bind fun M4 =>
(mA0 M4 20 8 8).bind fun M5 =>
(pR M5 12 1104 a0 (some (mS M4))).bind fun M6 =>
(mA0 M6 21 8 8).bind fun M7 =>
(pR M7 12 1105 a0 (some (mS M6))).bind fun M8 =>
(mA0 M8 21 8 8).bind fun M9 =>
(pR M9 12 1108 a0 (some (mS M8))).bind fun M10 =>
(mA0 M10 20 8 8).bind fun M11 =>
(pR M11 12 1109 a0 (some (mS M10))).bind fun M12 =>
(mA0 M12 20 8 8).bind fun M13 =>
(pR M13 12 1110 a0 (some (mS M12))).bind fun M14 =>
(mA0 M14 20 64 64).bind fun M15 =>
(pR M15 12 1111 a0 (some (mS M14))).bind fun M16 =>
(mA0 M16 22 8 8).bind fun M17 =>
(pR M17 12 1112 a0 (some (mS M16))).bind fun M18 =>
(mA0 M18 20 8 8).bind fun M19 =>
(pR M19 12 1113 a0 (some (mS M18))).bind fun M20 =>
(mA0 M20 20 72 72).bind fun M21 =>
(pR M21 12 1114 a0 (some (mS M20))).bind fun M22 =>
(mA0 M22 21 576 576).bind fun M23 =>
(pR M23 12 1115 a0 (some (mS M22))).bind fun M24 =>
(mA0 M24 20 200 200).bind fun M25 =>
(pR M25 12 1117 a0 (some (mS M24))).bind fun M26 =>
(mA0 M26 20 12800 12800).bind fun M27 =>
(pR M27 12 1118 a0 (some (mS M26))).bind fun M28 =>
(mA0 M28 20 200 200).bind fun M29 =>
(pR M29 12 1119 a0 (some (mS M28))).bind fun M30 =>
(mA0 M30 20 200 200).bind fun M31 =>
(pR M31 12 1120 a0 (some (mS M30))).bind fun M32 =>
(mA0 M32 20 200 200).bind fun M33 =>
(pR M33 12 1121 a0 (some (mS M32))).bind fun M34 =>
(mA0 M34 20 200 200).bind fun M35 =>
(pR M35 12 1122 a0 (some (mS M34))).bind fun M36 =>
(mA0 M36 20 200 200).bind fun M37 =>
(pR M37 12 1123 a0 (some (mS M36))).bind fun M38 =>
(mA0 M38 22 200 200).bind fun M39 =>
(pR M39 12 1124 a0 (some (mS M38))).bind fun M40 =>
(mA0 M40 22 200 200).bind fun M41 =>
(pR M41 12 1125 a0 (some (mS M40))).bind fun M42 =>
(mA0 M42 20 1600 1600).bind fun M43 =>
(pR M43 12 1126 a0 (some (mS M42))).bind fun M44 =>
(mA0 M44 20 1600 1600).bind fun M45 =>
(pR M45 12 1127 a0 (some (mS M44))).bind fun M46 =>
(mA0 M46 20 200 200).bind fun M47 =>
(pR M47 12 1128 a0 (some (mS M46))).bind fun M48 =>
(mA0 M48 20 200 200).bind fun M49 =>
(pR M49 12 1129 a0 (some (mS M48))).bind fun M50 =>
(mA0 M50 22 8 8).bind fun M51 =>
(pR M51 12 1130 a0 (some (mS M50))).bind fun M52 =>
(mA0 M52 20 8 8).bind fun M53 =>
(pR M53 12 1131 a0 (some (mS M52))).bind fun M54 =>
(mA0 M54 20 8 8).bind fun M55 =>
(pR M55 12 1132 a0 (some (mS M54))).bind fun M56 =>
(mA0 M56 20 64 64).bind fun M57 =>
(pR M57 12 1133 a0 (some (mS M56))).bind fun M58 =>
(mA0 M58 21 64 64).bind fun M59 =>
(pR M59 12 1134 a0 (some (mS M58))).bind fun M60 =>
(mA0 M60 21 8 8).bind fun M61 =>
(pR M61 12 1139 a0 (some (mS M60))).bind fun M62 =>
(mA0 M62 20 8 8).bind fun M63 =>
(pR M63 12 1140 a0 (some (mS M62))).bind fun M64 =>
(mA0 M64 20 600 600).bind fun M65 =>
(pR M65 12 1141 a0 (some (mS M64))).bind fun M66 =>
(mA0 M66 20 8 8).bind fun M67 =>
(pR M67 12 1146 a0 (some (mS M66))).bind fun M68 =>
(mA0 M68 20 8 8).bind fun M69 =>
(pR M69 12 1147 a0 (some (mS M68))).bind fun M70 =>
(mA0 M70 21 8 8).bind fun M71 =>
(pR M71 12 1148 a0 (some (mS M70))).bind fun M72 =>
(mA0 M72 20 8 8).bind fun M73 =>
(pR M73 12 1149 a0 (some (mS M72))).bind fun M74 =>
(mA0 M74 21 8 8).bind fun M75 =>
(pR M75 12 1152 a0 (some (mS M74))).bind fun M76 =>
(mA0 M76 20 8 8).bind fun M77 =>
(pR M77 12 1153 a0 (some (mS M76))).bind fun M78 =>
(mA0 M78 20 8 8).bind fun M79 =>
(pR M79 12 1154 a0 (some (mS M78))).bind fun M80 =>
(mA0 M80 20 8 8).bind fun M81 =>
(pR M81 12 1155 a0 (some (mS M80))).bind fun M82 =>
(mA0 M82 21 512 512).bind fun M83 =>
(pR M83 12 1156 a0 (some (mS M82))).bind fun M84 =>
(mA0 M84 21 64 64).bind fun M85 =>
(pR M85 12 1157 a0 (some (mS M84))).bind fun M86 =>
(pI M86 12 1107 a0 (1 + (((a1 - a1 / 8 * 8) + 8) - ((a1 - a1 / 8 * 8) + 8) / 8 * 8))).bind fun M87 =>
f_X11_init_L382 1000 M87 a0 0) else none


def f_X11_isIn (a0 : Int64) (a2 : Int64) (a4 : Int64) : Option Int32 :=
if (lg_cmp a0 a2) < 0 then (some 0) else (if 0 < (lg_cmp a0 a4) then (some 0) else (some 1))


def f_X11_isField (M : Mm) (a0 : Nat) (a1 : Int32) : Option Int32 :=
if mK M a0 = 12 then (if a1 < 0 then (some 0) else ((gI M 12 1101 a0).bind fun v2 =>
if v2 ≤ a1 then (some 0) else (some 1))) else none


def f_X11_isFlow (a0 : Int32) : Option Int32 :=
if a0 < 0 then (some 0) else (if 8 ≤ a0 then (some 0) else (some 1))


def f_X11_cut (M : Mm) (a0 : Nat) (a1 : Int32) (a2 : Int64) : Option Int64 :=
if mK M a0 = 12 then ((gR M 12 1103 a0).bind fun v1 =>
(aI M v1 a1).bind fun v2 =>
some (a2 &&& (((1 : Int64) <<< (v2.toInt64 &&& 63)) - 1))) else none


def f_X11_runs (M : Mm) (a0 : Nat) (a1 : Int32) : Option Int32 :=
if mK M a0 = 12 then ((gR M 12 1102 a0).bind fun v1 =>
(aI M v1 a1).bind fun v2 =>
if v2 = 2 then (some 1) else ((gR M 12 1102 a0).bind fun v4 =>
(aI M v4 a1).bind fun v5 =>
if v5 = 3 then (some 1) else (some 0))) else none


def f_X11_field_J65 (M : Mm) (x0 : Nat) (x1 : Int32) (x2 : Int32) (x3 : Int32) (x4 : Int32) (s0 : Int32) : Option (Mm × Int32) :=
if s0 = 0 then (some (M, (-1))) else ((gI M 12 1101 x0).bind fun v2 =>
if v2 = 8 then (some (M, (-2))) else ((gI M 12 1106 x0).bind fun v4 =>
if v4 = 0 then ((gR M 12 1102 x0).bind fun v6 =>
(gI M 12 1101 x0).bind fun v7 =>
(wI M v6 v7 x1).bind fun M8 =>
(gR M8 12 1103 x0).bind fun v9 =>
(gI M8 12 1101 x0).bind fun v10 =>
(wI M8 v9 v10 x2).bind fun M11 =>
(gR M11 12 1104 x0).bind fun v12 =>
(gI M11 12 1101 x0).bind fun v13 =>
(wI M11 v12 v13 x3).bind fun M14 =>
(gR M14 12 1105 x0).bind fun v15 =>
(gI M14 12 1101 x0).bind fun v16 =>
(wJ M14 v15 v16 x4.toInt64).bind fun M17 =>
(gR M17 12 1108 x0).bind fun v18 =>
(gI M17 12 1101 x0).bind fun v19 =>
(wJ M17 v18 v19 0).bind fun M20 =>
(gI M20 12 1101 x0).bind fun v21 =>
(pI M20 12 1101 x0 (v21 + 1)).bind fun M22 =>
(gI M22 12 1101 x0).bind fun v23 =>
some (M22, v23 - 1)) else (some (M, (-3)))))

def f_X11_field_J64 (M : Mm) (x0 : Nat) (x1 : Int32) (x2 : Int32) (x3 : Int32) (x4 : Int32) : Option (Mm × Int32) :=
f_X11_field_J65 M x0 x1 x2 x3 x4 0

def f_X11_field_J60 (M : Mm) (x0 : Nat) (x1 : Int32) (x2 : Int32) (x3 : Int32) (x4 : Int32) : Option (Mm × Int32) :=
f_X11_field_J65 M x0 x1 x2 x3 x4 1

def f_X11_field_J42 (M : Mm) (x0 : Nat) (x1 : Int32) (x2 : Int32) (x3 : Int32) (x4 : Int32) : Option (Mm × Int32) :=
if x1 = 3 then ((f_X11_isIn x4.toInt64 1 1000).bind fun v3 =>
if v3 = 0 then (f_X11_field_J64 M x0 x1 x2 x3 x4) else (f_X11_field_J60 M x0 x1 x2 x3 x4)) else (f_X11_field_J60 M x0 x1 x2 x3 x4)

def f_X11_field (M : Mm) (a0 : Nat) (a1 : Int32) (a2 : Int32) (a3 : Int32) (a4 : Int32) : Option (Mm × Int32) :=
if mK M a0 = 12 then ((pI M 12 1100 a0 0).bind fun M1 =>
(f_X11_isIn a1.toInt64 0 4).bind fun v3 =>
if v3 = 0 then (f_X11_field_J64 M1 a0 a1 a2 a3 a4) else ((f_X11_isIn a2.toInt64 1 32).bind fun v6 =>
if v6 = 0 then (f_X11_field_J64 M1 a0 a1 a2 a3 a4) else (if a1 = 1 then ((f_X11_isField M1 a0 a3).bind fun v10 =>
if v10 = 0 then (f_X11_field_J64 M1 a0 a1 a2 a3 a4) else (f_X11_field_J42 M1 a0 a1 a2 a3 a4)) else (f_X11_field_J42 M1 a0 a1 a2 a3 a4)))) else none


def f_X11_set (M : Mm) (a0 : Nat) (a1 : Int32) (a2 : Int64) : Option (Mm × Int64) :=
if mK M a0 = 12 then ((pI M 12 1100 a0 0).bind fun M1 =>
(f_X11_isField M1 a0 a1).bind fun v3 =>
if v3 = 0 then (some (M1, (-1))) else ((gR M1 12 1108 a0).bind fun v5 =>
(aJ M1 v5 a1).bind fun v6 =>
(gR M1 12 1108 a0).bind fun v7 =>
(f_X11_cut M1 a0 a1 a2).bind fun v9 =>
(wJ M1 v7 a1 v9).bind fun M10 =>
some (M10, v6))) else none


def f_X11_stride (M : Mm) (a0 : Nat) (a1 : Int32) (a2 : Int32) (a3 : Int32) : Option (Mm × Int32) :=
if mK M a0 = 12 then ((pI M 12 1100 a0 0).bind fun M1 =>
(f_X11_isFlow a1).bind fun v3 =>
if v3 = 0 then (some (M1, (-1))) else ((f_X11_isField M1 a0 a2).bind fun v6 =>
if v6 = 0 then (some (M1, (-1))) else ((f_X11_runs M1 a0 a2).bind fun v9 =>
if v9 = 0 then (some (M1, (-1))) else ((f_X11_isIn a3.toInt64 0 255).bind fun v12 =>
if v12 = 0 then (some (M1, (-1))) else ((gR M1 12 1111 a0).bind fun v14 =>
(aI M1 v14 ((8 * a1) + a2)).bind fun v15 =>
(gR M1 12 1111 a0).bind fun v16 =>
(wI M1 v16 ((8 * a1) + a2) a3).bind fun M17 =>
(gR M17 12 1112 a0).bind fun v18 =>
(wZ M17 v18 a1 1).bind fun M19 =>
some (M19, v15)))))) else none


def f_X11_onwards_J54 (M : Mm) (s0 : Nat) (s1 : Int32) (s2 : Int64) (s3 : Int64) (s4 : Int64) : Option Int64 :=
(f_X11_cut M s0 s1 (s2 + (s3 * s4))).bind fun v2 =>
some v2

def f_X11_onwards (M : Mm) (a0 : Nat) (a1 : Int32) (a2 : Int64) (a4 : Int32) (a5 : Int32) : Option Int64 :=
if mK M a0 = 12 then ((gR M 12 1102 a0).bind fun v1 =>
(aI M v1 a1).bind fun v2 =>
if v2 = 4 then (some 0) else ((gR M 12 1102 a0).bind fun v4 =>
(aI M v4 a1).bind fun v5 =>
if 2 ≤ v5 then ((gR M 12 1102 a0).bind fun v7 =>
(aI M v7 a1).bind fun v8 =>
if v8 = 3 then ((gR M 12 1105 a0).bind fun v10 =>
(aJ M v10 a1).bind fun v11 =>
f_X11_onwards_J54 M a0 a1 a2 (a4.toInt64 * a5.toInt64) v11) else (f_X11_onwards_J54 M a0 a1 a2 (a4.toInt64 * a5.toInt64) 1)) else (some a2))) else none


def f_X11_given (M : Mm) (a0 : Nat) (a1 : Int32) (a2 : Int32) (a3 : Int32) (a4 : Int32) : Option Int64 :=
if mK M a0 = 12 then ((gR M 12 1102 a0).bind fun v1 =>
(aI M v1 a3).bind fun v2 =>
if v2 = 1 then ((gR M 12 1108 a0).bind fun v12 =>
(gR M 12 1104 a0).bind fun v13 =>
(aI M v13 a3).bind fun v14 =>
(aJ M v12 v14).bind fun v15 =>
(gR M 12 1105 a0).bind fun v16 =>
(aJ M v16 a3).bind fun v17 =>
(f_X11_cut M a0 a3 (v15 + v17)).bind fun v19 =>
some v19) else ((gR M 12 1115 a0).bind fun v4 =>
(aJ M v4 ((8 * ((9 * a1) + a2)) + a3)).bind fun v5 =>
(gR M 12 1114 a0).bind fun v6 =>
(aI M v6 ((9 * a1) + a2)).bind fun v7 =>
(gR M 12 1111 a0).bind fun v8 =>
(aI M v8 ((8 * a1) + a3)).bind fun v9 =>
(f_X11_onwards M a0 a3 v5 (a4 - v7) v9).bind fun v11 =>
some v11)) else none


def f_X11_finds (M : Mm) (a0 : Nat) (a1 : Int32) (a2 : Int64) (a4 : Int64) (a6 : Int32) : Option Int32 :=
if mK M a0 = 12 then (if a6 = 0 then (if (lg_cmp a2 a4) = 0 then (some 1) else (some 0)) else ((f_X11_cut M a0 a1 ((a4 - a2) + ((1 : Int64) <<< ((a6 - 1).toInt64 &&& 63)))).bind fun v3 =>
if 0 ≤ (lg_cmp v3 ((1 : Int64) <<< (a6.toInt64 &&& 63))) then (some 0) else (some 1))) else none


def f_X11_giveAll_J46 (k6 : Nat → Int32 → Int32 → Int32 → Int32 → Int32 → Option Int32) (M : Mm) (x0 : Nat) (x1 : Int32) (x2 : Int32) (x3 : Int32) (x5 : Int32) (s0 : Int32) : Option Int32 :=
k6 x0 x1 x2 x3 s0 (x5 + 1)

def f_X11_giveAll_J45 (k6 : Nat → Int32 → Int32 → Int32 → Int32 → Int32 → Option Int32) (M : Mm) (x0 : Nat) (x1 : Int32) (x2 : Int32) (x3 : Int32) (x5 : Int32) : Option Int32 :=
f_X11_giveAll_J46 k6 M x0 x1 x2 x3 x5 0

def f_X11_giveAll_L6 (M : Mm) : Nat → Nat → Int32 → Int32 → Int32 → Int32 → Int32 → Option Int32
  | 0, _, _, _, _, _, _ => none
  | fu + 1, x0, x1, x2, x3, x4, x5 =>
    (gR M 12 1113 x0).bind fun v1 =>
    (aI M v1 x1).bind fun v2 =>
    if v2 ≤ x5 then (if x4 = 0 ∨ x4 = 1 then
    some x4 else none) else (if x4 = 0 then (f_X11_giveAll_J45 (f_X11_giveAll_L6 M fu) M x0 x1 x2 x3 x5) else ((f_X11_given M x0 x1 x5 x2 x3).bind fun v7 =>
    (gR M 12 1108 x0).bind fun v8 =>
    (aJ M v8 x2).bind fun v9 =>
    if (lg_cmp v7 v9) = 0 then (f_X11_giveAll_J46 (f_X11_giveAll_L6 M fu) M x0 x1 x2 x3 x5 1) else (f_X11_giveAll_J45 (f_X11_giveAll_L6 M fu) M x0 x1 x2 x3 x5)))

def f_X11_giveAll (M : Mm) (a0 : Nat) (a1 : Int32) (a2 : Int32) (a3 : Int32) : Option Int32 :=
if mK M a0 = 12 then (f_X11_giveAll_L6 M 1000 a0 a1 a2 a3 1 0) else none


def f_X11_serves_J52 (k6 : Nat → Int32 → Int32 → Int32 → Int32 → Int32 → Int32 → Option Int32) (M : Mm) (x0 : Nat) (x1 : Int32) (x2 : Int32) (x3 : Int32) (x4 : Int32) (x6 : Int32) (s0 : Int32) : Option Int32 :=
k6 x0 x1 x2 x3 x4 s0 (x6 + 1)

def f_X11_serves_J51 (k6 : Nat → Int32 → Int32 → Int32 → Int32 → Int32 → Int32 → Option Int32) (M : Mm) (x0 : Nat) (x1 : Int32) (x2 : Int32) (x3 : Int32) (x4 : Int32) (x6 : Int32) : Option Int32 :=
f_X11_serves_J52 k6 M x0 x1 x2 x3 x4 x6 0

def f_X11_serves_L6 (M : Mm) : Nat → Nat → Int32 → Int32 → Int32 → Int32 → Int32 → Int32 → Option Int32
  | 0, _, _, _, _, _, _, _ => none
  | fu + 1, x0, x1, x2, x3, x4, x5, x6 =>
    (gR M 12 1113 x0).bind fun v1 =>
    (aI M v1 x1).bind fun v2 =>
    if v2 ≤ x6 then (if x5 = 0 ∨ x5 = 1 then
    some x5 else none) else (if x5 = 0 then (f_X11_serves_J51 (f_X11_serves_L6 M fu) M x0 x1 x2 x3 x4 x6) else ((f_X11_given M x0 x1 x6 x2 x3).bind fun v7 =>
    (gR M 12 1108 x0).bind fun v8 =>
    (aJ M v8 x2).bind fun v9 =>
    (f_X11_finds M x0 x2 v7 v9 x4).bind fun v11 =>
    if v11 = 0 then (f_X11_serves_J51 (f_X11_serves_L6 M fu) M x0 x1 x2 x3 x4 x6) else (f_X11_serves_J52 (f_X11_serves_L6 M fu) M x0 x1 x2 x3 x4 x6 1)))

def f_X11_serves (M : Mm) (a0 : Nat) (a1 : Int32) (a2 : Int32) (a3 : Int32) (a4 : Int32) : Option Int32 :=
if mK M a0 = 12 then (f_X11_serves_L6 M 1000 a0 a1 a2 a3 a4 1 0) else none


def f_X11_say_L5 : Nat → Mm → Nat → Int64 → Int32 → Option Mm
  | 0, _, _, _, _ => none
  | fu + 1, M, x0, x1, x4 =>
    if x4 < 0 then (some M) else ((gR M 12 1141 x0).bind fun v2 =>
    (gI M 12 1142 x0).bind fun v3 =>
    (wI M v2 v3 (((x1 >>> (x4.toInt64 &&& 63)) &&& 1).toInt32)).bind fun M4 =>
    (gI M4 12 1142 x0).bind fun v5 =>
    (pI M4 12 1142 x0 (v5 + 1)).bind fun M6 =>
    f_X11_say_L5 fu M6 x0 x1 (x4 + (-1)))

def f_X11_say (M : Mm) (a0 : Nat) (a1 : Int64) (a3 : Int32) : Option Mm :=
if mK M a0 = 12 then (f_X11_say_L5 1000 M a0 a1 (a3 - 1)) else none


def f_X11_sumOf (M : Mm) (a0 : Nat) (a1 : Int64) (a3 : Int64) : Option Int32 :=
if mK M a0 = 12 then (some ((((31 * a1) + a3) &&& 255).toInt32)) else none


def f_X11_draftSum_L5 (M : Mm) : Nat → Nat → Int32 → Int32 → Option Int32
  | 0, _, _, _ => none
  | fu + 1, x0, x1, x2 =>
    (gI M 12 1101 x0).bind fun v1 =>
    if v1 ≤ x2 then (some x1) else ((gR M 12 1108 x0).bind fun v3 =>
    (aJ M v3 x2).bind fun v4 =>
    (f_X11_sumOf M x0 x1.toInt64 v4).bind fun v6 =>
    f_X11_draftSum_L5 M fu x0 v6 (x2 + 1))

def f_X11_draftSum (M : Mm) (a0 : Nat) : Option Int32 :=
if mK M a0 = 12 then (f_X11_draftSum_L5 M 1000 a0 17 0) else none


def f_X11_checkOf_L5 (M : Mm) : Nat → Nat → Int32 → Int32 → Int32 → Int32 → Option Int32
  | 0, _, _, _, _, _ => none
  | fu + 1, x0, x1, x2, x3, x4 =>
    if x2 ≤ x4 then (some (255 - (x3 - x3 / 256 * 256))) else ((gR M 12 1118 x0).bind fun v2 =>
    (aI M v2 ((64 * x1) + x4)).bind fun v3 =>
    f_X11_checkOf_L5 M fu x0 x1 x2 (x3 + v3) (x4 + 1))

def f_X11_checkOf (M : Mm) (a0 : Nat) (a1 : Int32) (a2 : Int32) : Option Int32 :=
if mK M a0 = 12 then (f_X11_checkOf_L5 M 1000 a0 a1 a2 0 0) else none


def f_X11_laid_J186 (M : Mm) (x0 : Nat) (x5 : Int32) (x6 : Int32) : Option (Mm × Int32) :=
(gR M 12 1117 x0).bind fun v1 =>
(wI M v1 x5 x6).bind fun M2 =>
(gI M2 12 1116 x0).bind fun v3 =>
(pI M2 12 1116 x0 (v3 + 1)).bind fun M4 =>
(pZ M4 12 1106 x0 1).bind fun M5 =>
some (M5, x5)

def f_X11_laid_J124 (k74 : Mm → Nat → Int32 → Int32 → Int32 → Int32 → Option (Mm × Int32)) (k90 : Mm → Nat → Int32 → Int32 → Int32 → Int32 → Int32 → Int32 → Option (Mm × Int32)) (M : Mm) (x0 : Nat) (x4 : Int32) (x5 : Int32) (x6 : Int32) (x7 : Int32) (x9 : Int32) (s0 : Int32) (s1 : Int32) : Option (Mm × Int32) :=
k90 M x0 x4 x5 x6 x7 (s0 + s1) (x9 + 1)

def f_X11_laid_L90 (k74 : Mm → Nat → Int32 → Int32 → Int32 → Int32 → Option (Mm × Int32)) : Nat → Mm → Nat → Int32 → Int32 → Int32 → Int32 → Int32 → Int32 → Option (Mm × Int32)
  | 0, _, _, _, _, _, _, _, _ => none
  | fu + 1, M, x0, x4, x5, x6, x7, x8, x9 =>
    if (x7 + 8) ≤ x9 then ((gR M 12 1118 x0).bind fun v2 =>
    (wI M v2 ((64 * x5) + x6) x8).bind fun M3 =>
    k74 M3 x0 x4 x5 (x6 + 1) (x7 + 8)) else ((gI M 12 1142 x0).bind fun v4 =>
    if v4 ≤ x9 then (f_X11_laid_J124 k74 (f_X11_laid_L90 k74 fu) M x0 x4 x5 x6 x7 x9 (2 * x8) 0) else ((gR M 12 1141 x0).bind fun v6 =>
    (aI M v6 x9).bind fun v7 =>
    f_X11_laid_J124 k74 (f_X11_laid_L90 k74 fu) M x0 x4 x5 x6 x7 x9 (2 * x8) v7))

def f_X11_laid_L74 : Nat → Mm → Nat → Int32 → Int32 → Int32 → Int32 → Option (Mm × Int32)
  | 0, _, _, _, _, _, _ => none
  | fu + 1, M, x0, x4, x5, x6, x7 =>
    (gI M 12 1142 x0).bind fun v1 =>
    if v1 ≤ x7 then (if x4 = 0 then (f_X11_laid_J186 M x0 x5 x6) else ((gR M 12 1118 x0).bind fun v4 =>
    (f_X11_checkOf M x0 x5 x6).bind fun v6 =>
    (wI M v4 ((64 * x5) + x6) v6).bind fun M7 =>
    f_X11_laid_J186 M7 x0 x5 (x6 + 1))) else (f_X11_laid_L90 (f_X11_laid_L74 fu) 1000 M x0 x4 x5 x6 x7 0 x7)

def f_X11_laid (M : Mm) (a0 : Nat) (a1 : Int32) (a2 : Int32) (a3 : Int32) (a4 : Int32) : Option (Mm × Int32) :=
if mK M a0 = 12 then ((gI M 12 1116 a0).bind fun v1 =>
(gR M 12 1119 a0).bind fun v2 =>
(wI M v2 v1 a1).bind fun M3 =>
(gR M3 12 1120 a0).bind fun v4 =>
(wI M3 v4 v1 a2).bind fun M5 =>
(gR M5 12 1121 a0).bind fun v6 =>
(wI M5 v6 v1 (a3 - a3 / 65536 * 65536)).bind fun M7 =>
(gR M7 12 1122 a0).bind fun v8 =>
(gI M7 12 1142 a0).bind fun v9 =>
(wI M7 v8 v1 v9).bind fun M10 =>
(gR M10 12 1123 a0).bind fun v11 =>
(wI M10 v11 v1 (-1)).bind fun M12 =>
(gR M12 12 1124 a0).bind fun v13 =>
(wZ M12 v13 v1 0).bind fun M14 =>
(gR M14 12 1125 a0).bind fun v15 =>
(wZ M14 v15 v1 0).bind fun M16 =>
f_X11_laid_L74 1000 M16 a0 a4 v1 0 0) else none


def f_X11_head (M : Mm) (a0 : Nat) (a1 : Int32) (a2 : Int32) (a3 : Int32) : Option Mm :=
if mK M a0 = 12 then ((pI M 12 1142 a0 0).bind fun M1 =>
(f_X11_say M1 a0 a1.toInt64 3).bind fun M3 =>
(f_X11_say M3 a0 a2.toInt64 3).bind fun M5 =>
(f_X11_say M5 a0 ((a3 - a3 / 65536 * 65536).toInt64) 16).bind fun M7 =>
some M7) else none


def f_X11_sendWhole_J102 (k52 : Mm → Nat → Int32 → Int32 → Int32 → Option (Mm × Int32)) (M : Mm) (x0 : Nat) (x1 : Int32) (x2 : Int32) (x3 : Int32) : Option (Mm × Int32) :=
k52 M x0 x1 x2 (x3 + 1)

def f_X11_sendWhole_L52 : Nat → Mm → Nat → Int32 → Int32 → Int32 → Option (Mm × Int32)
  | 0, _, _, _, _, _ => none
  | fu + 1, M, x0, x1, x2, x3 =>
    (gI M 12 1101 x0).bind fun v1 =>
    if v1 ≤ x3 then (ob2 (f_X11_laid M x0 0 x1 x2 1) fun M4 v5 =>
    some (M4, v5)) else ((gR M 12 1108 x0).bind fun v6 =>
    (aJ M v6 x3).bind fun v7 =>
    (gR M 12 1103 x0).bind fun v8 =>
    (aI M v8 x3).bind fun v9 =>
    (f_X11_say M x0 v7 v9).bind fun M11 =>
    (f_X11_runs M11 x0 x3).bind fun v13 =>
    if v13 = 0 then (f_X11_sendWhole_J102 (f_X11_sendWhole_L52 fu) M11 x0 x1 x2 x3) else ((gR M11 12 1111 x0).bind fun v15 =>
    (aI M11 v15 ((8 * x1) + x3)).bind fun v16 =>
    (f_X11_say M11 x0 v16.toInt64 8).bind fun M18 =>
    f_X11_sendWhole_J102 (f_X11_sendWhole_L52 fu) M18 x0 x1 x2 x3))

def f_X11_sendWhole (M : Mm) (a0 : Nat) (a1 : Int32) (a2 : Int32) : Option (Mm × Int32) :=
if mK M a0 = 12 then ((gR M 12 1110 a0).bind fun v1 =>
(gR M 12 1110 a0).bind fun v2 =>
(aI M v2 a1).bind fun v3 =>
(wI M v1 a1 ((v3 + 1) - (v3 + 1) / 16 * 16)).bind fun M4 =>
(gR M4 12 1113 a0).bind fun v5 =>
(wI M4 v5 a1 0).bind fun M6 =>
(gR M6 12 1112 a0).bind fun v7 =>
(wZ M6 v7 a1 0).bind fun M8 =>
(f_X11_head M8 a0 0 a1 a2).bind fun M10 =>
(gR M10 12 1110 a0).bind fun v11 =>
(aI M10 v11 a1).bind fun v12 =>
(f_X11_say M10 a0 v12.toInt64 4).bind fun M14 =>
f_X11_sendWhole_L52 1000 M14 a0 a1 a2 0) else none


def f_X11_sendPart_J102 (k21 : Mm → Nat → Int32 → Int32 → Int32 → Option (Mm × Int32)) (M : Mm) (x0 : Nat) (x1 : Int32) (x2 : Int32) (x3 : Int32) : Option (Mm × Int32) :=
k21 M x0 x1 x2 (x3 + 1)

def f_X11_sendPart_J81 (k21 : Mm → Nat → Int32 → Int32 → Int32 → Option (Mm × Int32)) (M : Mm) (x0 : Nat) (x1 : Int32) (x2 : Int32) (x3 : Int32) (x4 : Int32) : Option (Mm × Int32) :=
if x4 = 0 then ((gR M 12 1108 x0).bind fun v2 =>
(aJ M v2 x3).bind fun v3 =>
(gR M 12 1103 x0).bind fun v4 =>
(aI M v4 x3).bind fun v5 =>
(f_X11_say M x0 v3 v5).bind fun M7 =>
f_X11_sendPart_J102 k21 M7 x0 x1 x2 x3) else (f_X11_sendPart_J102 k21 M x0 x1 x2 x3)

def f_X11_sendPart_J77 (k21 : Mm → Nat → Int32 → Int32 → Int32 → Option (Mm × Int32)) (M : Mm) (x0 : Nat) (x1 : Int32) (x2 : Int32) (x3 : Int32) (x4 : Int32) (s0 : Nat) (s1 : Int64) : Option (Mm × Int32) :=
(f_X11_say M s0 s1 1).bind fun M2 =>
f_X11_sendPart_J81 k21 M2 x0 x1 x2 x3 x4

def f_X11_sendPart_J54 (k21 : Mm → Nat → Int32 → Int32 → Int32 → Option (Mm × Int32)) (M : Mm) (x0 : Nat) (x1 : Int32) (x2 : Int32) (x3 : Int32) (s0 : Int32) : Option (Mm × Int32) :=
(gR M 12 1102 x0).bind fun v1 =>
(aI M v1 x3).bind fun v2 =>
if v2 = 4 then (f_X11_sendPart_J81 k21 M x0 x1 x2 x3 s0) else (if s0 = 0 then (f_X11_sendPart_J77 k21 M x0 x1 x2 x3 s0 x0 1) else (f_X11_sendPart_J77 k21 M x0 x1 x2 x3 s0 x0 0))

def f_X11_sendPart_J53 (k21 : Mm → Nat → Int32 → Int32 → Int32 → Option (Mm × Int32)) (M : Mm) (x0 : Nat) (x1 : Int32) (x2 : Int32) (x3 : Int32) : Option (Mm × Int32) :=
f_X11_sendPart_J54 k21 M x0 x1 x2 x3 0

def f_X11_sendPart_L21 : Nat → Mm → Nat → Int32 → Int32 → Int32 → Option (Mm × Int32)
  | 0, _, _, _, _, _ => none
  | fu + 1, M, x0, x1, x2, x3 =>
    (gI M 12 1101 x0).bind fun v1 =>
    if v1 ≤ x3 then ((f_X11_draftSum M x0).bind fun v4 =>
    (f_X11_say M x0 v4.toInt64 8).bind fun M6 =>
    ob2 (f_X11_laid M6 x0 1 x1 x2 0) fun M8 v9 =>
    some (M8, v9)) else ((gR M 12 1102 x0).bind fun v10 =>
    (aI M v10 x3).bind fun v11 =>
    if v11 = 4 then (f_X11_sendPart_J53 (f_X11_sendPart_L21 fu) M x0 x1 x2 x3) else ((f_X11_giveAll M x0 x1 x3 x2).bind fun v14 =>
    if v14 = 0 then (f_X11_sendPart_J53 (f_X11_sendPart_L21 fu) M x0 x1 x2 x3) else (f_X11_sendPart_J54 (f_X11_sendPart_L21 fu) M x0 x1 x2 x3 1)))

def f_X11_sendPart (M : Mm) (a0 : Nat) (a1 : Int32) (a2 : Int32) : Option (Mm × Int32) :=
if mK M a0 = 12 then ((f_X11_head M a0 1 a1 a2).bind fun M2 =>
(gR M2 12 1110 a0).bind fun v3 =>
(aI M2 v3 a1).bind fun v4 =>
(f_X11_say M2 a0 v4.toInt64 4).bind fun M6 =>
f_X11_sendPart_L21 1000 M6 a0 a1 a2 0) else none


def f_X11_fails_J66 (k14 : Nat → Int32 → Int32 → Int32 → Int32 → Int32 → Int32 → Option Int32) (M : Mm) (x0 : Nat) (x1 : Int32) (x2 : Int32) (x3 : Int32) (x4 : Int32) (x6 : Int32) (s0 : Int32) : Option Int32 :=
k14 x0 x1 x2 x3 x4 s0 (x6 + (-1))

def f_X11_fails_L14 (M : Mm) : Nat → Nat → Int32 → Int32 → Int32 → Int32 → Int32 → Int32 → Option Int32
  | 0, _, _, _, _, _, _, _ => none
  | fu + 1, x0, x1, x2, x3, x4, x5, x6 =>
    if x6 < 0 then (some x5) else (if x4 < 0 then (some x5) else ((f_X11_given M x0 x1 x6 x2 x3).bind fun v4 =>
    (gR M 12 1108 x0).bind fun v5 =>
    (aJ M v5 x2).bind fun v6 =>
    (f_X11_finds M x0 x2 v4 v6 x4).bind fun v8 =>
    if v8 = 0 then ((gR M 12 1114 x0).bind fun v10 =>
    (aI M v10 ((9 * x1) + x6)).bind fun v11 =>
    f_X11_fails_J66 (f_X11_fails_L14 M fu) M x0 x1 x2 x3 x4 x6 v11) else (f_X11_fails_J66 (f_X11_fails_L14 M fu) M x0 x1 x2 x3 x4 x6 x5)))

def f_X11_fails (M : Mm) (a0 : Nat) (a1 : Int32) (a2 : Int32) (a3 : Int32) (a4 : Int32) : Option Int32 :=
if mK M a0 = 12 then ((gR M 12 1113 a0).bind fun v1 =>
(aI M v1 a1).bind fun v2 =>
f_X11_fails_L14 M 1000 a0 a1 a2 a3 a4 (-2) (v2 - 1)) else none


def f_X11_sendShort_J149 (k21 : Mm → Nat → Int32 → Int32 → Int32 → Option (Mm × Int32)) (M : Mm) (x0 : Nat) (x1 : Int32) (x2 : Int32) (x3 : Int32) : Option (Mm × Int32) :=
k21 M x0 x1 x2 (x3 + 1)

def f_X11_sendShort_L40 (k21 : Mm → Nat → Int32 → Int32 → Int32 → Option (Mm × Int32)) : Nat → Mm → Nat → Int32 → Int32 → Int32 → Int32 → Option (Mm × Int32)
  | 0, _, _, _, _, _, _ => none
  | fu + 1, M, x0, x1, x2, x3, x4 =>
    (f_X11_serves M x0 x1 x3 x2 x4).bind fun v2 =>
    if v2 = 0 then (f_X11_sendShort_L40 k21 fu M x0 x1 x2 x3 (x4 + 1)) else ((f_X11_say M x0 x4.toInt64 6).bind fun M5 =>
    (gR M5 12 1108 x0).bind fun v6 =>
    (aJ M5 v6 x3).bind fun v7 =>
    (f_X11_say M5 x0 v7 x4).bind fun M9 =>
    (gR M9 12 1126 x0).bind fun v10 =>
    (gI M9 12 1116 x0).bind fun v11 =>
    (wI M9 v10 ((8 * v11) + x3) x4).bind fun M12 =>
    (gR M12 12 1127 x0).bind fun v13 =>
    (gI M12 12 1116 x0).bind fun v14 =>
    (f_X11_fails M12 x0 x1 x3 x2 (x4 - 1)).bind fun v16 =>
    (wI M12 v13 ((8 * v14) + x3) v16).bind fun M17 =>
    f_X11_sendShort_J149 k21 M17 x0 x1 x2 x3)

def f_X11_sendShort_L21 : Nat → Mm → Nat → Int32 → Int32 → Int32 → Option (Mm × Int32)
  | 0, _, _, _, _, _ => none
  | fu + 1, M, x0, x1, x2, x3 =>
    (gI M 12 1101 x0).bind fun v1 =>
    if v1 ≤ x3 then ((gR M 12 1128 x0).bind fun v3 =>
    (gI M 12 1116 x0).bind fun v4 =>
    (gR M 12 1113 x0).bind fun v5 =>
    (aI M v5 x1).bind fun v6 =>
    (wI M v3 v4 v6).bind fun M7 =>
    (gR M7 12 1129 x0).bind fun v8 =>
    (gI M7 12 1116 x0).bind fun v9 =>
    (gR M7 12 1114 x0).bind fun v10 =>
    (aI M7 v10 (9 * x1)).bind fun v11 =>
    (wI M7 v8 v9 v11).bind fun M12 =>
    (f_X11_draftSum M12 x0).bind fun v14 =>
    (f_X11_say M12 x0 v14.toInt64 8).bind fun M16 =>
    ob2 (f_X11_laid M16 x0 2 x1 x2 0) fun M18 v19 =>
    some (M18, v19)) else ((f_X11_runs M x0 x3).bind fun v21 =>
    if v21 = 0 then ((gR M 12 1102 x0).bind fun v23 =>
    (aI M v23 x3).bind fun v24 =>
    if v24 = 4 then ((gR M 12 1108 x0).bind fun v26 =>
    (aJ M v26 x3).bind fun v27 =>
    (gR M 12 1103 x0).bind fun v28 =>
    (aI M v28 x3).bind fun v29 =>
    (f_X11_say M x0 v27 v29).bind fun M31 =>
    f_X11_sendShort_J149 (f_X11_sendShort_L21 fu) M31 x0 x1 x2 x3) else (f_X11_sendShort_J149 (f_X11_sendShort_L21 fu) M x0 x1 x2 x3)) else (f_X11_sendShort_L40 (f_X11_sendShort_L21 fu) 1000 M x0 x1 x2 x3 0))

def f_X11_sendShort (M : Mm) (a0 : Nat) (a1 : Int32) (a2 : Int32) : Option (Mm × Int32) :=
if mK M a0 = 12 then ((f_X11_head M a0 2 a1 a2).bind fun M2 =>
(gR M2 12 1110 a0).bind fun v3 =>
(aI M2 v3 a1).bind fun v4 =>
(f_X11_say M2 a0 v4.toInt64 4).bind fun M6 =>
f_X11_sendShort_L21 1000 M6 a0 a1 a2 0) else none


def f_X11_drop_L49 (k12 : Mm → Nat → Int32 → Int32 → Int32 → Option Mm) : Nat → Mm → Nat → Int32 → Int32 → Int32 → Int32 → Int32 → Option Mm
  | 0, _, _, _, _, _, _, _ => none
  | fu + 1, M, x0, x1, x2, x3, x4, x5 =>
    (gI M 12 1101 x0).bind fun v1 =>
    if v1 ≤ x5 then (k12 M x0 x1 x2 (x3 + 1)) else ((gR M 12 1115 x0).bind fun v3 =>
    (gR M 12 1115 x0).bind fun v4 =>
    (aJ M v4 (((8 * x4) + (8 * x2)) + x5)).bind fun v5 =>
    (wJ M v3 ((8 * x4) + x5) v5).bind fun M6 =>
    f_X11_drop_L49 k12 fu M6 x0 x1 x2 x3 x4 (x5 + 1))

def f_X11_drop_L12 : Nat → Mm → Nat → Int32 → Int32 → Int32 → Option Mm
  | 0, _, _, _, _, _ => none
  | fu + 1, M, x0, x1, x2, x3 =>
    (gR M 12 1113 x0).bind fun v1 =>
    (aI M v1 x1).bind fun v2 =>
    if v2 ≤ x3 then (some M) else ((gR M 12 1114 x0).bind fun v4 =>
    (gR M 12 1114 x0).bind fun v5 =>
    (aI M v5 (((9 * x1) + x3) + x2)).bind fun v6 =>
    (wI M v4 ((9 * x1) + x3) v6).bind fun M7 =>
    f_X11_drop_L49 (f_X11_drop_L12 fu) 1000 M7 x0 x1 x2 x3 ((9 * x1) + x3) 0)

def f_X11_drop (M : Mm) (a0 : Nat) (a1 : Int32) (a2 : Int32) : Option Mm :=
if mK M a0 = 12 then ((gR M 12 1113 a0).bind fun v1 =>
(aI M v1 a1).bind fun v2 =>
(wI M v1 a1 (v2 - a2)).bind fun M3 =>
f_X11_drop_L12 1000 M3 a0 a1 a2 0) else none


def f_X11_refer_L22 : Nat → Mm → Nat → Int32 → Int32 → Int32 → Option Mm
  | 0, _, _, _, _, _ => none
  | fu + 1, M, x0, x1, x3, x4 =>
    (gI M 12 1101 x0).bind fun v1 =>
    if v1 ≤ x4 then ((gR M 12 1113 x0).bind fun v3 =>
    (aI M v3 x1).bind fun v4 =>
    (wI M v3 x1 (v4 + 1)).bind fun M5 =>
    (gR M5 12 1113 x0).bind fun v6 =>
    (aI M5 v6 x1).bind fun v7 =>
    (gI M5 12 1107 x0).bind fun v8 =>
    if v7 ≤ v8 then (some M5) else ((f_X11_drop M5 x0 x1 1).bind fun M11 =>
    some M11)) else ((gR M 12 1115 x0).bind fun v12 =>
    (gR M 12 1108 x0).bind fun v13 =>
    (aJ M v13 x4).bind fun v14 =>
    (wJ M v12 ((8 * x3) + x4) v14).bind fun M15 =>
    f_X11_refer_L22 fu M15 x0 x1 x3 (x4 + 1))

def f_X11_refer (M : Mm) (a0 : Nat) (a1 : Int32) (a2 : Int32) : Option Mm :=
if mK M a0 = 12 then ((gR M 12 1113 a0).bind fun v1 =>
(aI M v1 a1).bind fun v2 =>
(gR M 12 1114 a0).bind fun v3 =>
(wI M v3 ((9 * a1) + v2) a2).bind fun M4 =>
f_X11_refer_L22 1000 M4 a0 a1 ((9 * a1) + v2) 0) else none


def f_X11_send_J184 (M : Mm) (x0 : Nat) (x1 : Int32) (x3 : Int32) (s0 : Int32) : Option (Mm × Int32) :=
(f_X11_refer M x0 x1 x3).bind fun M2 =>
some (M2, s0)

def f_X11_send_J148 (M : Mm) (x0 : Nat) (x1 : Int32) (x3 : Int32) (x4 : Int32) (s0 : Int32) : Option (Mm × Int32) :=
if s0 = 0 then (if x4 = 0 then (ob2 (f_X11_sendPart M x0 x1 x3) fun M4 v5 =>
f_X11_send_J184 M4 x0 x1 x3 v5) else (ob2 (f_X11_sendShort M x0 x1 x3) fun M7 v8 =>
f_X11_send_J184 M7 x0 x1 x3 v8)) else (ob2 (f_X11_sendWhole M x0 x1 x3) fun M10 v11 =>
f_X11_send_J184 M10 x0 x1 x3 v11)

def f_X11_send_J143 (M : Mm) (x0 : Nat) (x1 : Int32) (x3 : Int32) (x4 : Int32) : Option (Mm × Int32) :=
f_X11_send_J148 M x0 x1 x3 x4 1

def f_X11_send_J113 (k72 : Mm → Nat → Int32 → Int32 → Int32 → Int32 → Int32 → Option (Mm × Int32)) (M : Mm) (x0 : Nat) (x1 : Int32) (x2 : Int32) (x3 : Int32) (x5 : Int32) (s0 : Int32) : Option (Mm × Int32) :=
k72 M x0 x1 x2 x3 s0 (x5 + 1)

def f_X11_send_J112 (k72 : Mm → Nat → Int32 → Int32 → Int32 → Int32 → Int32 → Option (Mm × Int32)) (M : Mm) (x0 : Nat) (x1 : Int32) (x2 : Int32) (x3 : Int32) (x5 : Int32) : Option (Mm × Int32) :=
f_X11_send_J113 k72 M x0 x1 x2 x3 x5 0

def f_X11_send_J108 (k72 : Mm → Nat → Int32 → Int32 → Int32 → Int32 → Int32 → Option (Mm × Int32)) (M : Mm) (x0 : Nat) (x1 : Int32) (x2 : Int32) (x3 : Int32) (x5 : Int32) : Option (Mm × Int32) :=
f_X11_send_J113 k72 M x0 x1 x2 x3 x5 1

def f_X11_send_L72 : Nat → Mm → Nat → Int32 → Int32 → Int32 → Int32 → Int32 → Option (Mm × Int32)
  | 0, _, _, _, _, _, _, _ => none
  | fu + 1, M, x0, x1, x2, x3, x4, x5 =>
    (gI M 12 1101 x0).bind fun v1 =>
    if v1 ≤ x5 then (if x2 = 0 then ((gR M 12 1112 x0).bind fun v4 =>
    (aZ M v4 x1).bind fun v5 =>
    if v5 = 0 then ((gR M 12 1113 x0).bind fun v7 =>
    (aI M v7 x1).bind fun v8 =>
    if v8 = 0 then (f_X11_send_J143 M x0 x1 x3 x4) else (f_X11_send_J148 M x0 x1 x3 x4 0)) else (f_X11_send_J143 M x0 x1 x3 x4)) else (f_X11_send_J143 M x0 x1 x3 x4)) else (if x4 = 0 then (f_X11_send_J112 (f_X11_send_L72 fu) M x0 x1 x2 x3 x5) else ((gR M 12 1102 x0).bind fun v11 =>
    (aI M v11 x5).bind fun v12 =>
    if 1 < v12 then (f_X11_send_J108 (f_X11_send_L72 fu) M x0 x1 x2 x3 x5) else ((f_X11_giveAll M x0 x1 x5 x3).bind fun v15 =>
    if v15 = 0 then (f_X11_send_J112 (f_X11_send_L72 fu) M x0 x1 x2 x3 x5) else (f_X11_send_J108 (f_X11_send_L72 fu) M x0 x1 x2 x3 x5))))

def f_X11_send_J31 (M : Mm) (x0 : Nat) : Option (Mm × Int32) :=
(gI M 12 1116 x0).bind fun v1 =>
if v1 = 200 then (some (M, (-2))) else (some (M, (-3)))

def f_X11_send (M : Mm) (a0 : Nat) (a1 : Int32) (a2 : Int32) : Option (Mm × Int32) :=
if mK M a0 = 12 then ((pI M 12 1100 a0 0).bind fun M1 =>
(f_X11_isFlow a1).bind fun v3 =>
if v3 = 0 then (some (M1, (-1))) else ((gI M1 12 1116 a0).bind fun v5 =>
if v5 = 200 then (f_X11_send_J31 M1 a0) else ((gI M1 12 1101 a0).bind fun v7 =>
if v7 = 0 then (f_X11_send_J31 M1 a0) else ((gR M1 12 1109 a0).bind fun v9 =>
(aI M1 v9 a1).bind fun v10 =>
(gR M1 12 1109 a0).bind fun v11 =>
(aI M1 v11 a1).bind fun v12 =>
(wI M1 v11 a1 (v12 + 1)).bind fun M13 =>
f_X11_send_L72 1000 M13 a0 a1 a2 v10 1 0)))) else none


def f_X11_ack (M : Mm) (a0 : Nat) (a1 : Int32) : Option (Mm × Int32) :=
if mK M a0 = 12 then ((pI M 12 1100 a0 0).bind fun M1 =>
(f_X11_isFlow a1).bind fun v3 =>
if v3 = 0 then (some (M1, (-1))) else ((gI M1 12 1116 a0).bind fun v5 =>
if v5 = 200 then (some (M1, (-2))) else ((gR M1 12 1130 a0).bind fun v7 =>
(aZ M1 v7 a1).bind fun v8 =>
if v8 = 0 then (some (M1, (-3))) else ((gR M1 12 1131 a0).bind fun v10 =>
(aI M1 v10 a1).bind fun v11 =>
(f_X11_head M1 a0 3 a1 v11).bind fun M13 =>
(gR M13 12 1131 a0).bind fun v14 =>
(aI M13 v14 a1).bind fun v15 =>
ob2 (f_X11_laid M13 a0 3 a1 v15 1) fun M17 v18 =>
some (M17, v18))))) else none


def f_X11_nack_J63 (M : Mm) (x0 : Nat) (x1 : Int32) (x2 : Int32) (s0 : Int32) : Option (Mm × Int32) :=
(f_X11_head M x0 x2 x1 s0).bind fun M2 =>
ob2 (f_X11_laid M2 x0 x2 x1 s0 1) fun M4 v5 =>
some (M4, v5)

def f_X11_nack_J41 (M : Mm) (x0 : Nat) (x1 : Int32) (s0 : Int32) : Option (Mm × Int32) :=
(gR M 12 1130 x0).bind fun v1 =>
(aZ M v1 x1).bind fun v2 =>
if v2 = 0 then (f_X11_nack_J63 M x0 x1 s0 0) else ((gR M 12 1131 x0).bind fun v4 =>
(aI M v4 x1).bind fun v5 =>
f_X11_nack_J63 M x0 x1 s0 (v5 + 1))

def f_X11_nack (M : Mm) (a0 : Nat) (a1 : Int32) : Option (Mm × Int32) :=
if mK M a0 = 12 then ((pI M 12 1100 a0 0).bind fun M1 =>
(f_X11_isFlow a1).bind fun v3 =>
if v3 = 0 then (some (M1, (-1))) else ((gI M1 12 1116 a0).bind fun v5 =>
if v5 = 200 then (some (M1, (-2))) else ((gR M1 12 1130 a0).bind fun v7 =>
(aZ M1 v7 a1).bind fun v8 =>
if v8 = 0 then (f_X11_nack_J41 M1 a0 a1 5) else (f_X11_nack_J41 M1 a0 a1 4)))) else none


def f_X11_take_L5 : Nat → Mm → Nat → Int32 → Int32 → Int64 → Int32 → Option (Mm × Int64)
  | 0, _, _, _, _, _, _ => none
  | fu + 1, M, x0, x1, x2, x3, x5 =>
    if x2 ≤ x5 then (some (M, x3)) else ((gI M 12 1143 x0).bind fun v2 =>
    (gI M 12 1144 x0).bind fun v3 =>
    if v2 < v3 then ((gR M 12 1118 x0).bind fun v5 =>
    (gI M 12 1143 x0).bind fun v6 =>
    (aI M v5 ((64 * x1) + (v6 / 8))).bind fun v7 =>
    (gI M 12 1143 x0).bind fun v8 =>
    (gI M 12 1143 x0).bind fun v9 =>
    (pI M 12 1143 x0 (v9 + 1)).bind fun M10 =>
    f_X11_take_L5 fu M10 x0 x1 x2 ((2 * x3) + (((v7 >>> ((7 - (v8 - v8 / 8 * 8)) &&& 31)) &&& 1).toInt64)) (x5 + 1)) else ((pZ M 12 1145 x0 1).bind fun M11 =>
    some (M11, 0)))

def f_X11_take (M : Mm) (a0 : Nat) (a1 : Int32) (a2 : Int32) : Option (Mm × Int64) :=
if mK M a0 = 12 then (f_X11_take_L5 1000 M a0 a1 a2 0 0) else none


def f_X11_takeEnd_J101 (M : Mm) (x0 : Nat) (x1 : Int32) (x3 : Int32) : Option Mm :=
(gI M 12 1145 x0).bind fun v1 =>
if v1 = 0 then ((gR M 12 1117 x0).bind fun v4 =>
(aI M v4 x1).bind fun v5 =>
if x3 = v5 then ((pZ M 12 1145 x0 0).bind fun M7 =>
some M7) else ((pZ M 12 1145 x0 1).bind fun M8 =>
some M8)) else ((pZ M 12 1145 x0 1).bind fun M3 =>
some M3)

def f_X11_takeEnd_J95 (M : Mm) (x0 : Nat) (x1 : Int32) (x3 : Int32) (s0 : Nat) (s1 : Int32) : Option Mm :=
(pZ M 12 1145 s0 s1).bind fun M1 =>
f_X11_takeEnd_J101 M1 x0 x1 (x3 + 1)

def f_X11_takeEnd_J90 (M : Mm) (x0 : Nat) (x1 : Int32) (x3 : Int32) (s0 : Nat) : Option Mm :=
f_X11_takeEnd_J95 M x0 x1 x3 s0 1

def f_X11_takeEnd_J40 (M : Mm) (x0 : Nat) (x1 : Int32) (x2 : Int32) : Option Mm :=
(gI M 12 1143 x0).bind fun v1 =>
if x2 = 0 then (f_X11_takeEnd_J101 M x0 x1 (v1 / 8)) else ((gI M 12 1145 x0).bind fun v3 =>
if v3 = 0 then ((gR M 12 1117 x0).bind fun v5 =>
(aI M v5 x1).bind fun v6 =>
if v6 ≤ (v1 / 8) then (f_X11_takeEnd_J90 M x0 x1 (v1 / 8) x0) else ((gR M 12 1118 x0).bind fun v8 =>
(aI M v8 ((64 * x1) + (v1 / 8))).bind fun v9 =>
(f_X11_checkOf M x0 x1 (v1 / 8)).bind fun v11 =>
if v9 = v11 then (f_X11_takeEnd_J95 M x0 x1 (v1 / 8) x0 0) else (f_X11_takeEnd_J90 M x0 x1 (v1 / 8) x0))) else (f_X11_takeEnd_J101 M x0 x1 (v1 / 8)))

def f_X11_takeEnd_J34 (k0 : Mm → Nat → Int32 → Int32 → Option Mm) (M : Mm) (x0 : Nat) (x1 : Int32) (x2 : Int32) (s0 : Nat) (s1 : Int32) : Option Mm :=
(pZ M 12 1145 s0 s1).bind fun M1 =>
k0 M1 x0 x1 x2

def f_X11_takeEnd_L0 : Nat → Mm → Nat → Int32 → Int32 → Option Mm
  | 0, _, _, _, _ => none
  | fu + 1, M, x0, x1, x2 =>
    (gI M 12 1145 x0).bind fun v1 =>
    if v1 = 0 then ((gI M 12 1143 x0).bind fun v3 =>
    if (v3 - v3 / 8 * 8) = 0 then (f_X11_takeEnd_J40 M x0 x1 x2) else (ob2 (f_X11_take M x0 x1 1) fun M6 v7 =>
    if (lg_cmp v7 0) = 0 then (f_X11_takeEnd_J34 (f_X11_takeEnd_L0 fu) M6 x0 x1 x2 x0 0) else (f_X11_takeEnd_J34 (f_X11_takeEnd_L0 fu) M6 x0 x1 x2 x0 1))) else (f_X11_takeEnd_J40 M x0 x1 x2)

def f_X11_takeEnd (M : Mm) (a0 : Nat) (a1 : Int32) (a2 : Int32) : Option Mm :=
if mK M a0 = 12 then (f_X11_takeEnd_L0 1000 M a0 a1 a2) else none


def f_X11_takeFields_J281 (M : Mm) (s0 : Nat) (s1 : Int32) (s2 : Int32) : Option Mm :=
(f_X11_takeEnd M s0 s1 s2).bind fun M2 =>
some M2

def f_X11_takeFields_J267 (M : Mm) (x0 : Nat) (x1 : Int32) (x2 : Int32) (s0 : Nat) (s1 : Int64) : Option Mm :=
(pJ M 12 1151 s0 s1).bind fun M1 =>
if x2 = 0 then (f_X11_takeFields_J281 M1 x0 x1 1) else (f_X11_takeFields_J281 M1 x0 x1 0)

def f_X11_takeFields_J251 (M : Mm) (x0 : Nat) (x1 : Int32) (x2 : Int32) : Option Mm :=
if x2 = 0 then (f_X11_takeFields_J267 M x0 x1 x2 x0 0) else (ob2 (f_X11_take M x0 x1 8) fun M3 v4 =>
f_X11_takeFields_J267 M3 x0 x1 x2 x0 v4)

def f_X11_takeFields_J245 (k13 : Mm → Nat → Int32 → Int32 → Int32 → Option Mm) (M : Mm) (x0 : Nat) (x1 : Int32) (x2 : Int32) (x3 : Int32) : Option Mm :=
k13 M x0 x1 x2 (x3 + 1)

def f_X11_takeFields_J219 (k13 : Mm → Nat → Int32 → Int32 → Int32 → Option Mm) (M : Mm) (x0 : Nat) (x1 : Int32) (x2 : Int32) (x3 : Int32) : Option Mm :=
if x2 = 0 then ((f_X11_runs M x0 x3).bind fun v3 =>
if v3 = 0 then (f_X11_takeFields_J245 k13 M x0 x1 x2 x3) else ((gR M 12 1149 x0).bind fun v5 =>
ob2 (f_X11_take M x0 x1 8) fun M7 v8 =>
(wI M7 v5 x3 v8.toInt32).bind fun M9 =>
f_X11_takeFields_J245 k13 M9 x0 x1 x2 x3)) else (f_X11_takeFields_J245 k13 M x0 x1 x2 x3)

def f_X11_takeFields_J215 (k13 : Mm → Nat → Int32 → Int32 → Int32 → Option Mm) (M : Mm) (x0 : Nat) (x1 : Int32) (x2 : Int32) (x3 : Int32) (s0 : Nat) (s1 : Int32) (s2 : Nat) (s3 : Int32) (s4 : Int32) : Option Mm :=
ob2 (f_X11_take M s2 s3 s4) fun M2 v3 =>
(wJ M2 s0 s1 v3).bind fun M4 =>
f_X11_takeFields_J219 k13 M4 x0 x1 x2 x3

def f_X11_takeFields_J167 (k13 : Mm → Nat → Int32 → Int32 → Int32 → Option Mm) (M : Mm) (x0 : Nat) (x1 : Int32) (x2 : Int32) (x3 : Int32) : Option Mm :=
(gR M 12 1146 x0).bind fun v1 =>
(aI M v1 x3).bind fun v2 =>
if v2 ≤ 0 then (f_X11_takeFields_J219 k13 M x0 x1 x2 x3) else ((gI M 12 1145 x0).bind fun v4 =>
if v4 = 0 then ((gR M 12 1148 x0).bind fun v6 =>
(gR M 12 1146 x0).bind fun v7 =>
(aI M v7 x3).bind fun v8 =>
if v8 = 2 then ((gR M 12 1103 x0).bind fun v12 =>
(aI M v12 x3).bind fun v13 =>
f_X11_takeFields_J215 k13 M x0 x1 x2 x3 v6 x3 x0 x1 v13) else ((gR M 12 1147 x0).bind fun v10 =>
(aI M v10 x3).bind fun v11 =>
f_X11_takeFields_J215 k13 M x0 x1 x2 x3 v6 x3 x0 x1 v11)) else (f_X11_takeFields_J219 k13 M x0 x1 x2 x3))

def f_X11_takeFields_J164 (k13 : Mm → Nat → Int32 → Int32 → Int32 → Option Mm) (M : Mm) (x0 : Nat) (x1 : Int32) (x2 : Int32) (x3 : Int32) (s0 : Nat) (s1 : Int32) : Option Mm :=
(pZ M 12 1145 s0 s1).bind fun M1 =>
f_X11_takeFields_J167 k13 M1 x0 x1 x2 x3

def f_X11_takeFields_J159 (k13 : Mm → Nat → Int32 → Int32 → Int32 → Option Mm) (M : Mm) (x0 : Nat) (x1 : Int32) (x2 : Int32) (x3 : Int32) (s0 : Nat) : Option Mm :=
f_X11_takeFields_J164 k13 M x0 x1 x2 x3 s0 1

def f_X11_takeFields_J111 (k13 : Mm → Nat → Int32 → Int32 → Int32 → Option Mm) (M : Mm) (x0 : Nat) (x1 : Int32) (x2 : Int32) (x3 : Int32) (s0 : Nat) (s1 : Int32) (s2 : Int32) : Option Mm :=
(wI M s0 s1 s2).bind fun M1 =>
(gR M1 12 1146 x0).bind fun v2 =>
(aI M1 v2 x3).bind fun v3 =>
if v3 = 1 then ((gR M1 12 1147 x0).bind fun v5 =>
ob2 (f_X11_take M1 x0 x1 6) fun M7 v8 =>
(wI M7 v5 x3 v8.toInt32).bind fun M9 =>
(gI M9 12 1145 x0).bind fun v10 =>
if v10 = 0 then ((gR M9 12 1147 x0).bind fun v12 =>
(aI M9 v12 x3).bind fun v13 =>
(gR M9 12 1103 x0).bind fun v14 =>
(aI M9 v14 x3).bind fun v15 =>
if v13 ≤ v15 then (f_X11_takeFields_J164 k13 M9 x0 x1 x2 x3 x0 0) else (f_X11_takeFields_J159 k13 M9 x0 x1 x2 x3 x0)) else (f_X11_takeFields_J159 k13 M9 x0 x1 x2 x3 x0)) else (f_X11_takeFields_J167 k13 M1 x0 x1 x2 x3)

def f_X11_takeFields_J110 (k13 : Mm → Nat → Int32 → Int32 → Int32 → Option Mm) (M : Mm) (x0 : Nat) (x1 : Int32) (x2 : Int32) (x3 : Int32) (s0 : Nat) (s1 : Int32) : Option Mm :=
f_X11_takeFields_J111 k13 M x0 x1 x2 x3 s0 s1 0

def f_X11_takeFields_J77 (k13 : Mm → Nat → Int32 → Int32 → Int32 → Option Mm) (M : Mm) (x0 : Nat) (x1 : Int32) (x2 : Int32) (x3 : Int32) (s0 : Int32) : Option Mm :=
(gR M 12 1146 x0).bind fun v1 =>
if s0 = 0 then (if x2 = 2 then ((f_X11_runs M x0 x3).bind fun v5 =>
if v5 = 0 then (f_X11_takeFields_J110 k13 M x0 x1 x2 x3 v1 x3) else (f_X11_takeFields_J111 k13 M x0 x1 x2 x3 v1 x3 1)) else (f_X11_takeFields_J110 k13 M x0 x1 x2 x3 v1 x3)) else (f_X11_takeFields_J111 k13 M x0 x1 x2 x3 v1 x3 2)

def f_X11_takeFields_J76 (k13 : Mm → Nat → Int32 → Int32 → Int32 → Option Mm) (M : Mm) (x0 : Nat) (x1 : Int32) (x2 : Int32) (x3 : Int32) : Option Mm :=
f_X11_takeFields_J77 k13 M x0 x1 x2 x3 0

def f_X11_takeFields_J72 (k13 : Mm → Nat → Int32 → Int32 → Int32 → Option Mm) (M : Mm) (x0 : Nat) (x1 : Int32) (x2 : Int32) (x3 : Int32) : Option Mm :=
f_X11_takeFields_J77 k13 M x0 x1 x2 x3 1

def f_X11_takeFields_L13 : Nat → Mm → Nat → Int32 → Int32 → Int32 → Option Mm
  | 0, _, _, _, _, _ => none
  | fu + 1, M, x0, x1, x2, x3 =>
    (gI M 12 1101 x0).bind fun v1 =>
    if v1 ≤ x3 then (f_X11_takeFields_J251 M x0 x1 x2) else ((gI M 12 1145 x0).bind fun v3 =>
    if v3 = 0 then ((gR M 12 1149 x0).bind fun v5 =>
    (wI M v5 x3 1).bind fun M6 =>
    (gR M6 12 1147 x0).bind fun v7 =>
    (wI M6 v7 x3 0).bind fun M8 =>
    if x2 = 0 then (f_X11_takeFields_J72 (f_X11_takeFields_L13 fu) M8 x0 x1 x2 x3) else ((gR M8 12 1102 x0).bind fun v10 =>
    (aI M8 v10 x3).bind fun v11 =>
    if v11 = 4 then (f_X11_takeFields_J72 (f_X11_takeFields_L13 fu) M8 x0 x1 x2 x3) else (if x2 = 1 then (ob2 (f_X11_take M8 x0 x1 1) fun M15 v16 =>
    if (lg_cmp v16 1) = 0 then (f_X11_takeFields_J72 (f_X11_takeFields_L13 fu) M15 x0 x1 x2 x3) else (f_X11_takeFields_J76 (f_X11_takeFields_L13 fu) M15 x0 x1 x2 x3)) else (f_X11_takeFields_J76 (f_X11_takeFields_L13 fu) M8 x0 x1 x2 x3)))) else (f_X11_takeFields_J251 M x0 x1 x2))

def f_X11_takeFields (M : Mm) (a0 : Nat) (a1 : Int32) (a2 : Int32) : Option Mm :=
if mK M a0 = 12 then (ob2 (f_X11_take M a0 a1 4) fun M2 v3 =>
(pI M2 12 1150 a0 v3.toInt32).bind fun M4 =>
f_X11_takeFields_L13 1000 M4 a0 a1 a2 0) else none


def f_X11_found (M : Mm) (a0 : Nat) (a1 : Int32) (a2 : Int64) (a4 : Int32) (a5 : Int64) : Option Int64 :=
if mK M a0 = 12 then (if a4 = 0 then (some a2) else ((f_X11_cut M a0 a1 (a2 - ((1 : Int64) <<< ((a4 - 1).toInt64 &&& 63)))).bind fun v3 =>
(f_X11_cut M a0 a1 (v3 + ((a5 - v3) &&& (((1 : Int64) <<< (a4.toInt64 &&& 63)) - 1)))).bind fun v5 =>
some v5)) else none


def f_X11_open_J141 (k2 : Mm → Nat → Int32 → Int32 → Int32 → Option Mm) (M : Mm) (x0 : Nat) (x1 : Int32) (x2 : Int32) (x3 : Int32) (s0 : Nat) (s1 : Int32) (s2 : Int64) : Option Mm :=
(wJ M s0 s1 s2).bind fun M1 =>
k2 M1 x0 x1 x2 (x3 + 1)

def f_X11_open_J81 (k2 : Mm → Nat → Int32 → Int32 → Int32 → Option Mm) (M : Mm) (x0 : Nat) (x1 : Int32) (x2 : Int32) (x3 : Int32) (s0 : Int64) : Option Mm :=
(gR M 12 1152 x0).bind fun v1 =>
(gR M 12 1146 x0).bind fun v2 =>
(aI M v2 x3).bind fun v3 =>
if v3 = 2 then ((gR M 12 1148 x0).bind fun v14 =>
(aJ M v14 x3).bind fun v15 =>
f_X11_open_J141 k2 M x0 x1 x2 x3 v1 x3 v15) else ((gR M 12 1146 x0).bind fun v5 =>
(aI M v5 x3).bind fun v6 =>
if v6 = 1 then ((gR M 12 1147 x0).bind fun v8 =>
(aI M v8 x3).bind fun v9 =>
(gR M 12 1148 x0).bind fun v10 =>
(aJ M v10 x3).bind fun v11 =>
(f_X11_found M x0 x3 s0 v9 v11).bind fun v13 =>
f_X11_open_J141 k2 M x0 x1 x2 x3 v1 x3 v13) else (f_X11_open_J141 k2 M x0 x1 x2 x3 v1 x3 s0))

def f_X11_open_L2 : Nat → Mm → Nat → Int32 → Int32 → Int32 → Option Mm
  | 0, _, _, _, _, _ => none
  | fu + 1, M, x0, x1, x2, x3 =>
    (gI M 12 1101 x0).bind fun v1 =>
    if v1 ≤ x3 then (some M) else ((gR M 12 1102 x0).bind fun v3 =>
    (aI M v3 x3).bind fun v4 =>
    if v4 = 1 then ((gR M 12 1152 x0).bind fun v14 =>
    (gR M 12 1104 x0).bind fun v15 =>
    (aI M v15 x3).bind fun v16 =>
    (aJ M v14 v16).bind fun v17 =>
    (gR M 12 1105 x0).bind fun v18 =>
    (aJ M v18 x3).bind fun v19 =>
    (f_X11_cut M x0 x3 (v17 + v19)).bind fun v21 =>
    f_X11_open_J81 (f_X11_open_L2 fu) M x0 x1 x2 x3 v21) else ((gR M 12 1134 x0).bind fun v6 =>
    (aJ M v6 ((8 * x1) + x3)).bind fun v7 =>
    (gR M 12 1131 x0).bind fun v8 =>
    (aI M v8 x1).bind fun v9 =>
    (gR M 12 1133 x0).bind fun v10 =>
    (aI M v10 ((8 * x1) + x3)).bind fun v11 =>
    (f_X11_onwards M x0 x3 v7 (x2 - v9) v11).bind fun v13 =>
    f_X11_open_J81 (f_X11_open_L2 fu) M x0 x1 x2 x3 v13))

def f_X11_open (M : Mm) (a0 : Nat) (a1 : Int32) (a2 : Int32) : Option Mm :=
if mK M a0 = 12 then (f_X11_open_L2 1000 M a0 a1 a2 0) else none


def f_X11_isUnlike_L5 (M : Mm) : Nat → Nat → Int32 → Int32 → Option Int32
  | 0, _, _, _ => none
  | fu + 1, x0, x1, x2 =>
    (gI M 12 1101 x0).bind fun v1 =>
    if v1 ≤ x2 then ((gJ M 12 1151 x0).bind fun v3 =>
    if (lg_cmp x1.toInt64 v3) = 0 then (some 0) else (some 1)) else ((gR M 12 1152 x0).bind fun v5 =>
    (aJ M v5 x2).bind fun v6 =>
    (f_X11_sumOf M x0 x1.toInt64 v6).bind fun v8 =>
    f_X11_isUnlike_L5 M fu x0 v8 (x2 + 1))

def f_X11_isUnlike (M : Mm) (a0 : Nat) : Option Int32 :=
if mK M a0 = 12 then (f_X11_isUnlike_L5 M 1000 a0 17 0) else none


def f_X11_opened_J257 (k164 : Mm → Nat → Int32 → Int32 → Int32 → Option (Mm × Int32)) (M : Mm) (x0 : Nat) (x2 : Int32) (x3 : Int32) (x5 : Int32) (s0 : Nat) (s1 : Int32) (s2 : Int32) : Option (Mm × Int32) :=
(wI M s0 s1 s2).bind fun M1 =>
k164 M1 x0 x2 x3 (x5 + 1)

def f_X11_opened_L164 : Nat → Mm → Nat → Int32 → Int32 → Int32 → Option (Mm × Int32)
  | 0, _, _, _, _, _ => none
  | fu + 1, M, x0, x2, x3, x5 =>
    (gI M 12 1101 x0).bind fun v1 =>
    if v1 ≤ x5 then ((gR M 12 1132 x0).bind fun v3 =>
    (gI M 12 1150 x0).bind fun v4 =>
    (wI M v3 x3 v4).bind fun M5 =>
    some (M5, 0)) else ((gR M 12 1139 x0).bind fun v6 =>
    (gR M 12 1152 x0).bind fun v7 =>
    (aJ M v7 x5).bind fun v8 =>
    (wJ M v6 x5 v8).bind fun M9 =>
    (gR M9 12 1140 x0).bind fun v10 =>
    (gR M9 12 1146 x0).bind fun v11 =>
    (aI M9 v11 x5).bind fun v12 =>
    (wI M9 v10 x5 v12).bind fun M13 =>
    (gR M13 12 1134 x0).bind fun v14 =>
    (gR M13 12 1152 x0).bind fun v15 =>
    (aJ M13 v15 x5).bind fun v16 =>
    (wJ M13 v14 ((8 * x3) + x5) v16).bind fun M17 =>
    (gR M17 12 1133 x0).bind fun v18 =>
    if x2 = 0 then ((gR M17 12 1149 x0).bind fun v22 =>
    (aI M17 v22 x5).bind fun v23 =>
    f_X11_opened_J257 (f_X11_opened_L164 fu) M17 x0 x2 x3 x5 v18 ((8 * x3) + x5) v23) else ((gR M17 12 1133 x0).bind fun v20 =>
    (aI M17 v20 ((8 * x3) + x5)).bind fun v21 =>
    f_X11_opened_J257 (f_X11_opened_L164 fu) M17 x0 x2 x3 x5 v18 ((8 * x3) + x5) v21))

def f_X11_opened_J122 (M : Mm) (x0 : Nat) (x2 : Int32) (x3 : Int32) (x4 : Int32) (s0 : Nat) (s1 : Int32) : Option (Mm × Int32) :=
(pI M 12 1138 s0 s1).bind fun M1 =>
(pI M1 12 1136 x0 x3).bind fun M2 =>
(pI M2 12 1137 x0 x4).bind fun M3 =>
(gI M3 12 1135 x0).bind fun v4 =>
(pI M3 12 1135 x0 (v4 + 1)).bind fun M5 =>
(gR M5 12 1130 x0).bind fun v6 =>
(wZ M5 v6 x3 1).bind fun M7 =>
(gR M7 12 1131 x0).bind fun v8 =>
(wI M7 v8 x3 x4).bind fun M9 =>
f_X11_opened_L164 1000 M9 x0 x2 x3 0

def f_X11_opened_J107 (M : Mm) (x0 : Nat) (x2 : Int32) (x3 : Int32) (x4 : Int32) : Option (Mm × Int32) :=
if x2 ≤ 0 then (f_X11_opened_J122 M x0 x2 x3 x4 x0 (-1)) else ((gR M 12 1131 x0).bind fun v2 =>
(aI M v2 x3).bind fun v3 =>
f_X11_opened_J122 M x0 x2 x3 x4 x0 v3)

def f_X11_opened_J87 (M : Mm) (x0 : Nat) (x2 : Int32) (x3 : Int32) (x4 : Int32) : Option (Mm × Int32) :=
(f_X11_open M x0 x3 x4).bind fun M2 =>
if x2 ≤ 0 then (f_X11_opened_J107 M2 x0 x2 x3 x4) else ((f_X11_isUnlike M2 x0).bind fun v5 =>
if v5 = 0 then (f_X11_opened_J107 M2 x0 x2 x3 x4) else (some (M2, 4)))

def f_X11_opened_J65 (M : Mm) (x0 : Nat) (x2 : Int32) (x3 : Int32) (x4 : Int32) : Option (Mm × Int32) :=
if x2 ≤ 0 then (f_X11_opened_J87 M x0 x2 x3 x4) else ((gR M 12 1131 x0).bind fun v2 =>
(aI M v2 x3).bind fun v3 =>
(gI M 12 1107 x0).bind fun v4 =>
if x4 ≤ (v3 + v4) then (f_X11_opened_J87 M x0 x2 x3 x4) else (some (M, 2)))

def f_X11_opened_J43 (M : Mm) (x0 : Nat) (x2 : Int32) (x3 : Int32) (x4 : Int32) : Option (Mm × Int32) :=
(gR M 12 1130 x0).bind fun v1 =>
(aZ M v1 x3).bind fun v2 =>
if v2 = 0 then (f_X11_opened_J65 M x0 x2 x3 x4) else ((gR M 12 1131 x0).bind fun v4 =>
(aI M v4 x3).bind fun v5 =>
if v5 < x4 then (f_X11_opened_J65 M x0 x2 x3 x4) else (some (M, 1)))

def f_X11_opened (M : Mm) (a0 : Nat) (a1 : Int32) (a2 : Int32) (a3 : Int32) (a4 : Int32) : Option (Mm × Int32) :=
if mK M a0 = 12 then ((f_X11_takeFields M a0 a1 a2).bind fun M2 =>
(gI M2 12 1145 a0).bind fun v3 =>
if v3 = 0 then (if a2 ≤ 0 then (f_X11_opened_J43 M2 a0 a2 a3 a4) else ((gR M2 12 1130 a0).bind fun v6 =>
(aZ M2 v6 a3).bind fun v7 =>
if v7 = 0 then (some (M2, 3)) else ((gR M2 12 1132 a0).bind fun v9 =>
(aI M2 v9 a3).bind fun v10 =>
(gI M2 12 1150 a0).bind fun v11 =>
if v10 = v11 then (f_X11_opened_J43 M2 a0 a2 a3 a4) else (some (M2, 3))))) else (some (M2, 5))) else none


def f_X11_answered_L51 : Nat → Mm → Nat → Int32 → Int32 → Int32 → Option (Mm × Int32)
  | 0, _, _, _, _, _ => none
  | fu + 1, M, x0, x3, x4, x5 =>
    (gR M 12 1113 x0).bind fun v1 =>
    (aI M v1 x3).bind fun v2 =>
    if v2 ≤ x5 then (some (M, 7)) else ((gR M 12 1114 x0).bind fun v4 =>
    (aI M v4 ((9 * x3) + x5)).bind fun v5 =>
    if (v5 - v5 / 65536 * 65536) = x4 then ((f_X11_drop M x0 x3 x5).bind fun M8 =>
    some (M8, 6)) else (f_X11_answered_L51 fu M x0 x3 x4 (x5 + 1)))

def f_X11_answered_J36 (M : Mm) (x0 : Nat) (x3 : Int32) (s0 : Int32) : Option (Mm × Int32) :=
(gR M 12 1112 x0).bind fun v1 =>
(wZ M v1 x3 1).bind fun M2 =>
some (M2, s0)

def f_X11_answered (M : Mm) (a0 : Nat) (a1 : Int32) (a2 : Int32) (a3 : Int32) (a4 : Int32) : Option (Mm × Int32) :=
if mK M a0 = 12 then ((f_X11_takeEnd M a0 a1 1).bind fun M2 =>
(gI M2 12 1145 a0).bind fun v3 =>
if v3 = 0 then (if a2 ≤ 3 then (f_X11_answered_L51 1000 M2 a0 a3 a4 0) else ((gR M2 12 1112 a0).bind fun v6 =>
(aZ M2 v6 a3).bind fun v7 =>
if v7 = 0 then (f_X11_answered_J36 M2 a0 a3 6) else (f_X11_answered_J36 M2 a0 a3 7))) else (some (M2, 5))) else none


def f_X11_isUnderWay (M : Mm) (a0 : Nat) (a1 : Int32) : Option Int32 :=
if mK M a0 = 12 then (if a1 < 0 then (some 0) else ((gI M 12 1116 a0).bind fun v2 =>
if v2 ≤ a1 then (some 0) else ((gR M 12 1124 a0).bind fun v4 =>
(aZ M v4 a1).bind fun v5 =>
if v5 = 0 then (some 1) else (some 0)))) else none


def f_X11_deliver (M : Mm) (a0 : Nat) (a1 : Int32) : Option (Mm × Int32) :=
if mK M a0 = 12 then ((pI M 12 1100 a0 0).bind fun M1 =>
(f_X11_isUnderWay M1 a0 a1).bind fun v3 =>
if v3 = 0 then (some (M1, (-1))) else ((pI M1 12 1143 a0 0).bind fun M5 =>
(gR M5 12 1117 a0).bind fun v6 =>
(aI M5 v6 a1).bind fun v7 =>
(pI M5 12 1144 a0 (8 * v7)).bind fun M8 =>
(pZ M8 12 1145 a0 0).bind fun M9 =>
ob2 (f_X11_take M9 a0 a1 3) fun M11 v12 =>
ob2 (f_X11_take M11 a0 a1 3) fun M14 v15 =>
ob2 (f_X11_take M14 a0 a1 16) fun M17 v18 =>
(gR M17 12 1123 a0).bind fun v19 =>
if v12.toInt32 ≤ 5 then (if v12.toInt32 ≤ 2 then (ob2 (f_X11_opened M17 a0 a1 v12.toInt32 v15.toInt32 v18.toInt32) fun M23 v24 =>
(wI M23 v19 a1 v24).bind fun M25 =>
(gR M25 12 1123 a0).bind fun v26 =>
(aI M25 v26 a1).bind fun v27 =>
some (M25, v27)) else (ob2 (f_X11_answered M17 a0 a1 v12.toInt32 v15.toInt32 v18.toInt32) fun M29 v30 =>
(wI M29 v19 a1 v30).bind fun M31 =>
(gR M31 12 1123 a0).bind fun v32 =>
(aI M31 v32 a1).bind fun v33 =>
some (M31, v33))) else ((wI M17 v19 a1 5).bind fun M34 =>
(gR M34 12 1123 a0).bind fun v35 =>
(aI M34 v35 a1).bind fun v36 =>
some (M34, v36)))) else none


def f_X11_lose (M : Mm) (a0 : Nat) (a1 : Int32) : Option (Mm × Int32) :=
if mK M a0 = 12 then ((pI M 12 1100 a0 0).bind fun M1 =>
(f_X11_isUnderWay M1 a0 a1).bind fun v3 =>
if v3 = 0 then (some (M1, (-1))) else ((gR M1 12 1124 a0).bind fun v5 =>
(wZ M1 v5 a1 1).bind fun M6 =>
some (M6, 0))) else none


def f_X11_twice_L116 : Nat → Mm → Nat → Int32 → Int32 → Int32 → Option (Mm × Int32)
  | 0, _, _, _, _, _ => none
  | fu + 1, M, x0, x1, x2, x3 =>
    (gR M 12 1117 x0).bind fun v1 =>
    (aI M v1 x1).bind fun v2 =>
    if v2 ≤ x3 then ((gI M 12 1116 x0).bind fun v4 =>
    (pI M 12 1116 x0 (v4 + 1)).bind fun M5 =>
    some (M5, x2)) else ((gR M 12 1118 x0).bind fun v6 =>
    (gR M 12 1118 x0).bind fun v7 =>
    (aI M v7 ((64 * x1) + x3)).bind fun v8 =>
    (wI M v6 ((64 * x2) + x3) v8).bind fun M9 =>
    f_X11_twice_L116 fu M9 x0 x1 x2 (x3 + 1))

def f_X11_twice (M : Mm) (a0 : Nat) (a1 : Int32) : Option (Mm × Int32) :=
if mK M a0 = 12 then ((pI M 12 1100 a0 0).bind fun M1 =>
(f_X11_isUnderWay M1 a0 a1).bind fun v3 =>
if v3 = 0 then (some (M1, (-1))) else ((gI M1 12 1116 a0).bind fun v5 =>
if v5 = 200 then (some (M1, (-2))) else ((gI M1 12 1116 a0).bind fun v7 =>
(gR M1 12 1119 a0).bind fun v8 =>
(gR M1 12 1119 a0).bind fun v9 =>
(aI M1 v9 a1).bind fun v10 =>
(wI M1 v8 v7 v10).bind fun M11 =>
(gR M11 12 1120 a0).bind fun v12 =>
(gR M11 12 1120 a0).bind fun v13 =>
(aI M11 v13 a1).bind fun v14 =>
(wI M11 v12 v7 v14).bind fun M15 =>
(gR M15 12 1121 a0).bind fun v16 =>
(gR M15 12 1121 a0).bind fun v17 =>
(aI M15 v17 a1).bind fun v18 =>
(wI M15 v16 v7 v18).bind fun M19 =>
(gR M19 12 1122 a0).bind fun v20 =>
(gR M19 12 1122 a0).bind fun v21 =>
(aI M19 v21 a1).bind fun v22 =>
(wI M19 v20 v7 v22).bind fun M23 =>
(gR M23 12 1117 a0).bind fun v24 =>
(gR M23 12 1117 a0).bind fun v25 =>
(aI M23 v25 a1).bind fun v26 =>
(wI M23 v24 v7 v26).bind fun M27 =>
(gR M27 12 1123 a0).bind fun v28 =>
(wI M27 v28 v7 (-1)).bind fun M29 =>
(gR M29 12 1124 a0).bind fun v30 =>
(wZ M29 v30 v7 0).bind fun M31 =>
(gR M31 12 1125 a0).bind fun v32 =>
(wZ M31 v32 v7 1).bind fun M33 =>
f_X11_twice_L116 1000 M33 a0 a1 v7 0))) else none


def f_X11_bend (M : Mm) (a0 : Nat) (a1 : Int32) (a2 : Int32) (a3 : Int32) : Option (Mm × Int32) :=
if mK M a0 = 12 then ((pI M 12 1100 a0 0).bind fun M1 =>
(f_X11_isUnderWay M1 a0 a1).bind fun v3 =>
if v3 = 0 then (some (M1, (-1))) else (if a2 < 0 then (some (M1, (-1))) else ((gR M1 12 1117 a0).bind fun v6 =>
(aI M1 v6 a1).bind fun v7 =>
if v7 ≤ a2 then (some (M1, (-1))) else ((f_X11_isIn a3.toInt64 1 255).bind fun v10 =>
if v10 = 0 then (some (M1, (-1))) else ((gR M1 12 1118 a0).bind fun v12 =>
(aI M1 v12 ((64 * a1) + a2)).bind fun v13 =>
(wI M1 v12 ((64 * a1) + a2) (v13 ^^^ a3)).bind fun M14 =>
(gR M14 12 1118 a0).bind fun v15 =>
(aI M14 v15 ((64 * a1) + a2)).bind fun v16 =>
some (M14, v16)))))) else none


def f_X11_octet (M : Mm) (a0 : Nat) (a1 : Int32) (a2 : Int32) : Option (Mm × Int32) :=
if mK M a0 = 12 then ((pI M 12 1100 a0 0).bind fun M1 =>
if a1 < 0 then (some (M1, (-1))) else ((gI M1 12 1116 a0).bind fun v3 =>
if v3 ≤ a1 then (some (M1, (-1))) else (if a2 < 0 then (some (M1, (-1))) else ((gR M1 12 1117 a0).bind fun v6 =>
(aI M1 v6 a1).bind fun v7 =>
if a2 < v7 then ((gR M1 12 1118 a0).bind fun v9 =>
(aI M1 v9 ((64 * a1) + a2)).bind fun v10 =>
some (M1, v10)) else (some (M1, (-1))))))) else none


def f_X11_look (M : Mm) (a0 : Nat) (a1 : Int32) (a2 : Int32) : Option (Mm × Int32) :=
if mK M a0 = 12 then ((pI M 12 1100 a0 0).bind fun M1 =>
if a1 < 0 then (some (M1, (-1))) else ((gI M1 12 1116 a0).bind fun v3 =>
if a1 < v3 then (if a2 = 0 then ((gR M1 12 1119 a0).bind fun v6 =>
(aI M1 v6 a1).bind fun v7 =>
some (M1, v7)) else (if a2 = 1 then ((gR M1 12 1120 a0).bind fun v9 =>
(aI M1 v9 a1).bind fun v10 =>
some (M1, v10)) else (if a2 = 2 then ((gR M1 12 1121 a0).bind fun v12 =>
(aI M1 v12 a1).bind fun v13 =>
some (M1, v13)) else (if a2 = 3 then ((gR M1 12 1117 a0).bind fun v15 =>
(aI M1 v15 a1).bind fun v16 =>
some (M1, v16)) else (if a2 = 4 then ((gR M1 12 1122 a0).bind fun v18 =>
(aI M1 v18 a1).bind fun v19 =>
some (M1, v19)) else (if a2 = 5 then ((gR M1 12 1123 a0).bind fun v21 =>
(aI M1 v21 a1).bind fun v22 =>
some (M1, v22)) else (if a2 = 6 then ((gR M1 12 1124 a0).bind fun v24 =>
(aZ M1 v24 a1).bind fun v25 =>
if v25 = 0 then (some (M1, 0)) else (some (M1, 1))) else ((some (M1, (-1))))))))))) else (some (M1, (-1))))) else none


def f_X11_prove (M : Mm) (a0 : Nat) (a1 : Int32) (a2 : Int32) (a3 : Int32) : Option (Mm × Int32) :=
if mK M a0 = 12 then ((pI M 12 1100 a0 0).bind fun M1 =>
if a1 < 0 then (some (M1, (-1))) else ((gI M1 12 1116 a0).bind fun v3 =>
if v3 ≤ a1 then (some (M1, (-1))) else ((gR M1 12 1125 a0).bind fun v5 =>
(aZ M1 v5 a1).bind fun v6 =>
if v6 = 0 then ((gR M1 12 1119 a0).bind fun v8 =>
(aI M1 v8 a1).bind fun v9 =>
if v9 = 2 then ((f_X11_isField M1 a0 a2).bind fun v12 =>
if v12 = 0 then (some (M1, (-1))) else ((f_X11_runs M1 a0 a2).bind fun v15 =>
if v15 = 0 then (some (M1, (-1))) else ((f_X11_isIn a3.toInt64 0 3).bind fun v18 =>
if v18 = 0 then (some (M1, (-1))) else (if a3 = 0 then ((gR M1 12 1126 a0).bind fun v29 =>
(aI M1 v29 ((8 * a1) + a2)).bind fun v30 =>
some (M1, v30)) else (if a3 = 1 then ((gR M1 12 1127 a0).bind fun v27 =>
(aI M1 v27 ((8 * a1) + a2)).bind fun v28 =>
some (M1, v28)) else (if a3 = 2 then ((gR M1 12 1128 a0).bind fun v25 =>
(aI M1 v25 a1).bind fun v26 =>
some (M1, v26)) else ((gR M1 12 1129 a0).bind fun v23 =>
(aI M1 v23 a1).bind fun v24 =>
some (M1, v24)))))))) else (some (M1, (-1)))) else (some (M1, (-1)))))) else none


def f_X11_got (M : Mm) (a0 : Nat) (a1 : Int32) : Option (Mm × Int64) :=
if mK M a0 = 12 then ((pI M 12 1100 a0 0).bind fun M1 =>
(f_X11_isField M1 a0 a1).bind fun v3 =>
if v3 = 0 then (some (M1, (-1))) else ((gI M1 12 1135 a0).bind fun v5 =>
if v5 = 0 then (some (M1, (-2))) else ((gR M1 12 1139 a0).bind fun v7 =>
(aJ M1 v7 a1).bind fun v8 =>
some (M1, v8)))) else none


def f_X11_way (M : Mm) (a0 : Nat) (a1 : Int32) : Option (Mm × Int32) :=
if mK M a0 = 12 then ((pI M 12 1100 a0 0).bind fun M1 =>
(f_X11_isField M1 a0 a1).bind fun v3 =>
if v3 = 0 then (some (M1, (-1))) else ((gI M1 12 1135 a0).bind fun v5 =>
if v5 = 0 then (some (M1, (-2))) else ((gR M1 12 1140 a0).bind fun v7 =>
(aI M1 v7 a1).bind fun v8 =>
some (M1, v8)))) else none


def f_X11_hung (M : Mm) (a0 : Nat) (a1 : Int32) : Option (Mm × Int32) :=
if mK M a0 = 12 then ((pI M 12 1100 a0 0).bind fun M1 =>
(f_X11_isIn a1.toInt64 0 3).bind fun v3 =>
if v3 = 0 then (some (M1, (-1))) else (if a1 = 3 then ((gI M1 12 1135 a0).bind fun v13 =>
some (M1, v13)) else ((gI M1 12 1135 a0).bind fun v6 =>
if v6 = 0 then (some (M1, (-2))) else (if a1 = 0 then ((gI M1 12 1136 a0).bind fun v12 =>
some (M1, v12)) else (if a1 = 1 then ((gI M1 12 1137 a0).bind fun v11 =>
some (M1, v11)) else ((gI M1 12 1138 a0).bind fun v10 =>
some (M1, v10))))))) else none


def f_X11_context (M : Mm) (a0 : Nat) (a1 : Int32) (a2 : Int32) : Option (Mm × Int32) :=
if mK M a0 = 12 then ((pI M 12 1100 a0 0).bind fun M1 =>
(f_X11_isFlow a1).bind fun v3 =>
if v3 = 0 then (some (M1, (-1))) else ((f_X11_isIn a2.toInt64 0 2).bind fun v6 =>
if v6 = 0 then (some (M1, (-1))) else (if a2 = 0 then ((gR M1 12 1130 a0).bind fun v17 =>
(aZ M1 v17 a1).bind fun v18 =>
if v18 = 0 then (some (M1, 0)) else (some (M1, 1))) else ((gR M1 12 1130 a0).bind fun v9 =>
(aZ M1 v9 a1).bind fun v10 =>
if v10 = 0 then (some (M1, (-2))) else (if a2 = 1 then ((gR M1 12 1131 a0).bind fun v15 =>
(aI M1 v15 a1).bind fun v16 =>
some (M1, v16)) else ((gR M1 12 1132 a0).bind fun v13 =>
(aI M1 v13 a1).bind fun v14 =>
some (M1, v14))))))) else none


def f_X11_known (M : Mm) (a0 : Nat) (a1 : Int32) (a2 : Int32) (a3 : Int32) : Option (Mm × Int64) :=
if mK M a0 = 12 then ((pI M 12 1100 a0 0).bind fun M1 =>
(f_X11_isFlow a1).bind fun v3 =>
if v3 = 0 then (some (M1, (-1))) else ((f_X11_isField M1 a0 a2).bind fun v6 =>
if v6 = 0 then (some (M1, (-1))) else ((gR M1 12 1130 a0).bind fun v8 =>
(aZ M1 v8 a1).bind fun v9 =>
if v9 = 0 then (some (M1, (-2))) else (if a3 = 0 then ((gR M1 12 1134 a0).bind fun v12 =>
(aJ M1 v12 ((8 * a1) + a2)).bind fun v13 =>
some (M1, v13)) else ((gR M1 12 1133 a0).bind fun v14 =>
(aI M1 v14 ((8 * a1) + a2)).bind fun v15 =>
some (M1, v15.toInt64)))))) else none


def f_X11_squeezer (M : Mm) (a0 : Nat) (a1 : Int32) (a2 : Int32) : Option (Mm × Int32) :=
if mK M a0 = 12 then ((pI M 12 1100 a0 0).bind fun M1 =>
(f_X11_isFlow a1).bind fun v3 =>
if v3 = 0 then (some (M1, (-1))) else ((f_X11_isIn a2.toInt64 0 4).bind fun v6 =>
if v6 = 0 then (some (M1, (-1))) else (if a2 = 0 then ((gR M1 12 1109 a0).bind fun v9 =>
(aI M1 v9 a1).bind fun v10 =>
some (M1, v10)) else (if a2 = 1 then ((gR M1 12 1110 a0).bind fun v12 =>
(aI M1 v12 a1).bind fun v13 =>
some (M1, v13)) else (if a2 = 2 then ((gR M1 12 1113 a0).bind fun v15 =>
(aI M1 v15 a1).bind fun v16 =>
some (M1, v16)) else (if a2 = 3 then ((gR M1 12 1113 a0).bind fun v18 =>
(aI M1 v18 a1).bind fun v19 =>
if v19 = 0 then (some (M1, (-2))) else ((gR M1 12 1114 a0).bind fun v21 =>
(aI M1 v21 (9 * a1)).bind fun v22 =>
some (M1, v22))) else (((gR M1 12 1112 a0).bind fun v23 =>
(aZ M1 v23 a1).bind fun v24 =>
if v24 = 0 then (some (M1, 0)) else (some (M1, 1)))))))))) else none


def f_X11_forget_J52 (M : Mm) (x0 : Nat) (x1 : Int32) (x2 : Int32) (s0 : Int32) : Option (Mm × Int32) :=
if x2 = 1 then ((gR M 12 1130 x0).bind fun v7 =>
(wZ M v7 x1 0).bind fun M8 =>
if s0 = 0 then (some (M8, 0)) else (some (M8, 1))) else ((gR M 12 1112 x0).bind fun v2 =>
(wZ M v2 x1 1).bind fun M3 =>
(gR M3 12 1113 x0).bind fun v4 =>
(wI M3 v4 x1 0).bind fun M5 =>
if s0 = 0 then (some (M5, 0)) else (some (M5, 1)))

def f_X11_forget (M : Mm) (a0 : Nat) (a1 : Int32) (a2 : Int32) : Option (Mm × Int32) :=
if mK M a0 = 12 then ((pI M 12 1100 a0 0).bind fun M1 =>
(f_X11_isFlow a1).bind fun v3 =>
if v3 = 0 then (some (M1, (-1))) else ((f_X11_isIn a2.toInt64 0 1).bind fun v6 =>
if v6 = 0 then (some (M1, (-1))) else (if a2 = 1 then ((gR M1 12 1130 a0).bind fun v12 =>
(aZ M1 v12 a1).bind fun v13 =>
f_X11_forget_J52 M1 a0 a1 a2 v13) else ((gR M1 12 1113 a0).bind fun v9 =>
(aI M1 v9 a1).bind fun v10 =>
if v10 ≤ 0 then (f_X11_forget_J52 M1 a0 a1 a2 0) else (f_X11_forget_J52 M1 a0 a1 a2 1))))) else none


def f_X11_wholeBits_J34 (k5 : Nat → Int32 → Int32 → Option Int32) (M : Mm) (x0 : Nat) (x2 : Int32) (s0 : Int32) (s1 : Int32) (s2 : Int32) : Option Int32 :=
k5 x0 (s0 + (s1 + s2)) (x2 + 1)

def f_X11_wholeBits_L5 (M : Mm) : Nat → Nat → Int32 → Int32 → Option Int32
  | 0, _, _, _ => none
  | fu + 1, x0, x1, x2 =>
    (gI M 12 1101 x0).bind fun v1 =>
    if v1 ≤ x2 then (some x1) else ((gR M 12 1103 x0).bind fun v3 =>
    (aI M v3 x2).bind fun v4 =>
    (f_X11_runs M x0 x2).bind fun v6 =>
    if v6 = 0 then (f_X11_wholeBits_J34 (f_X11_wholeBits_L5 M fu) M x0 x2 x1 v4 0) else (f_X11_wholeBits_J34 (f_X11_wholeBits_L5 M fu) M x0 x2 x1 v4 8))

def f_X11_wholeBits (M : Mm) (a0 : Nat) : Option Int32 :=
if mK M a0 = 12 then (f_X11_wholeBits_L5 M 1000 a0 26 0) else none


def f_X11_spent_J138 (k46 : Mm → Nat → Int32 → Int32 → Int32 → Int64 → Int32 → Option (Mm × Int64)) (M : Mm) (x0 : Nat) (x1 : Int32) (x2 : Int32) (x3 : Int32) (x4 : Int64) (x6 : Int32) : Option (Mm × Int64) :=
k46 M x0 x1 x2 x3 x4 (x6 + 1)

def f_X11_spent_J135 (k46 : Mm → Nat → Int32 → Int32 → Int32 → Int64 → Int32 → Option (Mm × Int64)) (M : Mm) (x0 : Nat) (x1 : Int32) (x2 : Int32) (x3 : Int32) (x6 : Int32) (s0 : Int64) (s1 : Int64) : Option (Mm × Int64) :=
f_X11_spent_J138 k46 M x0 x1 x2 x3 (s0 + s1) x6

def f_X11_spent_L46 : Nat → Mm → Nat → Int32 → Int32 → Int32 → Int64 → Int32 → Option (Mm × Int64)
  | 0, _, _, _, _, _, _, _ => none
  | fu + 1, M, x0, x1, x2, x3, x4, x6 =>
    (gI M 12 1116 x0).bind fun v1 =>
    if v1 ≤ x6 then (some (M, x4)) else ((gR M 12 1125 x0).bind fun v3 =>
    (aZ M v3 x6).bind fun v4 =>
    if v4 = 0 then ((gR M 12 1120 x0).bind fun v6 =>
    (aI M v6 x6).bind fun v7 =>
    if v7 = x1 then ((gR M 12 1119 x0).bind fun v9 =>
    (aI M v9 x6).bind fun v10 =>
    if v10 = x2 then (if x3 = 0 then (f_X11_spent_J135 (f_X11_spent_L46 fu) M x0 x1 x2 x3 x6 x4 1) else (if x3 = 1 then ((gR M 12 1122 x0).bind fun v19 =>
    (aI M v19 x6).bind fun v20 =>
    f_X11_spent_J135 (f_X11_spent_L46 fu) M x0 x1 x2 x3 x6 x4 v20.toInt64) else (if 3 ≤ x2 then (f_X11_spent_J135 (f_X11_spent_L46 fu) M x0 x1 x2 x3 x6 x4 0) else ((f_X11_wholeBits M x0).bind fun v16 =>
    (gR M 12 1122 x0).bind fun v17 =>
    (aI M v17 x6).bind fun v18 =>
    f_X11_spent_J135 (f_X11_spent_L46 fu) M x0 x1 x2 x3 x6 x4 ((v16 - v18).toInt64))))) else (f_X11_spent_J138 (f_X11_spent_L46 fu) M x0 x1 x2 x3 x4 x6)) else (f_X11_spent_J138 (f_X11_spent_L46 fu) M x0 x1 x2 x3 x4 x6)) else (f_X11_spent_J138 (f_X11_spent_L46 fu) M x0 x1 x2 x3 x4 x6))

def f_X11_spent (M : Mm) (a0 : Nat) (a1 : Int32) (a2 : Int32) (a3 : Int32) : Option (Mm × Int64) :=
if mK M a0 = 12 then ((pI M 12 1100 a0 0).bind fun M1 =>
(f_X11_isFlow a1).bind fun v3 =>
if v3 = 0 then (some (M1, (-1))) else ((f_X11_isIn a2.toInt64 0 5).bind fun v6 =>
if v6 = 0 then (some (M1, (-1))) else ((f_X11_isIn a3.toInt64 0 2).bind fun v9 =>
if v9 = 0 then (some (M1, (-1))) else (f_X11_spent_L46 1000 M1 a0 a1 a2 a3 0 0)))) else none


def f_X11_isShelf (a0 : Int32) : Option Int32 :=
if a0 < 0 then (some 0) else (if 8 ≤ a0 then (some 0) else (some 1))


def f_X11_canKeep_J10 (M : Mm) (x0 : Nat) (x2 : Int32) : Option Int32 :=
if x2 < 0 then (some 0) else ((gI M 12 1116 x0).bind fun v2 =>
if v2 ≤ x2 then (some 0) else (some 1))

def f_X11_canKeep (M : Mm) (a0 : Nat) (a1 : Int32) (a2 : Int32) : Option Int32 :=
if mK M a0 = 12 then (if a1 = 1 then (f_X11_canKeep_J10 M a0 a2) else (if a1 = 2 then (f_X11_canKeep_J10 M a0 a2) else (if a1 = 0 then (some 1) else ((f_X11_isFlow a2).bind fun v5 =>
if v5 = 0 then (some 0) else (if a1 = 3 then (some 1) else ((gR M 12 1130 a0).bind fun v8 =>
(aZ M v8 a2).bind fun v9 =>
if v9 = 0 then (some 0) else (some 1))))))) else none


def f_X11_keep_J188 (k112 : Mm → Nat → Int32 → Int32 → Int32 → Int32 → Option (Mm × Int32)) (M : Mm) (x0 : Nat) (x1 : Int32) (x2 : Int32) (x3 : Int32) (x4 : Int32) (s0 : Nat) (s1 : Int32) (s2 : Int64) : Option (Mm × Int32) :=
(wJ M s0 s1 s2).bind fun M1 =>
k112 M1 x0 x1 x2 x3 (x4 + 1)

def f_X11_keep_L112 : Nat → Mm → Nat → Int32 → Int32 → Int32 → Int32 → Option (Mm × Int32)
  | 0, _, _, _, _, _, _ => none
  | fu + 1, M, x0, x1, x2, x3, x4 =>
    (gR M 12 1154 x0).bind fun v1 =>
    (aI M v1 x1).bind fun v2 =>
    if v2 ≤ x4 then (some (M, 0)) else ((gR M 12 1156 x0).bind fun v4 =>
    if 3 ≤ x2 then (if x2 = 3 then ((gR M 12 1114 x0).bind fun v9 =>
    (aI M v9 ((9 * x3) + x4)).bind fun v10 =>
    f_X11_keep_J188 (f_X11_keep_L112 fu) M x0 x1 x2 x3 x4 v4 ((64 * x1) + x4) v10.toInt64) else ((gR M 12 1134 x0).bind fun v7 =>
    (aJ M v7 ((8 * x3) + x4)).bind fun v8 =>
    f_X11_keep_J188 (f_X11_keep_L112 fu) M x0 x1 x2 x3 x4 v4 ((64 * x1) + x4) v8)) else ((gR M 12 1118 x0).bind fun v11 =>
    (aI M v11 ((64 * x3) + x4)).bind fun v12 =>
    f_X11_keep_J188 (f_X11_keep_L112 fu) M x0 x1 x2 x3 x4 v4 ((64 * x1) + x4) v12.toInt64))

def f_X11_keep_J108 (M : Mm) (x0 : Nat) (x1 : Int32) (x2 : Int32) (x3 : Int32) (s0 : Nat) (s1 : Int32) (s2 : Int32) : Option (Mm × Int32) :=
(wI M s0 s1 s2).bind fun M1 =>
f_X11_keep_L112 1000 M1 x0 x1 x2 x3 0

def f_X11_keep_J87 (M : Mm) (x0 : Nat) (x1 : Int32) (x2 : Int32) (x3 : Int32) (s0 : Nat) (s1 : Int32) (s2 : Int32) : Option (Mm × Int32) :=
(wI M s0 s1 s2).bind fun M1 =>
(gR M1 12 1155 x0).bind fun v2 =>
if x2 = 1 then ((gR M1 12 1119 x0).bind fun v4 =>
(aI M1 v4 x3).bind fun v5 =>
f_X11_keep_J108 M1 x0 x1 x2 x3 v2 x1 v5) else (f_X11_keep_J108 M1 x0 x1 x2 x3 v2 x1 0)

def f_X11_keep (M : Mm) (a0 : Nat) (a1 : Int32) (a2 : Int32) (a3 : Int32) : Option (Mm × Int32) :=
if mK M a0 = 12 then ((pI M 12 1100 a0 0).bind fun M1 =>
(f_X11_isShelf a1).bind fun v3 =>
if v3 = 0 then (some (M1, (-1))) else ((f_X11_isIn a2.toInt64 0 4).bind fun v6 =>
if v6 = 0 then (some (M1, (-1))) else ((f_X11_canKeep M1 a0 a2 a3).bind fun v9 =>
if v9 = 0 then (some (M1, (-1))) else ((gR M1 12 1153 a0).bind fun v11 =>
(wI M1 v11 a1 a2).bind fun M12 =>
(gR M12 12 1154 a0).bind fun v13 =>
if a2 = 0 then (f_X11_keep_J87 M12 a0 a1 a2 a3 v13 a1 0) else (if 3 ≤ a2 then (if a2 = 3 then ((gR M12 12 1113 a0).bind fun v18 =>
(aI M12 v18 a3).bind fun v19 =>
f_X11_keep_J87 M12 a0 a1 a2 a3 v13 a1 v19) else ((gI M12 12 1101 a0).bind fun v17 =>
f_X11_keep_J87 M12 a0 a1 a2 a3 v13 a1 v17)) else ((gR M12 12 1117 a0).bind fun v20 =>
(aI M12 v20 a3).bind fun v21 =>
f_X11_keep_J87 M12 a0 a1 a2 a3 v13 a1 v21)))))) else none


def f_X11_make_L58 : Nat → Mm → Nat → Int32 → Int32 → Int32 → Option (Mm × Int32)
  | 0, _, _, _, _, _ => none
  | fu + 1, M, x0, x1, x3, x4 =>
    if x3 ≤ x4 then (some (M, 0)) else ((gR M 12 1156 x0).bind fun v2 =>
    (wJ M v2 ((64 * x1) + x4) 0).bind fun M3 =>
    f_X11_make_L58 fu M3 x0 x1 x3 (x4 + 1))

def f_X11_make (M : Mm) (a0 : Nat) (a1 : Int32) (a2 : Int32) (a3 : Int32) : Option (Mm × Int32) :=
if mK M a0 = 12 then ((pI M 12 1100 a0 0).bind fun M1 =>
(f_X11_isShelf a1).bind fun v3 =>
if v3 = 0 then (some (M1, (-1))) else ((f_X11_isIn a2.toInt64 2 4).bind fun v6 =>
if v6 = 0 then (some (M1, (-1))) else (if a3 ≤ 60 then (if 0 ≤ a3 then ((gR M1 12 1153 a0).bind fun v10 =>
(wI M1 v10 a1 a2).bind fun M11 =>
(gR M11 12 1154 a0).bind fun v12 =>
(wI M11 v12 a1 a3).bind fun M13 =>
f_X11_make_L58 1000 M13 a0 a1 a3 0) else (some (M1, (-14)))) else (some (M1, (-1)))))) else none


def f_X11_put (M : Mm) (a0 : Nat) (a1 : Int32) (a2 : Int32) (a3 : Int32) : Option (Mm × Int64) :=
if mK M a0 = 12 then ((pI M 12 1100 a0 0).bind fun M1 =>
(f_X11_isShelf a1).bind fun v3 =>
if v3 = 0 then (some (M1, (-1))) else ((f_X11_isIn a3.toInt64 0 30000).bind fun v6 =>
if v6 = 0 then (some (M1, (-1))) else ((gR M1 12 1153 a0).bind fun v8 =>
(aI M1 v8 a1).bind fun v9 =>
if 2 ≤ v9 then (if a2 < 0 then (some (M1, (-13))) else ((gR M1 12 1154 a0).bind fun v12 =>
(aI M1 v12 a1).bind fun v13 =>
if a2 < v13 then ((gR M1 12 1156 a0).bind fun v15 =>
(aJ M1 v15 ((64 * a1) + a2)).bind fun v16 =>
(gR M1 12 1156 a0).bind fun v17 =>
(wJ M1 v17 ((64 * a1) + a2) a3.toInt64).bind fun M18 =>
some (M18, v16)) else (some (M1, (-13))))) else ((gR M1 12 1153 a0).bind fun v19 =>
(aI M1 v19 a1).bind fun v20 =>
if v20 = 0 then (some (M1, (-11))) else (some (M1, (-12))))))) else none


def f_X11_hasPlaces (M : Mm) (a0 : Nat) (a1 : Int32) (a2 : Int32) (a3 : Int32) : Option Int32 :=
if mK M a0 = 12 then (if a3 < 0 then (some 0) else (if a2 < 0 then (some 0) else ((gR M 12 1154 a0).bind fun v3 =>
(aI M v3 a1).bind fun v4 =>
if v4 < a2 then (some 0) else ((gR M 12 1154 a0).bind fun v6 =>
(aI M v6 a1).bind fun v7 =>
if (v7 - a2) < a3 then (some 0) else (some 1))))) else none


def f_X11_copy_L136 : Nat → Mm → Nat → Int32 → Int32 → Int32 → Int32 → Option (Mm × Int32)
  | 0, _, _, _, _, _, _ => none
  | fu + 1, M, x0, x3, x4, x5, x6 =>
    if x5 ≤ x6 then (some (M, x5)) else ((gR M 12 1156 x0).bind fun v2 =>
    (gR M 12 1157 x0).bind fun v3 =>
    (aJ M v3 x6).bind fun v4 =>
    (wJ M v2 (((64 * x3) + x4) + x6) v4).bind fun M5 =>
    f_X11_copy_L136 fu M5 x0 x3 x4 x5 (x6 + 1))

def f_X11_copy_L99 : Nat → Mm → Nat → Int32 → Int32 → Int32 → Int32 → Int32 → Int32 → Option (Mm × Int32)
  | 0, _, _, _, _, _, _, _, _ => none
  | fu + 1, M, x0, x1, x2, x3, x4, x5, x6 =>
    if x5 ≤ x6 then (f_X11_copy_L136 1000 M x0 x3 x4 x5 0) else ((gR M 12 1157 x0).bind fun v2 =>
    (gR M 12 1156 x0).bind fun v3 =>
    (aJ M v3 (((64 * x1) + x2) + x6)).bind fun v4 =>
    (wJ M v2 x6 v4).bind fun M5 =>
    f_X11_copy_L99 fu M5 x0 x1 x2 x3 x4 x5 (x6 + 1))

def f_X11_copy (M : Mm) (a0 : Nat) (a1 : Int32) (a2 : Int32) (a3 : Int32) (a4 : Int32) (a5 : Int32) : Option (Mm × Int32) :=
if mK M a0 = 12 then ((pI M 12 1100 a0 0).bind fun M1 =>
(f_X11_isShelf a1).bind fun v3 =>
if v3 = 0 then (some (M1, (-1))) else ((f_X11_isShelf a3).bind fun v6 =>
if v6 = 0 then (some (M1, (-1))) else ((gR M1 12 1153 a0).bind fun v8 =>
(aI M1 v8 a1).bind fun v9 =>
if v9 = 0 then (some (M1, (-11))) else ((gR M1 12 1153 a0).bind fun v11 =>
(aI M1 v11 a3).bind fun v12 =>
if v12 = 0 then (some (M1, (-11))) else ((gR M1 12 1153 a0).bind fun v14 =>
(aI M1 v14 a1).bind fun v15 =>
if v15 = 1 then (some (M1, (-12))) else ((gR M1 12 1153 a0).bind fun v17 =>
(aI M1 v17 a1).bind fun v18 =>
(gR M1 12 1153 a0).bind fun v19 =>
(aI M1 v19 a3).bind fun v20 =>
if v18 = v20 then ((f_X11_hasPlaces M1 a0 a1 a2 a5).bind fun v23 =>
if v23 = 0 then (some (M1, (-13))) else ((f_X11_hasPlaces M1 a0 a3 a4 a5).bind fun v26 =>
if v26 = 0 then (some (M1, (-13))) else (f_X11_copy_L99 1000 M1 a0 a1 a2 a3 a4 a5 0))) else (some (M1, (-12))))))))) else none


def f_X11_denied (M : Mm) (a0 : Nat) (a1 : Int32) : Option Int32 :=
if mK M a0 = 12 then ((f_X11_isShelf a1).bind fun v2 =>
if v2 = 0 then (some (-1)) else ((gR M 12 1153 a0).bind fun v4 =>
(aI M v4 a1).bind fun v5 =>
if v5 = 0 then (some (-11)) else ((gR M 12 1153 a0).bind fun v7 =>
(aI M v7 a1).bind fun v8 =>
if v8 ≤ 1 then (some 0) else (some (-12))))) else none


def f_X11_worth (M : Mm) (a0 : Nat) (a1 : Int32) : Option (Mm × Int32) :=
if mK M a0 = 12 then ((pI M 12 1100 a0 0).bind fun M1 =>
(f_X11_denied M1 a0 a1).bind fun v3 =>
if 0 ≤ v3 then ((gR M1 12 1155 a0).bind fun v5 =>
(aI M1 v5 a1).bind fun v6 =>
(gR M1 12 1154 a0).bind fun v7 =>
(aI M1 v7 a1).bind fun v8 =>
if v6 = 0 then (some (M1, (10 * v8) + v6)) else (if v6 = 1 then (some (M1, ((10 * v8) + v6) + 3)) else (if v6 = 2 then (some (M1, 2 * (((10 * v8) + v6) + 3))) else (if v6 = 3 then (some (M1, ((10 * v8) + v6) + 1)) else (if v6 = 4 then (some (M1, ((10 * v8) + v6) + 6)) else ((some (M1, 3 * (((10 * v8) + v6) + 6))))))))) else (some (M1, v3))) else none


def f_X11_toss (M : Mm) (a0 : Nat) (a1 : Int32) : Option (Mm × Int32) :=
if mK M a0 = 12 then ((pI M 12 1100 a0 0).bind fun M1 =>
(f_X11_denied M1 a0 a1).bind fun v3 =>
if 0 ≤ v3 then ((gR M1 12 1155 a0).bind fun v5 =>
(aI M1 v5 a1).bind fun v6 =>
if v6 = 0 then (some (M1, (-15))) else ((gR M1 12 1155 a0).bind fun v8 =>
(aI M1 v8 a1).bind fun v9 =>
if v9 = 3 then (some (M1, (-15))) else ((gR M1 12 1155 a0).bind fun v11 =>
(aI M1 v11 a1).bind fun v12 =>
some (M1, v12)))) else (some (M1, v3))) else none


def f_X11_count_J32 (k9 : Mm → Nat → Int32 → Int32 → Int32 → Option (Mm × Int32)) (M : Mm) (x0 : Nat) (x1 : Int32) (x3 : Int32) (s0 : Int32) (s1 : Int32) : Option (Mm × Int32) :=
k9 M x0 x1 (s0 + s1) (x3 + 1)

def f_X11_count_L9 : Nat → Mm → Nat → Int32 → Int32 → Int32 → Option (Mm × Int32)
  | 0, _, _, _, _, _ => none
  | fu + 1, M, x0, x1, x2, x3 =>
    (gI M 12 1116 x0).bind fun v1 =>
    if v1 ≤ x3 then (if x1 = 0 then ((gI M 12 1101 x0).bind fun v9 =>
    some (M, v9)) else (if x1 = 1 then ((gI M 12 1116 x0).bind fun v8 =>
    some (M, v8)) else (if x1 = 2 then ((gI M 12 1107 x0).bind fun v7 =>
    some (M, v7)) else (if x1 = 3 then (some (M, x2)) else (some (M, (-1))))))) else ((gR M 12 1124 x0).bind fun v10 =>
    (aZ M v10 x3).bind fun v11 =>
    if v11 = 0 then (f_X11_count_J32 (f_X11_count_L9 fu) M x0 x1 x3 x2 0) else (f_X11_count_J32 (f_X11_count_L9 fu) M x0 x1 x3 x2 1))

def f_X11_count (M : Mm) (a0 : Nat) (a1 : Int32) : Option (Mm × Int32) :=
if mK M a0 = 12 then ((pI M 12 1100 a0 0).bind fun M1 =>
f_X11_count_L9 1000 M1 a0 a1 0 0) else none
end
section
/-! A contract's walk for a method of a class some of whose methods the machine runs by itself (java.lang.Math): the method has no such row. -/
theorem ct_ofF {l : Launch} {y : MethodName} {cc : ByteArray} {nL : Nat} {ret : Option FieldType} {ws ws' : List Cond} {rm : Room} {b0 : Nat} {D : va_G} {cy : Nat → ClassId} {M M1 : Mm} {ov : Option Value} {mc ms : Nat} (av : List Value) (hy : plainFor y = true) (hw : ws = Cond.code y cc nL ret :: ws')
    (body : ∀ p e s m below meth c, Cx y cc nL ret ws b0 D cy p s m av.toArray meth c → Hp b0 D cy M s.heap → W p l e rm s m av.toArray below meth c s.heap [] 0 0 (MQ below (Qm b0 D cy M1 ov) av.toArray s mc ms (BA b0)) (F0 m 0 ((lg_sl av ++ List.replicate (nL - (lg_sl av).length) Slot.unset).toArray) [])) :
    Met l y ws rm (va_Pc av (Pm b0 D cy M)) (Qm b0 D cy M1 ov) mc ms (BA b0) := by
  refine MetFree.of_bodySF (code := cc) (maxLocals := nL) (ret := ret) hy ?_ ?_
  · intro args s m h hn
    obtain ⟨meth, c, h1, h2, h3, h4, h5, h6, -, -⟩ := Cond.code_spec hn (atoms_spec (ws := ws) h _ (by rw [hw]; exact List.mem_cons_self))
    exact ⟨meth, c, h1, h2, h3, h4, h5, h6⟩
  · intro p e s m args below meth c s₁ B hml hv _
    obtain ⟨rfl, hP, hK, hN, hb0⟩ := hv
    have hh0 : s₁.heap = s.heap := by rw [B.state]; rfl
    have Wb := body p e s m below meth c ⟨B.exec, B.bytes, B.returns, hml, findClass_of_methodNamed B.named, atoms_spec (ws := ws) B.pre, B.notSynchronized, hK, hN, hb0, (name_of_methodNamed B.named B.method).1⟩ hP
    rw [← lg_entry_eq] at Wb
    obtain ⟨t, a1, o, b1, b2, b3⟩ := Wb s₁ hh0 (Stand.of_body B)
    exact ⟨t, o, a1, b1, b2, ⟨b3.1, b3.2⟩⟩
end
section
/-! The layout: where each cell of the class and of the reference lies, from the address X of the HeaderLine on. -/
def kTab : List Nat := [11, 7, 20, 20, 20, 20, 4, 21, 27, 23, 10, 20, 24, 4, 21, 4, 21, 4, 21, 4, 21, 4, 21, 4, 21, 4, 21, 4, 21, 2, 4, 21, 20, 10, 20, 24, 4, 21, 4, 21, 4, 21, 4, 21, 4, 21, 4, 21, 4, 21, 4, 21, 2, 4, 21, 20, 10, 20, 24, 4, 21, 4, 21, 4, 21, 4, 21, 4, 21, 4, 21, 4, 21, 4, 21, 2, 4, 21, 20, 10, 20, 24, 4, 21, 4, 21, 4, 21, 4, 21, 4, 21, 4, 21, 4, 21, 4, 21, 2, 4, 21, 20, 10, 20, 24, 4, 21, 4, 21, 4, 21, 4, 21, 4, 21, 4, 21, 4, 21, 4, 21, 2, 4, 21, 20, 10, 20, 24, 4, 21, 4, 21, 4, 21, 4, 21, 4, 21, 4, 21, 4, 21, 4, 21, 2, 4, 21, 20, 10, 20, 24, 4, 21, 4, 21, 4, 21, 4, 21, 4, 21, 4, 21, 4, 21, 4, 21, 2, 4, 21, 20, 10, 20, 24, 4, 21, 4, 21, 4, 21, 4, 21, 4, 21, 4, 21, 4, 21, 4, 21, 2, 4, 21, 20, 25, 26, 9, 21, 9, 21, 9, 21, 9, 21, 9, 21, 9, 21, 9, 21, 9, 21, 6, 20, 1, 4, 21, 20, 20, 20, 21, 20, 3, 4, 21, 20, 12, 20, 20, 20, 21, 21, 20, 20, 20, 22, 20, 20, 21, 20, 20, 20, 20, 20, 20, 20, 22, 22, 20, 20, 20, 20, 22, 20, 20, 20, 21, 21, 20, 20, 20, 20, 21, 20, 21, 20, 20, 20, 21, 21]
def nTab : List Nat := [0, 0, 8, 8, 8, 8, 0, 8, 8, 8, 0, 8, 8, 0, 8, 0, 8, 0, 8, 0, 8, 0, 8, 0, 8, 0, 8, 0, 8, 0, 0, 8, 8, 0, 8, 8, 0, 8, 0, 8, 0, 8, 0, 8, 0, 8, 0, 8, 0, 8, 0, 8, 0, 0, 8, 8, 0, 8, 8, 0, 8, 0, 8, 0, 8, 0, 8, 0, 8, 0, 8, 0, 8, 0, 8, 0, 0, 8, 8, 0, 8, 8, 0, 8, 0, 8, 0, 8, 0, 8, 0, 8, 0, 8, 0, 8, 0, 8, 0, 0, 8, 8, 0, 8, 8, 0, 8, 0, 8, 0, 8, 0, 8, 0, 8, 0, 8, 0, 8, 0, 8, 0, 0, 8, 8, 0, 8, 8, 0, 8, 0, 8, 0, 8, 0, 8, 0, 8, 0, 8, 0, 8, 0, 8, 0, 0, 8, 8, 0, 8, 8, 0, 8, 0, 8, 0, 8, 0, 8, 0, 8, 0, 8, 0, 8, 0, 8, 0, 0, 8, 8, 0, 8, 8, 0, 8, 0, 8, 0, 8, 0, 8, 0, 8, 0, 8, 0, 8, 0, 8, 0, 0, 8, 8, 200, 8, 0, 60, 0, 60, 0, 60, 0, 60, 0, 60, 0, 60, 0, 60, 0, 60, 0, 60, 0, 0, 8, 8, 8, 8, 8, 0, 0, 0, 8, 8, 0, 8, 8, 8, 8, 8, 8, 8, 64, 8, 8, 72, 576, 200, 12800, 200, 200, 200, 200, 200, 200, 200, 1600, 1600, 200, 200, 8, 8, 8, 64, 64, 8, 8, 600, 8, 8, 8, 8, 8, 8, 8, 8, 512, 64]
def kT (o : Nat) : Nat := kTab.getD o 0
def nT (o : Nat) : Nat := nTab.getD o 0
def rT : List (Nat × Nat × Nat) := [(1001, 0, 1), (1002, 0, 6), (1003, 0, 8), (1004, 0, 9), (1005, 0, 194), (1006, 0, 195), (1007, 0, 212), (1008, 0, 214), (1009, 0, 222), (600, 1, 2), (601, 1, 3), (602, 1, 4), (603, 1, 5), (300, 6, 7), (900, 10, 11), (905, 10, 12), (300, 13, 14), (300, 15, 16), (300, 17, 18), (300, 19, 20), (300, 21, 22), (300, 23, 24), (300, 25, 26), (300, 27, 28), (100, 29, 30), (101, 29, 32), (300, 30, 31), (900, 33, 34), (905, 33, 35), (300, 36, 37), (300, 38, 39), (300, 40, 41), (300, 42, 43), (300, 44, 45), (300, 46, 47), (300, 48, 49), (300, 50, 51), (100, 52, 53), (101, 52, 55), (300, 53, 54), (900, 56, 57), (905, 56, 58), (300, 59, 60), (300, 61, 62), (300, 63, 64), (300, 65, 66), (300, 67, 68), (300, 69, 70), (300, 71, 72), (300, 73, 74), (100, 75, 76), (101, 75, 78), (300, 76, 77), (900, 79, 80), (905, 79, 81), (300, 82, 83), (300, 84, 85), (300, 86, 87), (300, 88, 89), (300, 90, 91), (300, 92, 93), (300, 94, 95), (300, 96, 97), (100, 98, 99), (101, 98, 101), (300, 99, 100), (900, 102, 103), (905, 102, 104), (300, 105, 106), (300, 107, 108), (300, 109, 110), (300, 111, 112), (300, 113, 114), (300, 115, 116), (300, 117, 118), (300, 119, 120), (100, 121, 122), (101, 121, 124), (300, 122, 123), (900, 125, 126), (905, 125, 127), (300, 128, 129), (300, 130, 131), (300, 132, 133), (300, 134, 135), (300, 136, 137), (300, 138, 139), (300, 140, 141), (300, 142, 143), (100, 144, 145), (101, 144, 147), (300, 145, 146), (900, 148, 149), (905, 148, 150), (300, 151, 152), (300, 153, 154), (300, 155, 156), (300, 157, 158), (300, 159, 160), (300, 161, 162), (300, 163, 164), (300, 165, 166), (100, 167, 168), (101, 167, 170), (300, 168, 169), (900, 171, 172), (905, 171, 173), (300, 174, 175), (300, 176, 177), (300, 178, 179), (300, 180, 181), (300, 182, 183), (300, 184, 185), (300, 186, 187), (300, 188, 189), (100, 190, 191), (101, 190, 193), (300, 191, 192), (800, 196, 197), (800, 198, 199), (800, 200, 201), (800, 202, 203), (800, 204, 205), (800, 206, 207), (800, 208, 209), (800, 210, 211), (500, 212, 213), (0, 214, 215), (1, 214, 217), (2, 214, 218), (3, 214, 219), (4, 214, 220), (300, 215, 216), (200, 222, 223), (201, 222, 225), (300, 223, 224), (1102, 226, 227), (1103, 226, 228), (1104, 226, 229), (1105, 226, 230), (1108, 226, 231), (1109, 226, 232), (1110, 226, 233), (1111, 226, 234), (1112, 226, 235), (1113, 226, 236), (1114, 226, 237), (1115, 226, 238), (1117, 226, 239), (1118, 226, 240), (1119, 226, 241), (1120, 226, 242), (1121, 226, 243), (1122, 226, 244), (1123, 226, 245), (1124, 226, 246), (1125, 226, 247), (1126, 226, 248), (1127, 226, 249), (1128, 226, 250), (1129, 226, 251), (1130, 226, 252), (1131, 226, 253), (1132, 226, 254), (1133, 226, 255), (1134, 226, 256), (1139, 226, 257), (1140, 226, 258), (1141, 226, 259), (1146, 226, 260), (1147, 226, 261), (1148, 226, 262), (1149, 226, 263), (1152, 226, 264), (1153, 226, 265), (1154, 226, 266), (1155, 226, 267), (1156, 226, 268), (1157, 226, 269)]
def qT : List (Nat × Nat × Nat) := [(8, 0, 10), (12, 0, 13), (12, 1, 15), (12, 2, 17), (12, 3, 19), (12, 4, 21), (12, 5, 23), (12, 6, 25), (12, 7, 27), (9, 0, 29), (8, 1, 33), (35, 0, 36), (35, 1, 38), (35, 2, 40), (35, 3, 42), (35, 4, 44), (35, 5, 46), (35, 6, 48), (35, 7, 50), (9, 1, 52), (8, 2, 56), (58, 0, 59), (58, 1, 61), (58, 2, 63), (58, 3, 65), (58, 4, 67), (58, 5, 69), (58, 6, 71), (58, 7, 73), (9, 2, 75), (8, 3, 79), (81, 0, 82), (81, 1, 84), (81, 2, 86), (81, 3, 88), (81, 4, 90), (81, 5, 92), (81, 6, 94), (81, 7, 96), (9, 3, 98), (8, 4, 102), (104, 0, 105), (104, 1, 107), (104, 2, 109), (104, 3, 111), (104, 4, 113), (104, 5, 115), (104, 6, 117), (104, 7, 119), (9, 4, 121), (8, 5, 125), (127, 0, 128), (127, 1, 130), (127, 2, 132), (127, 3, 134), (127, 4, 136), (127, 5, 138), (127, 6, 140), (127, 7, 142), (9, 5, 144), (8, 6, 148), (150, 0, 151), (150, 1, 153), (150, 2, 155), (150, 3, 157), (150, 4, 159), (150, 5, 161), (150, 6, 163), (150, 7, 165), (9, 6, 167), (8, 7, 171), (173, 0, 174), (173, 1, 176), (173, 2, 178), (173, 3, 180), (173, 4, 182), (173, 5, 184), (173, 6, 186), (173, 7, 188), (9, 7, 190), (195, 0, 196), (195, 1, 198), (195, 2, 200), (195, 3, 202), (195, 4, 204), (195, 5, 206), (195, 6, 208), (195, 7, 210)]
def St (M : Mm) (X : Nat) : Prop := (∀ o, o < 270 → mK M (X + o) = kT o) ∧ (∀ o, o < 270 → 20 ≤ kT o → mN M (X + o) = nT o) ∧ (∀ q ∈ rT, mR M q.1 (X + q.2.1) = some (X + q.2.2)) ∧ (∀ q ∈ qT, mQ M (X + q.1) q.2.1 = some (X + q.2.2)) ∧ X + 270 ≤ mS M
theorem St.K {M : Mm} {X : Nat} (h : St M X) (o k : Nat) (ho : o < 270) (hk : kT o = k) : mK M (X + o) = k := (h.1 o ho).trans hk
theorem St.N {M : Mm} {X : Nat} (h : St M X) (o n : Nat) (ho : o < 270) (hk : 20 ≤ kT o) (hn : nT o = n) : mN M (X + o) = n := (h.2.1 o ho hk).trans hn
theorem St.R {M : Mm} {X : Nat} (h : St M X) (num o t : Nat) (hm : (num, o, t) ∈ rT) : mR M num (X + o) = some (X + t) := h.2.2.1 _ hm
theorem St.Q {M : Mm} {X : Nat} (h : St M X) (o i t : Nat) (hm : (o, i, t) ∈ qT) : mQ M (X + o) i = some (X + t) := h.2.2.2.1 _ hm
def aSq (X i : Nat) : Nat := X + (10 + 23 * i)
def aSt (X i : Nat) : Nat := X + (11 + 23 * i)
def aRg (X i : Nat) : Nat := X + (12 + 23 * i)
def aHd (X i j : Nat) : Nat := X + (13 + 23 * i + 2 * j)
def aHv (X i j : Nat) : Nat := X + (14 + 23 * i + 2 * j)
def aCx (X i : Nat) : Nat := X + (29 + 23 * i)
def aCh (X i : Nat) : Nat := X + (30 + 23 * i)
def aCv (X i : Nat) : Nat := X + (31 + 23 * i)
def aCs (X i : Nat) : Nat := X + (32 + 23 * i)
def aSh (X s : Nat) : Nat := X + (196 + 2 * s)
def aSr (X s : Nat) : Nat := X + (197 + 2 * s)
theorem gR_of {M : Mm} {kd num a t : Nat} (hk : mK M a = kd) (hr : mR M num a = some t) : gR M kd num a = some t := by unfold gR; rw [if_pos hk, hr]
theorem gI_of {M : Mm} {kd num a : Nat} (hk : mK M a = kd) : gI M kd num a = some (mI M num a) := by unfold gI; rw [if_pos hk]
theorem gJ_of {M : Mm} {kd num a : Nat} (hk : mK M a = kd) : gJ M kd num a = some (mJ M num a) := by unfold gJ; rw [if_pos hk]
theorem gN_of {M : Mm} {kd num a : Nat} (hk : mK M a = kd) : gN M kd num a = some (mR M num a) := by unfold gN; rw [if_pos hk]
theorem pI_of {M : Mm} {kd num a : Nat} {v : Int32} (hk : mK M a = kd) : pI M kd num a v = some (sI M num a v) := by unfold pI; rw [if_pos hk]
theorem pJ_of {M : Mm} {kd num a : Nat} {v : Int64} (hk : mK M a = kd) : pJ M kd num a v = some (sJ M num a v) := by unfold pJ; rw [if_pos hk]
theorem pR_of {M : Mm} {kd num a : Nat} {v : Option Nat} (hk : mK M a = kd) : pR M kd num a v = some (sR M num a v) := by unfold pR; rw [if_pos hk]
theorem pZ_of {M : Mm} {kd num a : Nat} {v : Int32} (hk : mK M a = kd) (hv : v = 0 ∨ v = 1) : pZ M kd num a v = some (sI M num a v) := by unfold pZ; rw [if_pos hk, if_pos hv]
theorem ix_nI {k : Nat} (h : k < 2 ^ 31) : ix (nI k) = k := nI_clamp h
theorem vin_nI {k n : Nat} (h : k < n) (hs : n < 2 ^ 31) : vin (nI k) n = true := by
  unfold vin
  rw [nI_toInt (by omega), Bool.and_eq_true, decide_eq_true_eq, decide_eq_true_eq]
  omega
theorem aI_of {M : Mm} {a k n : Nat} (hk : mK M a = 20) (hn : mN M a = n) (h : k < n) (hs : n < 2 ^ 31) : aI M a (nI k) = some (mA M a k) := by
  unfold aI; rw [if_pos hk, hn, if_pos (vin_nI h hs), ix_nI (by omega)]
theorem aZ_of {M : Mm} {a k n : Nat} (hk : mK M a = 22) (hn : mN M a = n) (h : k < n) (hs : n < 2 ^ 31) : aZ M a (nI k) = some (mA M a k) := by
  unfold aZ; rw [if_pos hk, hn, if_pos (vin_nI h hs), ix_nI (by omega)]
theorem aJ_of {M : Mm} {a k n : Nat} (hk : mK M a = 21) (hn : mN M a = n) (h : k < n) (hs : n < 2 ^ 31) : aJ M a (nI k) = some (mB M a k) := by
  unfold aJ; rw [if_pos hk, hn, if_pos (vin_nI h hs), ix_nI (by omega)]
theorem aR_of {M : Mm} {kd a k n t : Nat} (hk : mK M a = kd) (hn : mN M a = n) (h : k < n) (hs : n < 2 ^ 31) (ht : mQ M a k = some t) : aR M kd a (nI k) = some t := by
  unfold aR; rw [if_pos hk, hn, if_pos (vin_nI h hs), ix_nI (by omega), ht]
theorem aN_of {M : Mm} {kd a k n : Nat} (hk : mK M a = kd) (hn : mN M a = n) (h : k < n) (hs : n < 2 ^ 31) : aN M kd a (nI k) = some (mQ M a k) := by
  unfold aN; rw [if_pos hk, hn, if_pos (vin_nI h hs), ix_nI (by omega)]
theorem wI_of {M : Mm} {a k n : Nat} {v : Int32} (hk : mK M a = 20) (hn : mN M a = n) (h : k < n) (hs : n < 2 ^ 31) : wI M a (nI k) v = some (sA M a (va_up (mA M a) k v)) := by
  unfold wI; rw [if_pos hk, hn, if_pos (vin_nI h hs), ix_nI (by omega)]
theorem wZ_of {M : Mm} {a k n : Nat} {v : Int32} (hk : mK M a = 22) (hn : mN M a = n) (h : k < n) (hs : n < 2 ^ 31) : wZ M a (nI k) v = some (sA M a (va_up (mA M a) k (vp_nar .boolean v))) := by
  unfold wZ; rw [if_pos hk, hn, if_pos (vin_nI h hs), ix_nI (by omega)]
theorem wJ_of {M : Mm} {a k n : Nat} {v : Int64} (hk : mK M a = 21) (hn : mN M a = n) (h : k < n) (hs : n < 2 ^ 31) : wJ M a (nI k) v = some (sB M a (va_up (mB M a) k v)) := by
  unfold wJ; rw [if_pos hk, hn, if_pos (vin_nI h hs), ix_nI (by omega)]
theorem aL_of {M : Mm} {a k n : Nat} (hk : mK M a = k) (h1 : 20 ≤ k) (h2 : k < 28) (hn : mN M a = n) : aL M a = some (nI n) := by
  unfold aL; rw [hk, if_pos h1, if_pos h2, hn]
theorem vz0 : vp_nar .boolean 0 = 0 := by decide
theorem vz1 : vp_nar .boolean 1 = 1 := by decide
theorem k_0 {M : Mm} {X : Nat} (h : St M X) : mK M (X) = 11 := h.K 0 _ (by decide) (by decide)
theorem k_1 {M : Mm} {X : Nat} (h : St M X) : mK M (X + 1) = 7 := h.K 1 _ (by decide) (by decide)
theorem k_2 {M : Mm} {X : Nat} (h : St M X) : mK M (X + 2) = 20 := h.K 2 _ (by decide) (by decide)
theorem n_2 {M : Mm} {X : Nat} (h : St M X) : mN M (X + 2) = 8 := h.N 2 _ (by decide) (by decide) (by decide)
theorem k_3 {M : Mm} {X : Nat} (h : St M X) : mK M (X + 3) = 20 := h.K 3 _ (by decide) (by decide)
theorem n_3 {M : Mm} {X : Nat} (h : St M X) : mN M (X + 3) = 8 := h.N 3 _ (by decide) (by decide) (by decide)
theorem k_4 {M : Mm} {X : Nat} (h : St M X) : mK M (X + 4) = 20 := h.K 4 _ (by decide) (by decide)
theorem n_4 {M : Mm} {X : Nat} (h : St M X) : mN M (X + 4) = 8 := h.N 4 _ (by decide) (by decide) (by decide)
theorem k_5 {M : Mm} {X : Nat} (h : St M X) : mK M (X + 5) = 20 := h.K 5 _ (by decide) (by decide)
theorem n_5 {M : Mm} {X : Nat} (h : St M X) : mN M (X + 5) = 8 := h.N 5 _ (by decide) (by decide) (by decide)
theorem k_6 {M : Mm} {X : Nat} (h : St M X) : mK M (X + 6) = 4 := h.K 6 _ (by decide) (by decide)
theorem k_7 {M : Mm} {X : Nat} (h : St M X) : mK M (X + 7) = 21 := h.K 7 _ (by decide) (by decide)
theorem n_7 {M : Mm} {X : Nat} (h : St M X) : mN M (X + 7) = 8 := h.N 7 _ (by decide) (by decide) (by decide)
theorem k_8 {M : Mm} {X : Nat} (h : St M X) : mK M (X + 8) = 27 := h.K 8 _ (by decide) (by decide)
theorem n_8 {M : Mm} {X : Nat} (h : St M X) : mN M (X + 8) = 8 := h.N 8 _ (by decide) (by decide) (by decide)
theorem k_9 {M : Mm} {X : Nat} (h : St M X) : mK M (X + 9) = 23 := h.K 9 _ (by decide) (by decide)
theorem n_9 {M : Mm} {X : Nat} (h : St M X) : mN M (X + 9) = 8 := h.N 9 _ (by decide) (by decide) (by decide)
theorem k_194 {M : Mm} {X : Nat} (h : St M X) : mK M (X + 194) = 25 := h.K 194 _ (by decide) (by decide)
theorem n_194 {M : Mm} {X : Nat} (h : St M X) : mN M (X + 194) = 200 := h.N 194 _ (by decide) (by decide) (by decide)
theorem k_195 {M : Mm} {X : Nat} (h : St M X) : mK M (X + 195) = 26 := h.K 195 _ (by decide) (by decide)
theorem n_195 {M : Mm} {X : Nat} (h : St M X) : mN M (X + 195) = 8 := h.N 195 _ (by decide) (by decide) (by decide)
theorem k_212 {M : Mm} {X : Nat} (h : St M X) : mK M (X + 212) = 6 := h.K 212 _ (by decide) (by decide)
theorem k_213 {M : Mm} {X : Nat} (h : St M X) : mK M (X + 213) = 20 := h.K 213 _ (by decide) (by decide)
theorem n_213 {M : Mm} {X : Nat} (h : St M X) : mN M (X + 213) = 60 := h.N 213 _ (by decide) (by decide) (by decide)
theorem k_214 {M : Mm} {X : Nat} (h : St M X) : mK M (X + 214) = 1 := h.K 214 _ (by decide) (by decide)
theorem k_215 {M : Mm} {X : Nat} (h : St M X) : mK M (X + 215) = 4 := h.K 215 _ (by decide) (by decide)
theorem k_216 {M : Mm} {X : Nat} (h : St M X) : mK M (X + 216) = 21 := h.K 216 _ (by decide) (by decide)
theorem n_216 {M : Mm} {X : Nat} (h : St M X) : mN M (X + 216) = 8 := h.N 216 _ (by decide) (by decide) (by decide)
theorem k_217 {M : Mm} {X : Nat} (h : St M X) : mK M (X + 217) = 20 := h.K 217 _ (by decide) (by decide)
theorem n_217 {M : Mm} {X : Nat} (h : St M X) : mN M (X + 217) = 8 := h.N 217 _ (by decide) (by decide) (by decide)
theorem k_218 {M : Mm} {X : Nat} (h : St M X) : mK M (X + 218) = 20 := h.K 218 _ (by decide) (by decide)
theorem n_218 {M : Mm} {X : Nat} (h : St M X) : mN M (X + 218) = 8 := h.N 218 _ (by decide) (by decide) (by decide)
theorem k_219 {M : Mm} {X : Nat} (h : St M X) : mK M (X + 219) = 20 := h.K 219 _ (by decide) (by decide)
theorem n_219 {M : Mm} {X : Nat} (h : St M X) : mN M (X + 219) = 8 := h.N 219 _ (by decide) (by decide) (by decide)
theorem k_220 {M : Mm} {X : Nat} (h : St M X) : mK M (X + 220) = 21 := h.K 220 _ (by decide) (by decide)
theorem n_220 {M : Mm} {X : Nat} (h : St M X) : mN M (X + 220) = 8 := h.N 220 _ (by decide) (by decide) (by decide)
theorem k_221 {M : Mm} {X : Nat} (h : St M X) : mK M (X + 221) = 20 := h.K 221 _ (by decide) (by decide)
theorem n_221 {M : Mm} {X : Nat} (h : St M X) : mN M (X + 221) = 0 := h.N 221 _ (by decide) (by decide) (by decide)
theorem k_222 {M : Mm} {X : Nat} (h : St M X) : mK M (X + 222) = 3 := h.K 222 _ (by decide) (by decide)
theorem k_223 {M : Mm} {X : Nat} (h : St M X) : mK M (X + 223) = 4 := h.K 223 _ (by decide) (by decide)
theorem k_224 {M : Mm} {X : Nat} (h : St M X) : mK M (X + 224) = 21 := h.K 224 _ (by decide) (by decide)
theorem n_224 {M : Mm} {X : Nat} (h : St M X) : mN M (X + 224) = 8 := h.N 224 _ (by decide) (by decide) (by decide)
theorem k_225 {M : Mm} {X : Nat} (h : St M X) : mK M (X + 225) = 20 := h.K 225 _ (by decide) (by decide)
theorem n_225 {M : Mm} {X : Nat} (h : St M X) : mN M (X + 225) = 8 := h.N 225 _ (by decide) (by decide) (by decide)
theorem k_226 {M : Mm} {X : Nat} (h : St M X) : mK M (X + 226) = 12 := h.K 226 _ (by decide) (by decide)
theorem k_227 {M : Mm} {X : Nat} (h : St M X) : mK M (X + 227) = 20 := h.K 227 _ (by decide) (by decide)
theorem n_227 {M : Mm} {X : Nat} (h : St M X) : mN M (X + 227) = 8 := h.N 227 _ (by decide) (by decide) (by decide)
theorem k_228 {M : Mm} {X : Nat} (h : St M X) : mK M (X + 228) = 20 := h.K 228 _ (by decide) (by decide)
theorem n_228 {M : Mm} {X : Nat} (h : St M X) : mN M (X + 228) = 8 := h.N 228 _ (by decide) (by decide) (by decide)
theorem k_229 {M : Mm} {X : Nat} (h : St M X) : mK M (X + 229) = 20 := h.K 229 _ (by decide) (by decide)
theorem n_229 {M : Mm} {X : Nat} (h : St M X) : mN M (X + 229) = 8 := h.N 229 _ (by decide) (by decide) (by decide)
theorem k_230 {M : Mm} {X : Nat} (h : St M X) : mK M (X + 230) = 21 := h.K 230 _ (by decide) (by decide)
theorem n_230 {M : Mm} {X : Nat} (h : St M X) : mN M (X + 230) = 8 := h.N 230 _ (by decide) (by decide) (by decide)
theorem k_231 {M : Mm} {X : Nat} (h : St M X) : mK M (X + 231) = 21 := h.K 231 _ (by decide) (by decide)
theorem n_231 {M : Mm} {X : Nat} (h : St M X) : mN M (X + 231) = 8 := h.N 231 _ (by decide) (by decide) (by decide)
theorem k_232 {M : Mm} {X : Nat} (h : St M X) : mK M (X + 232) = 20 := h.K 232 _ (by decide) (by decide)
theorem n_232 {M : Mm} {X : Nat} (h : St M X) : mN M (X + 232) = 8 := h.N 232 _ (by decide) (by decide) (by decide)
theorem k_233 {M : Mm} {X : Nat} (h : St M X) : mK M (X + 233) = 20 := h.K 233 _ (by decide) (by decide)
theorem n_233 {M : Mm} {X : Nat} (h : St M X) : mN M (X + 233) = 8 := h.N 233 _ (by decide) (by decide) (by decide)
theorem k_234 {M : Mm} {X : Nat} (h : St M X) : mK M (X + 234) = 20 := h.K 234 _ (by decide) (by decide)
theorem n_234 {M : Mm} {X : Nat} (h : St M X) : mN M (X + 234) = 64 := h.N 234 _ (by decide) (by decide) (by decide)
theorem k_235 {M : Mm} {X : Nat} (h : St M X) : mK M (X + 235) = 22 := h.K 235 _ (by decide) (by decide)
theorem n_235 {M : Mm} {X : Nat} (h : St M X) : mN M (X + 235) = 8 := h.N 235 _ (by decide) (by decide) (by decide)
theorem k_236 {M : Mm} {X : Nat} (h : St M X) : mK M (X + 236) = 20 := h.K 236 _ (by decide) (by decide)
theorem n_236 {M : Mm} {X : Nat} (h : St M X) : mN M (X + 236) = 8 := h.N 236 _ (by decide) (by decide) (by decide)
theorem k_237 {M : Mm} {X : Nat} (h : St M X) : mK M (X + 237) = 20 := h.K 237 _ (by decide) (by decide)
theorem n_237 {M : Mm} {X : Nat} (h : St M X) : mN M (X + 237) = 72 := h.N 237 _ (by decide) (by decide) (by decide)
theorem k_238 {M : Mm} {X : Nat} (h : St M X) : mK M (X + 238) = 21 := h.K 238 _ (by decide) (by decide)
theorem n_238 {M : Mm} {X : Nat} (h : St M X) : mN M (X + 238) = 576 := h.N 238 _ (by decide) (by decide) (by decide)
theorem k_239 {M : Mm} {X : Nat} (h : St M X) : mK M (X + 239) = 20 := h.K 239 _ (by decide) (by decide)
theorem n_239 {M : Mm} {X : Nat} (h : St M X) : mN M (X + 239) = 200 := h.N 239 _ (by decide) (by decide) (by decide)
theorem k_240 {M : Mm} {X : Nat} (h : St M X) : mK M (X + 240) = 20 := h.K 240 _ (by decide) (by decide)
theorem n_240 {M : Mm} {X : Nat} (h : St M X) : mN M (X + 240) = 12800 := h.N 240 _ (by decide) (by decide) (by decide)
theorem k_241 {M : Mm} {X : Nat} (h : St M X) : mK M (X + 241) = 20 := h.K 241 _ (by decide) (by decide)
theorem n_241 {M : Mm} {X : Nat} (h : St M X) : mN M (X + 241) = 200 := h.N 241 _ (by decide) (by decide) (by decide)
theorem k_242 {M : Mm} {X : Nat} (h : St M X) : mK M (X + 242) = 20 := h.K 242 _ (by decide) (by decide)
theorem n_242 {M : Mm} {X : Nat} (h : St M X) : mN M (X + 242) = 200 := h.N 242 _ (by decide) (by decide) (by decide)
theorem k_243 {M : Mm} {X : Nat} (h : St M X) : mK M (X + 243) = 20 := h.K 243 _ (by decide) (by decide)
theorem n_243 {M : Mm} {X : Nat} (h : St M X) : mN M (X + 243) = 200 := h.N 243 _ (by decide) (by decide) (by decide)
theorem k_244 {M : Mm} {X : Nat} (h : St M X) : mK M (X + 244) = 20 := h.K 244 _ (by decide) (by decide)
theorem n_244 {M : Mm} {X : Nat} (h : St M X) : mN M (X + 244) = 200 := h.N 244 _ (by decide) (by decide) (by decide)
theorem k_245 {M : Mm} {X : Nat} (h : St M X) : mK M (X + 245) = 20 := h.K 245 _ (by decide) (by decide)
theorem n_245 {M : Mm} {X : Nat} (h : St M X) : mN M (X + 245) = 200 := h.N 245 _ (by decide) (by decide) (by decide)
theorem k_246 {M : Mm} {X : Nat} (h : St M X) : mK M (X + 246) = 22 := h.K 246 _ (by decide) (by decide)
theorem n_246 {M : Mm} {X : Nat} (h : St M X) : mN M (X + 246) = 200 := h.N 246 _ (by decide) (by decide) (by decide)
theorem k_247 {M : Mm} {X : Nat} (h : St M X) : mK M (X + 247) = 22 := h.K 247 _ (by decide) (by decide)
theorem n_247 {M : Mm} {X : Nat} (h : St M X) : mN M (X + 247) = 200 := h.N 247 _ (by decide) (by decide) (by decide)
theorem k_248 {M : Mm} {X : Nat} (h : St M X) : mK M (X + 248) = 20 := h.K 248 _ (by decide) (by decide)
theorem n_248 {M : Mm} {X : Nat} (h : St M X) : mN M (X + 248) = 1600 := h.N 248 _ (by decide) (by decide) (by decide)
theorem k_249 {M : Mm} {X : Nat} (h : St M X) : mK M (X + 249) = 20 := h.K 249 _ (by decide) (by decide)
theorem n_249 {M : Mm} {X : Nat} (h : St M X) : mN M (X + 249) = 1600 := h.N 249 _ (by decide) (by decide) (by decide)
theorem k_250 {M : Mm} {X : Nat} (h : St M X) : mK M (X + 250) = 20 := h.K 250 _ (by decide) (by decide)
theorem n_250 {M : Mm} {X : Nat} (h : St M X) : mN M (X + 250) = 200 := h.N 250 _ (by decide) (by decide) (by decide)
theorem k_251 {M : Mm} {X : Nat} (h : St M X) : mK M (X + 251) = 20 := h.K 251 _ (by decide) (by decide)
theorem n_251 {M : Mm} {X : Nat} (h : St M X) : mN M (X + 251) = 200 := h.N 251 _ (by decide) (by decide) (by decide)
theorem k_252 {M : Mm} {X : Nat} (h : St M X) : mK M (X + 252) = 22 := h.K 252 _ (by decide) (by decide)
theorem n_252 {M : Mm} {X : Nat} (h : St M X) : mN M (X + 252) = 8 := h.N 252 _ (by decide) (by decide) (by decide)
theorem k_253 {M : Mm} {X : Nat} (h : St M X) : mK M (X + 253) = 20 := h.K 253 _ (by decide) (by decide)
theorem n_253 {M : Mm} {X : Nat} (h : St M X) : mN M (X + 253) = 8 := h.N 253 _ (by decide) (by decide) (by decide)
theorem k_254 {M : Mm} {X : Nat} (h : St M X) : mK M (X + 254) = 20 := h.K 254 _ (by decide) (by decide)
theorem n_254 {M : Mm} {X : Nat} (h : St M X) : mN M (X + 254) = 8 := h.N 254 _ (by decide) (by decide) (by decide)
theorem k_255 {M : Mm} {X : Nat} (h : St M X) : mK M (X + 255) = 20 := h.K 255 _ (by decide) (by decide)
theorem n_255 {M : Mm} {X : Nat} (h : St M X) : mN M (X + 255) = 64 := h.N 255 _ (by decide) (by decide) (by decide)
theorem k_256 {M : Mm} {X : Nat} (h : St M X) : mK M (X + 256) = 21 := h.K 256 _ (by decide) (by decide)
theorem n_256 {M : Mm} {X : Nat} (h : St M X) : mN M (X + 256) = 64 := h.N 256 _ (by decide) (by decide) (by decide)
theorem k_257 {M : Mm} {X : Nat} (h : St M X) : mK M (X + 257) = 21 := h.K 257 _ (by decide) (by decide)
theorem n_257 {M : Mm} {X : Nat} (h : St M X) : mN M (X + 257) = 8 := h.N 257 _ (by decide) (by decide) (by decide)
theorem k_258 {M : Mm} {X : Nat} (h : St M X) : mK M (X + 258) = 20 := h.K 258 _ (by decide) (by decide)
theorem n_258 {M : Mm} {X : Nat} (h : St M X) : mN M (X + 258) = 8 := h.N 258 _ (by decide) (by decide) (by decide)
theorem k_259 {M : Mm} {X : Nat} (h : St M X) : mK M (X + 259) = 20 := h.K 259 _ (by decide) (by decide)
theorem n_259 {M : Mm} {X : Nat} (h : St M X) : mN M (X + 259) = 600 := h.N 259 _ (by decide) (by decide) (by decide)
theorem k_260 {M : Mm} {X : Nat} (h : St M X) : mK M (X + 260) = 20 := h.K 260 _ (by decide) (by decide)
theorem n_260 {M : Mm} {X : Nat} (h : St M X) : mN M (X + 260) = 8 := h.N 260 _ (by decide) (by decide) (by decide)
theorem k_261 {M : Mm} {X : Nat} (h : St M X) : mK M (X + 261) = 20 := h.K 261 _ (by decide) (by decide)
theorem n_261 {M : Mm} {X : Nat} (h : St M X) : mN M (X + 261) = 8 := h.N 261 _ (by decide) (by decide) (by decide)
theorem k_262 {M : Mm} {X : Nat} (h : St M X) : mK M (X + 262) = 21 := h.K 262 _ (by decide) (by decide)
theorem n_262 {M : Mm} {X : Nat} (h : St M X) : mN M (X + 262) = 8 := h.N 262 _ (by decide) (by decide) (by decide)
theorem k_263 {M : Mm} {X : Nat} (h : St M X) : mK M (X + 263) = 20 := h.K 263 _ (by decide) (by decide)
theorem n_263 {M : Mm} {X : Nat} (h : St M X) : mN M (X + 263) = 8 := h.N 263 _ (by decide) (by decide) (by decide)
theorem k_264 {M : Mm} {X : Nat} (h : St M X) : mK M (X + 264) = 21 := h.K 264 _ (by decide) (by decide)
theorem n_264 {M : Mm} {X : Nat} (h : St M X) : mN M (X + 264) = 8 := h.N 264 _ (by decide) (by decide) (by decide)
theorem k_265 {M : Mm} {X : Nat} (h : St M X) : mK M (X + 265) = 20 := h.K 265 _ (by decide) (by decide)
theorem n_265 {M : Mm} {X : Nat} (h : St M X) : mN M (X + 265) = 8 := h.N 265 _ (by decide) (by decide) (by decide)
theorem k_266 {M : Mm} {X : Nat} (h : St M X) : mK M (X + 266) = 20 := h.K 266 _ (by decide) (by decide)
theorem n_266 {M : Mm} {X : Nat} (h : St M X) : mN M (X + 266) = 8 := h.N 266 _ (by decide) (by decide) (by decide)
theorem k_267 {M : Mm} {X : Nat} (h : St M X) : mK M (X + 267) = 20 := h.K 267 _ (by decide) (by decide)
theorem n_267 {M : Mm} {X : Nat} (h : St M X) : mN M (X + 267) = 8 := h.N 267 _ (by decide) (by decide) (by decide)
theorem k_268 {M : Mm} {X : Nat} (h : St M X) : mK M (X + 268) = 21 := h.K 268 _ (by decide) (by decide)
theorem n_268 {M : Mm} {X : Nat} (h : St M X) : mN M (X + 268) = 512 := h.N 268 _ (by decide) (by decide) (by decide)
theorem k_269 {M : Mm} {X : Nat} (h : St M X) : mK M (X + 269) = 21 := h.K 269 _ (by decide) (by decide)
theorem n_269 {M : Mm} {X : Nat} (h : St M X) : mN M (X + 269) = 64 := h.N 269 _ (by decide) (by decide) (by decide)
theorem r_0_1001 {M : Mm} {X : Nat} (h : St M X) : gR M 11 1001 (X) = some (X + 1) := gR_of (k_0 h) (h.R 1001 0 1 (by decide))
theorem r_0_1002 {M : Mm} {X : Nat} (h : St M X) : gR M 11 1002 (X) = some (X + 6) := gR_of (k_0 h) (h.R 1002 0 6 (by decide))
theorem r_0_1003 {M : Mm} {X : Nat} (h : St M X) : gR M 11 1003 (X) = some (X + 8) := gR_of (k_0 h) (h.R 1003 0 8 (by decide))
theorem r_0_1004 {M : Mm} {X : Nat} (h : St M X) : gR M 11 1004 (X) = some (X + 9) := gR_of (k_0 h) (h.R 1004 0 9 (by decide))
theorem r_0_1005 {M : Mm} {X : Nat} (h : St M X) : gR M 11 1005 (X) = some (X + 194) := gR_of (k_0 h) (h.R 1005 0 194 (by decide))
theorem r_0_1006 {M : Mm} {X : Nat} (h : St M X) : gR M 11 1006 (X) = some (X + 195) := gR_of (k_0 h) (h.R 1006 0 195 (by decide))
theorem r_0_1007 {M : Mm} {X : Nat} (h : St M X) : gR M 11 1007 (X) = some (X + 212) := gR_of (k_0 h) (h.R 1007 0 212 (by decide))
theorem r_0_1008 {M : Mm} {X : Nat} (h : St M X) : gR M 11 1008 (X) = some (X + 214) := gR_of (k_0 h) (h.R 1008 0 214 (by decide))
theorem r_0_1009 {M : Mm} {X : Nat} (h : St M X) : gR M 11 1009 (X) = some (X + 222) := gR_of (k_0 h) (h.R 1009 0 222 (by decide))
theorem r_1_600 {M : Mm} {X : Nat} (h : St M X) : gR M 7 600 (X + 1) = some (X + 2) := gR_of (k_1 h) (h.R 600 1 2 (by decide))
theorem r_1_601 {M : Mm} {X : Nat} (h : St M X) : gR M 7 601 (X + 1) = some (X + 3) := gR_of (k_1 h) (h.R 601 1 3 (by decide))
theorem r_1_602 {M : Mm} {X : Nat} (h : St M X) : gR M 7 602 (X + 1) = some (X + 4) := gR_of (k_1 h) (h.R 602 1 4 (by decide))
theorem r_1_603 {M : Mm} {X : Nat} (h : St M X) : gR M 7 603 (X + 1) = some (X + 5) := gR_of (k_1 h) (h.R 603 1 5 (by decide))
theorem r_6_300 {M : Mm} {X : Nat} (h : St M X) : gR M 4 300 (X + 6) = some (X + 7) := gR_of (k_6 h) (h.R 300 6 7 (by decide))
theorem r_212_500 {M : Mm} {X : Nat} (h : St M X) : gR M 6 500 (X + 212) = some (X + 213) := gR_of (k_212 h) (h.R 500 212 213 (by decide))
theorem r_214_0 {M : Mm} {X : Nat} (h : St M X) : gR M 1 0 (X + 214) = some (X + 215) := gR_of (k_214 h) (h.R 0 214 215 (by decide))
theorem r_214_1 {M : Mm} {X : Nat} (h : St M X) : gR M 1 1 (X + 214) = some (X + 217) := gR_of (k_214 h) (h.R 1 214 217 (by decide))
theorem r_214_2 {M : Mm} {X : Nat} (h : St M X) : gR M 1 2 (X + 214) = some (X + 218) := gR_of (k_214 h) (h.R 2 214 218 (by decide))
theorem r_214_3 {M : Mm} {X : Nat} (h : St M X) : gR M 1 3 (X + 214) = some (X + 219) := gR_of (k_214 h) (h.R 3 214 219 (by decide))
theorem r_214_4 {M : Mm} {X : Nat} (h : St M X) : gR M 1 4 (X + 214) = some (X + 220) := gR_of (k_214 h) (h.R 4 214 220 (by decide))
theorem r_215_300 {M : Mm} {X : Nat} (h : St M X) : gR M 4 300 (X + 215) = some (X + 216) := gR_of (k_215 h) (h.R 300 215 216 (by decide))
theorem r_222_200 {M : Mm} {X : Nat} (h : St M X) : gR M 3 200 (X + 222) = some (X + 223) := gR_of (k_222 h) (h.R 200 222 223 (by decide))
theorem r_222_201 {M : Mm} {X : Nat} (h : St M X) : gR M 3 201 (X + 222) = some (X + 225) := gR_of (k_222 h) (h.R 201 222 225 (by decide))
theorem r_223_300 {M : Mm} {X : Nat} (h : St M X) : gR M 4 300 (X + 223) = some (X + 224) := gR_of (k_223 h) (h.R 300 223 224 (by decide))
theorem r_226_1102 {M : Mm} {X : Nat} (h : St M X) : gR M 12 1102 (X + 226) = some (X + 227) := gR_of (k_226 h) (h.R 1102 226 227 (by decide))
theorem r_226_1103 {M : Mm} {X : Nat} (h : St M X) : gR M 12 1103 (X + 226) = some (X + 228) := gR_of (k_226 h) (h.R 1103 226 228 (by decide))
theorem r_226_1104 {M : Mm} {X : Nat} (h : St M X) : gR M 12 1104 (X + 226) = some (X + 229) := gR_of (k_226 h) (h.R 1104 226 229 (by decide))
theorem r_226_1105 {M : Mm} {X : Nat} (h : St M X) : gR M 12 1105 (X + 226) = some (X + 230) := gR_of (k_226 h) (h.R 1105 226 230 (by decide))
theorem r_226_1108 {M : Mm} {X : Nat} (h : St M X) : gR M 12 1108 (X + 226) = some (X + 231) := gR_of (k_226 h) (h.R 1108 226 231 (by decide))
theorem r_226_1109 {M : Mm} {X : Nat} (h : St M X) : gR M 12 1109 (X + 226) = some (X + 232) := gR_of (k_226 h) (h.R 1109 226 232 (by decide))
theorem r_226_1110 {M : Mm} {X : Nat} (h : St M X) : gR M 12 1110 (X + 226) = some (X + 233) := gR_of (k_226 h) (h.R 1110 226 233 (by decide))
theorem r_226_1111 {M : Mm} {X : Nat} (h : St M X) : gR M 12 1111 (X + 226) = some (X + 234) := gR_of (k_226 h) (h.R 1111 226 234 (by decide))
theorem r_226_1112 {M : Mm} {X : Nat} (h : St M X) : gR M 12 1112 (X + 226) = some (X + 235) := gR_of (k_226 h) (h.R 1112 226 235 (by decide))
theorem r_226_1113 {M : Mm} {X : Nat} (h : St M X) : gR M 12 1113 (X + 226) = some (X + 236) := gR_of (k_226 h) (h.R 1113 226 236 (by decide))
theorem r_226_1114 {M : Mm} {X : Nat} (h : St M X) : gR M 12 1114 (X + 226) = some (X + 237) := gR_of (k_226 h) (h.R 1114 226 237 (by decide))
theorem r_226_1115 {M : Mm} {X : Nat} (h : St M X) : gR M 12 1115 (X + 226) = some (X + 238) := gR_of (k_226 h) (h.R 1115 226 238 (by decide))
theorem r_226_1117 {M : Mm} {X : Nat} (h : St M X) : gR M 12 1117 (X + 226) = some (X + 239) := gR_of (k_226 h) (h.R 1117 226 239 (by decide))
theorem r_226_1118 {M : Mm} {X : Nat} (h : St M X) : gR M 12 1118 (X + 226) = some (X + 240) := gR_of (k_226 h) (h.R 1118 226 240 (by decide))
theorem r_226_1119 {M : Mm} {X : Nat} (h : St M X) : gR M 12 1119 (X + 226) = some (X + 241) := gR_of (k_226 h) (h.R 1119 226 241 (by decide))
theorem r_226_1120 {M : Mm} {X : Nat} (h : St M X) : gR M 12 1120 (X + 226) = some (X + 242) := gR_of (k_226 h) (h.R 1120 226 242 (by decide))
theorem r_226_1121 {M : Mm} {X : Nat} (h : St M X) : gR M 12 1121 (X + 226) = some (X + 243) := gR_of (k_226 h) (h.R 1121 226 243 (by decide))
theorem r_226_1122 {M : Mm} {X : Nat} (h : St M X) : gR M 12 1122 (X + 226) = some (X + 244) := gR_of (k_226 h) (h.R 1122 226 244 (by decide))
theorem r_226_1123 {M : Mm} {X : Nat} (h : St M X) : gR M 12 1123 (X + 226) = some (X + 245) := gR_of (k_226 h) (h.R 1123 226 245 (by decide))
theorem r_226_1124 {M : Mm} {X : Nat} (h : St M X) : gR M 12 1124 (X + 226) = some (X + 246) := gR_of (k_226 h) (h.R 1124 226 246 (by decide))
theorem r_226_1125 {M : Mm} {X : Nat} (h : St M X) : gR M 12 1125 (X + 226) = some (X + 247) := gR_of (k_226 h) (h.R 1125 226 247 (by decide))
theorem r_226_1126 {M : Mm} {X : Nat} (h : St M X) : gR M 12 1126 (X + 226) = some (X + 248) := gR_of (k_226 h) (h.R 1126 226 248 (by decide))
theorem r_226_1127 {M : Mm} {X : Nat} (h : St M X) : gR M 12 1127 (X + 226) = some (X + 249) := gR_of (k_226 h) (h.R 1127 226 249 (by decide))
theorem r_226_1128 {M : Mm} {X : Nat} (h : St M X) : gR M 12 1128 (X + 226) = some (X + 250) := gR_of (k_226 h) (h.R 1128 226 250 (by decide))
theorem r_226_1129 {M : Mm} {X : Nat} (h : St M X) : gR M 12 1129 (X + 226) = some (X + 251) := gR_of (k_226 h) (h.R 1129 226 251 (by decide))
theorem r_226_1130 {M : Mm} {X : Nat} (h : St M X) : gR M 12 1130 (X + 226) = some (X + 252) := gR_of (k_226 h) (h.R 1130 226 252 (by decide))
theorem r_226_1131 {M : Mm} {X : Nat} (h : St M X) : gR M 12 1131 (X + 226) = some (X + 253) := gR_of (k_226 h) (h.R 1131 226 253 (by decide))
theorem r_226_1132 {M : Mm} {X : Nat} (h : St M X) : gR M 12 1132 (X + 226) = some (X + 254) := gR_of (k_226 h) (h.R 1132 226 254 (by decide))
theorem r_226_1133 {M : Mm} {X : Nat} (h : St M X) : gR M 12 1133 (X + 226) = some (X + 255) := gR_of (k_226 h) (h.R 1133 226 255 (by decide))
theorem r_226_1134 {M : Mm} {X : Nat} (h : St M X) : gR M 12 1134 (X + 226) = some (X + 256) := gR_of (k_226 h) (h.R 1134 226 256 (by decide))
theorem r_226_1139 {M : Mm} {X : Nat} (h : St M X) : gR M 12 1139 (X + 226) = some (X + 257) := gR_of (k_226 h) (h.R 1139 226 257 (by decide))
theorem r_226_1140 {M : Mm} {X : Nat} (h : St M X) : gR M 12 1140 (X + 226) = some (X + 258) := gR_of (k_226 h) (h.R 1140 226 258 (by decide))
theorem r_226_1141 {M : Mm} {X : Nat} (h : St M X) : gR M 12 1141 (X + 226) = some (X + 259) := gR_of (k_226 h) (h.R 1141 226 259 (by decide))
theorem r_226_1146 {M : Mm} {X : Nat} (h : St M X) : gR M 12 1146 (X + 226) = some (X + 260) := gR_of (k_226 h) (h.R 1146 226 260 (by decide))
theorem r_226_1147 {M : Mm} {X : Nat} (h : St M X) : gR M 12 1147 (X + 226) = some (X + 261) := gR_of (k_226 h) (h.R 1147 226 261 (by decide))
theorem r_226_1148 {M : Mm} {X : Nat} (h : St M X) : gR M 12 1148 (X + 226) = some (X + 262) := gR_of (k_226 h) (h.R 1148 226 262 (by decide))
theorem r_226_1149 {M : Mm} {X : Nat} (h : St M X) : gR M 12 1149 (X + 226) = some (X + 263) := gR_of (k_226 h) (h.R 1149 226 263 (by decide))
theorem r_226_1152 {M : Mm} {X : Nat} (h : St M X) : gR M 12 1152 (X + 226) = some (X + 264) := gR_of (k_226 h) (h.R 1152 226 264 (by decide))
theorem r_226_1153 {M : Mm} {X : Nat} (h : St M X) : gR M 12 1153 (X + 226) = some (X + 265) := gR_of (k_226 h) (h.R 1153 226 265 (by decide))
theorem r_226_1154 {M : Mm} {X : Nat} (h : St M X) : gR M 12 1154 (X + 226) = some (X + 266) := gR_of (k_226 h) (h.R 1154 226 266 (by decide))
theorem r_226_1155 {M : Mm} {X : Nat} (h : St M X) : gR M 12 1155 (X + 226) = some (X + 267) := gR_of (k_226 h) (h.R 1155 226 267 (by decide))
theorem r_226_1156 {M : Mm} {X : Nat} (h : St M X) : gR M 12 1156 (X + 226) = some (X + 268) := gR_of (k_226 h) (h.R 1156 226 268 (by decide))
theorem r_226_1157 {M : Mm} {X : Nat} (h : St M X) : gR M 12 1157 (X + 226) = some (X + 269) := gR_of (k_226 h) (h.R 1157 226 269 (by decide))
theorem kk_aSq : ∀ i, i < 8 → kT (10 + 23 * i) = 10 := by decide
theorem k_aSq {M : Mm} {X : Nat} (h : St M X) {i : Nat} (hi : i < 8) : mK M (aSq X i) = 10 := h.K _ _ (by omega) (kk_aSq i hi)
theorem kk_aSt : ∀ i, i < 8 → kT (11 + 23 * i) = 20 := by decide
theorem k_aSt {M : Mm} {X : Nat} (h : St M X) {i : Nat} (hi : i < 8) : mK M (aSt X i) = 20 := h.K _ _ (by omega) (kk_aSt i hi)
theorem nn_aSt : ∀ i, i < 8 → nT (11 + 23 * i) = 8 := by decide
theorem n_aSt {M : Mm} {X : Nat} (h : St M X) {i : Nat} (hi : i < 8) : mN M (aSt X i) = 8 := h.N _ _ (by omega) (by rw [kk_aSt i hi]; decide) (nn_aSt i hi)
theorem kk_aRg : ∀ i, i < 8 → kT (12 + 23 * i) = 24 := by decide
theorem k_aRg {M : Mm} {X : Nat} (h : St M X) {i : Nat} (hi : i < 8) : mK M (aRg X i) = 24 := h.K _ _ (by omega) (kk_aRg i hi)
theorem nn_aRg : ∀ i, i < 8 → nT (12 + 23 * i) = 8 := by decide
theorem n_aRg {M : Mm} {X : Nat} (h : St M X) {i : Nat} (hi : i < 8) : mN M (aRg X i) = 8 := h.N _ _ (by omega) (by rw [kk_aRg i hi]; decide) (nn_aRg i hi)
theorem kk_aHd : ∀ i, i < 8 → ∀ j, j < 8 → kT (13 + 23 * i + 2 * j) = 4 := by decide
theorem k_aHd {M : Mm} {X : Nat} (h : St M X) {i j : Nat} (hi : i < 8) (hj : j < 8) : mK M (aHd X i j) = 4 := h.K _ _ (by omega) (kk_aHd i hi j hj)
theorem kk_aHv : ∀ i, i < 8 → ∀ j, j < 8 → kT (14 + 23 * i + 2 * j) = 21 := by decide
theorem k_aHv {M : Mm} {X : Nat} (h : St M X) {i j : Nat} (hi : i < 8) (hj : j < 8) : mK M (aHv X i j) = 21 := h.K _ _ (by omega) (kk_aHv i hi j hj)
theorem nn_aHv : ∀ i, i < 8 → ∀ j, j < 8 → nT (14 + 23 * i + 2 * j) = 8 := by decide
theorem n_aHv {M : Mm} {X : Nat} (h : St M X) {i j : Nat} (hi : i < 8) (hj : j < 8) : mN M (aHv X i j) = 8 := h.N _ _ (by omega) (by rw [kk_aHv i hi j hj]; decide) (nn_aHv i hi j hj)
theorem kk_aCx : ∀ i, i < 8 → kT (29 + 23 * i) = 2 := by decide
theorem k_aCx {M : Mm} {X : Nat} (h : St M X) {i : Nat} (hi : i < 8) : mK M (aCx X i) = 2 := h.K _ _ (by omega) (kk_aCx i hi)
theorem kk_aCh : ∀ i, i < 8 → kT (30 + 23 * i) = 4 := by decide
theorem k_aCh {M : Mm} {X : Nat} (h : St M X) {i : Nat} (hi : i < 8) : mK M (aCh X i) = 4 := h.K _ _ (by omega) (kk_aCh i hi)
theorem kk_aCv : ∀ i, i < 8 → kT (31 + 23 * i) = 21 := by decide
theorem k_aCv {M : Mm} {X : Nat} (h : St M X) {i : Nat} (hi : i < 8) : mK M (aCv X i) = 21 := h.K _ _ (by omega) (kk_aCv i hi)
theorem nn_aCv : ∀ i, i < 8 → nT (31 + 23 * i) = 8 := by decide
theorem n_aCv {M : Mm} {X : Nat} (h : St M X) {i : Nat} (hi : i < 8) : mN M (aCv X i) = 8 := h.N _ _ (by omega) (by rw [kk_aCv i hi]; decide) (nn_aCv i hi)
theorem kk_aCs : ∀ i, i < 8 → kT (32 + 23 * i) = 20 := by decide
theorem k_aCs {M : Mm} {X : Nat} (h : St M X) {i : Nat} (hi : i < 8) : mK M (aCs X i) = 20 := h.K _ _ (by omega) (kk_aCs i hi)
theorem nn_aCs : ∀ i, i < 8 → nT (32 + 23 * i) = 8 := by decide
theorem n_aCs {M : Mm} {X : Nat} (h : St M X) {i : Nat} (hi : i < 8) : mN M (aCs X i) = 8 := h.N _ _ (by omega) (by rw [kk_aCs i hi]; decide) (nn_aCs i hi)
theorem kk_aSh : ∀ i, i < 8 → kT (196 + 2 * i) = 9 := by decide
theorem k_aSh {M : Mm} {X : Nat} (h : St M X) {i : Nat} (hi : i < 8) : mK M (aSh X i) = 9 := h.K _ _ (by omega) (kk_aSh i hi)
theorem kk_aSr : ∀ i, i < 8 → kT (197 + 2 * i) = 21 := by decide
theorem k_aSr {M : Mm} {X : Nat} (h : St M X) {i : Nat} (hi : i < 8) : mK M (aSr X i) = 21 := h.K _ _ (by omega) (kk_aSr i hi)
theorem nn_aSr : ∀ i, i < 8 → nT (197 + 2 * i) = 60 := by decide
theorem n_aSr {M : Mm} {X : Nat} (h : St M X) {i : Nat} (hi : i < 8) : mN M (aSr X i) = 60 := h.N _ _ (by omega) (by rw [kk_aSr i hi]; decide) (nn_aSr i hi)
theorem rr_aSq_900 : ∀ i, i < 8 → (900, 10 + 23 * i, 11 + 23 * i) ∈ rT := by decide +kernel
theorem r_aSq_900 {M : Mm} {X : Nat} (h : St M X) {i : Nat} (hi : i < 8) : gR M 10 900 (aSq X i) = some (aSt X i) := gR_of (k_aSq h hi) (h.R _ _ _ (rr_aSq_900 i hi))
theorem rr_aSq_905 : ∀ i, i < 8 → (905, 10 + 23 * i, 12 + 23 * i) ∈ rT := by decide +kernel
theorem r_aSq_905 {M : Mm} {X : Nat} (h : St M X) {i : Nat} (hi : i < 8) : gR M 10 905 (aSq X i) = some (aRg X i) := gR_of (k_aSq h hi) (h.R _ _ _ (rr_aSq_905 i hi))
theorem rr_aHd_300 : ∀ i, i < 8 → ∀ j, j < 8 → (300, 13 + 23 * i + 2 * j, 14 + 23 * i + 2 * j) ∈ rT := by decide +kernel
theorem r_aHd_300 {M : Mm} {X : Nat} (h : St M X) {i j : Nat} (hi : i < 8) (hj : j < 8) : gR M 4 300 (aHd X i j) = some (aHv X i j) := gR_of (k_aHd h hi hj) (h.R _ _ _ (rr_aHd_300 i hi j hj))
theorem rr_aCx_100 : ∀ i, i < 8 → (100, 29 + 23 * i, 30 + 23 * i) ∈ rT := by decide +kernel
theorem r_aCx_100 {M : Mm} {X : Nat} (h : St M X) {i : Nat} (hi : i < 8) : gR M 2 100 (aCx X i) = some (aCh X i) := gR_of (k_aCx h hi) (h.R _ _ _ (rr_aCx_100 i hi))
theorem rr_aCx_101 : ∀ i, i < 8 → (101, 29 + 23 * i, 32 + 23 * i) ∈ rT := by decide +kernel
theorem r_aCx_101 {M : Mm} {X : Nat} (h : St M X) {i : Nat} (hi : i < 8) : gR M 2 101 (aCx X i) = some (aCs X i) := gR_of (k_aCx h hi) (h.R _ _ _ (rr_aCx_101 i hi))
theorem rr_aCh_300 : ∀ i, i < 8 → (300, 30 + 23 * i, 31 + 23 * i) ∈ rT := by decide +kernel
theorem r_aCh_300 {M : Mm} {X : Nat} (h : St M X) {i : Nat} (hi : i < 8) : gR M 4 300 (aCh X i) = some (aCv X i) := gR_of (k_aCh h hi) (h.R _ _ _ (rr_aCh_300 i hi))
theorem rr_aSh_800 : ∀ i, i < 8 → (800, 196 + 2 * i, 197 + 2 * i) ∈ rT := by decide +kernel
theorem r_aSh_800 {M : Mm} {X : Nat} (h : St M X) {i : Nat} (hi : i < 8) : gR M 9 800 (aSh X i) = some (aSr X i) := gR_of (k_aSh h hi) (h.R _ _ _ (rr_aSh_800 i hi))
theorem qq_sq : ∀ i, i < 8 → (8, i, 10 + 23 * i) ∈ qT := by decide +kernel
theorem q_sq {M : Mm} {X : Nat} (h : St M X) {i : Nat} (hi : i < 8) : aR M 27 (X + 8) (nI i) = some (aSq X i) := aR_of (k_8 h) (n_8 h) hi (by decide) (h.Q _ _ _ (qq_sq i hi))
theorem qq_cx : ∀ i, i < 8 → (9, i, 29 + 23 * i) ∈ qT := by decide +kernel
theorem q_cx {M : Mm} {X : Nat} (h : St M X) {i : Nat} (hi : i < 8) : aR M 23 (X + 9) (nI i) = some (aCx X i) := aR_of (k_9 h) (n_9 h) hi (by decide) (h.Q _ _ _ (qq_cx i hi))
theorem qq_sh : ∀ i, i < 8 → (195, i, 196 + 2 * i) ∈ qT := by decide +kernel
theorem q_sh {M : Mm} {X : Nat} (h : St M X) {i : Nat} (hi : i < 8) : aR M 26 (X + 195) (nI i) = some (aSh X i) := aR_of (k_195 h) (n_195 h) hi (by decide) (h.Q _ _ _ (qq_sh i hi))
theorem qq_rg : ∀ i, i < 8 → ∀ j, j < 8 → (12 + 23 * i, j, 13 + 23 * i + 2 * j) ∈ qT := by decide +kernel
theorem q_rg {M : Mm} {X : Nat} (h : St M X) {i j : Nat} (hi : i < 8) (hj : j < 8) : aR M 24 (aRg X i) (nI j) = some (aHd X i j) := aR_of (k_aRg h hi) (n_aRg h hi) hj (by decide) (h.Q _ _ _ (qq_rg i hi j hj))
end
section
/-! Reading what was written. -/
theorem mI_sI (M : Mm) (k a : Nat) (v : Int32) (x y : Nat) : mI (sI M k a v) x y = if x = k then (if y = a then v else mI M x y) else mI M x y := rfl
theorem mI_sJ (M : Mm) (k a : Nat) (v : Int64) : mI (sJ M k a v) = mI M := rfl
theorem mI_sR (M : Mm) (k a : Nat) (v : Option Nat) : mI (sR M k a v) = mI M := rfl
theorem mI_sA (M : Mm) (a : Nat) (g : Nat → Int32) : mI (sA M a g) = mI M := rfl
theorem mI_sB (M : Mm) (a : Nat) (g : Nat → Int64) : mI (sB M a g) = mI M := rfl
theorem mI_sQ (M : Mm) (a : Nat) (g : Nat → Option Nat) : mI (sQ M a g) = mI M := rfl
theorem mA_sI (M : Mm) (k a : Nat) (v : Int32) : mA (sI M k a v) = mA M := rfl
theorem mA_sJ (M : Mm) (k a : Nat) (v : Int64) : mA (sJ M k a v) = mA M := rfl
theorem mA_sR (M : Mm) (k a : Nat) (v : Option Nat) : mA (sR M k a v) = mA M := rfl
theorem mA_sA (M : Mm) (a : Nat) (g : Nat → Int32) (x : Nat) : mA (sA M a g) x = if x = a then g else mA M x := rfl
theorem mA_sB (M : Mm) (a : Nat) (g : Nat → Int64) : mA (sB M a g) = mA M := rfl
theorem mA_sQ (M : Mm) (a : Nat) (g : Nat → Option Nat) : mA (sQ M a g) = mA M := rfl
theorem mB_sI (M : Mm) (k a : Nat) (v : Int32) : mB (sI M k a v) = mB M := rfl
theorem mB_sJ (M : Mm) (k a : Nat) (v : Int64) : mB (sJ M k a v) = mB M := rfl
theorem mB_sR (M : Mm) (k a : Nat) (v : Option Nat) : mB (sR M k a v) = mB M := rfl
theorem mB_sA (M : Mm) (a : Nat) (g : Nat → Int32) : mB (sA M a g) = mB M := rfl
theorem mB_sB (M : Mm) (a : Nat) (g : Nat → Int64) (x : Nat) : mB (sB M a g) x = if x = a then g else mB M x := rfl
theorem mB_sQ (M : Mm) (a : Nat) (g : Nat → Option Nat) : mB (sQ M a g) = mB M := rfl
theorem mJ_sI (M : Mm) (k a : Nat) (v : Int32) : mJ (sI M k a v) = mJ M := rfl
theorem mJ_sJ (M : Mm) (k a : Nat) (v : Int64) (x y : Nat) : mJ (sJ M k a v) x y = if x = k then (if y = a then v else mJ M x y) else mJ M x y := rfl
theorem mJ_sA (M : Mm) (a : Nat) (g : Nat → Int32) : mJ (sA M a g) = mJ M := rfl
theorem mJ_sB (M : Mm) (a : Nat) (g : Nat → Int64) : mJ (sB M a g) = mJ M := rfl
theorem mK_sI (M : Mm) (k a : Nat) (v : Int32) : mK (sI M k a v) = mK M := rfl
theorem mK_sJ (M : Mm) (k a : Nat) (v : Int64) : mK (sJ M k a v) = mK M := rfl
theorem mK_sR (M : Mm) (k a : Nat) (v : Option Nat) : mK (sR M k a v) = mK M := rfl
theorem mK_sA (M : Mm) (a : Nat) (g : Nat → Int32) : mK (sA M a g) = mK M := rfl
theorem mK_sB (M : Mm) (a : Nat) (g : Nat → Int64) : mK (sB M a g) = mK M := rfl
theorem mK_sQ (M : Mm) (a : Nat) (g : Nat → Option Nat) : mK (sQ M a g) = mK M := rfl
theorem mN_sI (M : Mm) (k a : Nat) (v : Int32) : mN (sI M k a v) = mN M := rfl
theorem mN_sJ (M : Mm) (k a : Nat) (v : Int64) : mN (sJ M k a v) = mN M := rfl
theorem mN_sR (M : Mm) (k a : Nat) (v : Option Nat) : mN (sR M k a v) = mN M := rfl
theorem mN_sA (M : Mm) (a : Nat) (g : Nat → Int32) : mN (sA M a g) = mN M := rfl
theorem mN_sB (M : Mm) (a : Nat) (g : Nat → Int64) : mN (sB M a g) = mN M := rfl
theorem mN_sQ (M : Mm) (a : Nat) (g : Nat → Option Nat) : mN (sQ M a g) = mN M := rfl
theorem mR_sI (M : Mm) (k a : Nat) (v : Int32) : mR (sI M k a v) = mR M := rfl
theorem mR_sJ (M : Mm) (k a : Nat) (v : Int64) : mR (sJ M k a v) = mR M := rfl
theorem mR_sA (M : Mm) (a : Nat) (g : Nat → Int32) : mR (sA M a g) = mR M := rfl
theorem mR_sB (M : Mm) (a : Nat) (g : Nat → Int64) : mR (sB M a g) = mR M := rfl
theorem mR_sQ (M : Mm) (a : Nat) (g : Nat → Option Nat) : mR (sQ M a g) = mR M := rfl
theorem mQ_sI (M : Mm) (k a : Nat) (v : Int32) : mQ (sI M k a v) = mQ M := rfl
theorem mQ_sJ (M : Mm) (k a : Nat) (v : Int64) : mQ (sJ M k a v) = mQ M := rfl
theorem mQ_sR (M : Mm) (k a : Nat) (v : Option Nat) : mQ (sR M k a v) = mQ M := rfl
theorem mQ_sA (M : Mm) (a : Nat) (g : Nat → Int32) : mQ (sA M a g) = mQ M := rfl
theorem mQ_sB (M : Mm) (a : Nat) (g : Nat → Int64) : mQ (sB M a g) = mQ M := rfl
theorem mS_sI (M : Mm) (k a : Nat) (v : Int32) : mS (sI M k a v) = mS M := rfl
theorem mS_sJ (M : Mm) (k a : Nat) (v : Int64) : mS (sJ M k a v) = mS M := rfl
theorem mS_sR (M : Mm) (k a : Nat) (v : Option Nat) : mS (sR M k a v) = mS M := rfl
theorem mS_sA (M : Mm) (a : Nat) (g : Nat → Int32) : mS (sA M a g) = mS M := rfl
theorem mS_sB (M : Mm) (a : Nat) (g : Nat → Int64) : mS (sB M a g) = mS M := rfl
theorem mS_sQ (M : Mm) (a : Nat) (g : Nat → Option Nat) : mS (sQ M a g) = mS M := rfl
theorem St_sI {M : Mm} {X k a : Nat} {v : Int32} (h : St M X) : St (sI M k a v) X := h
theorem St_sJ {M : Mm} {X k a : Nat} {v : Int64} (h : St M X) : St (sJ M k a v) X := h
theorem St_sA {M : Mm} {X a : Nat} {g : Nat → Int32} (h : St M X) : St (sA M a g) X := h
theorem St_sB {M : Mm} {X a : Nat} {g : Nat → Int64} (h : St M X) : St (sB M a g) X := h
theorem ob_eq {α β : Type} (a : α) (f : α → Option β) : (some a).bind f = f a := rfl
theorem ob2_eq {α β : Type} (M : Mm) (a : α) (f : Mm → α → Option β) : ob2 (some (M, a)) f = f M a := rfl
/-- flows, shelves -/
theorem fl_in {i : Nat} (hi : i < 8) : f_X10_isFlow (nI i) = some 1 ∧ f_X11_isFlow (nI i) = some 1 ∧ f_X10_isShelf (nI i) = some 1 ∧ f_X11_isShelf (nI i) = some 1 := by
  have h1 : ¬ nI i < 0 := nI_pos (by omega)
  have h2 : ¬ (8 : Int32) ≤ nI i := by
    have : ¬ nI 8 ≤ nI i := nI_ge hi (by decide)
    exact this
  unfold f_X10_isFlow f_X11_isFlow f_X10_isShelf f_X11_isShelf
  simp only [if_neg h1, if_neg h2, and_self]
theorem fl_out {a : Int32} (h : a < 0 ∨ nI 8 ≤ a) : f_X10_isFlow a = some 0 ∧ f_X11_isFlow a = some 0 ∧ f_X10_isShelf a = some 0 ∧ f_X11_isShelf a = some 0 := by
  unfold f_X10_isFlow f_X11_isFlow f_X10_isShelf f_X11_isShelf
  by_cases h1 : a < 0
  · simp only [if_pos h1, and_self]
  · have h2 : (8 : Int32) ≤ a := by
      rcases h with h | h
      · exact absurd h h1
      · exact h
    simp only [if_neg h1, if_pos h2, and_self]
theorem has_in {M : Mm} {X p f : Nat} (hS : St M X) (hp : mI M 604 (X + 1) = nI p) (h8 : p ≤ 8) (hf : f < p) : f_X6_has M (X + 1) (nI f) = some 1 := by
  unfold f_X6_has
  rw [if_pos (k_1 hS), if_neg (nI_pos (by omega)), gI_of (k_1 hS), ob_eq, hp, if_neg (nI_ge hf (by omega))]
theorem has_out {M : Mm} {X p : Nat} {a : Int32} (hS : St M X) (hp : mI M 604 (X + 1) = nI p) (h : a < 0 ∨ nI p ≤ a) : f_X6_has M (X + 1) a = some 0 := by
  unfold f_X6_has
  rw [if_pos (k_1 hS), gI_of (k_1 hS), ob_eq, hp]
  by_cases h1 : a < 0
  · rw [if_pos h1]
  · rw [if_neg h1, if_pos (h.resolve_left h1)]
theorem fd_in {M : Mm} {X p f : Nat} (hS : St M X) (hp : mI M 1101 (X + 226) = nI p) (h8 : p ≤ 8) (hf : f < p) : f_X11_isField M (X + 226) (nI f) = some 1 := by
  unfold f_X11_isField
  rw [if_pos (k_226 hS), if_neg (nI_pos (by omega)), gI_of (k_226 hS), ob_eq, hp, if_neg (nI_ge hf (by omega))]
theorem fd_out {M : Mm} {X p : Nat} {a : Int32} (hS : St M X) (hp : mI M 1101 (X + 226) = nI p) (h : a < 0 ∨ nI p ≤ a) : f_X11_isField M (X + 226) a = some 0 := by
  unfold f_X11_isField
  rw [if_pos (k_226 hS), gI_of (k_226 hS), ob_eq, hp]
  by_cases h1 : a < 0
  · rw [if_pos h1]
  · rw [if_neg h1, if_pos (h.resolve_left h1)]
theorem ix_cases (x : Int32) {n : Nat} (hn : n < 2 ^ 31) : (x < 0 ∨ nI n ≤ x) ∨ ∃ j : Nat, j < n ∧ x = nI j := by
  rcases pk_ix x hn with h | h | h
  · exact Or.inl (Or.inl h)
  · exact Or.inl (Or.inr h)
  · exact Or.inr h
end
section
/-! The invariant: what ties the class's memory to the reference's. X: the HeaderLine; p fields, n letters, window w; letter l lies in [z l, z (l+1)). -/
def lA (z : Nat → Nat) (l : Nat) : Nat := z (l + 1) - 1
def lB (z : Nat → Nat) (l : Nat) : Nat := z (l + 1) - 2
def lP (z : Nat → Nat) (l : Nat) : Nat := z (l + 1) - 5
def lU (z : Nat → Nat) (l : Nat) : Nat := z (l + 1) - 4
def lV (z : Nat → Nat) (l : Nat) : Nat := z (l + 1) - 3
def IW (M : Mm) (X w : Nat) : Prop := mI M 1000 X = nI w ∧ mI M 1107 (X + 226) = nI w ∧ 1 ≤ w ∧ w ≤ 8
def IF (M : Mm) (X f : Nat) : Prop := mA M (X + 227) f = mA M (X + 2) f ∧ mA M (X + 228) f = mA M (X + 3) f ∧ (∃ k, k ≤ 4 ∧ mA M (X + 2) f = nI k) ∧ (∃ wd, 1 ≤ wd ∧ wd ≤ 32 ∧ mA M (X + 3) f = nI wd) ∧ mB M (X + 230) f = (mA M (X + 5) f).toInt64 ∧ (mA M (X + 2) f = 1 → mA M (X + 229) f = mA M (X + 4) f ∧ ∃ t, t < f ∧ mA M (X + 4) f = nI t)
def IP (M : Mm) (X p : Nat) : Prop := p ≤ 8 ∧ mI M 604 (X + 1) = nI p ∧ mI M 1101 (X + 226) = nI p ∧ ∀ f, f < p → IF M X f
def ID (M : Mm) (X p : Nat) : Prop := (∀ f, f < p → mB M (X + 231) f = mB M (X + 7) f ∧ ∃ wd u, mA M (X + 3) f = nI wd ∧ 1 ≤ wd ∧ wd ≤ 32 ∧ u < 2 ^ wd ∧ mB M (X + 7) f = lN u) ∧ ∀ f, p ≤ f → f < 8 → mB M (X + 7) f = 0
def IC (M : Mm) (X n : Nat) : Prop := n ≤ 200 ∧ mI M 1010 X = nI n ∧ mI M 1116 (X + 226) = nI n ∧ mI M 1106 (X + 226) = (if n = 0 then 0 else 1)
def IR (M : Mm) (X p k i j d : Nat) : Prop := (∃ u, u < k ∧ mA M (X + 237) (9 * i + j) = nI u ∧ mI M 301 (aHd X i d) = nI u) ∧ ∀ f, f < p → mB M (X + 238) (8 * (9 * i + j) + f) = mB M (aHv X i d) f
def IQ' (M : Mm) (X p w n i k r h f0 : Nat) : Prop := k ≤ n ∧ mI M 901 (aSq X i) = nI k ∧ mA M (X + 232) i = nI k ∧ r < 16 ∧ mI M 902 (aSq X i) = nI r ∧ mA M (X + 233) i = nI r ∧ mI M 903 (aSq X i) = mA M (X + 235) i ∧ (mA M (X + 235) i = 0 ∨ mA M (X + 235) i = 1) ∧ h ≤ w ∧ mI M 904 (aSq X i) = nI h ∧ mA M (X + 236) i = nI h ∧ f0 < 8 ∧ mI M 906 (aSq X i) = nI f0 ∧ (∀ f, f < 8 → mA M (X + 234) (8 * i + f) = mA M (aSt X i) f) ∧ ∀ j, j < h → IR M X p k i j ((f0 + j) % 8)
def IQ (M : Mm) (X p w n i : Nat) : Prop := ∃ k r h f0 : Nat, IQ' M X p w n i k r h f0
def IX (M : Mm) (X p n i : Nat) : Prop := mI M 103 (aCx X i) = mA M (X + 252) i ∧ (mA M (X + 252) i = 0 ∨ (mA M (X + 252) i = 1 ∧ 0 < n ∧ (∃ u, u < 65536 ∧ mI M 301 (aCh X i) = nI u ∧ mA M (X + 253) i = nI u) ∧ (∃ r, r < 16 ∧ mI M 102 (aCx X i) = nI r ∧ mA M (X + 254) i = nI r) ∧ ∀ f, f < p → mA M (X + 255) (8 * i + f) = mA M (aCs X i) f ∧ mB M (X + 256) (8 * i + f) = mB M (aCv X i) f))
def IZ (M : Mm) (X n : Nat) (z : Nat → Nat) : Prop := z 0 = X + 270 ∧ (∀ l, l < n → z l + 2 ≤ z (l + 1)) ∧ z n ≤ mS M
def ILp (M : Mm) (X p : Nat) (z : Nat → Nat) (l : Nat) : Prop := mR M 408 (lA z l) = some (lP z l) ∧ z l + 5 ≤ z (l + 1) ∧ mK M (lP z l) = 8 ∧ mR M 700 (lP z l) = some (lU z l) ∧ mR M 701 (lP z l) = some (lV z l) ∧ mK M (lU z l) = 20 ∧ mN M (lU z l) = 8 ∧ mK M (lV z l) = 20 ∧ mN M (lV z l) = 8 ∧ mA M (X + 250) l = mI M 702 (lP z l) ∧ mA M (X + 251) l = mI M 703 (lP z l) ∧ ∀ f, f < p → (mA M (X + 2) f = 2 ∨ mA M (X + 2) f = 3) → mA M (X + 248) (8 * l + f) = mA M (lU z l) f ∧ mA M (X + 249) (8 * l + f) = mA M (lV z l) f
def ILb (M : Mm) (X : Nat) (z : Nat → Nat) (l : Nat) : Prop := ∃ len, 3 ≤ len ∧ len ≤ 60 ∧ mN M (lB z l) = len ∧ mA M (X + 239) l = nI len ∧ ∀ k, k < len → ∃ b, b < 256 ∧ mA M (lB z l) k = nI b ∧ mA M (X + 240) (64 * l + k) = nI b
def IL (M : Mm) (X p : Nat) (z : Nat → Nat) (l : Nat) : Prop := mQ M (X + 194) l = some (lA z l) ∧ mK M (lA z l) = 5 ∧ mR M 403 (lA z l) = some (lB z l) ∧ mK M (lB z l) = 20 ∧ (∃ k, k ≤ 5 ∧ mI M 400 (lA z l) = nI k ∧ mA M (X + 241) l = nI k) ∧ (∃ i, i < 8 ∧ mI M 401 (lA z l) = nI i ∧ mA M (X + 242) l = nI i) ∧ mA M (X + 243) l = mI M 402 (lA z l) ∧ (∃ nb, nb ≤ 480 ∧ mI M 404 (lA z l) = nI nb ∧ mA M (X + 244) l = nI nb) ∧ mA M (X + 245) l = mI M 405 (lA z l) ∧ mA M (X + 246) l = mI M 406 (lA z l) ∧ (mI M 406 (lA z l) = 0 ∨ mI M 406 (lA z l) = 1) ∧ mA M (X + 247) l = mI M 407 (lA z l) ∧ (mI M 407 (lA z l) = 0 ∨ mI M 407 (lA z l) = 1) ∧ ILb M X z l ∧ ((mI M 400 (lA z l) = 2 ∧ mI M 407 (lA z l) = 0 ∧ ILp M X p z l) ∨ (¬ (mI M 400 (lA z l) = 2 ∧ mI M 407 (lA z l) = 0) ∧ mR M 408 (lA z l) = none))
def IG (M : Mm) (X p n : Nat) : Prop := mI M 204 (X + 222) = mI M 1135 (X + 226) ∧ (mI M 204 (X + 222) = 0 ∨ (0 < n ∧ mI M 202 (X + 222) = mI M 1136 (X + 226) ∧ mI M 301 (X + 223) = mI M 1137 (X + 226) ∧ mI M 203 (X + 222) = mI M 1138 (X + 226) ∧ ∀ f, f < p → mB M (X + 257) f = mB M (X + 224) f ∧ mA M (X + 258) f = mA M (X + 225) f))
def IH (M : Mm) (X s : Nat) : Prop := mI M 801 (aSh X s) = mA M (X + 265) s ∧ ∃ hk, hk ≤ 4 ∧ mA M (X + 265) s = nI hk ∧ (hk = 1 → (∃ k, k ≤ 5 ∧ mI M 803 (aSh X s) = nI k ∧ mA M (X + 267) s = nI k) ∧ mI M 804 (aSh X s) = mA M (X + 266) s) ∧ (2 ≤ hk → ∃ sz, sz ≤ 60 ∧ mI M 802 (aSh X s) = nI sz ∧ mA M (X + 266) s = nI sz ∧ ∀ k, k < sz → mB M (X + 268) (64 * s + k) = mB M (aSr X s) k)
def lc (g : Nat → Int32) : Nat → Nat
  | 0 => 0
  | n + 1 => lc g n + (if g n = 0 then 0 else 1)
def IT (M : Mm) (X n : Nat) : Prop := mI M 1011 X = nI (lc (mA M (X + 246)) n)
def Inv (M : Mm) (X p n w : Nat) (z : Nat → Nat) : Prop := St M X ∧ IW M X w ∧ IP M X p ∧ ID M X p ∧ IC M X n ∧ (∀ i, i < 8 → IQ M X p w n i) ∧ (∀ i, i < 8 → IX M X p n i) ∧ IZ M X n z ∧ (∀ l, l < n → IL M X p z l) ∧ IG M X p n ∧ (∀ s, s < 8 → IH M X s) ∧ IT M X n
/-! What each part hangs on. -/
theorem IW_ag {M M1 : Mm} {X w : Nat} (h : IW M X w) (e1 : mI M1 1000 X = mI M 1000 X) (e2 : mI M1 1107 (X + 226) = mI M 1107 (X + 226)) : IW M1 X w := by
  unfold IW; rw [e1, e2]; exact h
theorem IP_ag {M M1 : Mm} {X p : Nat} (h : IP M X p) (e1 : mI M1 604 (X + 1) = mI M 604 (X + 1)) (e2 : mI M1 1101 (X + 226) = mI M 1101 (X + 226)) (a1 : ∀ o, (o = 2 ∨ o = 3 ∨ o = 4 ∨ o = 5 ∨ o = 227 ∨ o = 228 ∨ o = 229) → mA M1 (X + o) = mA M (X + o)) (b1 : mB M1 (X + 230) = mB M (X + 230)) : IP M1 X p := by
  unfold IP IF; rw [e1, e2, a1 2 (by omega), a1 3 (by omega), a1 4 (by omega), a1 5 (by omega), a1 227 (by omega), a1 228 (by omega), a1 229 (by omega), b1]; exact h
theorem ID_ag {M M1 : Mm} {X p : Nat} (h : ID M X p) (a1 : mA M1 (X + 3) = mA M (X + 3)) (b1 : mB M1 (X + 7) = mB M (X + 7)) (b2 : mB M1 (X + 231) = mB M (X + 231)) : ID M1 X p := by
  unfold ID; rw [a1, b1, b2]; exact h
theorem IC_ag {M M1 : Mm} {X n : Nat} (h : IC M X n) (e1 : mI M1 1010 X = mI M 1010 X) (e2 : mI M1 1116 (X + 226) = mI M 1116 (X + 226)) (e3 : mI M1 1106 (X + 226) = mI M 1106 (X + 226)) : IC M1 X n := by
  unfold IC; rw [e1, e2, e3]; exact h
theorem IQ'_ag {M M1 : Mm} {X p w n i k r h f0 : Nat} (hp : p ≤ 8) (hw : w ≤ 8) (H : IQ' M X p w n i k r h f0) (e : ∀ num, (num = 901 ∨ num = 902 ∨ num = 903 ∨ num = 904 ∨ num = 906) → mI M1 num (aSq X i) = mI M num (aSq X i)) (a : ∀ o, (o = 232 ∨ o = 233 ∨ o = 235 ∨ o = 236) → mA M1 (X + o) i = mA M (X + o) i) (a2 : ∀ f, f < 8 → mA M1 (X + 234) (8 * i + f) = mA M (X + 234) (8 * i + f)) (a3 : ∀ j, j < 8 → mA M1 (X + 237) (9 * i + j) = mA M (X + 237) (9 * i + j)) (a4 : mA M1 (aSt X i) = mA M (aSt X i))
    (e2 : ∀ d, d < 8 → mI M1 301 (aHd X i d) = mI M 301 (aHd X i d)) (b1 : ∀ d, d < 8 → mB M1 (aHv X i d) = mB M (aHv X i d)) (b2 : ∀ j f, j < 8 → f < 8 → mB M1 (X + 238) (8 * (9 * i + j) + f) = mB M (X + 238) (8 * (9 * i + j) + f)) : IQ' M1 X p w n i k r h f0 := by
  obtain ⟨h1, h2, h3, h4, h5, h6, h7, h8, h9, h10, h11, h12, h13, h14, h15⟩ := H
  refine ⟨h1, by rw [e 901 (by omega)]; exact h2, by rw [a 232 (by omega)]; exact h3, h4, by rw [e 902 (by omega)]; exact h5, by rw [a 233 (by omega)]; exact h6, by rw [e 903 (by omega), a 235 (by omega)]; exact h7, by rw [a 235 (by omega)]; exact h8, h9, by rw [e 904 (by omega)]; exact h10, by rw [a 236 (by omega)]; exact h11, h12, by rw [e 906 (by omega)]; exact h13, fun f hf => by rw [a2 f hf, a4]; exact h14 f hf, fun j hj => ?_⟩
  obtain ⟨g1, g2⟩ := h15 j hj
  have hm : (f0 + j) % 8 < 8 := Nat.mod_lt _ (by decide)
  refine ⟨by rw [a3 j (by omega), e2 _ hm]; exact g1, fun f hf => by rw [b2 j f (by omega) (by omega), b1 _ hm]; exact g2 f hf⟩
theorem IQ_ag {M M1 : Mm} {X p w n i : Nat} (hp : p ≤ 8) (hw : w ≤ 8) (H : IQ M X p w n i) (e : ∀ num, (num = 901 ∨ num = 902 ∨ num = 903 ∨ num = 904 ∨ num = 906) → mI M1 num (aSq X i) = mI M num (aSq X i)) (a : ∀ o, (o = 232 ∨ o = 233 ∨ o = 235 ∨ o = 236) → mA M1 (X + o) i = mA M (X + o) i) (a2 : ∀ f, f < 8 → mA M1 (X + 234) (8 * i + f) = mA M (X + 234) (8 * i + f)) (a3 : ∀ j, j < 8 → mA M1 (X + 237) (9 * i + j) = mA M (X + 237) (9 * i + j)) (a4 : mA M1 (aSt X i) = mA M (aSt X i))
    (e2 : ∀ d, d < 8 → mI M1 301 (aHd X i d) = mI M 301 (aHd X i d)) (b1 : ∀ d, d < 8 → mB M1 (aHv X i d) = mB M (aHv X i d)) (b2 : ∀ j f, j < 8 → f < 8 → mB M1 (X + 238) (8 * (9 * i + j) + f) = mB M (X + 238) (8 * (9 * i + j) + f)) : IQ M1 X p w n i := by
  obtain ⟨k, r, h, f0, H⟩ := H
  exact ⟨k, r, h, f0, IQ'_ag hp hw H e a a2 a3 a4 e2 b1 b2⟩
theorem IX_ag {M M1 : Mm} {X p n i : Nat} (hp : p ≤ 8) (H : IX M X p n i) (e1 : mI M1 103 (aCx X i) = mI M 103 (aCx X i)) (e2 : mI M1 102 (aCx X i) = mI M 102 (aCx X i)) (e3 : mI M1 301 (aCh X i) = mI M 301 (aCh X i)) (a : ∀ o, (o = 252 ∨ o = 253 ∨ o = 254) → mA M1 (X + o) i = mA M (X + o) i) (a2 : ∀ f, f < 8 → mA M1 (X + 255) (8 * i + f) = mA M (X + 255) (8 * i + f)) (a3 : mA M1 (aCs X i) = mA M (aCs X i)) (b1 : ∀ f, f < 8 → mB M1 (X + 256) (8 * i + f) = mB M (X + 256) (8 * i + f)) (b2 : mB M1 (aCv X i) = mB M (aCv X i)) : IX M1 X p n i := by
  obtain ⟨h1, h2⟩ := H
  unfold IX
  rw [e1, e2, e3, a 252 (by omega), a 253 (by omega), a 254 (by omega), a3, b2]
  refine ⟨h1, h2.imp_right (fun ⟨g1, g2, g3, g4, g5⟩ => ⟨g1, g2, g3, g4, fun f hf => ?_⟩)⟩
  rw [a2 f (by omega), b1 f (by omega)]
  exact g5 f hf
theorem IG_ag {M M1 : Mm} {X p n : Nat} (H : IG M X p n) (e1 : ∀ num, (num = 204 ∨ num = 202 ∨ num = 203) → mI M1 num (X + 222) = mI M num (X + 222)) (e2 : mI M1 301 (X + 223) = mI M 301 (X + 223)) (e3 : ∀ num, (num = 1135 ∨ num = 1136 ∨ num = 1137 ∨ num = 1138) → mI M1 num (X + 226) = mI M num (X + 226)) (b1 : mB M1 (X + 257) = mB M (X + 257)) (b2 : mB M1 (X + 224) = mB M (X + 224)) (a1 : mA M1 (X + 258) = mA M (X + 258)) (a2 : mA M1 (X + 225) = mA M (X + 225)) : IG M1 X p n := by
  unfold IG
  rw [e1 204 (by omega), e1 202 (by omega), e1 203 (by omega), e2, e3 1135 (by omega), e3 1136 (by omega), e3 1137 (by omega), e3 1138 (by omega), b1, b2, a1, a2]
  exact H
theorem IH_ag {M M1 : Mm} {X s : Nat} (H : IH M X s) (e : ∀ num, (num = 801 ∨ num = 802 ∨ num = 803 ∨ num = 804) → mI M1 num (aSh X s) = mI M num (aSh X s)) (a : ∀ o, (o = 265 ∨ o = 266 ∨ o = 267) → mA M1 (X + o) s = mA M (X + o) s) (b1 : ∀ k, k < 60 → mB M1 (X + 268) (64 * s + k) = mB M (X + 268) (64 * s + k)) (b2 : mB M1 (aSr X s) = mB M (aSr X s)) : IH M1 X s := by
  obtain ⟨h1, hk, h2, h3, h4, h5⟩ := H
  unfold IH
  rw [e 801 (by omega), e 802 (by omega), e 803 (by omega), e 804 (by omega), a 265 (by omega), a 266 (by omega), a 267 (by omega), b2]
  refine ⟨h1, hk, h2, h3, h4, fun g => ?_⟩
  obtain ⟨sz, g1, g2, g3, g4⟩ := h5 g
  exact ⟨sz, g1, g2, g3, fun k hk => by rw [b1 k (by omega)]; exact g4 k hk⟩
theorem IZ_ag {M M1 : Mm} {X n : Nat} {z : Nat → Nat} (H : IZ M X n z) (e : mS M ≤ mS M1) : IZ M1 X n z := ⟨H.1, H.2.1, Nat.le_trans H.2.2 e⟩
theorem lc_congr {g g2 : Nat → Int32} : ∀ {n : Nat}, (∀ l, l < n → g2 l = g l) → lc g2 n = lc g n
  | 0, _ => rfl
  | n + 1, h => by
    show lc g2 n + _ = lc g n + _
    rw [lc_congr (fun l hl => h l (by omega)), h n (by omega)]
theorem IT_ag {M M1 : Mm} {X n : Nat} (H : IT M X n) (e1 : mI M1 1011 X = mI M 1011 X) (a1 : ∀ l, l < n → mA M1 (X + 246) l = mA M (X + 246) l) : IT M1 X n := by
  unfold IT
  rw [e1, lc_congr a1]
  exact H
theorem IL_ag {M M1 : Mm} {X p l : Nat} {z : Nat → Nat} (hp : p ≤ 8) (H : IL M X p z l) (q1 : mQ M1 (X + 194) l = mQ M (X + 194) l) (k1 : ∀ a, a < z (l + 1) → X + 270 ≤ a → mK M1 a = mK M a) (n1 : ∀ a, a < z (l + 1) → X + 270 ≤ a → mN M1 a = mN M a) (r1 : ∀ num a, a < z (l + 1) → X + 270 ≤ a → mR M1 num a = mR M num a) (z1 : X + 270 ≤ z l) (z2 : z l + 2 ≤ z (l + 1))
    (e1 : ∀ num, (num = 400 ∨ num = 401 ∨ num = 402 ∨ num = 404 ∨ num = 405 ∨ num = 406 ∨ num = 407) → mI M1 num (lA z l) = mI M num (lA z l)) (e2 : z l + 5 ≤ z (l + 1) → mI M1 702 (lP z l) = mI M 702 (lP z l) ∧ mI M1 703 (lP z l) = mI M 703 (lP z l)) (a1 : ∀ o, (o = 239 ∨ o = 241 ∨ o = 242 ∨ o = 243 ∨ o = 244 ∨ o = 245 ∨ o = 246 ∨ o = 247 ∨ o = 250 ∨ o = 251) → mA M1 (X + o) l = mA M (X + o) l) (a2 : ∀ k, k < 60 → mA M1 (X + 240) (64 * l + k) = mA M (X + 240) (64 * l + k)) (a3 : mA M1 (lB z l) = mA M (lB z l)) (a4 : z l + 5 ≤ z (l + 1) → mA M1 (lU z l) = mA M (lU z l) ∧ mA M1 (lV z l) = mA M (lV z l)) (a5 : ∀ f, f < 8 → mA M1 (X + 248) (8 * l + f) = mA M (X + 248) (8 * l + f) ∧ mA M1 (X + 249) (8 * l + f) = mA M (X + 249) (8 * l + f)) (a6 : mA M1 (X + 2) = mA M (X + 2)) : IL M1 X p z l := by
  obtain ⟨h1, h2, h3, h4, h5, h6, h7, h8, h9, h10, h11, h12, h13, h14, h15⟩ := H
  have kA : mK M1 (lA z l) = mK M (lA z l) := k1 _ (by unfold lA; omega) (by unfold lA; omega)
  have kB : mK M1 (lB z l) = mK M (lB z l) := k1 _ (by unfold lB; omega) (by unfold lB; omega)
  have nB : mN M1 (lB z l) = mN M (lB z l) := n1 _ (by unfold lB; omega) (by unfold lB; omega)
  have rA : ∀ num, mR M1 num (lA z l) = mR M num (lA z l) := fun num => r1 num _ (by unfold lA; omega) (by unfold lA; omega)
  unfold IL
  rw [q1, kA, kB, rA, rA, e1 400 (by omega), e1 401 (by omega), e1 402 (by omega), e1 404 (by omega), e1 405 (by omega), e1 406 (by omega), e1 407 (by omega), a1 241 (by omega), a1 242 (by omega), a1 243 (by omega), a1 244 (by omega), a1 245 (by omega), a1 246 (by omega), a1 247 (by omega)]
  refine ⟨h1, h2, h3, h4, h5, h6, h7, h8, h9, h10, h11, h12, h13, ?_, ?_⟩
  · obtain ⟨len, g1, g2, g3, g4, g5⟩ := h14
    refine ⟨len, g1, g2, by rw [nB]; exact g3, by rw [a1 239 (by omega)]; exact g4, fun k hk => ?_⟩
    rw [a3, a2 k (by omega)]
    exact g5 k hk
  · refine h15.imp_left (fun ⟨g1, g2, g3⟩ => ⟨g1, g2, ?_⟩)
    obtain ⟨p1, p2, p3, p4, p5, p6, p7, p8, p9, p10, p11, p12⟩ := g3
    have kP := k1 (lP z l) (by unfold lP; omega) (by unfold lP; omega)
    have kU := k1 (lU z l) (by unfold lU; omega) (by unfold lU; omega)
    have kV := k1 (lV z l) (by unfold lV; omega) (by unfold lV; omega)
    have nU := n1 (lU z l) (by unfold lU; omega) (by unfold lU; omega)
    have nV := n1 (lV z l) (by unfold lV; omega) (by unfold lV; omega)
    have rP : ∀ num, mR M1 num (lP z l) = mR M num (lP z l) := fun num => r1 num _ (by unfold lP; omega) (by unfold lP; omega)
    unfold ILp
    rw [rA, rP, rP, kP, kU, kV, nU, nV, (e2 p2).1, (e2 p2).2, a1 250 (by omega), a1 251 (by omega), (a4 p2).1, (a4 p2).2, a6]
    refine ⟨p1, p2, p3, p4, p5, p6, p7, p8, p9, p10, p11, fun f hf g => ?_⟩
    rw [(a5 f (by omega)).1, (a5 f (by omega)).2]
    exact p12 f hf g
end
section
/-! Two memories agree but for scratch cells and the named ones. -/
def ScI (X num a : Nat) : Prop := num ≤ 99 ∨ num = 501 ∨ num = 1100 ∨ (1142 ≤ num ∧ num ≤ 1150) ∨ (num = 301 ∧ (a = X + 6 ∨ a = X + 215))
def ScA (X a : Nat) : Prop := a = X + 213 ∨ a = X + 217 ∨ a = X + 218 ∨ a = X + 219 ∨ a = X + 259 ∨ a = X + 260 ∨ a = X + 261 ∨ a = X + 263
def ScB (X a : Nat) : Prop := a = X + 216 ∨ a = X + 220 ∨ a = X + 262 ∨ a = X + 264 ∨ a = X + 269
def Ag (X N n : Nat) (TI TA TB : Nat → Nat → Prop) (M M1 : Mm) : Prop :=
  (∀ num a, ¬ ScI X num a → ¬ TI num a → a < N → mI M1 num a = mI M num a) ∧ (∀ a j, ¬ ScA X a → ¬ TA a j → a < N → mA M1 a j = mA M a j) ∧ (∀ a j, ¬ ScB X a → ¬ TB a j → a < N → mB M1 a j = mB M a j) ∧
  (∀ a, a < N → mK M1 a = mK M a ∧ mN M1 a = mN M a) ∧ (∀ a j, a < N → (a = X + 194 → j < n) → mQ M1 a j = mQ M a j) ∧ (∀ num a, ¬ (num = 9 ∧ a = X + 214) → a < N → mR M1 num a = mR M num a) ∧ mS M ≤ mS M1
def T0 : Nat → Nat → Prop := fun _ _ => False
theorem Ag.rf {X N n : Nat} {TI TA TB : Nat → Nat → Prop} {M : Mm} : Ag X N n TI TA TB M M := ⟨fun _ _ _ _ _ => rfl, fun _ _ _ _ _ => rfl, fun _ _ _ _ _ => rfl, fun _ _ => ⟨rfl, rfl⟩, fun _ _ _ _ => rfl, fun _ _ _ _ => rfl, Nat.le_refl _⟩
theorem Ag.tr {X N n : Nat} {TI TA TB TI2 TA2 TB2 : Nat → Nat → Prop} {M M1 M2 : Mm} (h : Ag X N n TI TA TB M M1) (h2 : Ag X N n TI2 TA2 TB2 M1 M2) : Ag X N n (fun a b => TI a b ∨ TI2 a b) (fun a b => TA a b ∨ TA2 a b) (fun a b => TB a b ∨ TB2 a b) M M2 :=
  ⟨fun num a s t l => (h2.1 num a s (fun q => t (Or.inr q)) l).trans (h.1 num a s (fun q => t (Or.inl q)) l), fun a j s t l => (h2.2.1 a j s (fun q => t (Or.inr q)) l).trans (h.2.1 a j s (fun q => t (Or.inl q)) l), fun a j s t l => (h2.2.2.1 a j s (fun q => t (Or.inr q)) l).trans (h.2.2.1 a j s (fun q => t (Or.inl q)) l),
    fun a l => ⟨(h2.2.2.2.1 a l).1.trans (h.2.2.2.1 a l).1, (h2.2.2.2.1 a l).2.trans (h.2.2.2.1 a l).2⟩, fun a j l q => (h2.2.2.2.2.1 a j l q).trans (h.2.2.2.2.1 a j l q), fun num a q l => (h2.2.2.2.2.2.1 num a q l).trans (h.2.2.2.2.2.1 num a q l), Nat.le_trans h.2.2.2.2.2.2 h2.2.2.2.2.2.2⟩
theorem Ag.wk {X N n : Nat} {TI TA TB TI2 TA2 TB2 : Nat → Nat → Prop} {M M1 : Mm} (h : Ag X N n TI TA TB M M1) (h1 : ∀ a b, TI a b → TI2 a b) (h2 : ∀ a b, TA a b → TA2 a b) (h3 : ∀ a b, TB a b → TB2 a b) : Ag X N n TI2 TA2 TB2 M M1 :=
  ⟨fun num a s t l => h.1 num a s (fun q => t (h1 _ _ q)) l, fun a j s t l => h.2.1 a j s (fun q => t (h2 _ _ q)) l, fun a j s t l => h.2.2.1 a j s (fun q => t (h3 _ _ q)) l, h.2.2.2⟩
/-- two steps that touch the same -/
theorem Ag.tr' {X N n : Nat} {TI TA TB : Nat → Nat → Prop} {M M1 M2 : Mm} (h : Ag X N n TI TA TB M M1) (h2 : Ag X N n TI TA TB M1 M2) : Ag X N n TI TA TB M M2 := (h.tr h2).wk (fun _ _ q => q.elim id id) (fun _ _ q => q.elim id id) (fun _ _ q => q.elim id id)
theorem Ag.of0 {X N n : Nat} {TI TA TB : Nat → Nat → Prop} {M M1 : Mm} (h : Ag X N n T0 T0 T0 M M1) : Ag X N n TI TA TB M M1 := h.wk (fun _ _ q => q.elim) (fun _ _ q => q.elim) (fun _ _ q => q.elim)
theorem Ag_sI {X N n : Nat} {TI TA TB : Nat → Nat → Prop} {M : Mm} {k b : Nat} {v : Int32} (h : ScI X k b ∨ TI k b ∨ N ≤ b) : Ag X N n TI TA TB M (sI M k b v) :=
  ⟨fun num a s t l => by
    by_cases e : num = k ∧ a = b
    · obtain ⟨rfl, rfl⟩ := e
      exact absurd h (fun q => q.elim s (fun q => q.elim t (fun q => absurd l (Nat.not_lt.mpr q))))
    · show (if num = k then (if a = b then v else mI M num a) else mI M num a) = mI M num a
      by_cases e1 : num = k
      · rw [if_pos e1, if_neg (fun q => e ⟨e1, q⟩)]
      · rw [if_neg e1], fun _ _ _ _ _ => rfl, fun _ _ _ _ _ => rfl, fun _ _ => ⟨rfl, rfl⟩, fun _ _ _ _ => rfl, fun _ _ _ _ => rfl, Nat.le_refl _⟩
theorem Ag_sJ {X N n : Nat} {TI TA TB : Nat → Nat → Prop} {M : Mm} {k b : Nat} {v : Int64} : Ag X N n TI TA TB M (sJ M k b v) := ⟨fun _ _ _ _ _ => rfl, fun _ _ _ _ _ => rfl, fun _ _ _ _ _ => rfl, fun _ _ => ⟨rfl, rfl⟩, fun _ _ _ _ => rfl, fun _ _ _ _ => rfl, Nat.le_refl _⟩
/-- a row: all its places, or those where the new row differs -/
theorem Ag_sA {X N n : Nat} {TI TA TB : Nat → Nat → Prop} {M : Mm} {b : Nat} {g : Nat → Int32} (h : ScA X b ∨ N ≤ b ∨ ∀ j, ¬ TA b j → g j = mA M b j) : Ag X N n TI TA TB M (sA M b g) :=
  ⟨fun _ _ _ _ _ => rfl, fun a j s t l => by
    show (if a = b then g else mA M a) j = mA M a j
    by_cases e : a = b
    · subst e
      rw [if_pos rfl]
      exact h.elim (fun q => absurd q s) (fun q => q.elim (fun q => absurd l (Nat.not_lt.mpr q)) (fun q => q j t))
    · rw [if_neg e], fun _ _ _ _ _ => rfl, fun _ _ => ⟨rfl, rfl⟩, fun _ _ _ _ => rfl, fun _ _ _ _ => rfl, Nat.le_refl _⟩
theorem Ag_sB {X N n : Nat} {TI TA TB : Nat → Nat → Prop} {M : Mm} {b : Nat} {g : Nat → Int64} (h : ScB X b ∨ N ≤ b ∨ ∀ j, ¬ TB b j → g j = mB M b j) : Ag X N n TI TA TB M (sB M b g) :=
  ⟨fun _ _ _ _ _ => rfl, fun _ _ _ _ _ => rfl, fun a j s t l => by
    show (if a = b then g else mB M a) j = mB M a j
    by_cases e : a = b
    · subst e
      rw [if_pos rfl]
      exact h.elim (fun q => absurd q s) (fun q => q.elim (fun q => absurd l (Nat.not_lt.mpr q)) (fun q => q j t))
    · rw [if_neg e], fun _ _ => ⟨rfl, rfl⟩, fun _ _ _ _ => rfl, fun _ _ _ _ => rfl, Nat.le_refl _⟩
theorem Ag_sR {X N n : Nat} {TI TA TB : Nat → Nat → Prop} {M : Mm} {k b : Nat} {v : Option Nat} (h : (k = 9 ∧ b = X + 214) ∨ N ≤ b) : Ag X N n TI TA TB M (sR M k b v) :=
  ⟨fun _ _ _ _ _ => rfl, fun _ _ _ _ _ => rfl, fun _ _ _ _ _ => rfl, fun _ _ => ⟨rfl, rfl⟩, fun _ _ _ _ => rfl, fun num a q l => by
    show (if num = k then (if a = b then v else mR M num a) else mR M num a) = mR M num a
    by_cases e1 : num = k
    · rw [if_pos e1, if_neg]
      intro e2
      subst e1; subst e2
      exact h.elim q (fun x => absurd l (Nat.not_lt.mpr x))
    · rw [if_neg e1], Nat.le_refl _⟩
theorem Ag_sQ {X N n : Nat} {TI TA TB : Nat → Nat → Prop} {M : Mm} {b : Nat} {g : Nat → Option Nat} (h : b = X + 194 ∧ ∀ j, j < n → g j = mQ M b j) : Ag X N n TI TA TB M (sQ M b g) :=
  ⟨fun _ _ _ _ _ => rfl, fun _ _ _ _ _ => rfl, fun _ _ _ _ _ => rfl, fun _ _ => ⟨rfl, rfl⟩, fun a j _ q => by
    show (if a = b then g else mQ M a) j = mQ M a j
    by_cases e : a = b
    · subst e
      rw [if_pos rfl]
      exact h.2 j (q h.1)
    · rw [if_neg e], fun _ _ _ _ => rfl, Nat.le_refl _⟩
theorem Ag_nO {X N n : Nat} {TI TA TB : Nat → Nat → Prop} {M : Mm} {kd : Nat} (h : N ≤ mS M) : Ag X N n TI TA TB M (nO M kd) :=
  ⟨fun num a _ _ l => if_neg (by omega), fun _ _ _ _ _ => rfl, fun _ _ _ _ _ => rfl, fun a l => ⟨vau_ne (by omega), rfl⟩, fun _ _ _ _ => rfl, fun num a _ l => if_neg (by omega), Nat.le_succ _⟩
theorem Ag_nA {X N n : Nat} {TI TA TB : Nat → Nat → Prop} {M : Mm} {kd len : Nat} (h : N ≤ mS M) : Ag X N n TI TA TB M (nA M kd len) :=
  ⟨fun _ _ _ _ _ => rfl, fun a j _ _ l => by show va_up (mA M) (mS M) (fun _ => 0) a j = _; rw [vau_ne (by omega)], fun a j _ _ l => by show va_up (mB M) (mS M) (fun _ => 0) a j = _; rw [vau_ne (by omega)], fun a l => ⟨vau_ne (by omega), vau_ne (by omega)⟩, fun a j l _ => by show va_up (mQ M) (mS M) (fun _ => none) a j = _; rw [vau_ne (by omega)], fun _ _ _ _ => rfl, Nat.le_succ _⟩
theorem St_Ag {X N n : Nat} {TI TA TB : Nat → Nat → Prop} {M M1 : Mm} (hN : X + 270 ≤ N) (h : Ag X N n TI TA TB M M1) (hS : St M X) : St M1 X := by
  obtain ⟨-, -, -, hk, hq, hr, hs⟩ := h
  refine ⟨fun o ho => by rw [(hk (X + o) (by omega)).1]; exact hS.1 o ho, fun o ho g => by rw [(hk (X + o) (by omega)).2]; exact hS.2.1 o ho g, fun q hq2 => ?_, fun q hq2 => ?_, Nat.le_trans hS.2.2.2.2 hs⟩
  · have hb : ∀ q ∈ rT, ¬ (q.1 = 9 ∧ q.2.1 = 214) ∧ q.2.1 < 270 := by decide +kernel
    obtain ⟨g1, g2⟩ := hb q hq2
    rw [hr q.1 (X + q.2.1) (fun e => g1 ⟨e.1, by omega⟩) (by omega)]
    exact hS.2.2.1 q hq2
  · have hb : ∀ q ∈ qT, q.1 ≠ 194 ∧ q.1 < 270 := by decide +kernel
    obtain ⟨g1, g2⟩ := hb q hq2
    rw [hq (X + q.1) q.2.1 (by omega) (fun e => absurd e (by omega))]
    exact hS.2.2.2.1 q hq2
/-! each part of the invariant over it: what the touched cells must not be -/
section AgTr
variable {X N n0 : Nat} {TI TA TB : Nat → Nat → Prop} {M M1 : Mm}
theorem tr_W {w : Nat} (hN : X + 270 ≤ N) (h : Ag X N n0 TI TA TB M M1) (H : IW M X w) (t1 : ∀ num a, TI num a → ¬ (num = 1000 ∨ num = 1107)) : IW M1 X w :=
  IW_ag H (h.1 _ _ (by unfold ScI; omega) (fun q => t1 _ _ q (by omega)) (by omega)) (h.1 _ _ (by unfold ScI; omega) (fun q => t1 _ _ q (by omega)) (by omega))
theorem tr_P {p : Nat} (hN : X + 270 ≤ N) (h : Ag X N n0 TI TA TB M M1) (H : IP M X p) (t1 : ∀ num a, TI num a → ¬ (num = 604 ∨ num = 1101)) (t2 : ∀ a j, TA a j → ¬ (a = X + 2 ∨ a = X + 3 ∨ a = X + 4 ∨ a = X + 5 ∨ a = X + 227 ∨ a = X + 228 ∨ a = X + 229)) (t3 : ∀ a j, TB a j → ¬ a = X + 230) : IP M1 X p :=
  IP_ag H (h.1 _ _ (by unfold ScI; omega) (fun q => t1 _ _ q (by omega)) (by omega)) (h.1 _ _ (by unfold ScI; omega) (fun q => t1 _ _ q (by omega)) (by omega)) (fun o ho => funext fun j => h.2.1 _ _ (by unfold ScA; omega) (fun q => t2 _ _ q (by omega)) (by omega)) (funext fun j => h.2.2.1 _ _ (by unfold ScB; omega) (fun q => t3 _ _ q (by omega)) (by omega))
theorem tr_D {p : Nat} (hN : X + 270 ≤ N) (h : Ag X N n0 TI TA TB M M1) (H : ID M X p) (t2 : ∀ a j, TA a j → ¬ a = X + 3) (t3 : ∀ a j, TB a j → ¬ (a = X + 7 ∨ a = X + 231)) : ID M1 X p :=
  ID_ag H (funext fun j => h.2.1 _ _ (by unfold ScA; omega) (fun q => t2 _ _ q (by omega)) (by omega)) (funext fun j => h.2.2.1 _ _ (by unfold ScB; omega) (fun q => t3 _ _ q (by omega)) (by omega)) (funext fun j => h.2.2.1 _ _ (by unfold ScB; omega) (fun q => t3 _ _ q (by omega)) (by omega))
theorem tr_C {n : Nat} (hN : X + 270 ≤ N) (h : Ag X N n0 TI TA TB M M1) (H : IC M X n) (t1 : ∀ num a, TI num a → ¬ (num = 1010 ∨ num = 1116 ∨ num = 1106)) : IC M1 X n :=
  IC_ag H (h.1 _ _ (by unfold ScI; omega) (fun q => t1 _ _ q (by omega)) (by omega)) (h.1 _ _ (by unfold ScI; omega) (fun q => t1 _ _ q (by omega)) (by omega)) (h.1 _ _ (by unfold ScI; omega) (fun q => t1 _ _ q (by omega)) (by omega))
theorem tr_Q' {p w n i k r hh f0 : Nat} (hN : X + 270 ≤ N) (hp : p ≤ 8) (hw : w ≤ 8) (hi : i < 8) (h : Ag X N n0 TI TA TB M M1) (H : IQ' M X p w n i k r hh f0) (t1 : ∀ num a, TI num a → ¬ ((901 ≤ num ∧ num ≤ 906 ∧ a = aSq X i) ∨ (num = 301 ∧ aHd X i 0 ≤ a ∧ a ≤ aHd X i 7)))
    (t2 : ∀ a j, TA a j → ¬ (((a = X + 232 ∨ a = X + 233 ∨ a = X + 235 ∨ a = X + 236) ∧ j = i) ∨ (a = X + 234 ∧ 8 * i ≤ j ∧ j < 8 * i + 8) ∨ (a = X + 237 ∧ 9 * i ≤ j ∧ j < 9 * i + 8) ∨ a = aSt X i)) (t3 : ∀ a j, TB a j → ¬ ((aHv X i 0 ≤ a ∧ a ≤ aHv X i 7) ∨ (a = X + 238 ∧ 72 * i ≤ j ∧ j < 72 * i + 64))) : IQ' M1 X p w n i k r hh f0 :=
  IQ'_ag hp hw H (fun num hn => h.1 _ _ (by unfold ScI; omega) (fun q => t1 _ _ q (by omega)) (by unfold aSq; omega)) (fun o ho => h.2.1 _ _ (by unfold ScA; omega) (fun q => t2 _ _ q (by omega)) (by omega)) (fun f hf => h.2.1 _ _ (by unfold ScA; omega) (fun q => t2 _ _ q (by omega)) (by omega)) (fun j hj => h.2.1 _ _ (by unfold ScA; omega) (fun q => t2 _ _ q (by omega)) (by omega)) (funext fun j => h.2.1 _ _ (by unfold ScA aSt; omega) (fun q => t2 _ _ q (by omega)) (by unfold aSt; omega))
    (fun d hd => h.1 _ _ (by unfold ScI aHd; omega) (fun q => t1 _ _ q (by unfold aHd; omega)) (by unfold aHd; omega)) (fun d hd => funext fun j => h.2.2.1 _ _ (by unfold ScB aHv; omega) (fun q => t3 _ _ q (by unfold aHv; omega)) (by unfold aHv; omega)) (fun j f hj hf => h.2.2.1 _ _ (by unfold ScB; omega) (fun q => t3 _ _ q (by omega)) (by omega))
theorem tr_Q {p w n i : Nat} (hN : X + 270 ≤ N) (hp : p ≤ 8) (hw : w ≤ 8) (hi : i < 8) (h : Ag X N n0 TI TA TB M M1) (H : IQ M X p w n i) (t1 : ∀ num a, TI num a → ¬ ((901 ≤ num ∧ num ≤ 906 ∧ a = aSq X i) ∨ (num = 301 ∧ aHd X i 0 ≤ a ∧ a ≤ aHd X i 7)))
    (t2 : ∀ a j, TA a j → ¬ (((a = X + 232 ∨ a = X + 233 ∨ a = X + 235 ∨ a = X + 236) ∧ j = i) ∨ (a = X + 234 ∧ 8 * i ≤ j ∧ j < 8 * i + 8) ∨ (a = X + 237 ∧ 9 * i ≤ j ∧ j < 9 * i + 8) ∨ a = aSt X i)) (t3 : ∀ a j, TB a j → ¬ ((aHv X i 0 ≤ a ∧ a ≤ aHv X i 7) ∨ (a = X + 238 ∧ 72 * i ≤ j ∧ j < 72 * i + 64))) : IQ M1 X p w n i := by
  obtain ⟨k, r, hh, f0, H⟩ := H
  exact ⟨k, r, hh, f0, tr_Q' hN hp hw hi h H t1 t2 t3⟩
theorem tr_X {p n i : Nat} (hN : X + 270 ≤ N) (hp : p ≤ 8) (hi : i < 8) (h : Ag X N n0 TI TA TB M M1) (H : IX M X p n i) (t1 : ∀ num a, TI num a → ¬ (((num = 103 ∨ num = 102) ∧ a = aCx X i) ∨ (num = 301 ∧ a = aCh X i))) (t2 : ∀ a j, TA a j → ¬ (((a = X + 252 ∨ a = X + 253 ∨ a = X + 254) ∧ j = i) ∨ (a = X + 255 ∧ 8 * i ≤ j ∧ j < 8 * i + 8) ∨ a = aCs X i)) (t3 : ∀ a j, TB a j → ¬ ((a = X + 256 ∧ 8 * i ≤ j ∧ j < 8 * i + 8) ∨ a = aCv X i)) : IX M1 X p n i :=
  IX_ag hp H (h.1 _ _ (by unfold ScI; omega) (fun q => t1 _ _ q (by omega)) (by unfold aCx; omega)) (h.1 _ _ (by unfold ScI; omega) (fun q => t1 _ _ q (by omega)) (by unfold aCx; omega)) (h.1 _ _ (by unfold ScI aCh; omega) (fun q => t1 _ _ q (by omega)) (by unfold aCh; omega)) (fun o ho => h.2.1 _ _ (by unfold ScA; omega) (fun q => t2 _ _ q (by omega)) (by omega)) (fun f hf => h.2.1 _ _ (by unfold ScA; omega) (fun q => t2 _ _ q (by omega)) (by omega)) (funext fun j => h.2.1 _ _ (by unfold ScA aCs; omega) (fun q => t2 _ _ q (by omega)) (by unfold aCs; omega)) (fun f hf => h.2.2.1 _ _ (by unfold ScB; omega) (fun q => t3 _ _ q (by omega)) (by omega)) (funext fun j => h.2.2.1 _ _ (by unfold ScB aCv; omega) (fun q => t3 _ _ q (by omega)) (by unfold aCv; omega))
theorem tr_G {p n : Nat} (hN : X + 270 ≤ N) (h : Ag X N n0 TI TA TB M M1) (H : IG M X p n) (t1 : ∀ num a, TI num a → ¬ (((200 ≤ num ∧ num ≤ 204)) ∨ (num = 301 ∧ a = X + 223) ∨ (1135 ≤ num ∧ num ≤ 1138))) (t2 : ∀ a j, TA a j → ¬ (a = X + 258 ∨ a = X + 225)) (t3 : ∀ a j, TB a j → ¬ (a = X + 257 ∨ a = X + 224)) : IG M1 X p n :=
  IG_ag H (fun num hn => h.1 _ _ (by unfold ScI; omega) (fun q => t1 _ _ q (by omega)) (by omega)) (h.1 _ _ (by unfold ScI; omega) (fun q => t1 _ _ q (by omega)) (by omega)) (fun num hn => h.1 _ _ (by unfold ScI; omega) (fun q => t1 _ _ q (by omega)) (by omega)) (funext fun j => h.2.2.1 _ _ (by unfold ScB; omega) (fun q => t3 _ _ q (by omega)) (by omega)) (funext fun j => h.2.2.1 _ _ (by unfold ScB; omega) (fun q => t3 _ _ q (by omega)) (by omega)) (funext fun j => h.2.1 _ _ (by unfold ScA; omega) (fun q => t2 _ _ q (by omega)) (by omega)) (funext fun j => h.2.1 _ _ (by unfold ScA; omega) (fun q => t2 _ _ q (by omega)) (by omega))
theorem tr_H {s : Nat} (hN : X + 270 ≤ N) (hs : s < 8) (h : Ag X N n0 TI TA TB M M1) (H : IH M X s) (t1 : ∀ num a, TI num a → ¬ (801 ≤ num ∧ num ≤ 804 ∧ a = aSh X s)) (t2 : ∀ a j, TA a j → ¬ ((a = X + 265 ∨ a = X + 266 ∨ a = X + 267) ∧ j = s)) (t3 : ∀ a j, TB a j → ¬ ((a = X + 268 ∧ 64 * s ≤ j ∧ j < 64 * s + 60) ∨ a = aSr X s)) : IH M1 X s :=
  IH_ag H (fun num hn => h.1 _ _ (by unfold ScI; omega) (fun q => t1 _ _ q (by omega)) (by unfold aSh; omega)) (fun o ho => h.2.1 _ _ (by unfold ScA; omega) (fun q => t2 _ _ q (by omega)) (by omega)) (fun k hk => h.2.2.1 _ _ (by unfold ScB; omega) (fun q => t3 _ _ q (by omega)) (by omega)) (funext fun j => h.2.2.1 _ _ (by unfold ScB aSr; omega) (fun q => t3 _ _ q (by omega)) (by unfold aSr; omega))
theorem tr_T {n : Nat} (hN : X + 270 ≤ N) (h : Ag X N n0 TI TA TB M M1) (H : IT M X n) (t1 : ∀ num a, TI num a → ¬ num = 1011) (t2 : ∀ a j, TA a j → ¬ (a = X + 246 ∧ j < n)) : IT M1 X n :=
  IT_ag H (h.1 _ _ (by unfold ScI; omega) (fun q => t1 _ _ q rfl) (by omega)) (fun l hl => h.2.1 _ _ (by unfold ScA; omega) (fun q => t2 _ _ q (by omega)) (by omega))
theorem tr_Z {n : Nat} {z : Nat → Nat} (h : Ag X N n0 TI TA TB M M1) (H : IZ M X n z) : IZ M1 X n z := IZ_ag H h.2.2.2.2.2.2
theorem z_ge {n : Nat} {z : Nat → Nat} (H : IZ M X n z) : ∀ l, l ≤ n → X + 270 ≤ z l
  | 0, _ => by rw [H.1]; exact Nat.le_refl _
  | l + 1, h => by have h1 := z_ge H l (by omega); have h2 := H.2.1 l (by omega); omega
theorem z_le {n : Nat} {z : Nat → Nat} (H : IZ M X n z) {l : Nat} : ∀ d, l + d ≤ n → z l ≤ z (l + d)
  | 0, _ => Nat.le_refl _
  | d + 1, h => by have h1 := z_le H (l := l) d (by omega); have h2 := H.2.1 (l + d) (by omega); have e : l + (d + 1) = l + d + 1 := by omega
                   rw [e]; omega
theorem z_mo {n : Nat} {z : Nat → Nat} (H : IZ M X n z) {l m : Nat} (h : l ≤ m) (hm : m ≤ n) : z l ≤ z m := by
  have := z_le H (l := l) (m - l) (by omega)
  rw [show l + (m - l) = m by omega] at this
  exact this
theorem tr_L {p n l : Nat} {z : Nat → Nat} (hp : p ≤ 8) (hz : IZ M X n z) (hl : l < n) (hN : z n ≤ N) (hn : n ≤ n0) (h : Ag X N n0 TI TA TB M M1) (H : IL M X p z l) (t1 : ∀ num a, TI num a → ¬ (z l ≤ a ∧ a < z (l + 1))) (t2 : ∀ a j, TA a j → ¬ ((X + 239 ≤ a ∧ a ≤ X + 251 ∧ a ≠ X + 240 ∧ a ≠ X + 248 ∧ a ≠ X + 249 ∧ j = l) ∨ (a = X + 240 ∧ 64 * l ≤ j ∧ j < 64 * l + 60) ∨ ((a = X + 248 ∨ a = X + 249) ∧ 8 * l ≤ j ∧ j < 8 * l + 8) ∨ a = X + 2 ∨ (z l ≤ a ∧ a < z (l + 1)))) : IL M1 X p z l := by
  have z1 := z_ge hz l (by omega)
  have z2 := hz.2.1 l hl
  have z3 := z_mo hz (l := l + 1) (m := n) (by omega) (Nat.le_refl _)
  exact IL_ag hp H (h.2.2.2.2.1 _ _ (by omega) (fun _ => by omega)) (fun a h1 h2 => (h.2.2.2.1 a (by omega)).1) (fun a h1 h2 => (h.2.2.2.1 a (by omega)).2) (fun num a h1 h2 => h.2.2.2.2.2.1 num a (by omega) (by omega)) z1 z2
    (fun num hnum => h.1 _ _ (by unfold ScI lA; omega) (fun q => t1 _ _ q (by unfold lA; omega)) (by unfold lA; omega)) (fun g => ⟨h.1 _ _ (by unfold ScI lP; omega) (fun q => t1 _ _ q (by unfold lP; omega)) (by unfold lP; omega), h.1 _ _ (by unfold ScI lP; omega) (fun q => t1 _ _ q (by unfold lP; omega)) (by unfold lP; omega)⟩)
    (fun o ho => h.2.1 _ _ (by unfold ScA; omega) (fun q => t2 _ _ q (by omega)) (by omega)) (fun k hk => h.2.1 _ _ (by unfold ScA; omega) (fun q => t2 _ _ q (by omega)) (by omega)) (funext fun j => h.2.1 _ _ (by unfold ScA lB; omega) (fun q => t2 _ _ q (by unfold lB; omega)) (by unfold lB; omega)) (fun g => ⟨funext fun j => h.2.1 _ _ (by unfold ScA lU; omega) (fun q => t2 _ _ q (by unfold lU; omega)) (by unfold lU; omega), funext fun j => h.2.1 _ _ (by unfold ScA lV; omega) (fun q => t2 _ _ q (by unfold lV; omega)) (by unfold lV; omega)⟩)
    (fun f hf => ⟨h.2.1 _ _ (by unfold ScA; omega) (fun q => t2 _ _ q (by omega)) (by omega), h.2.1 _ _ (by unfold ScA; omega) (fun q => t2 _ _ q (by omega)) (by omega)⟩) (funext fun j => h.2.1 _ _ (by unfold ScA; omega) (fun q => t2 _ _ q (by omega)) (by omega))
end AgTr
theorem Inv_Ag {M M1 : Mm} {X p n w N : Nat} {z : Nat → Nat} (H : Inv M X p n w z) (hN : z n ≤ N) (h : Ag X N n T0 T0 T0 M M1) : Inv M1 X p n w z := by
  obtain ⟨hS, hW, hP, hD, hC, hQ, hX, hZ, hL, hG, hH, hT⟩ := H
  have hX0 := z_ge hZ n (Nat.le_refl _)
  have hN1 : X + 270 ≤ N := by omega
  have f0 : ∀ a b : Nat, T0 a b → False := fun _ _ q => q
  exact ⟨St_Ag hN1 h hS, tr_W hN1 h hW (fun _ _ q => q.elim), tr_P hN1 h hP (fun _ _ q => q.elim) (fun _ _ q => q.elim) (fun _ _ q => q.elim), tr_D hN1 h hD (fun _ _ q => q.elim) (fun _ _ q => q.elim), tr_C hN1 h hC (fun _ _ q => q.elim), fun i hi => tr_Q hN1 hP.1 hW.2.2.2 hi h (hQ i hi) (fun _ _ q => q.elim) (fun _ _ q => q.elim) (fun _ _ q => q.elim), fun i hi => tr_X hN1 hP.1 hi h (hX i hi) (fun _ _ q => q.elim) (fun _ _ q => q.elim) (fun _ _ q => q.elim), tr_Z h hZ, fun l hl => tr_L hP.1 hZ hl hN (Nat.le_refl _) h (hL l hl) (fun _ _ q => q.elim) (fun _ _ q => q.elim), tr_G hN1 h hG (fun _ _ q => q.elim) (fun _ _ q => q.elim) (fun _ _ q => q.elim), fun s hs => tr_H hN1 hs h (hH s hs) (fun _ _ q => q.elim) (fun _ _ q => q.elim) (fun _ _ q => q.elim), tr_T hN1 h hT (fun _ _ q => q.elim) (fun _ _ q => q.elim)⟩
end
section
theorem lgc_lt (x y : Int64) : lg_cmp x y < 0 ↔ x < y := by
  unfold lg_cmp
  by_cases h1 : y < x
  · rw [if_pos h1]
    have h2 := Int64.lt_iff_toInt_lt.mp h1
    constructor
    · intro h; exact absurd h (by decide)
    · intro h; have h3 := Int64.lt_iff_toInt_lt.mp h; omega
  · rw [if_neg h1]
    by_cases h2 : x = y
    · rw [if_pos h2]
      subst h2
      constructor
      · intro h; exact absurd h (by decide)
      · intro h; exact absurd h h1
    · rw [if_neg h2]
      constructor
      · intro _
        have h3 : ¬ y.toInt < x.toInt := fun q => h1 (Int64.lt_iff_toInt_lt.mpr q)
        have h4 : ¬ x.toInt = y.toInt := fun q => h2 (Int64.toInt_inj.mp q)
        exact Int64.lt_iff_toInt_lt.mpr (by omega)
      · intro _; decide
theorem lgc_gt (x y : Int64) : 0 < lg_cmp x y ↔ y < x := by
  unfold lg_cmp
  by_cases h1 : y < x
  · rw [if_pos h1]
    exact ⟨fun _ => h1, fun _ => by decide⟩
  · rw [if_neg h1]
    by_cases h2 : x = y
    · rw [if_pos h2]
      exact ⟨fun h => absurd h (by decide), fun h => absurd h h1⟩
    · rw [if_neg h2]
      exact ⟨fun h => absurd h (by decide), fun h => absurd h h1⟩
theorem lgc_eq (x y : Int64) : lg_cmp x y = 0 ↔ x = y := by
  unfold lg_cmp
  by_cases h1 : y < x
  · rw [if_pos h1]
    constructor
    · intro h; exact absurd h (by decide)
    · intro h; subst h; exact absurd (Int64.lt_iff_toInt_lt.mp h1) (by omega)
  · rw [if_neg h1]
    by_cases h2 : x = y
    · rw [if_pos h2]; exact ⟨fun _ => h2, fun _ => rfl⟩
    · rw [if_neg h2]; exact ⟨fun h => absurd h (by decide), fun h => absurd h h2⟩
theorem lgc_ge (x y : Int64) : 0 ≤ lg_cmp x y ↔ ¬ x < y := by
  rw [← lgc_lt, Int32.not_lt]
theorem w64_lt (a b : Int32) : a.toInt64 < b.toInt64 ↔ a < b := by
  rw [Int64.lt_iff_toInt_lt, Int32.lt_iff_toInt_lt, Int32.toInt_toInt64, Int32.toInt_toInt64]
theorem isIn_eq (a lo hi : Int32) : f_X11_isIn a.toInt64 lo.toInt64 hi.toInt64 = some (if a < lo then 0 else if hi < a then 0 else 1) := by
  unfold f_X11_isIn
  simp only [lgc_lt, lgc_gt, w64_lt]
  by_cases h1 : a < lo
  · simp only [if_pos h1]
  · by_cases h2 : hi < a
    · simp only [if_neg h1, if_pos h2]
    · simp only [if_neg h1, if_neg h2]
theorem m8 (i : Nat) : (8 : Int32) * nI i = nI (8 * i) := pk_mul 8 i
theorem m9 (i : Nat) : (9 : Int32) * nI i = nI (9 * i) := pk_mul 9 i
theorem m64 (i : Nat) : (64 : Int32) * nI i = nI (64 * i) := pk_mul 64 i
theorem gi_0 {M : Mm} {X : Nat} (h : St M X) {num : Nat} : gI M 11 num X = some (mI M num X) := gI_of (k_0 h)
theorem pi_0 {M : Mm} {X : Nat} (h : St M X) {num : Nat} {v : Int32} : pI M 11 num X v = some (sI M num X v) := pI_of (k_0 h)
theorem gi_1 {M : Mm} {X : Nat} (h : St M X) {num : Nat} : gI M 7 num (X + 1) = some (mI M num (X + 1)) := gI_of (k_1 h)
theorem pi_1 {M : Mm} {X : Nat} (h : St M X) {num : Nat} {v : Int32} : pI M 7 num (X + 1) v = some (sI M num (X + 1) v) := pI_of (k_1 h)
theorem ai_2 {M : Mm} {X : Nat} (h : St M X) {k : Nat} (hk : k < 8) : aI M (X + 2) (nI k) = some (mA M (X + 2) k) := aI_of (k_2 h) (n_2 h) hk (by decide)
theorem wi_2 {M : Mm} {X : Nat} (h : St M X) {k : Nat} {v : Int32} (hk : k < 8) : wI M (X + 2) (nI k) v = some (sA M (X + 2) (va_up (mA M (X + 2)) k v)) := wI_of (k_2 h) (n_2 h) hk (by decide)
theorem al_2 {M : Mm} {X : Nat} (h : St M X) : aL M (X + 2) = some (nI 8) := aL_of (k_2 h) (by decide) (by decide) (n_2 h)
theorem ai_3 {M : Mm} {X : Nat} (h : St M X) {k : Nat} (hk : k < 8) : aI M (X + 3) (nI k) = some (mA M (X + 3) k) := aI_of (k_3 h) (n_3 h) hk (by decide)
theorem wi_3 {M : Mm} {X : Nat} (h : St M X) {k : Nat} {v : Int32} (hk : k < 8) : wI M (X + 3) (nI k) v = some (sA M (X + 3) (va_up (mA M (X + 3)) k v)) := wI_of (k_3 h) (n_3 h) hk (by decide)
theorem al_3 {M : Mm} {X : Nat} (h : St M X) : aL M (X + 3) = some (nI 8) := aL_of (k_3 h) (by decide) (by decide) (n_3 h)
theorem ai_4 {M : Mm} {X : Nat} (h : St M X) {k : Nat} (hk : k < 8) : aI M (X + 4) (nI k) = some (mA M (X + 4) k) := aI_of (k_4 h) (n_4 h) hk (by decide)
theorem wi_4 {M : Mm} {X : Nat} (h : St M X) {k : Nat} {v : Int32} (hk : k < 8) : wI M (X + 4) (nI k) v = some (sA M (X + 4) (va_up (mA M (X + 4)) k v)) := wI_of (k_4 h) (n_4 h) hk (by decide)
theorem al_4 {M : Mm} {X : Nat} (h : St M X) : aL M (X + 4) = some (nI 8) := aL_of (k_4 h) (by decide) (by decide) (n_4 h)
theorem ai_5 {M : Mm} {X : Nat} (h : St M X) {k : Nat} (hk : k < 8) : aI M (X + 5) (nI k) = some (mA M (X + 5) k) := aI_of (k_5 h) (n_5 h) hk (by decide)
theorem wi_5 {M : Mm} {X : Nat} (h : St M X) {k : Nat} {v : Int32} (hk : k < 8) : wI M (X + 5) (nI k) v = some (sA M (X + 5) (va_up (mA M (X + 5)) k v)) := wI_of (k_5 h) (n_5 h) hk (by decide)
theorem al_5 {M : Mm} {X : Nat} (h : St M X) : aL M (X + 5) = some (nI 8) := aL_of (k_5 h) (by decide) (by decide) (n_5 h)
theorem gi_6 {M : Mm} {X : Nat} (h : St M X) {num : Nat} : gI M 4 num (X + 6) = some (mI M num (X + 6)) := gI_of (k_6 h)
theorem pi_6 {M : Mm} {X : Nat} (h : St M X) {num : Nat} {v : Int32} : pI M 4 num (X + 6) v = some (sI M num (X + 6) v) := pI_of (k_6 h)
theorem aj_7 {M : Mm} {X : Nat} (h : St M X) {k : Nat} (hk : k < 8) : aJ M (X + 7) (nI k) = some (mB M (X + 7) k) := aJ_of (k_7 h) (n_7 h) hk (by decide)
theorem wj_7 {M : Mm} {X : Nat} (h : St M X) {k : Nat} {v : Int64} (hk : k < 8) : wJ M (X + 7) (nI k) v = some (sB M (X + 7) (va_up (mB M (X + 7)) k v)) := wJ_of (k_7 h) (n_7 h) hk (by decide)
theorem gi_212 {M : Mm} {X : Nat} (h : St M X) {num : Nat} : gI M 6 num (X + 212) = some (mI M num (X + 212)) := gI_of (k_212 h)
theorem pi_212 {M : Mm} {X : Nat} (h : St M X) {num : Nat} {v : Int32} : pI M 6 num (X + 212) v = some (sI M num (X + 212) v) := pI_of (k_212 h)
theorem ai_213 {M : Mm} {X : Nat} (h : St M X) {k : Nat} (hk : k < 60) : aI M (X + 213) (nI k) = some (mA M (X + 213) k) := aI_of (k_213 h) (n_213 h) hk (by decide)
theorem wi_213 {M : Mm} {X : Nat} (h : St M X) {k : Nat} {v : Int32} (hk : k < 60) : wI M (X + 213) (nI k) v = some (sA M (X + 213) (va_up (mA M (X + 213)) k v)) := wI_of (k_213 h) (n_213 h) hk (by decide)
theorem al_213 {M : Mm} {X : Nat} (h : St M X) : aL M (X + 213) = some (nI 60) := aL_of (k_213 h) (by decide) (by decide) (n_213 h)
theorem gi_214 {M : Mm} {X : Nat} (h : St M X) {num : Nat} : gI M 1 num (X + 214) = some (mI M num (X + 214)) := gI_of (k_214 h)
theorem pi_214 {M : Mm} {X : Nat} (h : St M X) {num : Nat} {v : Int32} : pI M 1 num (X + 214) v = some (sI M num (X + 214) v) := pI_of (k_214 h)
theorem gi_215 {M : Mm} {X : Nat} (h : St M X) {num : Nat} : gI M 4 num (X + 215) = some (mI M num (X + 215)) := gI_of (k_215 h)
theorem pi_215 {M : Mm} {X : Nat} (h : St M X) {num : Nat} {v : Int32} : pI M 4 num (X + 215) v = some (sI M num (X + 215) v) := pI_of (k_215 h)
theorem aj_216 {M : Mm} {X : Nat} (h : St M X) {k : Nat} (hk : k < 8) : aJ M (X + 216) (nI k) = some (mB M (X + 216) k) := aJ_of (k_216 h) (n_216 h) hk (by decide)
theorem wj_216 {M : Mm} {X : Nat} (h : St M X) {k : Nat} {v : Int64} (hk : k < 8) : wJ M (X + 216) (nI k) v = some (sB M (X + 216) (va_up (mB M (X + 216)) k v)) := wJ_of (k_216 h) (n_216 h) hk (by decide)
theorem ai_217 {M : Mm} {X : Nat} (h : St M X) {k : Nat} (hk : k < 8) : aI M (X + 217) (nI k) = some (mA M (X + 217) k) := aI_of (k_217 h) (n_217 h) hk (by decide)
theorem wi_217 {M : Mm} {X : Nat} (h : St M X) {k : Nat} {v : Int32} (hk : k < 8) : wI M (X + 217) (nI k) v = some (sA M (X + 217) (va_up (mA M (X + 217)) k v)) := wI_of (k_217 h) (n_217 h) hk (by decide)
theorem al_217 {M : Mm} {X : Nat} (h : St M X) : aL M (X + 217) = some (nI 8) := aL_of (k_217 h) (by decide) (by decide) (n_217 h)
theorem ai_218 {M : Mm} {X : Nat} (h : St M X) {k : Nat} (hk : k < 8) : aI M (X + 218) (nI k) = some (mA M (X + 218) k) := aI_of (k_218 h) (n_218 h) hk (by decide)
theorem wi_218 {M : Mm} {X : Nat} (h : St M X) {k : Nat} {v : Int32} (hk : k < 8) : wI M (X + 218) (nI k) v = some (sA M (X + 218) (va_up (mA M (X + 218)) k v)) := wI_of (k_218 h) (n_218 h) hk (by decide)
theorem al_218 {M : Mm} {X : Nat} (h : St M X) : aL M (X + 218) = some (nI 8) := aL_of (k_218 h) (by decide) (by decide) (n_218 h)
theorem ai_219 {M : Mm} {X : Nat} (h : St M X) {k : Nat} (hk : k < 8) : aI M (X + 219) (nI k) = some (mA M (X + 219) k) := aI_of (k_219 h) (n_219 h) hk (by decide)
theorem wi_219 {M : Mm} {X : Nat} (h : St M X) {k : Nat} {v : Int32} (hk : k < 8) : wI M (X + 219) (nI k) v = some (sA M (X + 219) (va_up (mA M (X + 219)) k v)) := wI_of (k_219 h) (n_219 h) hk (by decide)
theorem al_219 {M : Mm} {X : Nat} (h : St M X) : aL M (X + 219) = some (nI 8) := aL_of (k_219 h) (by decide) (by decide) (n_219 h)
theorem aj_220 {M : Mm} {X : Nat} (h : St M X) {k : Nat} (hk : k < 8) : aJ M (X + 220) (nI k) = some (mB M (X + 220) k) := aJ_of (k_220 h) (n_220 h) hk (by decide)
theorem wj_220 {M : Mm} {X : Nat} (h : St M X) {k : Nat} {v : Int64} (hk : k < 8) : wJ M (X + 220) (nI k) v = some (sB M (X + 220) (va_up (mB M (X + 220)) k v)) := wJ_of (k_220 h) (n_220 h) hk (by decide)
theorem ai_221 {M : Mm} {X : Nat} (h : St M X) {k : Nat} (hk : k < 0) : aI M (X + 221) (nI k) = some (mA M (X + 221) k) := aI_of (k_221 h) (n_221 h) hk (by decide)
theorem wi_221 {M : Mm} {X : Nat} (h : St M X) {k : Nat} {v : Int32} (hk : k < 0) : wI M (X + 221) (nI k) v = some (sA M (X + 221) (va_up (mA M (X + 221)) k v)) := wI_of (k_221 h) (n_221 h) hk (by decide)
theorem al_221 {M : Mm} {X : Nat} (h : St M X) : aL M (X + 221) = some (nI 0) := aL_of (k_221 h) (by decide) (by decide) (n_221 h)
theorem gi_222 {M : Mm} {X : Nat} (h : St M X) {num : Nat} : gI M 3 num (X + 222) = some (mI M num (X + 222)) := gI_of (k_222 h)
theorem pi_222 {M : Mm} {X : Nat} (h : St M X) {num : Nat} {v : Int32} : pI M 3 num (X + 222) v = some (sI M num (X + 222) v) := pI_of (k_222 h)
theorem gi_223 {M : Mm} {X : Nat} (h : St M X) {num : Nat} : gI M 4 num (X + 223) = some (mI M num (X + 223)) := gI_of (k_223 h)
theorem pi_223 {M : Mm} {X : Nat} (h : St M X) {num : Nat} {v : Int32} : pI M 4 num (X + 223) v = some (sI M num (X + 223) v) := pI_of (k_223 h)
theorem aj_224 {M : Mm} {X : Nat} (h : St M X) {k : Nat} (hk : k < 8) : aJ M (X + 224) (nI k) = some (mB M (X + 224) k) := aJ_of (k_224 h) (n_224 h) hk (by decide)
theorem wj_224 {M : Mm} {X : Nat} (h : St M X) {k : Nat} {v : Int64} (hk : k < 8) : wJ M (X + 224) (nI k) v = some (sB M (X + 224) (va_up (mB M (X + 224)) k v)) := wJ_of (k_224 h) (n_224 h) hk (by decide)
theorem ai_225 {M : Mm} {X : Nat} (h : St M X) {k : Nat} (hk : k < 8) : aI M (X + 225) (nI k) = some (mA M (X + 225) k) := aI_of (k_225 h) (n_225 h) hk (by decide)
theorem wi_225 {M : Mm} {X : Nat} (h : St M X) {k : Nat} {v : Int32} (hk : k < 8) : wI M (X + 225) (nI k) v = some (sA M (X + 225) (va_up (mA M (X + 225)) k v)) := wI_of (k_225 h) (n_225 h) hk (by decide)
theorem al_225 {M : Mm} {X : Nat} (h : St M X) : aL M (X + 225) = some (nI 8) := aL_of (k_225 h) (by decide) (by decide) (n_225 h)
theorem gi_226 {M : Mm} {X : Nat} (h : St M X) {num : Nat} : gI M 12 num (X + 226) = some (mI M num (X + 226)) := gI_of (k_226 h)
theorem pi_226 {M : Mm} {X : Nat} (h : St M X) {num : Nat} {v : Int32} : pI M 12 num (X + 226) v = some (sI M num (X + 226) v) := pI_of (k_226 h)
theorem ai_227 {M : Mm} {X : Nat} (h : St M X) {k : Nat} (hk : k < 8) : aI M (X + 227) (nI k) = some (mA M (X + 227) k) := aI_of (k_227 h) (n_227 h) hk (by decide)
theorem wi_227 {M : Mm} {X : Nat} (h : St M X) {k : Nat} {v : Int32} (hk : k < 8) : wI M (X + 227) (nI k) v = some (sA M (X + 227) (va_up (mA M (X + 227)) k v)) := wI_of (k_227 h) (n_227 h) hk (by decide)
theorem al_227 {M : Mm} {X : Nat} (h : St M X) : aL M (X + 227) = some (nI 8) := aL_of (k_227 h) (by decide) (by decide) (n_227 h)
theorem ai_228 {M : Mm} {X : Nat} (h : St M X) {k : Nat} (hk : k < 8) : aI M (X + 228) (nI k) = some (mA M (X + 228) k) := aI_of (k_228 h) (n_228 h) hk (by decide)
theorem wi_228 {M : Mm} {X : Nat} (h : St M X) {k : Nat} {v : Int32} (hk : k < 8) : wI M (X + 228) (nI k) v = some (sA M (X + 228) (va_up (mA M (X + 228)) k v)) := wI_of (k_228 h) (n_228 h) hk (by decide)
theorem al_228 {M : Mm} {X : Nat} (h : St M X) : aL M (X + 228) = some (nI 8) := aL_of (k_228 h) (by decide) (by decide) (n_228 h)
theorem ai_229 {M : Mm} {X : Nat} (h : St M X) {k : Nat} (hk : k < 8) : aI M (X + 229) (nI k) = some (mA M (X + 229) k) := aI_of (k_229 h) (n_229 h) hk (by decide)
theorem wi_229 {M : Mm} {X : Nat} (h : St M X) {k : Nat} {v : Int32} (hk : k < 8) : wI M (X + 229) (nI k) v = some (sA M (X + 229) (va_up (mA M (X + 229)) k v)) := wI_of (k_229 h) (n_229 h) hk (by decide)
theorem al_229 {M : Mm} {X : Nat} (h : St M X) : aL M (X + 229) = some (nI 8) := aL_of (k_229 h) (by decide) (by decide) (n_229 h)
theorem aj_230 {M : Mm} {X : Nat} (h : St M X) {k : Nat} (hk : k < 8) : aJ M (X + 230) (nI k) = some (mB M (X + 230) k) := aJ_of (k_230 h) (n_230 h) hk (by decide)
theorem wj_230 {M : Mm} {X : Nat} (h : St M X) {k : Nat} {v : Int64} (hk : k < 8) : wJ M (X + 230) (nI k) v = some (sB M (X + 230) (va_up (mB M (X + 230)) k v)) := wJ_of (k_230 h) (n_230 h) hk (by decide)
theorem aj_231 {M : Mm} {X : Nat} (h : St M X) {k : Nat} (hk : k < 8) : aJ M (X + 231) (nI k) = some (mB M (X + 231) k) := aJ_of (k_231 h) (n_231 h) hk (by decide)
theorem wj_231 {M : Mm} {X : Nat} (h : St M X) {k : Nat} {v : Int64} (hk : k < 8) : wJ M (X + 231) (nI k) v = some (sB M (X + 231) (va_up (mB M (X + 231)) k v)) := wJ_of (k_231 h) (n_231 h) hk (by decide)
theorem ai_232 {M : Mm} {X : Nat} (h : St M X) {k : Nat} (hk : k < 8) : aI M (X + 232) (nI k) = some (mA M (X + 232) k) := aI_of (k_232 h) (n_232 h) hk (by decide)
theorem wi_232 {M : Mm} {X : Nat} (h : St M X) {k : Nat} {v : Int32} (hk : k < 8) : wI M (X + 232) (nI k) v = some (sA M (X + 232) (va_up (mA M (X + 232)) k v)) := wI_of (k_232 h) (n_232 h) hk (by decide)
theorem al_232 {M : Mm} {X : Nat} (h : St M X) : aL M (X + 232) = some (nI 8) := aL_of (k_232 h) (by decide) (by decide) (n_232 h)
theorem ai_233 {M : Mm} {X : Nat} (h : St M X) {k : Nat} (hk : k < 8) : aI M (X + 233) (nI k) = some (mA M (X + 233) k) := aI_of (k_233 h) (n_233 h) hk (by decide)
theorem wi_233 {M : Mm} {X : Nat} (h : St M X) {k : Nat} {v : Int32} (hk : k < 8) : wI M (X + 233) (nI k) v = some (sA M (X + 233) (va_up (mA M (X + 233)) k v)) := wI_of (k_233 h) (n_233 h) hk (by decide)
theorem al_233 {M : Mm} {X : Nat} (h : St M X) : aL M (X + 233) = some (nI 8) := aL_of (k_233 h) (by decide) (by decide) (n_233 h)
theorem ai_234 {M : Mm} {X : Nat} (h : St M X) {k : Nat} (hk : k < 64) : aI M (X + 234) (nI k) = some (mA M (X + 234) k) := aI_of (k_234 h) (n_234 h) hk (by decide)
theorem wi_234 {M : Mm} {X : Nat} (h : St M X) {k : Nat} {v : Int32} (hk : k < 64) : wI M (X + 234) (nI k) v = some (sA M (X + 234) (va_up (mA M (X + 234)) k v)) := wI_of (k_234 h) (n_234 h) hk (by decide)
theorem al_234 {M : Mm} {X : Nat} (h : St M X) : aL M (X + 234) = some (nI 64) := aL_of (k_234 h) (by decide) (by decide) (n_234 h)
theorem az_235 {M : Mm} {X : Nat} (h : St M X) {k : Nat} (hk : k < 8) : aZ M (X + 235) (nI k) = some (mA M (X + 235) k) := aZ_of (k_235 h) (n_235 h) hk (by decide)
theorem wz_235 {M : Mm} {X : Nat} (h : St M X) {k : Nat} {v : Int32} (hk : k < 8) : wZ M (X + 235) (nI k) v = some (sA M (X + 235) (va_up (mA M (X + 235)) k (vp_nar .boolean v))) := wZ_of (k_235 h) (n_235 h) hk (by decide)
theorem ai_236 {M : Mm} {X : Nat} (h : St M X) {k : Nat} (hk : k < 8) : aI M (X + 236) (nI k) = some (mA M (X + 236) k) := aI_of (k_236 h) (n_236 h) hk (by decide)
theorem wi_236 {M : Mm} {X : Nat} (h : St M X) {k : Nat} {v : Int32} (hk : k < 8) : wI M (X + 236) (nI k) v = some (sA M (X + 236) (va_up (mA M (X + 236)) k v)) := wI_of (k_236 h) (n_236 h) hk (by decide)
theorem al_236 {M : Mm} {X : Nat} (h : St M X) : aL M (X + 236) = some (nI 8) := aL_of (k_236 h) (by decide) (by decide) (n_236 h)
theorem ai_237 {M : Mm} {X : Nat} (h : St M X) {k : Nat} (hk : k < 72) : aI M (X + 237) (nI k) = some (mA M (X + 237) k) := aI_of (k_237 h) (n_237 h) hk (by decide)
theorem wi_237 {M : Mm} {X : Nat} (h : St M X) {k : Nat} {v : Int32} (hk : k < 72) : wI M (X + 237) (nI k) v = some (sA M (X + 237) (va_up (mA M (X + 237)) k v)) := wI_of (k_237 h) (n_237 h) hk (by decide)
theorem al_237 {M : Mm} {X : Nat} (h : St M X) : aL M (X + 237) = some (nI 72) := aL_of (k_237 h) (by decide) (by decide) (n_237 h)
theorem aj_238 {M : Mm} {X : Nat} (h : St M X) {k : Nat} (hk : k < 576) : aJ M (X + 238) (nI k) = some (mB M (X + 238) k) := aJ_of (k_238 h) (n_238 h) hk (by decide)
theorem wj_238 {M : Mm} {X : Nat} (h : St M X) {k : Nat} {v : Int64} (hk : k < 576) : wJ M (X + 238) (nI k) v = some (sB M (X + 238) (va_up (mB M (X + 238)) k v)) := wJ_of (k_238 h) (n_238 h) hk (by decide)
theorem ai_239 {M : Mm} {X : Nat} (h : St M X) {k : Nat} (hk : k < 200) : aI M (X + 239) (nI k) = some (mA M (X + 239) k) := aI_of (k_239 h) (n_239 h) hk (by decide)
theorem wi_239 {M : Mm} {X : Nat} (h : St M X) {k : Nat} {v : Int32} (hk : k < 200) : wI M (X + 239) (nI k) v = some (sA M (X + 239) (va_up (mA M (X + 239)) k v)) := wI_of (k_239 h) (n_239 h) hk (by decide)
theorem al_239 {M : Mm} {X : Nat} (h : St M X) : aL M (X + 239) = some (nI 200) := aL_of (k_239 h) (by decide) (by decide) (n_239 h)
theorem ai_240 {M : Mm} {X : Nat} (h : St M X) {k : Nat} (hk : k < 12800) : aI M (X + 240) (nI k) = some (mA M (X + 240) k) := aI_of (k_240 h) (n_240 h) hk (by decide)
theorem wi_240 {M : Mm} {X : Nat} (h : St M X) {k : Nat} {v : Int32} (hk : k < 12800) : wI M (X + 240) (nI k) v = some (sA M (X + 240) (va_up (mA M (X + 240)) k v)) := wI_of (k_240 h) (n_240 h) hk (by decide)
theorem al_240 {M : Mm} {X : Nat} (h : St M X) : aL M (X + 240) = some (nI 12800) := aL_of (k_240 h) (by decide) (by decide) (n_240 h)
theorem ai_241 {M : Mm} {X : Nat} (h : St M X) {k : Nat} (hk : k < 200) : aI M (X + 241) (nI k) = some (mA M (X + 241) k) := aI_of (k_241 h) (n_241 h) hk (by decide)
theorem wi_241 {M : Mm} {X : Nat} (h : St M X) {k : Nat} {v : Int32} (hk : k < 200) : wI M (X + 241) (nI k) v = some (sA M (X + 241) (va_up (mA M (X + 241)) k v)) := wI_of (k_241 h) (n_241 h) hk (by decide)
theorem al_241 {M : Mm} {X : Nat} (h : St M X) : aL M (X + 241) = some (nI 200) := aL_of (k_241 h) (by decide) (by decide) (n_241 h)
theorem ai_242 {M : Mm} {X : Nat} (h : St M X) {k : Nat} (hk : k < 200) : aI M (X + 242) (nI k) = some (mA M (X + 242) k) := aI_of (k_242 h) (n_242 h) hk (by decide)
theorem wi_242 {M : Mm} {X : Nat} (h : St M X) {k : Nat} {v : Int32} (hk : k < 200) : wI M (X + 242) (nI k) v = some (sA M (X + 242) (va_up (mA M (X + 242)) k v)) := wI_of (k_242 h) (n_242 h) hk (by decide)
theorem al_242 {M : Mm} {X : Nat} (h : St M X) : aL M (X + 242) = some (nI 200) := aL_of (k_242 h) (by decide) (by decide) (n_242 h)
theorem ai_243 {M : Mm} {X : Nat} (h : St M X) {k : Nat} (hk : k < 200) : aI M (X + 243) (nI k) = some (mA M (X + 243) k) := aI_of (k_243 h) (n_243 h) hk (by decide)
theorem wi_243 {M : Mm} {X : Nat} (h : St M X) {k : Nat} {v : Int32} (hk : k < 200) : wI M (X + 243) (nI k) v = some (sA M (X + 243) (va_up (mA M (X + 243)) k v)) := wI_of (k_243 h) (n_243 h) hk (by decide)
theorem al_243 {M : Mm} {X : Nat} (h : St M X) : aL M (X + 243) = some (nI 200) := aL_of (k_243 h) (by decide) (by decide) (n_243 h)
theorem ai_244 {M : Mm} {X : Nat} (h : St M X) {k : Nat} (hk : k < 200) : aI M (X + 244) (nI k) = some (mA M (X + 244) k) := aI_of (k_244 h) (n_244 h) hk (by decide)
theorem wi_244 {M : Mm} {X : Nat} (h : St M X) {k : Nat} {v : Int32} (hk : k < 200) : wI M (X + 244) (nI k) v = some (sA M (X + 244) (va_up (mA M (X + 244)) k v)) := wI_of (k_244 h) (n_244 h) hk (by decide)
theorem al_244 {M : Mm} {X : Nat} (h : St M X) : aL M (X + 244) = some (nI 200) := aL_of (k_244 h) (by decide) (by decide) (n_244 h)
theorem ai_245 {M : Mm} {X : Nat} (h : St M X) {k : Nat} (hk : k < 200) : aI M (X + 245) (nI k) = some (mA M (X + 245) k) := aI_of (k_245 h) (n_245 h) hk (by decide)
theorem wi_245 {M : Mm} {X : Nat} (h : St M X) {k : Nat} {v : Int32} (hk : k < 200) : wI M (X + 245) (nI k) v = some (sA M (X + 245) (va_up (mA M (X + 245)) k v)) := wI_of (k_245 h) (n_245 h) hk (by decide)
theorem al_245 {M : Mm} {X : Nat} (h : St M X) : aL M (X + 245) = some (nI 200) := aL_of (k_245 h) (by decide) (by decide) (n_245 h)
theorem az_246 {M : Mm} {X : Nat} (h : St M X) {k : Nat} (hk : k < 200) : aZ M (X + 246) (nI k) = some (mA M (X + 246) k) := aZ_of (k_246 h) (n_246 h) hk (by decide)
theorem wz_246 {M : Mm} {X : Nat} (h : St M X) {k : Nat} {v : Int32} (hk : k < 200) : wZ M (X + 246) (nI k) v = some (sA M (X + 246) (va_up (mA M (X + 246)) k (vp_nar .boolean v))) := wZ_of (k_246 h) (n_246 h) hk (by decide)
theorem az_247 {M : Mm} {X : Nat} (h : St M X) {k : Nat} (hk : k < 200) : aZ M (X + 247) (nI k) = some (mA M (X + 247) k) := aZ_of (k_247 h) (n_247 h) hk (by decide)
theorem wz_247 {M : Mm} {X : Nat} (h : St M X) {k : Nat} {v : Int32} (hk : k < 200) : wZ M (X + 247) (nI k) v = some (sA M (X + 247) (va_up (mA M (X + 247)) k (vp_nar .boolean v))) := wZ_of (k_247 h) (n_247 h) hk (by decide)
theorem ai_248 {M : Mm} {X : Nat} (h : St M X) {k : Nat} (hk : k < 1600) : aI M (X + 248) (nI k) = some (mA M (X + 248) k) := aI_of (k_248 h) (n_248 h) hk (by decide)
theorem wi_248 {M : Mm} {X : Nat} (h : St M X) {k : Nat} {v : Int32} (hk : k < 1600) : wI M (X + 248) (nI k) v = some (sA M (X + 248) (va_up (mA M (X + 248)) k v)) := wI_of (k_248 h) (n_248 h) hk (by decide)
theorem al_248 {M : Mm} {X : Nat} (h : St M X) : aL M (X + 248) = some (nI 1600) := aL_of (k_248 h) (by decide) (by decide) (n_248 h)
theorem ai_249 {M : Mm} {X : Nat} (h : St M X) {k : Nat} (hk : k < 1600) : aI M (X + 249) (nI k) = some (mA M (X + 249) k) := aI_of (k_249 h) (n_249 h) hk (by decide)
theorem wi_249 {M : Mm} {X : Nat} (h : St M X) {k : Nat} {v : Int32} (hk : k < 1600) : wI M (X + 249) (nI k) v = some (sA M (X + 249) (va_up (mA M (X + 249)) k v)) := wI_of (k_249 h) (n_249 h) hk (by decide)
theorem al_249 {M : Mm} {X : Nat} (h : St M X) : aL M (X + 249) = some (nI 1600) := aL_of (k_249 h) (by decide) (by decide) (n_249 h)
theorem ai_250 {M : Mm} {X : Nat} (h : St M X) {k : Nat} (hk : k < 200) : aI M (X + 250) (nI k) = some (mA M (X + 250) k) := aI_of (k_250 h) (n_250 h) hk (by decide)
theorem wi_250 {M : Mm} {X : Nat} (h : St M X) {k : Nat} {v : Int32} (hk : k < 200) : wI M (X + 250) (nI k) v = some (sA M (X + 250) (va_up (mA M (X + 250)) k v)) := wI_of (k_250 h) (n_250 h) hk (by decide)
theorem al_250 {M : Mm} {X : Nat} (h : St M X) : aL M (X + 250) = some (nI 200) := aL_of (k_250 h) (by decide) (by decide) (n_250 h)
theorem ai_251 {M : Mm} {X : Nat} (h : St M X) {k : Nat} (hk : k < 200) : aI M (X + 251) (nI k) = some (mA M (X + 251) k) := aI_of (k_251 h) (n_251 h) hk (by decide)
theorem wi_251 {M : Mm} {X : Nat} (h : St M X) {k : Nat} {v : Int32} (hk : k < 200) : wI M (X + 251) (nI k) v = some (sA M (X + 251) (va_up (mA M (X + 251)) k v)) := wI_of (k_251 h) (n_251 h) hk (by decide)
theorem al_251 {M : Mm} {X : Nat} (h : St M X) : aL M (X + 251) = some (nI 200) := aL_of (k_251 h) (by decide) (by decide) (n_251 h)
theorem az_252 {M : Mm} {X : Nat} (h : St M X) {k : Nat} (hk : k < 8) : aZ M (X + 252) (nI k) = some (mA M (X + 252) k) := aZ_of (k_252 h) (n_252 h) hk (by decide)
theorem wz_252 {M : Mm} {X : Nat} (h : St M X) {k : Nat} {v : Int32} (hk : k < 8) : wZ M (X + 252) (nI k) v = some (sA M (X + 252) (va_up (mA M (X + 252)) k (vp_nar .boolean v))) := wZ_of (k_252 h) (n_252 h) hk (by decide)
theorem ai_253 {M : Mm} {X : Nat} (h : St M X) {k : Nat} (hk : k < 8) : aI M (X + 253) (nI k) = some (mA M (X + 253) k) := aI_of (k_253 h) (n_253 h) hk (by decide)
theorem wi_253 {M : Mm} {X : Nat} (h : St M X) {k : Nat} {v : Int32} (hk : k < 8) : wI M (X + 253) (nI k) v = some (sA M (X + 253) (va_up (mA M (X + 253)) k v)) := wI_of (k_253 h) (n_253 h) hk (by decide)
theorem al_253 {M : Mm} {X : Nat} (h : St M X) : aL M (X + 253) = some (nI 8) := aL_of (k_253 h) (by decide) (by decide) (n_253 h)
theorem ai_254 {M : Mm} {X : Nat} (h : St M X) {k : Nat} (hk : k < 8) : aI M (X + 254) (nI k) = some (mA M (X + 254) k) := aI_of (k_254 h) (n_254 h) hk (by decide)
theorem wi_254 {M : Mm} {X : Nat} (h : St M X) {k : Nat} {v : Int32} (hk : k < 8) : wI M (X + 254) (nI k) v = some (sA M (X + 254) (va_up (mA M (X + 254)) k v)) := wI_of (k_254 h) (n_254 h) hk (by decide)
theorem al_254 {M : Mm} {X : Nat} (h : St M X) : aL M (X + 254) = some (nI 8) := aL_of (k_254 h) (by decide) (by decide) (n_254 h)
theorem ai_255 {M : Mm} {X : Nat} (h : St M X) {k : Nat} (hk : k < 64) : aI M (X + 255) (nI k) = some (mA M (X + 255) k) := aI_of (k_255 h) (n_255 h) hk (by decide)
theorem wi_255 {M : Mm} {X : Nat} (h : St M X) {k : Nat} {v : Int32} (hk : k < 64) : wI M (X + 255) (nI k) v = some (sA M (X + 255) (va_up (mA M (X + 255)) k v)) := wI_of (k_255 h) (n_255 h) hk (by decide)
theorem al_255 {M : Mm} {X : Nat} (h : St M X) : aL M (X + 255) = some (nI 64) := aL_of (k_255 h) (by decide) (by decide) (n_255 h)
theorem aj_256 {M : Mm} {X : Nat} (h : St M X) {k : Nat} (hk : k < 64) : aJ M (X + 256) (nI k) = some (mB M (X + 256) k) := aJ_of (k_256 h) (n_256 h) hk (by decide)
theorem wj_256 {M : Mm} {X : Nat} (h : St M X) {k : Nat} {v : Int64} (hk : k < 64) : wJ M (X + 256) (nI k) v = some (sB M (X + 256) (va_up (mB M (X + 256)) k v)) := wJ_of (k_256 h) (n_256 h) hk (by decide)
theorem aj_257 {M : Mm} {X : Nat} (h : St M X) {k : Nat} (hk : k < 8) : aJ M (X + 257) (nI k) = some (mB M (X + 257) k) := aJ_of (k_257 h) (n_257 h) hk (by decide)
theorem wj_257 {M : Mm} {X : Nat} (h : St M X) {k : Nat} {v : Int64} (hk : k < 8) : wJ M (X + 257) (nI k) v = some (sB M (X + 257) (va_up (mB M (X + 257)) k v)) := wJ_of (k_257 h) (n_257 h) hk (by decide)
theorem ai_258 {M : Mm} {X : Nat} (h : St M X) {k : Nat} (hk : k < 8) : aI M (X + 258) (nI k) = some (mA M (X + 258) k) := aI_of (k_258 h) (n_258 h) hk (by decide)
theorem wi_258 {M : Mm} {X : Nat} (h : St M X) {k : Nat} {v : Int32} (hk : k < 8) : wI M (X + 258) (nI k) v = some (sA M (X + 258) (va_up (mA M (X + 258)) k v)) := wI_of (k_258 h) (n_258 h) hk (by decide)
theorem al_258 {M : Mm} {X : Nat} (h : St M X) : aL M (X + 258) = some (nI 8) := aL_of (k_258 h) (by decide) (by decide) (n_258 h)
theorem ai_259 {M : Mm} {X : Nat} (h : St M X) {k : Nat} (hk : k < 600) : aI M (X + 259) (nI k) = some (mA M (X + 259) k) := aI_of (k_259 h) (n_259 h) hk (by decide)
theorem wi_259 {M : Mm} {X : Nat} (h : St M X) {k : Nat} {v : Int32} (hk : k < 600) : wI M (X + 259) (nI k) v = some (sA M (X + 259) (va_up (mA M (X + 259)) k v)) := wI_of (k_259 h) (n_259 h) hk (by decide)
theorem al_259 {M : Mm} {X : Nat} (h : St M X) : aL M (X + 259) = some (nI 600) := aL_of (k_259 h) (by decide) (by decide) (n_259 h)
theorem ai_260 {M : Mm} {X : Nat} (h : St M X) {k : Nat} (hk : k < 8) : aI M (X + 260) (nI k) = some (mA M (X + 260) k) := aI_of (k_260 h) (n_260 h) hk (by decide)
theorem wi_260 {M : Mm} {X : Nat} (h : St M X) {k : Nat} {v : Int32} (hk : k < 8) : wI M (X + 260) (nI k) v = some (sA M (X + 260) (va_up (mA M (X + 260)) k v)) := wI_of (k_260 h) (n_260 h) hk (by decide)
theorem al_260 {M : Mm} {X : Nat} (h : St M X) : aL M (X + 260) = some (nI 8) := aL_of (k_260 h) (by decide) (by decide) (n_260 h)
theorem ai_261 {M : Mm} {X : Nat} (h : St M X) {k : Nat} (hk : k < 8) : aI M (X + 261) (nI k) = some (mA M (X + 261) k) := aI_of (k_261 h) (n_261 h) hk (by decide)
theorem wi_261 {M : Mm} {X : Nat} (h : St M X) {k : Nat} {v : Int32} (hk : k < 8) : wI M (X + 261) (nI k) v = some (sA M (X + 261) (va_up (mA M (X + 261)) k v)) := wI_of (k_261 h) (n_261 h) hk (by decide)
theorem al_261 {M : Mm} {X : Nat} (h : St M X) : aL M (X + 261) = some (nI 8) := aL_of (k_261 h) (by decide) (by decide) (n_261 h)
theorem aj_262 {M : Mm} {X : Nat} (h : St M X) {k : Nat} (hk : k < 8) : aJ M (X + 262) (nI k) = some (mB M (X + 262) k) := aJ_of (k_262 h) (n_262 h) hk (by decide)
theorem wj_262 {M : Mm} {X : Nat} (h : St M X) {k : Nat} {v : Int64} (hk : k < 8) : wJ M (X + 262) (nI k) v = some (sB M (X + 262) (va_up (mB M (X + 262)) k v)) := wJ_of (k_262 h) (n_262 h) hk (by decide)
theorem ai_263 {M : Mm} {X : Nat} (h : St M X) {k : Nat} (hk : k < 8) : aI M (X + 263) (nI k) = some (mA M (X + 263) k) := aI_of (k_263 h) (n_263 h) hk (by decide)
theorem wi_263 {M : Mm} {X : Nat} (h : St M X) {k : Nat} {v : Int32} (hk : k < 8) : wI M (X + 263) (nI k) v = some (sA M (X + 263) (va_up (mA M (X + 263)) k v)) := wI_of (k_263 h) (n_263 h) hk (by decide)
theorem al_263 {M : Mm} {X : Nat} (h : St M X) : aL M (X + 263) = some (nI 8) := aL_of (k_263 h) (by decide) (by decide) (n_263 h)
theorem aj_264 {M : Mm} {X : Nat} (h : St M X) {k : Nat} (hk : k < 8) : aJ M (X + 264) (nI k) = some (mB M (X + 264) k) := aJ_of (k_264 h) (n_264 h) hk (by decide)
theorem wj_264 {M : Mm} {X : Nat} (h : St M X) {k : Nat} {v : Int64} (hk : k < 8) : wJ M (X + 264) (nI k) v = some (sB M (X + 264) (va_up (mB M (X + 264)) k v)) := wJ_of (k_264 h) (n_264 h) hk (by decide)
theorem ai_265 {M : Mm} {X : Nat} (h : St M X) {k : Nat} (hk : k < 8) : aI M (X + 265) (nI k) = some (mA M (X + 265) k) := aI_of (k_265 h) (n_265 h) hk (by decide)
theorem wi_265 {M : Mm} {X : Nat} (h : St M X) {k : Nat} {v : Int32} (hk : k < 8) : wI M (X + 265) (nI k) v = some (sA M (X + 265) (va_up (mA M (X + 265)) k v)) := wI_of (k_265 h) (n_265 h) hk (by decide)
theorem al_265 {M : Mm} {X : Nat} (h : St M X) : aL M (X + 265) = some (nI 8) := aL_of (k_265 h) (by decide) (by decide) (n_265 h)
theorem ai_266 {M : Mm} {X : Nat} (h : St M X) {k : Nat} (hk : k < 8) : aI M (X + 266) (nI k) = some (mA M (X + 266) k) := aI_of (k_266 h) (n_266 h) hk (by decide)
theorem wi_266 {M : Mm} {X : Nat} (h : St M X) {k : Nat} {v : Int32} (hk : k < 8) : wI M (X + 266) (nI k) v = some (sA M (X + 266) (va_up (mA M (X + 266)) k v)) := wI_of (k_266 h) (n_266 h) hk (by decide)
theorem al_266 {M : Mm} {X : Nat} (h : St M X) : aL M (X + 266) = some (nI 8) := aL_of (k_266 h) (by decide) (by decide) (n_266 h)
theorem ai_267 {M : Mm} {X : Nat} (h : St M X) {k : Nat} (hk : k < 8) : aI M (X + 267) (nI k) = some (mA M (X + 267) k) := aI_of (k_267 h) (n_267 h) hk (by decide)
theorem wi_267 {M : Mm} {X : Nat} (h : St M X) {k : Nat} {v : Int32} (hk : k < 8) : wI M (X + 267) (nI k) v = some (sA M (X + 267) (va_up (mA M (X + 267)) k v)) := wI_of (k_267 h) (n_267 h) hk (by decide)
theorem al_267 {M : Mm} {X : Nat} (h : St M X) : aL M (X + 267) = some (nI 8) := aL_of (k_267 h) (by decide) (by decide) (n_267 h)
theorem aj_268 {M : Mm} {X : Nat} (h : St M X) {k : Nat} (hk : k < 512) : aJ M (X + 268) (nI k) = some (mB M (X + 268) k) := aJ_of (k_268 h) (n_268 h) hk (by decide)
theorem wj_268 {M : Mm} {X : Nat} (h : St M X) {k : Nat} {v : Int64} (hk : k < 512) : wJ M (X + 268) (nI k) v = some (sB M (X + 268) (va_up (mB M (X + 268)) k v)) := wJ_of (k_268 h) (n_268 h) hk (by decide)
theorem aj_269 {M : Mm} {X : Nat} (h : St M X) {k : Nat} (hk : k < 64) : aJ M (X + 269) (nI k) = some (mB M (X + 269) k) := aJ_of (k_269 h) (n_269 h) hk (by decide)
theorem wj_269 {M : Mm} {X : Nat} (h : St M X) {k : Nat} {v : Int64} (hk : k < 64) : wJ M (X + 269) (nI k) v = some (sB M (X + 269) (va_up (mB M (X + 269)) k v)) := wJ_of (k_269 h) (n_269 h) hk (by decide)
theorem gi_aSq {M : Mm} {X : Nat} (h : St M X) {i : Nat} (hi : i < 8) {num : Nat} : gI M 10 num (aSq X i) = some (mI M num (aSq X i)) := gI_of (k_aSq h hi)
theorem pi_aSq {M : Mm} {X : Nat} (h : St M X) {i : Nat} (hi : i < 8) {num : Nat} {v : Int32} : pI M 10 num (aSq X i) v = some (sI M num (aSq X i) v) := pI_of (k_aSq h hi)
theorem ai_aSt {M : Mm} {X : Nat} (h : St M X) {i : Nat} (hi : i < 8) {k : Nat} (hk : k < 8) : aI M (aSt X i) (nI k) = some (mA M (aSt X i) k) := aI_of (k_aSt h hi) (n_aSt h hi) hk (by decide)
theorem wi_aSt {M : Mm} {X : Nat} (h : St M X) {i : Nat} (hi : i < 8) {k : Nat} {v : Int32} (hk : k < 8) : wI M (aSt X i) (nI k) v = some (sA M (aSt X i) (va_up (mA M (aSt X i)) k v)) := wI_of (k_aSt h hi) (n_aSt h hi) hk (by decide)
theorem gi_aHd {M : Mm} {X : Nat} (h : St M X) {i j : Nat} (hi : i < 8) (hj : j < 8) {num : Nat} : gI M 4 num (aHd X i j) = some (mI M num (aHd X i j)) := gI_of (k_aHd h hi hj)
theorem pi_aHd {M : Mm} {X : Nat} (h : St M X) {i j : Nat} (hi : i < 8) (hj : j < 8) {num : Nat} {v : Int32} : pI M 4 num (aHd X i j) v = some (sI M num (aHd X i j) v) := pI_of (k_aHd h hi hj)
theorem aj_aHv {M : Mm} {X : Nat} (h : St M X) {i j : Nat} (hi : i < 8) (hj : j < 8) {k : Nat} (hk : k < 8) : aJ M (aHv X i j) (nI k) = some (mB M (aHv X i j) k) := aJ_of (k_aHv h hi hj) (n_aHv h hi hj) hk (by decide)
theorem wj_aHv {M : Mm} {X : Nat} (h : St M X) {i j : Nat} (hi : i < 8) (hj : j < 8) {k : Nat} {v : Int64} (hk : k < 8) : wJ M (aHv X i j) (nI k) v = some (sB M (aHv X i j) (va_up (mB M (aHv X i j)) k v)) := wJ_of (k_aHv h hi hj) (n_aHv h hi hj) hk (by decide)
theorem gi_aCx {M : Mm} {X : Nat} (h : St M X) {i : Nat} (hi : i < 8) {num : Nat} : gI M 2 num (aCx X i) = some (mI M num (aCx X i)) := gI_of (k_aCx h hi)
theorem pi_aCx {M : Mm} {X : Nat} (h : St M X) {i : Nat} (hi : i < 8) {num : Nat} {v : Int32} : pI M 2 num (aCx X i) v = some (sI M num (aCx X i) v) := pI_of (k_aCx h hi)
theorem gi_aCh {M : Mm} {X : Nat} (h : St M X) {i : Nat} (hi : i < 8) {num : Nat} : gI M 4 num (aCh X i) = some (mI M num (aCh X i)) := gI_of (k_aCh h hi)
theorem pi_aCh {M : Mm} {X : Nat} (h : St M X) {i : Nat} (hi : i < 8) {num : Nat} {v : Int32} : pI M 4 num (aCh X i) v = some (sI M num (aCh X i) v) := pI_of (k_aCh h hi)
theorem aj_aCv {M : Mm} {X : Nat} (h : St M X) {i : Nat} (hi : i < 8) {k : Nat} (hk : k < 8) : aJ M (aCv X i) (nI k) = some (mB M (aCv X i) k) := aJ_of (k_aCv h hi) (n_aCv h hi) hk (by decide)
theorem wj_aCv {M : Mm} {X : Nat} (h : St M X) {i : Nat} (hi : i < 8) {k : Nat} {v : Int64} (hk : k < 8) : wJ M (aCv X i) (nI k) v = some (sB M (aCv X i) (va_up (mB M (aCv X i)) k v)) := wJ_of (k_aCv h hi) (n_aCv h hi) hk (by decide)
theorem ai_aCs {M : Mm} {X : Nat} (h : St M X) {i : Nat} (hi : i < 8) {k : Nat} (hk : k < 8) : aI M (aCs X i) (nI k) = some (mA M (aCs X i) k) := aI_of (k_aCs h hi) (n_aCs h hi) hk (by decide)
theorem wi_aCs {M : Mm} {X : Nat} (h : St M X) {i : Nat} (hi : i < 8) {k : Nat} {v : Int32} (hk : k < 8) : wI M (aCs X i) (nI k) v = some (sA M (aCs X i) (va_up (mA M (aCs X i)) k v)) := wI_of (k_aCs h hi) (n_aCs h hi) hk (by decide)
theorem gi_aSh {M : Mm} {X : Nat} (h : St M X) {i : Nat} (hi : i < 8) {num : Nat} : gI M 9 num (aSh X i) = some (mI M num (aSh X i)) := gI_of (k_aSh h hi)
theorem pi_aSh {M : Mm} {X : Nat} (h : St M X) {i : Nat} (hi : i < 8) {num : Nat} {v : Int32} : pI M 9 num (aSh X i) v = some (sI M num (aSh X i) v) := pI_of (k_aSh h hi)
theorem aj_aSr {M : Mm} {X : Nat} (h : St M X) {i : Nat} (hi : i < 8) {k : Nat} (hk : k < 60) : aJ M (aSr X i) (nI k) = some (mB M (aSr X i) k) := aJ_of (k_aSr h hi) (n_aSr h hi) hk (by decide)
theorem wj_aSr {M : Mm} {X : Nat} (h : St M X) {i : Nat} (hi : i < 8) {k : Nat} {v : Int64} (hk : k < 60) : wJ M (aSr X i) (nI k) v = some (sB M (aSr X i) (va_up (mB M (aSr X i)) k v)) := wJ_of (k_aSr h hi) (n_aSr h hi) hk (by decide)
theorem isIn_0_4 (a : Int32) : f_X11_isIn a.toInt64 0 4 = some (if a < 0 then 0 else if 4 < a then 0 else 1) := isIn_eq a 0 4
theorem isIn_1_32 (a : Int32) : f_X11_isIn a.toInt64 1 32 = some (if a < 1 then 0 else if 32 < a then 0 else 1) := isIn_eq a 1 32
theorem isIn_1_1000 (a : Int32) : f_X11_isIn a.toInt64 1 1000 = some (if a < 1 then 0 else if 1000 < a then 0 else 1) := isIn_eq a 1 1000
theorem isIn_0_255 (a : Int32) : f_X11_isIn a.toInt64 0 255 = some (if a < 0 then 0 else if 255 < a then 0 else 1) := isIn_eq a 0 255
theorem isIn_0_3 (a : Int32) : f_X11_isIn a.toInt64 0 3 = some (if a < 0 then 0 else if 3 < a then 0 else 1) := isIn_eq a 0 3
theorem isIn_0_2 (a : Int32) : f_X11_isIn a.toInt64 0 2 = some (if a < 0 then 0 else if 2 < a then 0 else 1) := isIn_eq a 0 2
theorem isIn_0_1 (a : Int32) : f_X11_isIn a.toInt64 0 1 = some (if a < 0 then 0 else if 1 < a then 0 else 1) := isIn_eq a 0 1
theorem isIn_0_5 (a : Int32) : f_X11_isIn a.toInt64 0 5 = some (if a < 0 then 0 else if 5 < a then 0 else 1) := isIn_eq a 0 5
theorem isIn_2_4 (a : Int32) : f_X11_isIn a.toInt64 2 4 = some (if a < 2 then 0 else if 4 < a then 0 else 1) := isIn_eq a 2 4
theorem isIn_0_30000 (a : Int32) : f_X11_isIn a.toInt64 0 30000 = some (if a < 0 then 0 else if 30000 < a then 0 else 1) := isIn_eq a 0 30000
theorem isIn_1_255 (a : Int32) : f_X11_isIn a.toInt64 1 255 = some (if a < 1 then 0 else if 255 < a then 0 else 1) := isIn_eq a 1 255
end
section
/-! The calls that only look. -/
theorem lt_in {M : Mm} {X p n l : Nat} {z : Nat → Nat} (hS : St M X) (hC : IC M X n) (hL : IL M X p z l) (hl : l < n) : f_X10_letterAt M X (nI l) = some (some (lA z l)) := by
  have h200 := hC.1
  unfold f_X10_letterAt
  rw [if_pos (k_0 hS), if_neg (nI_pos (by omega)), gi_0 hS, ob_eq, hC.2.1, if_neg (nI_ge hl (by omega)), r_0_1005 hS, ob_eq, aN_of (k_194 hS) (n_194 hS) (by omega) (by decide), ob_eq, hL.1]
theorem lt_out {M : Mm} {X n : Nat} {a : Int32} (hS : St M X) (hC : IC M X n) (h : a < 0 ∨ nI n ≤ a) : f_X10_letterAt M X a = some none := by
  unfold f_X10_letterAt
  rw [if_pos (k_0 hS), gi_0 hS, ob_eq, hC.2.1]
  by_cases h1 : a < 0
  · rw [if_pos h1]
  · rw [if_neg h1, if_pos (h.resolve_left h1)]
theorem le_of {a b : Int32} (h : ¬ a < b) : b ≤ a := Int32.not_lt.mp h
theorem not_le_of_out {a : Int32} {n : Nat} (h : a < 0 ∨ nI n ≤ a) (h1 : ¬ a < 0) : ¬ a < nI n := fun q => by
  have h2 := Int32.lt_iff_toInt_lt.mp q
  have h3 := Int32.le_iff_toInt_le.mp (h.resolve_left h1)
  omega
theorem op_octet {M : Mm} {X p n w : Nat} {z : Nat → Nat} (H : Inv M X p n w z) (a b : Int32) : ∃ r, f_X10_octet M X a b = some r ∧ f_X11_octet M (X + 226) a b = some (sI M 1100 (X + 226) 0, r) := by
  obtain ⟨hS, hW, hP, hD, hC, hQ, hX, hZ, hL, hG, hH, hT⟩ := H
  have h200 := hC.1
  have hS1 : St (sI M 1100 (X + 226) 0) X := hS
  unfold f_X10_octet f_X11_octet
  rw [if_pos (k_0 hS), if_pos (k_226 hS), pi_226 hS, ob_eq, gi_226 hS1, ob_eq, show mI (sI M 1100 (X + 226) 0) 1116 (X + 226) = nI n from hC.2.2.1]
  rcases ix_cases a (n := n) (by omega) with h | ⟨l, hl, rfl⟩
  · rw [lt_out hS hC h, ob_eq]
    refine ⟨-1, rfl, ?_⟩
    by_cases h1 : a < 0
    · rw [if_pos h1]
    · rw [if_neg h1, if_pos (h.resolve_left h1)]
  · rw [lt_in hS hC (hL l hl) hl, ob_eq, if_neg (nI_pos (by omega)), if_neg (nI_ge hl (by omega))]
    obtain ⟨l1, l2, l3, l4, -, -, -, -, -, -, -, -, -, ⟨len, b1, b2, b3, b4, b5⟩, -⟩ := hL l hl
    have hB : f_X4_hasByte M (lA z l) b = some (if b < 0 then 0 else if nI len ≤ b then 0 else 1) := by
      unfold f_X4_hasByte
      rw [if_pos l2, gR_of l2 l3, ob_eq, aL_of l4 (by decide) (by decide) b3, ob_eq]
      by_cases h1 : b < 0
      · simp only [if_pos h1]
      · by_cases h2 : nI len ≤ b
        · simp only [if_neg h1, if_pos h2]
        · simp only [if_neg h1, if_neg h2]
    show ∃ r, ((f_X4_hasByte M (lA z l) b).bind _) = some r ∧ _
    rw [hB, ob_eq, r_226_1117 hS1, ob_eq, ai_239 hS1 (by omega), ob_eq, show mA (sI M 1100 (X + 226) 0) (X + 239) l = nI len from b4, r_226_1118 hS1, ob_eq, gR_of l2 l3, ob_eq]
    rcases ix_cases b (n := len) (by omega) with h | ⟨k, hk, rfl⟩
    · by_cases h1 : b < 0
      · simp only [if_pos h1]
        exact ⟨-1, rfl, rfl⟩
      · have h2 := h.resolve_left h1
        simp only [if_neg h1, if_pos h2, if_neg (not_le_of_out h h1)]
        exact ⟨-1, rfl, rfl⟩
    · obtain ⟨v, v1, v2, v3⟩ := b5 k hk
      have e1 : ¬ nI k < 0 := nI_pos (by omega)
      have e2 : ¬ nI len ≤ nI k := nI_ge hk (by omega)
      have e3 : nI k < nI len := nI_lt hk (by omega)
      simp only [if_neg e1, if_neg e2, if_pos e3]
      rw [aI_of l4 b3 hk (by omega), m64, nI_add, ai_240 hS1 (by omega), ob_eq, ob_eq, show mA (sI M 1100 (X + 226) 0) (X + 240) (64 * l + k) = nI v from v3, v2]
      exact ⟨nI v, rfl, rfl⟩
theorem nm_none {β : Type} (A : Option β) (B : Nat → Option β) : nm none A B = A := rfl
theorem nm_some {β : Type} (x : Nat) (A : Option β) (B : Nat → Option β) : nm (some x) A B = B x := rfl
theorem op_look {M : Mm} {X p n w : Nat} {z : Nat → Nat} (H : Inv M X p n w z) (a b : Int32) : ∃ r, f_X10_look M X a b = some r ∧ f_X11_look M (X + 226) a b = some (sI M 1100 (X + 226) 0, r) := by
  obtain ⟨hS, hW, hP, hD, hC, hQ, hX, hZ, hL, hG, hH, hT⟩ := H
  have h200 := hC.1
  have hS1 : St (sI M 1100 (X + 226) 0) X := hS
  unfold f_X10_look f_X11_look
  rw [if_pos (k_0 hS), if_pos (k_226 hS), pi_226 hS, ob_eq, gi_226 hS1, ob_eq, show mI (sI M 1100 (X + 226) 0) 1116 (X + 226) = nI n from hC.2.2.1]
  rcases ix_cases a (n := n) (by omega) with h | ⟨l, hl, rfl⟩
  · rw [lt_out hS hC h, ob_eq]
    refine ⟨-1, rfl, ?_⟩
    by_cases h1 : a < 0
    · rw [if_pos h1]
    · rw [if_neg h1, if_neg (not_le_of_out h h1)]
  · rw [lt_in hS hC (hL l hl) hl, ob_eq, if_neg (nI_pos (by omega)), if_pos (nI_lt hl (by omega)), nm_some]
    obtain ⟨l1, l2, l3, l4, ⟨k, k1, k2, k3⟩, ⟨i, i1, i2, i3⟩, l7, ⟨nb, nb1, nb2, nb3⟩, l9, l10, l11, l12, l13, ⟨len, b1, b2, b3, b4, b5⟩, -⟩ := hL l hl
    have g400 : ∀ num, gI M 5 num (lA z l) = some (mI M num (lA z l)) := fun num => gI_of l2
    have hl8 : l < 200 := by omega
    simp only [g400, gR_of l2 l3, aL_of l4 (by decide) (by decide) b3, ob_eq, r_226_1119 hS1, r_226_1120 hS1, r_226_1121 hS1, r_226_1117 hS1, r_226_1122 hS1, r_226_1123 hS1, r_226_1124 hS1, ai_241 hS1 hl8, ai_242 hS1 hl8, ai_243 hS1 hl8, ai_239 hS1 hl8, ai_244 hS1 hl8, ai_245 hS1 hl8, az_246 hS1 hl8, mA_sI, k2, k3, i2, i3, l7, nb2, nb3, l9, l10, b4]
    by_cases c0 : b = 0
    · simp only [if_pos c0]; exact ⟨_, rfl, rfl⟩
    by_cases c1 : b = 1
    · simp only [if_neg c0, if_pos c1]; exact ⟨_, rfl, rfl⟩
    by_cases c2 : b = 2
    · simp only [if_neg c0, if_neg c1, if_pos c2]; exact ⟨_, rfl, rfl⟩
    by_cases c3 : b = 3
    · simp only [if_neg c0, if_neg c1, if_neg c2, if_pos c3]; exact ⟨_, rfl, rfl⟩
    by_cases c4 : b = 4
    · simp only [if_neg c0, if_neg c1, if_neg c2, if_neg c3, if_pos c4]; exact ⟨_, rfl, rfl⟩
    by_cases c5 : b = 5
    · simp only [if_neg c0, if_neg c1, if_neg c2, if_neg c3, if_neg c4, if_pos c5]; exact ⟨_, rfl, rfl⟩
    by_cases c6 : b = 6
    · simp only [if_neg c0, if_neg c1, if_neg c2, if_neg c3, if_neg c4, if_neg c5, if_pos c6]
      by_cases c7 : mI M 406 (lA z l) = 0
      · simp only [if_pos c7]; exact ⟨_, rfl, rfl⟩
      · simp only [if_neg c7]; exact ⟨_, rfl, rfl⟩
    · simp only [if_neg c0, if_neg c1, if_neg c2, if_neg c3, if_neg c4, if_neg c5, if_neg c6]; exact ⟨_, rfl, rfl⟩
theorem op_got {M : Mm} {X p n w : Nat} {z : Nat → Nat} (H : Inv M X p n w z) (a : Int32) : ∃ r, f_X10_got M X a = some r ∧ f_X11_got M (X + 226) a = some (sI M 1100 (X + 226) 0, r) := by
  obtain ⟨hS, hW, ⟨p8, p1, p2, p3⟩, hD, hC, hQ, hX, hZ, hL, hG, hH, hT⟩ := H
  have hS1 : St (sI M 1100 (X + 226) 0) X := hS
  have p2' : mI (sI M 1100 (X + 226) 0) 1101 (X + 226) = nI p := p2
  have g1 : mI (sI M 1100 (X + 226) 0) 1135 (X + 226) = mI M 204 (X + 222) := hG.1.symm
  unfold f_X10_got f_X11_got
  rw [if_pos (k_0 hS), if_pos (k_226 hS), pi_226 hS, ob_eq, r_0_1001 hS, ob_eq]
  rcases ix_cases a (n := p) (by omega) with h | ⟨f, hf, rfl⟩
  · rw [has_out hS p1 h, fd_out hS1 p2' h]
    exact ⟨_, rfl, rfl⟩
  · rw [has_in hS p1 p8 hf, fd_in hS1 p2' p8 hf]
    have hf8 : f < 8 := by omega
    simp only [ob_eq, r_0_1009 hS, gi_222 hS, r_222_200 hS, r_223_300 hS, aj_224 hS hf8, gi_226 hS1, r_226_1139 hS1, aj_257 hS1 hf8, g1, mB_sI, if_neg (by decide : ¬ (1 : Int32) = 0)]
    by_cases c0 : mI M 204 (X + 222) = 0
    · simp only [if_pos c0]; exact ⟨_, rfl, rfl⟩
    · simp only [if_neg c0, ((hG.2.resolve_left c0).2.2.2.2 f hf).1]; exact ⟨_, rfl, rfl⟩
theorem op_way {M : Mm} {X p n w : Nat} {z : Nat → Nat} (H : Inv M X p n w z) (a : Int32) : ∃ r, f_X10_way M X a = some r ∧ f_X11_way M (X + 226) a = some (sI M 1100 (X + 226) 0, r) := by
  obtain ⟨hS, hW, ⟨p8, p1, p2, p3⟩, hD, hC, hQ, hX, hZ, hL, hG, hH, hT⟩ := H
  have hS1 : St (sI M 1100 (X + 226) 0) X := hS
  have p2' : mI (sI M 1100 (X + 226) 0) 1101 (X + 226) = nI p := p2
  have g1 : mI (sI M 1100 (X + 226) 0) 1135 (X + 226) = mI M 204 (X + 222) := hG.1.symm
  unfold f_X10_way f_X11_way
  rw [if_pos (k_0 hS), if_pos (k_226 hS), pi_226 hS, ob_eq, r_0_1001 hS, ob_eq]
  rcases ix_cases a (n := p) (by omega) with h | ⟨f, hf, rfl⟩
  · rw [has_out hS p1 h, fd_out hS1 p2' h]
    exact ⟨_, rfl, rfl⟩
  · rw [has_in hS p1 p8 hf, fd_in hS1 p2' p8 hf]
    have hf8 : f < 8 := by omega
    simp only [ob_eq, r_0_1009 hS, gi_222 hS, r_222_201 hS, ai_225 hS hf8, gi_226 hS1, r_226_1140 hS1, ai_258 hS1 hf8, g1, mA_sI, if_neg (by decide : ¬ (1 : Int32) = 0)]
    by_cases c0 : mI M 204 (X + 222) = 0
    · simp only [if_pos c0]; exact ⟨_, rfl, rfl⟩
    · simp only [if_neg c0, ((hG.2.resolve_left c0).2.2.2.2 f hf).2]; exact ⟨_, rfl, rfl⟩
theorem lt_le_flip {a b : Int32} : (b < a) ↔ ¬ a ≤ b := Int32.not_le.symm
theorem op_hung {M : Mm} {X p n w : Nat} {z : Nat → Nat} (H : Inv M X p n w z) (a : Int32) : ∃ r, f_X10_hung M X a = some r ∧ f_X11_hung M (X + 226) a = some (sI M 1100 (X + 226) 0, r) := by
  obtain ⟨hS, hW, hP, hD, hC, hQ, hX, hZ, hL, hG, hH, hT⟩ := H
  have hS1 : St (sI M 1100 (X + 226) 0) X := hS
  have g1 : mI (sI M 1100 (X + 226) 0) 1135 (X + 226) = mI M 204 (X + 222) := hG.1.symm
  unfold f_X10_hung f_X11_hung
  simp only [if_pos (k_0 hS), if_pos (k_226 hS), pi_226 hS, ob_eq, isIn_0_3, r_0_1009 hS, gi_222 hS, gi_226 hS1, r_222_200 hS, gi_223 hS, g1]
  by_cases c0 : a < 0
  · simp only [if_pos c0]; exact ⟨_, rfl, rfl⟩
  by_cases c1 : a ≤ 3
  · simp only [if_neg c0, if_pos c1, if_neg (Int32.not_lt.mpr c1), if_neg (by decide : ¬ (1 : Int32) = 0)]
    by_cases c2 : a = 3
    · simp only [if_pos c2]; exact ⟨_, rfl, rfl⟩
    simp only [if_neg c2]
    by_cases c3 : mI M 204 (X + 222) = 0
    · simp only [if_pos c3]; exact ⟨_, rfl, rfl⟩
    obtain ⟨-, q1, q2, q3, -⟩ := hG.2.resolve_left c3
    have q1' : mI (sI M 1100 (X + 226) 0) 1136 (X + 226) = mI M 202 (X + 222) := q1.symm
    have q2' : mI (sI M 1100 (X + 226) 0) 1137 (X + 226) = mI M 301 (X + 223) := q2.symm
    have q3' : mI (sI M 1100 (X + 226) 0) 1138 (X + 226) = mI M 203 (X + 222) := q3.symm
    simp only [if_neg c3, q1', q2', q3']
    by_cases c4 : a = 0
    · simp only [if_pos c4]; exact ⟨_, rfl, rfl⟩
    by_cases c5 : a = 1
    · simp only [if_neg c4, if_pos c5]; exact ⟨_, rfl, rfl⟩
    · simp only [if_neg c4, if_neg c5]; exact ⟨_, rfl, rfl⟩
  · simp only [if_neg c0, if_neg c1, if_pos (Int32.not_le.mp c1)]; exact ⟨_, rfl, rfl⟩
theorem op_context {M : Mm} {X p n w : Nat} {z : Nat → Nat} (H : Inv M X p n w z) (a b : Int32) : ∃ r, f_X10_context M X a b = some r ∧ f_X11_context M (X + 226) a b = some (sI M 1100 (X + 226) 0, r) := by
  obtain ⟨hS, hW, hP, hD, hC, hQ, hX, hZ, hL, hG, hH, hT⟩ := H
  have hS1 : St (sI M 1100 (X + 226) 0) X := hS
  unfold f_X10_context f_X11_context
  simp only [if_pos (k_0 hS), if_pos (k_226 hS), pi_226 hS, ob_eq, isIn_0_2]
  rcases ix_cases a (n := 8) (by omega) with h | ⟨i, hi, rfl⟩
  · simp only [(fl_out h).1, (fl_out h).2.1, ob_eq]; exact ⟨_, rfl, rfl⟩
  obtain ⟨x1, x2⟩ := hX i hi
  simp only [(fl_in hi).1, (fl_in hi).2.1, ob_eq, if_neg (by decide : ¬ (1 : Int32) = 0)]
  by_cases c0 : b < 0
  · simp only [if_pos c0]; exact ⟨_, rfl, rfl⟩
  by_cases c1 : b ≤ 2
  · simp only [if_neg c0, if_pos c1, if_neg (Int32.not_lt.mpr c1), if_neg (by decide : ¬ (1 : Int32) = 0), r_0_1004 hS, ob_eq, q_cx hS hi, gi_aCx hS hi, r_aCx_100 hS hi, gi_aCh hS hi, r_226_1130 hS1, r_226_1131 hS1, r_226_1132 hS1, az_252 hS1 hi, ai_253 hS1 hi, ai_254 hS1 hi, mA_sI, x1]
    rcases x2 with c2 | ⟨c2, -, ⟨u, u1, u2, u3⟩, ⟨r, r1, r2, r3⟩, -⟩
    · simp only [c2, if_true]
      by_cases c4 : b = 0
      · simp only [if_pos c4]; exact ⟨_, rfl, rfl⟩
      · simp only [if_neg c4]; exact ⟨_, rfl, rfl⟩
    · simp only [c2, u2, u3, r2, r3, if_neg (by decide : ¬ (1 : Int32) = 0)]
      by_cases c4 : b = 0
      · simp only [if_pos c4]; exact ⟨_, rfl, rfl⟩
      by_cases c5 : b = 1
      · simp only [if_neg c4, if_pos c5]; exact ⟨_, rfl, rfl⟩
      · simp only [if_neg c4, if_neg c5]; exact ⟨_, rfl, rfl⟩
  · simp only [if_neg c0, if_neg c1, if_pos (Int32.not_le.mp c1)]; exact ⟨_, rfl, rfl⟩
theorem op_known {M : Mm} {X p n w : Nat} {z : Nat → Nat} (H : Inv M X p n w z) (a b c : Int32) : ∃ r, f_X10_known M X a b c = some r ∧ f_X11_known M (X + 226) a b c = some (sI M 1100 (X + 226) 0, r) := by
  obtain ⟨hS, hW, ⟨p8, p1, p2, p3⟩, hD, hC, hQ, hX, hZ, hL, hG, hH, hT⟩ := H
  have hS1 : St (sI M 1100 (X + 226) 0) X := hS
  have p2' : mI (sI M 1100 (X + 226) 0) 1101 (X + 226) = nI p := p2
  unfold f_X10_known f_X11_known
  simp only [if_pos (k_0 hS), if_pos (k_226 hS), pi_226 hS, ob_eq, r_0_1001 hS]
  rcases ix_cases a (n := 8) (by omega) with h | ⟨i, hi, rfl⟩
  · simp only [(fl_out h).1, (fl_out h).2.1, ob_eq]; exact ⟨_, rfl, rfl⟩
  obtain ⟨x1, x2⟩ := hX i hi
  simp only [(fl_in hi).1, (fl_in hi).2.1, ob_eq, if_neg (by decide : ¬ (1 : Int32) = 0)]
  rcases ix_cases b (n := p) (by omega) with h | ⟨f, hf, rfl⟩
  · simp only [has_out hS p1 h, fd_out hS1 p2' h, ob_eq]; exact ⟨_, rfl, rfl⟩
  have hf8 : f < 8 := by omega
  simp only [has_in hS p1 p8 hf, fd_in hS1 p2' p8 hf, ob_eq, if_neg (by decide : ¬ (1 : Int32) = 0), r_0_1004 hS, q_cx hS hi, gi_aCx hS hi, r_aCx_100 hS hi, r_aCx_101 hS hi, r_aCh_300 hS hi, aj_aCv hS hi hf8, ai_aCs hS hi hf8, r_226_1130 hS1, r_226_1133 hS1, r_226_1134 hS1, az_252 hS1 hi, m8, nI_add, aj_256 hS1 (by omega : 8 * i + f < 64), ai_255 hS1 (by omega : 8 * i + f < 64), mA_sI, mB_sI, x1]
  rcases x2 with c2 | ⟨c2, -, -, -, g⟩
  · simp only [c2, if_true]; exact ⟨_, rfl, rfl⟩
  · simp only [c2, if_neg (by decide : ¬ (1 : Int32) = 0), (g f hf).1, (g f hf).2]
    by_cases c4 : c = 0
    · simp only [if_pos c4]; exact ⟨_, rfl, rfl⟩
    · simp only [if_neg c4]; exact ⟨_, rfl, rfl⟩
end
section
/-! More calls that only look: strides, references, shelves, sums over the letters. -/
theorem xorI (a b : Nat) : nI a ^^^ nI b = nI (a ^^^ b) := by
  apply Int32.toBitVec_inj.1
  show BitVec.ofNat 32 a ^^^ BitVec.ofNat 32 b = BitVec.ofNat 32 (a ^^^ b)
  apply BitVec.eq_of_getLsbD_eq
  intro i hi
  simp [hi]
theorem fmod8 {k : Nat} (h : k < 2 ^ 30) : f_J9_floorMod_7cf53 (nI k) 8 = some (nI (k % 8)) := by
  unfold f_J9_floorMod_7cf53
  have e8 : (8 : Int32) = nI 8 := rfl
  have hx : k ^^^ 8 < 2 ^ 31 := Nat.xor_lt_two_pow (by omega) (by decide)
  have h1 : 0 ≤ (nI k ^^^ (8 : Int32)) := by
    rw [e8, xorI]
    exact nI_pos' hx
  rw [if_neg (by decide), if_pos h1]
  exact congrArg some (pk_rem (a := k) (d := 8) (by omega) (by decide) (by decide))
theorem rf_in {M : Mm} {X i f0 j : Nat} (hS : St M X) (hi : i < 8) (h : mI M 906 (aSq X i) = nI f0) (hf : f0 < 8) (hj : j < 1000) : f_X9_reference M (aSq X i) (nI j) = some (aHd X i ((f0 + j) % 8)) := by
  unfold f_X9_reference
  rw [if_pos (k_aSq hS hi), r_aSq_905 hS hi, ob_eq, gi_aSq hS hi, ob_eq, h, nI_add, fmod8 (by omega), ob_eq, q_rg hS hi (Nat.mod_lt _ (by decide)), ob_eq]
theorem on_eq {M : Mm} {X i f0 hh : Nat} (hS : St M X) (hi : i < 8) (h : mI M 906 (aSq X i) = nI f0) (hf : f0 < 8) (hd : mI M 904 (aSq X i) = nI hh) (h8 : hh ≤ 8) : f_X9_oldestNumber M (aSq X i) = some (if hh = 0 then -2 else mI M 301 (aHd X i f0)) := by
  unfold f_X9_oldestNumber
  rw [if_pos (k_aSq hS hi), gi_aSq hS hi, ob_eq, hd]
  by_cases c : hh = 0
  · subst c; rw [if_pos (show nI 0 = 0 from rfl), if_pos rfl]
  · rw [if_neg (nI_ne0 (by omega) (by omega)), show f_X9_reference M (aSq X i) 0 = _ from rf_in (j := 0) hS hi h hf (by decide), ob_eq, Nat.add_zero, Nat.mod_eq_of_lt hf, gi_aHd hS hi hf, ob_eq, if_neg c]
theorem hs_in {M : Mm} {X p f : Nat} (hS : St M X) (p1 : mI M 604 (X + 1) = nI p) (p8 : p ≤ 8) (hf : f < p) : f_X6_hasStride M (X + 1) (nI f) = some (if mA M (X + 2) f = 2 then 1 else if mA M (X + 2) f = 3 then 1 else 0) := by
  unfold f_X6_hasStride
  rw [if_pos (k_1 hS), has_in hS p1 p8 hf, ob_eq, if_neg (by decide), r_1_600 hS, ob_eq, ai_2 hS (by omega), ob_eq]
  by_cases c : mA M (X + 2) f = 2
  · rw [if_pos c, if_pos c]
  · rw [if_neg c, if_neg c, ob_eq, ai_2 hS (by omega), ob_eq]
    by_cases d : mA M (X + 2) f = 3
    · rw [if_pos d, if_pos d]
    · rw [if_neg d, if_neg d]
theorem hs_out {M : Mm} {X p : Nat} {a : Int32} (hS : St M X) (p1 : mI M 604 (X + 1) = nI p) (h : a < 0 ∨ nI p ≤ a) : f_X6_hasStride M (X + 1) a = some 0 := by
  unfold f_X6_hasStride
  rw [if_pos (k_1 hS), has_out hS p1 h, ob_eq, if_pos rfl]
theorem ru_in {M : Mm} {X f : Nat} (hS : St M X) (hf : f < 8) : f_X11_runs M (X + 226) (nI f) = some (if mA M (X + 227) f = 2 then 1 else if mA M (X + 227) f = 3 then 1 else 0) := by
  unfold f_X11_runs
  rw [if_pos (k_226 hS), r_226_1102 hS, ob_eq, ai_227 hS hf, ob_eq]
  by_cases c : mA M (X + 227) f = 2
  · rw [if_pos c, if_pos c]
  · rw [if_neg c, if_neg c, ob_eq, ai_227 hS hf, ob_eq]
    by_cases d : mA M (X + 227) f = 3
    · rw [if_pos d, if_pos d]
    · rw [if_neg d, if_neg d]
theorem op_squeezer {M : Mm} {X p n w : Nat} {z : Nat → Nat} (H : Inv M X p n w z) (a b : Int32) : ∃ r, f_X10_squeezer M X a b = some r ∧ f_X11_squeezer M (X + 226) a b = some (sI M 1100 (X + 226) 0, r) := by
  obtain ⟨hS, hW, hP, hD, hC, hQ, hX, hZ, hL, hG, hH, hT⟩ := H
  have hS1 : St (sI M 1100 (X + 226) 0) X := hS
  unfold f_X10_squeezer f_X11_squeezer
  simp only [if_pos (k_0 hS), if_pos (k_226 hS), pi_226 hS, ob_eq, isIn_0_4]
  rcases ix_cases a (n := 8) (by omega) with h | ⟨i, hi, rfl⟩
  · simp only [(fl_out h).1, (fl_out h).2.1, ob_eq]; exact ⟨_, rfl, rfl⟩
  obtain ⟨k, r, hh, f0, q1, q2, q3, q4, q5, q6, q7, q8, q9, q10, q11, q12, q13, q14, q15⟩ := hQ i hi
  have hw8 := hW.2.2.2
  simp only [(fl_in hi).1, (fl_in hi).2.1, ob_eq, if_neg (by decide : ¬ (1 : Int32) = 0), r_0_1003 hS, q_sq hS hi, gi_aSq hS hi, q2, q5, q7, q10, on_eq hS hi q13 q12 q10 (by omega), r_226_1109 hS1, r_226_1110 hS1, r_226_1113 hS1, r_226_1114 hS1, r_226_1112 hS1, ai_232 hS1 hi, ai_233 hS1 hi, ai_236 hS1 hi, az_235 hS1 hi, mA_sI, q3, q6, q11, m9, ai_237 hS1 (by omega : 9 * i < 72)]
  by_cases c0 : b = 0
  · subst c0; exact ⟨_, rfl, rfl⟩
  by_cases c1 : b = 1
  · subst c1; exact ⟨_, rfl, rfl⟩
  by_cases c2 : b = 2
  · subst c2; exact ⟨_, rfl, rfl⟩
  by_cases c3 : b = 3
  · subst c3
    simp only [if_neg c0, if_neg c1, if_neg c2, if_pos rfl, if_neg (by decide : ¬ (3 : Int32) < 0), if_neg (by decide : ¬ (4 : Int32) < 3), if_neg (by decide : ¬ (1 : Int32) = 0)]
    by_cases e : hh = 0
    · subst e; exact ⟨_, rfl, rfl⟩
    · obtain ⟨⟨u, u1, u2, u3⟩, -⟩ := q15 0 (by omega)
      rw [Nat.add_zero, Nat.mod_eq_of_lt q12] at u3
      rw [Nat.add_zero] at u2
      simp only [if_neg e, if_neg (nI_ne0 (by omega : 0 < hh) (by omega)), if_true, u3]
      rw [show mA M (X + 237) (9 * i) = nI u from u2]
      exact ⟨_, rfl, rfl⟩
  by_cases c4 : b = 4
  · subst c4
    simp only [if_neg c0, if_neg c1, if_neg c2, if_neg c3, if_pos rfl, if_neg (by decide : ¬ (4 : Int32) < 0), if_neg (by decide : ¬ (4 : Int32) < 4), if_neg (by decide : ¬ (1 : Int32) = 0)]
    rcases q8 with e | e
    · simp only [e, if_pos rfl]; exact ⟨_, rfl, rfl⟩
    · simp only [e, if_neg (by decide : ¬ (1 : Int32) = 0)]; exact ⟨_, rfl, rfl⟩
  · simp only [if_neg c0, if_neg c1, if_neg c2, if_neg c3, if_neg c4]
    by_cases d0 : b < 0
    · simp only [if_pos d0]; exact ⟨_, rfl, rfl⟩
    · have d1 : 4 < b := by
        rcases ix_cases b (n := 5) (by decide) with h | ⟨j, hj, rfl⟩
        · have h2 := Int32.le_iff_toInt_le.mp (h.resolve_left d0)
          refine Int32.lt_iff_toInt_lt.mpr ?_
          have e5 : (nI 5).toInt = 5 := by decide
          have e4 : (4 : Int32).toInt = 4 := by decide
          omega
        · exfalso
          rcases (show j = 0 ∨ j = 1 ∨ j = 2 ∨ j = 3 ∨ j = 4 by omega) with rfl | rfl | rfl | rfl | rfl
          · exact c0 rfl
          · exact c1 rfl
          · exact c2 rfl
          · exact c3 rfl
          · exact c4 rfl
      simp only [if_neg d0, if_pos d1]; exact ⟨_, rfl, rfl⟩
theorem rg_out {b : Int32} {m : Nat} (hm : m < 2 ^ 30) (h : ¬ ∃ j, j ≤ m ∧ b = nI j) (d0 : ¬ b < 0) : nI m < b := by
  rcases ix_cases b (n := m + 1) (by omega) with g | ⟨j, hj, rfl⟩
  · have h2 := Int32.le_iff_toInt_le.mp (g.resolve_left d0)
    refine Int32.lt_iff_toInt_lt.mpr ?_
    rw [nI_toInt (by omega)] at h2
    rw [nI_toInt (by omega)]
    omega
  · exact absurd ⟨j, by omega, rfl⟩ h
theorem rg_cases (b : Int32) (m : Nat) (hm : m < 2 ^ 30) : b < 0 ∨ nI m < b ∨ ∃ j, j ≤ m ∧ b = nI j := by
  by_cases d0 : b < 0
  · exact Or.inl d0
  · by_cases h : ∃ j, j ≤ m ∧ b = nI j
    · exact Or.inr (Or.inr h)
    · exact Or.inr (Or.inl (rg_out hm h d0))
theorem nI_gt {a b : Nat} (h : a ≤ b) (hb : b < 2 ^ 31) : ¬ nI b < nI a := nI_nlt h hb
theorem op_prove {M : Mm} {X p n w : Nat} {z : Nat → Nat} (H : Inv M X p n w z) (a b c : Int32) : ∃ r, f_X10_prove M X a b c = some r ∧ f_X11_prove M (X + 226) a b c = some (sI M 1100 (X + 226) 0, r) := by
  obtain ⟨hS, hW, ⟨p8, p1, p2, p3⟩, hD, hC, hQ, hX, hZ, hL, hG, hH, hT⟩ := H
  have h200 := hC.1
  have hS1 : St (sI M 1100 (X + 226) 0) X := hS
  have p2' : mI (sI M 1100 (X + 226) 0) 1101 (X + 226) = nI p := p2
  unfold f_X10_prove f_X11_prove
  rw [if_pos (k_0 hS), if_pos (k_226 hS), pi_226 hS, ob_eq, gi_226 hS1, ob_eq, show mI (sI M 1100 (X + 226) 0) 1116 (X + 226) = nI n from hC.2.2.1]
  rcases ix_cases a (n := n) (by omega) with h | ⟨l, hl, rfl⟩
  · rw [lt_out hS hC h, ob_eq]
    refine ⟨-1, rfl, ?_⟩
    by_cases h1 : a < 0
    · rw [if_pos h1]
    · rw [if_neg h1, if_pos (h.resolve_left h1)]
  rw [lt_in hS hC (hL l hl) hl, ob_eq, if_neg (nI_pos (by omega)), if_neg (nI_ge hl (by omega)), nm_some]
  obtain ⟨l1, l2, l3, l4, ⟨k, k1, k2, k3⟩, ⟨i, i1, i2, i3⟩, l7, l8, l9, l10, l11, l12, l13, -, l15⟩ := hL l hl
  have hl8 : l < 200 := by omega
  simp only [gN_of l2, ob_eq, r_226_1125 hS1, az_247 hS1 hl8, r_226_1119 hS1, ai_241 hS1 hl8, mA_sI, l12, k3, r_0_1001 hS]
  rcases l15 with ⟨e1, e2, g1, g2, g3, g4, g5, g6, g7, g8, g9, g10, g11, g12⟩ | ⟨e1, e2⟩
  · rw [k2] at e1
    simp only [g1, nm_some, e1, e2, if_pos rfl]
    rcases ix_cases b (n := p) (by omega) with h | ⟨f, hf, rfl⟩
    · simp only [hs_out hS p1 h, fd_out hS1 p2' h, ob_eq]; exact ⟨_, rfl, rfl⟩
    simp only [hs_in hS p1 p8 hf, fd_in hS1 p2' p8 hf, ob_eq, if_neg (by decide : ¬ (1 : Int32) = 0), ru_in hS1 (by omega : f < 8), mA_sI, (p3 f hf).1]
    by_cases hr : mA M (X + 2) f = 2 ∨ mA M (X + 2) f = 3
    · have hrr : (if mA M (X + 2) f = 2 then (1 : Int32) else if mA M (X + 2) f = 3 then 1 else 0) = 1 := by
        rcases hr with q | q
        · rw [if_pos q]
        · by_cases q2 : mA M (X + 2) f = 2
          · rw [if_pos q2]
          · rw [if_neg q2, if_pos q]
      simp only [hrr, if_neg (by decide : ¬ (1 : Int32) = 0), isIn_0_3, ob_eq, gR_of g3 g4, gR_of g3 g5, gI_of g3, aI_of g6 g7 (by omega : f < 8) (by decide), aI_of g8 g9 (by omega : f < 8) (by decide), r_226_1126 hS1, r_226_1127 hS1, r_226_1128 hS1, r_226_1129 hS1, m8, nI_add, ai_248 hS1 (by omega : 8 * l + f < 1600), ai_249 hS1 (by omega : 8 * l + f < 1600), ai_250 hS1 hl8, ai_251 hS1 hl8, mA_sI, (g12 f hf hr).1, (g12 f hf hr).2, g10, g11]
      by_cases c0 : c = 0
      · subst c0; exact ⟨_, rfl, rfl⟩
      by_cases c1 : c = 1
      · subst c1; exact ⟨_, rfl, rfl⟩
      by_cases c2 : c = 2
      · subst c2; exact ⟨_, rfl, rfl⟩
      by_cases c3 : c = 3
      · subst c3; exact ⟨_, rfl, rfl⟩
      simp only [if_neg c0, if_neg c1, if_neg c2, if_neg c3]
      rcases rg_cases c 3 (by decide) with d | d | ⟨j, hj, rfl⟩
      · simp only [if_pos d]; exact ⟨_, rfl, rfl⟩
      · have d3 : (3 : Int32) < c := d
        by_cases dn : c < 0
        · simp only [if_pos dn]; exact ⟨_, rfl, rfl⟩
        · simp only [if_neg dn, if_pos d3]; exact ⟨_, rfl, rfl⟩
      · exfalso
        rcases (show j = 0 ∨ j = 1 ∨ j = 2 ∨ j = 3 by omega) with rfl | rfl | rfl | rfl
        · exact c0 rfl
        · exact c1 rfl
        · exact c2 rfl
        · exact c3 rfl
    · have hrr : (if mA M (X + 2) f = 2 then (1 : Int32) else if mA M (X + 2) f = 3 then 1 else 0) = 0 := by
        rw [if_neg (fun q => hr (Or.inl q)), if_neg (fun q => hr (Or.inr q))]
      simp only [hrr, if_pos rfl]; exact ⟨_, rfl, rfl⟩
  · simp only [e2, nm_none]
    rw [k2] at e1
    rcases l13 with e3 | e3
    · have e4 : ¬ nI k = 2 := fun q => e1 ⟨q, e3⟩
      simp only [e3, if_pos rfl, if_neg e4]; exact ⟨_, rfl, rfl⟩
    · simp only [e3, if_neg (by decide : ¬ (1 : Int32) = 0)]; exact ⟨_, rfl, rfl⟩
end
section
theorem cnt_loop {M : Mm} {X n : Nat} {a : Int32} (hS : St M X) (hC : IC M X n) : ∀ d l fu, l + d = n → d < fu → f_X11_count_L9 fu M (X + 226) a (nI (lc (mA M (X + 246)) l)) (nI l) = some (M, if a = 0 then mI M 1101 (X + 226) else if a = 1 then nI n else if a = 2 then mI M 1107 (X + 226) else if a = 3 then nI (lc (mA M (X + 246)) n) else -1) := by
  have h200 := hC.1
  intro d
  induction d with
  | zero =>
    intro l fu h1 h2
    obtain ⟨fu, rfl⟩ : ∃ k, fu = k + 1 := ⟨fu - 1, by omega⟩
    have e : l = n := by omega
    subst e
    rw [f_X11_count_L9, gi_226 hS, ob_eq, hC.2.2.1, if_pos (nI_le (Nat.le_refl _) (by omega))]
    simp only [gi_226 hS, ob_eq, hC.2.2.1]
    by_cases c0 : a = 0
    · simp only [if_pos c0]
    by_cases c1 : a = 1
    · simp only [if_neg c0, if_pos c1]
    by_cases c2 : a = 2
    · simp only [if_neg c0, if_neg c1, if_pos c2]
    by_cases c3 : a = 3
    · simp only [if_neg c0, if_neg c1, if_neg c2, if_pos c3]
    · simp only [if_neg c0, if_neg c1, if_neg c2, if_neg c3]
  | succ d ih =>
    intro l fu h1 h2
    obtain ⟨fu, rfl⟩ : ∃ k, fu = k + 1 := ⟨fu - 1, by omega⟩
    have hl : l < n := by omega
    rw [f_X11_count_L9, gi_226 hS, ob_eq, hC.2.2.1, if_neg (nI_ge hl (by omega)), r_226_1124 hS, ob_eq, az_246 hS (by omega), ob_eq]
    have e := ih (l + 1) fu (by omega) (by omega)
    unfold f_X11_count_J32
    by_cases c : mA M (X + 246) l = 0
    · rw [if_pos c]
      have e2 : lc (mA M (X + 246)) (l + 1) = lc (mA M (X + 246)) l := by show _ + (if _ then 0 else 1) = _; rw [if_pos c]; omega
      rw [e2] at e
      rw [show (nI l + 1) = nI (l + 1) from nI_1 l, show nI (lc (mA M (X + 246)) l) + 0 = nI (lc (mA M (X + 246)) l) from Int32.add_zero _]
      exact e
    · rw [if_neg c]
      have e2 : lc (mA M (X + 246)) (l + 1) = lc (mA M (X + 246)) l + 1 := by show _ + (if _ then 0 else 1) = _; rw [if_neg c]
      rw [e2] at e
      rw [show (nI l + 1) = nI (l + 1) from nI_1 l, show nI (lc (mA M (X + 246)) l) + 1 = nI (lc (mA M (X + 246)) l + 1) from nI_1 _]
      exact e
theorem op_count {M : Mm} {X p n w : Nat} {z : Nat → Nat} (H : Inv M X p n w z) (a : Int32) : ∃ r, f_X10_count M X a = some r ∧ f_X11_count M (X + 226) a = some (sI M 1100 (X + 226) 0, r) := by
  obtain ⟨hS, hW, ⟨p8, p1, p2, p3⟩, hD, hC, hQ, hX, hZ, hL, hG, hH, hT⟩ := H
  have hS1 : St (sI M 1100 (X + 226) 0) X := hS
  have hC1 : IC (sI M 1100 (X + 226) 0) X n := hC
  have p2' : mI (sI M 1100 (X + 226) 0) 1101 (X + 226) = nI p := p2
  have w2' : mI (sI M 1100 (X + 226) 0) 1107 (X + 226) = nI w := hW.2.1
  have h200 := hC.1
  unfold f_X10_count f_X11_count
  rw [if_pos (k_0 hS), if_pos (k_226 hS), pi_226 hS, ob_eq, show f_X11_count_L9 1000 (sI M 1100 (X + 226) 0) (X + 226) a 0 0 = _ from cnt_loop (a := a) hS1 hC1 n 0 1000 (by omega) (by omega), p2', w2']
  simp only [r_0_1001 hS, gi_1 hS, gi_0 hS, ob_eq, p1, hC.2.1, hW.1, show mI M 1011 X = nI (lc (mA M (X + 246)) n) from hT, mA_sI]
  by_cases c0 : a = 0
  · simp only [if_pos c0]; exact ⟨_, rfl, rfl⟩
  by_cases c1 : a = 1
  · simp only [if_neg c0, if_pos c1]; exact ⟨_, rfl, rfl⟩
  by_cases c2 : a = 2
  · simp only [if_neg c0, if_neg c1, if_pos c2]; exact ⟨_, rfl, rfl⟩
  by_cases c3 : a = 3
  · simp only [if_neg c0, if_neg c1, if_neg c2, if_pos c3]; exact ⟨_, rfl, rfl⟩
  · simp only [if_neg c0, if_neg c1, if_neg c2, if_neg c3]; exact ⟨_, rfl, rfl⟩
/-- what a shelf says to those who want a letter -/
theorem rfs {M : Mm} {X s : Nat} (hS : St M X) (hs : s < 8) (h : IH M X s) : (mA M (X + 265) s = 1 ∧ f_X10_refusalOfLetterOn M X (nI s) = some 0 ∧ f_X11_denied M (X + 226) (nI s) = some 0) ∨ ∃ r : Int32, ¬ r = 0 ∧ ¬ 0 ≤ r ∧ f_X10_refusalOfLetterOn M X (nI s) = some r ∧ f_X11_denied M (X + 226) (nI s) = some r := by
  obtain ⟨h1, hk, h2, h3, -⟩ := h
  unfold f_X10_refusalOfLetterOn f_X11_denied
  simp only [if_pos (k_0 hS), if_pos (k_226 hS), (fl_in hs).2.2.1, (fl_in hs).2.2.2, ob_eq, if_neg (by decide : ¬ (1 : Int32) = 0), r_0_1006 hS, q_sh hS hs, gi_aSh hS hs, r_226_1153 hS, ai_265 hS hs, h1, h3]
  rcases (show hk = 0 ∨ hk = 1 ∨ hk = 2 ∨ hk = 3 ∨ hk = 4 by omega) with rfl | rfl | rfl | rfl | rfl
  · exact Or.inr ⟨-11, by decide, by decide, rfl, rfl⟩
  · exact Or.inl ⟨rfl, rfl, rfl⟩
  · exact Or.inr ⟨-12, by decide, by decide, rfl, rfl⟩
  · exact Or.inr ⟨-12, by decide, by decide, rfl, rfl⟩
  · exact Or.inr ⟨-12, by decide, by decide, rfl, rfl⟩
theorem rfs_out {M : Mm} {X : Nat} {a : Int32} (hS : St M X) (h : a < 0 ∨ nI 8 ≤ a) : f_X10_refusalOfLetterOn M X a = some (-1) ∧ f_X11_denied M (X + 226) a = some (-1) := by
  unfold f_X10_refusalOfLetterOn f_X11_denied
  simp only [if_pos (k_0 hS), if_pos (k_226 hS), (fl_out h).2.2.1, (fl_out h).2.2.2, ob_eq, if_true, and_self]
theorem op_worth {M : Mm} {X p n w : Nat} {z : Nat → Nat} (H : Inv M X p n w z) (a : Int32) : ∃ r, f_X10_worth M X a = some r ∧ f_X11_worth M (X + 226) a = some (sI M 1100 (X + 226) 0, r) := by
  obtain ⟨hS, hW, hP, hD, hC, hQ, hX, hZ, hL, hG, hH, hT⟩ := H
  have hS1 : St (sI M 1100 (X + 226) 0) X := hS
  unfold f_X10_worth f_X11_worth
  rw [if_pos (k_0 hS), if_pos (k_226 hS), pi_226 hS, ob_eq]
  rcases ix_cases a (n := 8) (by omega) with h | ⟨s, hs, rfl⟩
  · rw [(rfs_out hS h).1, (rfs_out hS1 h).2]; exact ⟨_, rfl, rfl⟩
  have hI := hH s hs
  rcases rfs hS hs hI with ⟨e0, e1, e2⟩ | ⟨r, r1, r2, e1, e2⟩
  · rw [e1, show f_X11_denied (sI M 1100 (X + 226) 0) (X + 226) (nI s) = some 0 from e2]
    obtain ⟨h1, hk, h2, h3, h4, -⟩ := hI
    have hk1 : hk = 1 := by
      rw [h3] at e0
      exact (nI_eq (by omega) (by decide)).mp (show nI hk = nI 1 from e0)
    obtain ⟨⟨k, k1, k2, k3⟩, k4⟩ := h4 hk1
    simp only [ob_eq, if_true, if_pos (by decide : (0 : Int32) ≤ 0), r_0_1006 hS, q_sh hS hs, gi_aSh hS hs, r_226_1155 hS1, r_226_1154 hS1, ai_267 hS1 hs, ai_266 hS1 hs, mA_sI, k2, k3, k4]
    generalize mA M (X + 266) s = v
    have c1 : v * 10 = 10 * v := Int32.mul_comm _ _
    have c2 : ∀ x : Int32, x + 1 + 5 = x + 6 := fun x => by rw [Int32.add_assoc]; rfl
    rcases (show k = 0 ∨ k = 1 ∨ k = 2 ∨ k = 3 ∨ k = 4 ∨ k = 5 by omega) with rfl | rfl | rfl | rfl | rfl | rfl
    · exact ⟨v * 10 + 0, rfl, by rw [c1]; rfl⟩
    · exact ⟨v * 10 + 1 + 3, rfl, by rw [c1]; rfl⟩
    · exact ⟨(v * 10 + 2 + 3) * 2, rfl, by rw [c1, show (10 * v + 2 + 3) * 2 = 2 * (10 * v + 2 + 3) from Int32.mul_comm _ _]; rfl⟩
    · exact ⟨v * 10 + 3 + 1, rfl, by rw [c1]; rfl⟩
    · exact ⟨v * 10 + 4 + 1 + 5, rfl, by rw [c1, c2]; rfl⟩
    · exact ⟨(v * 10 + 5 + 1 + 5) * 3, rfl, by rw [c1, c2, show (10 * v + 5 + 6) * 3 = 3 * (10 * v + 5 + 6) from Int32.mul_comm _ _]; rfl⟩
  · rw [e1, show f_X11_denied (sI M 1100 (X + 226) 0) (X + 226) (nI s) = some r from e2]
    simp only [ob_eq, if_neg r1, if_neg r2]; exact ⟨_, rfl, rfl⟩
theorem op_toss {M : Mm} {X p n w : Nat} {z : Nat → Nat} (H : Inv M X p n w z) (a : Int32) : ∃ r, f_X10_toss M X a = some r ∧ f_X11_toss M (X + 226) a = some (sI M 1100 (X + 226) 0, r) := by
  obtain ⟨hS, hW, hP, hD, hC, hQ, hX, hZ, hL, hG, hH, hT⟩ := H
  have hS1 : St (sI M 1100 (X + 226) 0) X := hS
  unfold f_X10_toss f_X11_toss
  rw [if_pos (k_0 hS), if_pos (k_226 hS), pi_226 hS, ob_eq]
  rcases ix_cases a (n := 8) (by omega) with h | ⟨s, hs, rfl⟩
  · rw [(rfs_out hS h).1, (rfs_out hS1 h).2]; exact ⟨_, rfl, rfl⟩
  have hI := hH s hs
  rcases rfs hS hs hI with ⟨e0, e1, e2⟩ | ⟨r, r1, r2, e1, e2⟩
  · rw [e1, show f_X11_denied (sI M 1100 (X + 226) 0) (X + 226) (nI s) = some 0 from e2]
    obtain ⟨h1, hk, h2, h3, h4, -⟩ := hI
    have hk1 : hk = 1 := by
      rw [h3] at e0
      exact (nI_eq (by omega) (by decide)).mp (show nI hk = nI 1 from e0)
    obtain ⟨⟨k, k1, k2, k3⟩, k4⟩ := h4 hk1
    simp only [ob_eq, if_true, if_pos (by decide : (0 : Int32) ≤ 0), r_0_1006 hS, q_sh hS hs, gi_aSh hS hs, r_226_1155 hS1, ai_267 hS1 hs, mA_sI, k2, k3]
    by_cases c0 : nI k = 0
    · simp only [if_pos c0]; exact ⟨_, rfl, rfl⟩
    by_cases c1 : nI k = 3
    · simp only [if_neg c0, if_pos c1]; exact ⟨_, rfl, rfl⟩
    · simp only [if_neg c0, if_neg c1]; exact ⟨_, rfl, rfl⟩
  · rw [e1, show f_X11_denied (sI M 1100 (X + 226) 0) (X + 226) (nI s) = some r from e2]
    simp only [ob_eq, if_neg r1, if_neg r2]; exact ⟨_, rfl, rfl⟩
end
section
/-! Calls that write a little. -/
theorem inv_thr {M : Mm} {X p n w : Nat} {z : Nat → Nat} {v : Int32} (H : Inv M X p n w z) : Inv (sI M 1100 (X + 226) v) X p n w z := Inv_Ag H (Nat.le_refl _) (Ag_sI (Or.inl (by unfold ScI; omega)))
theorem lN_of (x : Int64) : ∃ n, n < 2 ^ 64 ∧ x = lN n := by
  refine ⟨x.toBitVec.toNat, x.toBitVec.isLt, ?_⟩
  apply Int64.toBitVec_inj.1
  show x.toBitVec = BitVec.ofNat 64 x.toBitVec.toNat
  simp
theorem andL (a b : Nat) : lN a &&& lN b = lN (a &&& b) := by
  apply Int64.toBitVec_inj.1
  show BitVec.ofNat 64 a &&& BitVec.ofNat 64 b = BitVec.ofNat 64 (a &&& b)
  apply BitVec.eq_of_getLsbD_eq
  intro i hi
  simp [hi]
/-- the mask of a width -/
def mk (wd : Int32) : Int64 := ((1 : Int64) <<< (wd.toInt64 &&& 63)) - 1
theorem mk_eq : ∀ wd, wd < 33 → mk (nI wd) = lN (2 ^ wd - 1) := by decide
theorem mk_and {wd u : Nat} (h : wd < 33) : lN u &&& mk (nI wd) = lN (u % 2 ^ wd) := by rw [mk_eq wd h, andL, Nat.and_two_pow_sub_one_eq_mod]
theorem lb_in {M : Mm} {X f : Nat} {v : Int64} (hS : St M X) (hf : f < 8) : f_X6_lowBits M (X + 1) (nI f) v = some (v &&& mk (mA M (X + 3) f)) := by
  unfold f_X6_lowBits f_X10_lowest
  rw [if_pos (k_1 hS), r_1_601 hS, ob_eq, ai_3 hS hf, ob_eq, ob_eq]
  rfl
theorem ct_in {M : Mm} {X f : Nat} {v : Int64} (hS : St M X) (hf : f < 8) : f_X11_cut M (X + 226) (nI f) v = some (v &&& mk (mA M (X + 228) f)) := by
  unfold f_X11_cut
  rw [if_pos (k_226 hS), r_226_1103 hS, ob_eq, ai_228 hS hf, ob_eq]
  rfl
theorem op_set {M : Mm} {X p n w : Nat} {z : Nat → Nat} (H : Inv M X p n w z) (a : Int32) (v : Int64) : ∃ M1 M2 r, f_X10_set M X a v = some (M1, r) ∧ f_X11_set M1 (X + 226) a v = some (M2, r) ∧ Inv M2 X p n w z := by
  obtain ⟨hS, hW, ⟨p8, p1, p2, p3⟩, hD, hC, hQ, hX, hZ, hL, hG, hH, hT⟩ := id H
  rcases ix_cases a (n := p) (by omega) with h | ⟨f, hf, rfl⟩
  · refine ⟨M, sI M 1100 (X + 226) 0, -1, ?_, ?_, inv_thr H⟩
    · unfold f_X10_set
      rw [if_pos (k_0 hS), r_0_1001 hS, ob_eq, has_out hS p1 h, ob_eq, if_pos rfl]
    · unfold f_X11_set
      have hS1 : St (sI M 1100 (X + 226) 0) X := hS
      have p2' : mI (sI M 1100 (X + 226) 0) 1101 (X + 226) = nI p := p2
      rw [if_pos (k_226 hS), pi_226 hS, ob_eq, fd_out hS1 p2' h, ob_eq, if_pos rfl]
  have hf8 : f < 8 := by omega
  obtain ⟨i1, i2, ⟨k, k1, k2⟩, ⟨wd, w1, w2, w3⟩, -⟩ := p3 f hf
  obtain ⟨u, -, hu⟩ := lN_of v
  generalize hM1 : sB M (X + 7) (va_up (mB M (X + 7)) f (v &&& mk (mA M (X + 3) f))) = M1
  have hS1 : St M1 X := by rw [← hM1]; exact hS
  generalize hMt : sI M1 1100 (X + 226) 0 = Mt
  have hSt : St Mt X := by rw [← hMt]; exact hS1
  have p2' : mI Mt 1101 (X + 226) = nI p := by rw [← hMt, ← hM1]; exact p2
  have e228 : mA Mt (X + 228) f = mA M (X + 3) f := by rw [← hMt, ← hM1]; exact i2
  have e231 : mB Mt (X + 231) = mB M (X + 231) := by
    rw [← hMt, ← hM1]
    show (if X + 231 = X + 7 then _ else mB M (X + 231)) = _
    rw [if_neg (by omega)]
  refine ⟨M1, sB Mt (X + 231) (va_up (mB Mt (X + 231)) f (v &&& mk (mA M (X + 3) f))), mB M (X + 7) f, ?_, ?_, ?_⟩
  · unfold f_X10_set
    simp only [if_pos (k_0 hS), r_0_1001 hS, ob_eq, has_in hS p1 p8 hf, if_neg (by decide : ¬ (1 : Int32) = 0), r_0_1002 hS, r_6_300 hS, aj_7 hS hf8, lb_in hS hf8, wj_7 hS hf8, hM1]
  · unfold f_X11_set
    simp only [if_pos (k_226 hS1), pi_226 hS1, ob_eq, hMt, fd_in hSt p2' p8 hf, if_neg (by decide : ¬ (1 : Int32) = 0), r_226_1108 hSt, aj_231 hSt hf8, ct_in hSt hf8, wj_231 hSt hf8, e228, e231, (hD.1 f hf).1]
  · have hN := z_ge hZ n (Nat.le_refl _)
    have A1 : Ag X (z n) n T0 T0 (fun a _ => a = X + 7 ∨ a = X + 231) M M1 := by rw [← hM1]; exact Ag_sB (Or.inr (Or.inr (fun j q => absurd (Or.inl rfl) q)))
    have A2 : Ag X (z n) n T0 T0 (fun a _ => a = X + 7 ∨ a = X + 231) M1 Mt := by rw [← hMt]; exact Ag_sI (Or.inl (by unfold ScI; omega))
    have A3 : Ag X (z n) n T0 T0 (fun a _ => a = X + 7 ∨ a = X + 231) Mt (sB Mt (X + 231) (va_up (mB Mt (X + 231)) f (v &&& mk (mA M (X + 3) f)))) := Ag_sB (Or.inr (Or.inr (fun j q => absurd (Or.inr rfl) q)))
    have A := (A1.tr' A2).tr' A3
    refine ⟨St_Ag hN A hS, tr_W hN A hW (by intro a j h; first | exact False.elim h | ((try dsimp only at h); (try simp only [aSq, aSt, aRg, aHd, aHv, aCx, aCh, aCv, aCs, aSh, aSr] at h ⊢); omega)), tr_P hN A ⟨p8, p1, p2, p3⟩ (by intro a j h; first | exact False.elim h | ((try dsimp only at h); (try simp only [aSq, aSt, aRg, aHd, aHv, aCx, aCh, aCv, aCs, aSh, aSr] at h ⊢); omega)) (by intro a j h; first | exact False.elim h | ((try dsimp only at h); (try simp only [aSq, aSt, aRg, aHd, aHv, aCx, aCh, aCv, aCs, aSh, aSr] at h ⊢); omega)) (by intro a j h; first | exact False.elim h | ((try dsimp only at h); (try simp only [aSq, aSt, aRg, aHd, aHv, aCx, aCh, aCv, aCs, aSh, aSr] at h ⊢); omega)), ?_, tr_C hN A hC (by intro a j h; first | exact False.elim h | ((try dsimp only at h); (try simp only [aSq, aSt, aRg, aHd, aHv, aCx, aCh, aCv, aCs, aSh, aSr] at h ⊢); omega)), fun i hi => tr_Q hN p8 hW.2.2.2 hi A (hQ i hi) (by intro a j h; first | exact False.elim h | ((try dsimp only at h); (try simp only [aSq, aSt, aRg, aHd, aHv, aCx, aCh, aCv, aCs, aSh, aSr] at h ⊢); omega)) (by intro a j h; first | exact False.elim h | ((try dsimp only at h); (try simp only [aSq, aSt, aRg, aHd, aHv, aCx, aCh, aCv, aCs, aSh, aSr] at h ⊢); omega)) (by intro a j h; first | exact False.elim h | ((try dsimp only at h); (try simp only [aSq, aSt, aRg, aHd, aHv, aCx, aCh, aCv, aCs, aSh, aSr] at h ⊢); omega)), fun i hi => tr_X hN p8 hi A (hX i hi) (by intro a j h; first | exact False.elim h | ((try dsimp only at h); (try simp only [aSq, aSt, aRg, aHd, aHv, aCx, aCh, aCv, aCs, aSh, aSr] at h ⊢); omega)) (by intro a j h; first | exact False.elim h | ((try dsimp only at h); (try simp only [aSq, aSt, aRg, aHd, aHv, aCx, aCh, aCv, aCs, aSh, aSr] at h ⊢); omega)) (by intro a j h; first | exact False.elim h | ((try dsimp only at h); (try simp only [aSq, aSt, aRg, aHd, aHv, aCx, aCh, aCv, aCs, aSh, aSr] at h ⊢); omega)), tr_Z A hZ, fun l hl => tr_L p8 hZ hl (Nat.le_refl _) (Nat.le_refl _) A (hL l hl) (by intro a j h; first | exact False.elim h | ((try dsimp only at h); (try simp only [aSq, aSt, aRg, aHd, aHv, aCx, aCh, aCv, aCs, aSh, aSr] at h ⊢); omega)) (by intro a j h; first | exact False.elim h | ((try dsimp only at h); (try simp only [aSq, aSt, aRg, aHd, aHv, aCx, aCh, aCv, aCs, aSh, aSr] at h ⊢); omega)), tr_G hN A hG (by intro a j h; first | exact False.elim h | ((try dsimp only at h); (try simp only [aSq, aSt, aRg, aHd, aHv, aCx, aCh, aCv, aCs, aSh, aSr] at h ⊢); omega)) (by intro a j h; first | exact False.elim h | ((try dsimp only at h); (try simp only [aSq, aSt, aRg, aHd, aHv, aCx, aCh, aCv, aCs, aSh, aSr] at h ⊢); omega)) (by intro a j h; first | exact False.elim h | ((try dsimp only at h); (try simp only [aSq, aSt, aRg, aHd, aHv, aCx, aCh, aCv, aCs, aSh, aSr] at h ⊢); omega)), fun s hs => tr_H hN hs A (hH s hs) (by intro a j h; first | exact False.elim h | ((try dsimp only at h); (try simp only [aSq, aSt, aRg, aHd, aHv, aCx, aCh, aCv, aCs, aSh, aSr] at h ⊢); omega)) (by intro a j h; first | exact False.elim h | ((try dsimp only at h); (try simp only [aSq, aSt, aRg, aHd, aHv, aCx, aCh, aCv, aCs, aSh, aSr] at h ⊢); omega)) (by intro a j h; first | exact False.elim h | ((try dsimp only at h); (try simp only [aSq, aSt, aRg, aHd, aHv, aCx, aCh, aCv, aCs, aSh, aSr] at h ⊢); omega)), tr_T hN A hT (by intro a j h; first | exact False.elim h | ((try dsimp only at h); (try simp only [aSq, aSt, aRg, aHd, aHv, aCx, aCh, aCv, aCs, aSh, aSr] at h ⊢); omega)) (by intro a j h; first | exact False.elim h | ((try dsimp only at h); (try simp only [aSq, aSt, aRg, aHd, aHv, aCx, aCh, aCv, aCs, aSh, aSr] at h ⊢); omega))⟩
    have b7 : mB (sB Mt (X + 231) (va_up (mB Mt (X + 231)) f (v &&& mk (mA M (X + 3) f)))) (X + 7) = va_up (mB M (X + 7)) f (v &&& mk (mA M (X + 3) f)) := by
      rw [mB_sB, if_neg (by omega), ← hMt, ← hM1]
      show (if X + 7 = X + 7 then _ else _) = _
      rw [if_pos rfl]
    have b231 : mB (sB Mt (X + 231) (va_up (mB Mt (X + 231)) f (v &&& mk (mA M (X + 3) f)))) (X + 231) = va_up (mB M (X + 231)) f (v &&& mk (mA M (X + 3) f)) := by
      rw [mB_sB, if_pos rfl, e231]
    have a3 : mA (sB Mt (X + 231) (va_up (mB Mt (X + 231)) f (v &&& mk (mA M (X + 3) f)))) (X + 3) = mA M (X + 3) := by
      rw [mA_sB, ← hMt, ← hM1]; rfl
    unfold ID
    rw [b7, b231, a3]
    refine ⟨fun g hg => ?_, fun g h1 h2 => by rw [vau_ne (by omega)]; exact hD.2 g h1 h2⟩
    by_cases e : g = f
    · subst e
      rw [vau_eq, vau_eq, w3, hu, mk_and (by omega)]
      exact ⟨rfl, wd, u % 2 ^ wd, rfl, w1, w2, Nat.mod_lt _ (Nat.two_pow_pos wd), rfl⟩
    · rw [vau_ne e, vau_ne e]
      exact hD.1 g hg

theorem op_stride {M : Mm} {X p n w : Nat} {z : Nat → Nat} (H : Inv M X p n w z) (a b c : Int32) : ∃ M1 M2 r, f_X10_stride M X a b c = some (M1, r) ∧ f_X11_stride M1 (X + 226) a b c = some (M2, r) ∧ Inv M2 X p n w z := by
  obtain ⟨hS, hW, ⟨p8, p1, p2, p3⟩, hD, hC, hQ, hX, hZ, hL, hG, hH, hT⟩ := id H
  have hS1 : St (sI M 1100 (X + 226) 0) X := hS
  have p2' : mI (sI M 1100 (X + 226) 0) 1101 (X + 226) = nI p := p2
  have d10 : ¬ (1 : Int32) = 0 := by decide
  rcases ix_cases a (n := 8) (by omega) with h | ⟨i, hi, rfl⟩
  · refine ⟨M, _, -1, ?_, ?_, inv_thr (v := 0) H⟩
    · unfold f_X10_stride
      simp only [if_pos (k_0 hS), (fl_out h).1, ob_eq, if_true]
    · unfold f_X11_stride
      simp only [if_pos (k_226 hS), pi_226 hS, (fl_out h).2.1, ob_eq, if_true]
  rcases ix_cases b (n := p) (by omega) with h | ⟨f, hf, rfl⟩
  · refine ⟨M, _, -1, ?_, ?_, inv_thr (v := 0) H⟩
    · unfold f_X10_stride
      simp only [if_pos (k_0 hS), (fl_in hi).1, ob_eq, if_neg d10, r_0_1001 hS, hs_out hS p1 h, if_true]
    · unfold f_X11_stride
      simp only [if_pos (k_226 hS), pi_226 hS, (fl_in hi).2.1, ob_eq, if_neg d10, fd_out hS1 p2' h, if_true]
  have hf8 : f < 8 := by omega
  obtain ⟨i1, -⟩ := p3 f hf
  by_cases hr : mA M (X + 2) f = 2 ∨ mA M (X + 2) f = 3
  rotate_left
  · have hrr : (if mA M (X + 2) f = 2 then (1 : Int32) else if mA M (X + 2) f = 3 then 1 else 0) = 0 := by
      rw [if_neg (fun q => hr (Or.inl q)), if_neg (fun q => hr (Or.inr q))]
    refine ⟨M, _, -1, ?_, ?_, inv_thr (v := 0) H⟩
    · unfold f_X10_stride
      simp only [if_pos (k_0 hS), (fl_in hi).1, ob_eq, if_neg d10, r_0_1001 hS, hs_in hS p1 p8 hf, hrr, if_true]
    · unfold f_X11_stride
      simp only [if_pos (k_226 hS), pi_226 hS, (fl_in hi).2.1, ob_eq, if_neg d10, fd_in hS1 p2' p8 hf, ru_in hS1 hf8, mA_sI, i1, hrr, if_true]
  have hrr : (if mA M (X + 2) f = 2 then (1 : Int32) else if mA M (X + 2) f = 3 then 1 else 0) = 1 := by
    rcases hr with q | q
    · rw [if_pos q]
    · by_cases q2 : mA M (X + 2) f = 2
      · rw [if_pos q2]
      · rw [if_neg q2, if_pos q]
  by_cases c0 : c < 0
  · refine ⟨M, _, -1, ?_, ?_, inv_thr (v := 0) H⟩
    · unfold f_X10_stride
      simp only [if_pos (k_0 hS), (fl_in hi).1, ob_eq, if_neg d10, r_0_1001 hS, hs_in hS p1 p8 hf, hrr, if_pos c0]
    · unfold f_X11_stride
      simp only [if_pos (k_226 hS), pi_226 hS, (fl_in hi).2.1, ob_eq, if_neg d10, fd_in hS1 p2' p8 hf, ru_in hS1 hf8, mA_sI, i1, hrr, isIn_0_255, if_pos c0, if_true]
  by_cases c1 : c ≤ 255
  rotate_left
  · refine ⟨M, _, -1, ?_, ?_, inv_thr (v := 0) H⟩
    · unfold f_X10_stride
      simp only [if_pos (k_0 hS), (fl_in hi).1, ob_eq, if_neg d10, r_0_1001 hS, hs_in hS p1 p8 hf, hrr, if_neg c0, if_neg c1]
    · unfold f_X11_stride
      simp only [if_pos (k_226 hS), pi_226 hS, (fl_in hi).2.1, ob_eq, if_neg d10, fd_in hS1 p2' p8 hf, ru_in hS1 hf8, mA_sI, i1, hrr, isIn_0_255, if_neg c0, if_pos (Int32.not_le.mp c1), if_true]
  obtain ⟨k, r, hh, f0, q1, q2, q3, q4, q5, q6, q7, q8, q9, q10, q11, q12, q13, q14, q15⟩ := hQ i hi
  generalize hMa : sA M (aSt X i) (va_up (mA M (aSt X i)) f c) = Ma
  have hSa : St Ma X := by rw [← hMa]; exact hS
  generalize hM1 : sI Ma 903 (aSq X i) 1 = M1
  have hS1 : St M1 X := by rw [← hM1]; exact hSa
  generalize hMt : sI M1 1100 (X + 226) 0 = Mt
  have hSt : St Mt X := by rw [← hMt]; exact hS1
  have eo : ∀ o, (o = 227 ∨ o = 234 ∨ o = 235) → mA Mt (X + o) = mA M (X + o) := fun o ho => by
    rw [← hMt, ← hM1, ← hMa]
    show (if X + o = aSt X i then _ else mA M (X + o)) = _
    rw [if_neg (by unfold aSt; omega)]
  generalize hMb : sA Mt (X + 234) (va_up (mA M (X + 234)) (8 * i + f) c) = Mb
  have hSb : St Mb X := by rw [← hMb]; exact hSt
  have p2t : mI Mt 1101 (X + 226) = nI p := by rw [← hMt, ← hM1, ← hMa]; exact p2
  refine ⟨M1, sA Mb (X + 235) (va_up (mA Mb (X + 235)) i 1), mA M (aSt X i) f, ?_, ?_, ?_⟩
  · unfold f_X10_stride
    simp only [if_pos (k_0 hS), (fl_in hi).1, ob_eq, if_neg d10, r_0_1001 hS, hs_in hS p1 p8 hf, hrr, if_neg c0, if_pos c1, r_0_1003 hS, q_sq hS hi, r_aSq_900 hS hi, ai_aSt hS hi hf8, wi_aSt hS hi hf8, hMa, pZ_of (v := 1) (num := 903) (k_aSq hSa hi) (Or.inr rfl), hM1]
  · unfold f_X11_stride
    simp only [if_pos (k_226 hS1), pi_226 hS1, (fl_in hi).2.1, ob_eq, if_neg d10, hMt, fd_in hSt p2t p8 hf, ru_in hSt hf8, eo 227 (by omega), i1, hrr, isIn_0_255, if_neg c0, if_neg (Int32.not_lt.mpr c1), r_226_1111 hSt, m8, nI_add, ai_234 hSt (by omega : 8 * i + f < 64), wi_234 hSt (by omega : 8 * i + f < 64), hMb, r_226_1112 hSb, wz_235 hSb hi, vz1, eo 234 (by omega), q14 f hf8]
  · have hN := z_ge hZ n (Nat.le_refl _)
    have A1 : Ag X (z n) n (fun num a => num = 903 ∧ a = aSq X i) (fun a j => a = aSt X i ∨ (a = X + 234 ∧ j = 8 * i + f) ∨ (a = X + 235 ∧ j = i)) T0 M Ma := by rw [← hMa]; exact Ag_sA (Or.inr (Or.inr (fun j q => absurd (Or.inl rfl) q)))
    have A2 : Ag X (z n) n (fun num a => num = 903 ∧ a = aSq X i) (fun a j => a = aSt X i ∨ (a = X + 234 ∧ j = 8 * i + f) ∨ (a = X + 235 ∧ j = i)) T0 Ma M1 := by rw [← hM1]; exact Ag_sI (Or.inr (Or.inl ⟨rfl, rfl⟩))
    have A3 : Ag X (z n) n (fun num a => num = 903 ∧ a = aSq X i) (fun a j => a = aSt X i ∨ (a = X + 234 ∧ j = 8 * i + f) ∨ (a = X + 235 ∧ j = i)) T0 M1 Mt := by rw [← hMt]; exact Ag_sI (Or.inl (by unfold ScI; omega))
    have A4 : Ag X (z n) n (fun num a => num = 903 ∧ a = aSq X i) (fun a j => a = aSt X i ∨ (a = X + 234 ∧ j = 8 * i + f) ∨ (a = X + 235 ∧ j = i)) T0 Mt Mb := by rw [← hMb]; exact Ag_sA (Or.inr (Or.inr (fun j q => (vau_ne (fun e => q (Or.inr (Or.inl ⟨rfl, e⟩)))).trans (by rw [eo 234 (by omega)]))))
    have A5 : Ag X (z n) n (fun num a => num = 903 ∧ a = aSq X i) (fun a j => a = aSt X i ∨ (a = X + 234 ∧ j = 8 * i + f) ∨ (a = X + 235 ∧ j = i)) T0 Mb (sA Mb (X + 235) (va_up (mA Mb (X + 235)) i 1)) := Ag_sA (Or.inr (Or.inr (fun j q => vau_ne (fun e => q (Or.inr (Or.inr ⟨rfl, e⟩))))))
    have A := (((A1.tr' A2).tr' A3).tr' A4).tr' A5
    refine ⟨St_Ag hN A hS, tr_W hN A hW (by intro a j h; first | exact False.elim h | ((try dsimp only at h); (try simp only [aSq, aSt, aRg, aHd, aHv, aCx, aCh, aCv, aCs, aSh, aSr] at h ⊢); omega)), tr_P hN A ⟨p8, p1, p2, p3⟩ (by intro a j h; first | exact False.elim h | ((try dsimp only at h); (try simp only [aSq, aSt, aRg, aHd, aHv, aCx, aCh, aCv, aCs, aSh, aSr] at h ⊢); omega)) (by intro a j h; first | exact False.elim h | ((try dsimp only at h); (try simp only [aSq, aSt, aRg, aHd, aHv, aCx, aCh, aCv, aCs, aSh, aSr] at h ⊢); omega)) (by intro a j h; first | exact False.elim h | ((try dsimp only at h); (try simp only [aSq, aSt, aRg, aHd, aHv, aCx, aCh, aCv, aCs, aSh, aSr] at h ⊢); omega)), tr_D hN A hD (by intro a j h; first | exact False.elim h | ((try dsimp only at h); (try simp only [aSq, aSt, aRg, aHd, aHv, aCx, aCh, aCv, aCs, aSh, aSr] at h ⊢); omega)) (by intro a j h; first | exact False.elim h | ((try dsimp only at h); (try simp only [aSq, aSt, aRg, aHd, aHv, aCx, aCh, aCv, aCs, aSh, aSr] at h ⊢); omega)), tr_C hN A hC (by intro a j h; first | exact False.elim h | ((try dsimp only at h); (try simp only [aSq, aSt, aRg, aHd, aHv, aCx, aCh, aCv, aCs, aSh, aSr] at h ⊢); omega)), fun i2 hi2 => ?_, fun i hi => tr_X hN p8 hi A (hX i hi) (by intro a j h; first | exact False.elim h | ((try dsimp only at h); (try simp only [aSq, aSt, aRg, aHd, aHv, aCx, aCh, aCv, aCs, aSh, aSr] at h ⊢); omega)) (by intro a j h; first | exact False.elim h | ((try dsimp only at h); (try simp only [aSq, aSt, aRg, aHd, aHv, aCx, aCh, aCv, aCs, aSh, aSr] at h ⊢); omega)) (by intro a j h; first | exact False.elim h | ((try dsimp only at h); (try simp only [aSq, aSt, aRg, aHd, aHv, aCx, aCh, aCv, aCs, aSh, aSr] at h ⊢); omega)), tr_Z A hZ, fun l hl => tr_L p8 hZ hl (Nat.le_refl _) (Nat.le_refl _) A (hL l hl) (by have zz := z_ge hZ l (by omega); intro a j h; unfold aSq at h; omega) (by have zz := z_ge hZ l (by omega); intro a j h; unfold aSt at h; omega), tr_G hN A hG (by intro a j h; first | exact False.elim h | ((try dsimp only at h); (try simp only [aSq, aSt, aRg, aHd, aHv, aCx, aCh, aCv, aCs, aSh, aSr] at h ⊢); omega)) (by intro a j h; first | exact False.elim h | ((try dsimp only at h); (try simp only [aSq, aSt, aRg, aHd, aHv, aCx, aCh, aCv, aCs, aSh, aSr] at h ⊢); omega)) (by intro a j h; first | exact False.elim h | ((try dsimp only at h); (try simp only [aSq, aSt, aRg, aHd, aHv, aCx, aCh, aCv, aCs, aSh, aSr] at h ⊢); omega)), fun s hs => tr_H hN hs A (hH s hs) (by intro a j h; first | exact False.elim h | ((try dsimp only at h); (try simp only [aSq, aSt, aRg, aHd, aHv, aCx, aCh, aCv, aCs, aSh, aSr] at h ⊢); omega)) (by intro a j h; first | exact False.elim h | ((try dsimp only at h); (try simp only [aSq, aSt, aRg, aHd, aHv, aCx, aCh, aCv, aCs, aSh, aSr] at h ⊢); omega)) (by intro a j h; first | exact False.elim h | ((try dsimp only at h); (try simp only [aSq, aSt, aRg, aHd, aHv, aCx, aCh, aCv, aCs, aSh, aSr] at h ⊢); omega)), tr_T hN A hT (by intro a j h; first | exact False.elim h | ((try dsimp only at h); (try simp only [aSq, aSt, aRg, aHd, aHv, aCx, aCh, aCv, aCs, aSh, aSr] at h ⊢); omega)) (by intro a j h; first | exact False.elim h | ((try dsimp only at h); (try simp only [aSq, aSt, aRg, aHd, aHv, aCx, aCh, aCv, aCs, aSh, aSr] at h ⊢); omega))⟩
    by_cases e : i2 = i
    rotate_left
    · exact tr_Q hN p8 hW.2.2.2 hi2 A (hQ i2 hi2) (by intro a j h; first | exact False.elim h | ((try dsimp only at h); (try simp only [aSq, aSt, aRg, aHd, aHv, aCx, aCh, aCv, aCs, aSh, aSr] at h ⊢); omega)) (by intro a j h; first | exact False.elim h | ((try dsimp only at h); (try simp only [aSq, aSt, aRg, aHd, aHv, aCx, aCh, aCv, aCs, aSh, aSr] at h ⊢); omega)) (by intro a j h; first | exact False.elim h | ((try dsimp only at h); (try simp only [aSq, aSt, aRg, aHd, aHv, aCx, aCh, aCv, aCs, aSh, aSr] at h ⊢); omega))
    subst e
    have gI : ∀ num, num ≠ 903 → 901 ≤ num → num ≤ 906 → mI (sA Mb (X + 235) (va_up (mA Mb (X + 235)) i2 1)) num (aSq X i2) = mI M num (aSq X i2) := fun num h1 h2 h3 => A.1 _ _ (by unfold ScI; omega) (fun q => h1 q.1) (by unfold aSq; omega)
    have gA : ∀ o, (o = 232 ∨ o = 233 ∨ o = 236 ∨ o = 237) → mA (sA Mb (X + 235) (va_up (mA Mb (X + 235)) i2 1)) (X + o) = mA M (X + o) := fun o ho => funext fun j => A.2.1 _ _ (by unfold ScA; omega) (by unfold aSt; omega) (by omega)
    have g903 : mI (sA Mb (X + 235) (va_up (mA Mb (X + 235)) i2 1)) 903 (aSq X i2) = 1 := by
      rw [mI_sA, ← hMb, mI_sA, ← hMt, mI_sI, if_neg (by decide), ← hM1, mI_sI, if_pos rfl, if_pos rfl]
    have g235 : mA (sA Mb (X + 235) (va_up (mA Mb (X + 235)) i2 1)) (X + 235) i2 = 1 := by rw [mA_sA, if_pos rfl, vau_eq]
    have g234 : mA (sA Mb (X + 235) (va_up (mA Mb (X + 235)) i2 1)) (X + 234) = va_up (mA M (X + 234)) (8 * i2 + f) c := by
      rw [mA_sA, if_neg (by omega), ← hMb, mA_sA, if_pos rfl]
    have gSt : mA (sA Mb (X + 235) (va_up (mA Mb (X + 235)) i2 1)) (aSt X i2) = va_up (mA M (aSt X i2)) f c := by
      rw [mA_sA, if_neg (by unfold aSt; omega), ← hMb, mA_sA, if_neg (by unfold aSt; omega), ← hMt, mA_sI, ← hM1, mA_sI, ← hMa, mA_sA, if_pos rfl]
    refine ⟨k, r, hh, f0, q1, by rw [gI 901 (by decide) (by decide) (by decide)]; exact q2, by rw [gA 232 (by omega)]; exact q3, q4, by rw [gI 902 (by decide) (by decide) (by decide)]; exact q5, by rw [gA 233 (by omega)]; exact q6, by rw [g903, g235], Or.inr g235, q9, by rw [gI 904 (by decide) (by decide) (by decide)]; exact q10, by rw [gA 236 (by omega)]; exact q11, q12, by rw [gI 906 (by decide) (by decide) (by decide)]; exact q13, fun g hg => ?_, fun j hj => ?_⟩
    · rw [g234, gSt]
      by_cases e2 : g = f
      · subst e2; rw [vau_eq, vau_eq]
      · rw [vau_ne (by omega), vau_ne e2]; exact q14 g hg
    · have hm : (f0 + j) % 8 < 8 := Nat.mod_lt _ (by decide)
      obtain ⟨g1, g2⟩ := q15 j hj
      refine ⟨?_, fun g hg => ?_⟩
      · rw [gA 237 (by omega), A.1 301 (aHd X i2 ((f0 + j) % 8)) (by unfold ScI aHd; omega) (by omega) (by unfold aHd; omega)]
        exact g1
      · rw [A.2.2.1 _ _ (by unfold ScB; omega) (fun q => q.elim) (by omega), A.2.2.1 (aHv X i2 ((f0 + j) % 8)) g (by unfold ScB aHv; omega) (fun q => q.elim) (by unfold aHv; omega)]
        exact g2 g hg
end
section
theorem op_forget {M : Mm} {X p n w : Nat} {z : Nat → Nat} (H : Inv M X p n w z) (a b : Int32) : ∃ M1 M2 r, f_X10_forget M X a b = some (M1, r) ∧ f_X11_forget M1 (X + 226) a b = some (M2, r) ∧ Inv M2 X p n w z := by
  obtain ⟨hS, hW, ⟨p8, p1, p2, p3⟩, hD, hC, hQ, hX, hZ, hL, hG, hH, hT⟩ := id H
  have d10 : ¬ (1 : Int32) = 0 := by decide
  have hN := z_ge hZ n (Nat.le_refl _)
  rcases ix_cases a (n := 8) (by omega) with h | ⟨i, hi, rfl⟩
  · refine ⟨M, _, -1, ?_, ?_, inv_thr (v := 0) H⟩
    · unfold f_X10_forget
      simp only [if_pos (k_0 hS), (fl_out h).1, ob_eq, if_true]
    · unfold f_X11_forget
      simp only [if_pos (k_226 hS), pi_226 hS, (fl_out h).2.1, ob_eq, if_true]
  by_cases c0 : b < 0
  · refine ⟨M, _, -1, ?_, ?_, inv_thr (v := 0) H⟩
    · unfold f_X10_forget
      simp only [if_pos (k_0 hS), (fl_in hi).1, ob_eq, if_neg d10, if_pos c0]
    · unfold f_X11_forget
      simp only [if_pos (k_226 hS), pi_226 hS, (fl_in hi).2.1, ob_eq, if_neg d10, isIn_0_1, if_pos c0, if_true]
  by_cases c1 : b ≤ 1
  rotate_left
  · refine ⟨M, _, -1, ?_, ?_, inv_thr (v := 0) H⟩
    · unfold f_X10_forget
      simp only [if_pos (k_0 hS), (fl_in hi).1, ob_eq, if_neg d10, if_neg c0, if_neg c1]
    · unfold f_X11_forget
      simp only [if_pos (k_226 hS), pi_226 hS, (fl_in hi).2.1, ob_eq, if_neg d10, isIn_0_1, if_neg c0, if_pos (Int32.not_le.mp c1), if_true]
  by_cases c2 : b = 1
  · -- the opener's end
    obtain ⟨x1, x2⟩ := hX i hi
    generalize hM1 : sI M 103 (aCx X i) 0 = M1
    have hS1 : St M1 X := by rw [← hM1]; exact hS
    generalize hMt : sI M1 1100 (X + 226) 0 = Mt
    have hSt : St Mt X := by rw [← hMt]; exact hS1
    have e252 : mA Mt (X + 252) = mA M (X + 252) := by rw [← hMt, ← hM1]; rfl
    refine ⟨M1, sA Mt (X + 252) (va_up (mA M (X + 252)) i 0), if mA M (X + 252) i = 0 then 0 else 1, ?_, ?_, ?_⟩
    · unfold f_X10_forget
      simp only [if_pos (k_0 hS), (fl_in hi).1, ob_eq, if_neg d10, if_neg c0, if_pos c1, if_pos c2, r_0_1004 hS, q_cx hS hi, gi_aCx hS hi, pZ_of (v := 0) (num := 103) (k_aCx hS hi) (Or.inl rfl), hM1, x1]
      by_cases c3 : mA M (X + 252) i = 0
      · simp only [if_pos c3]
      · simp only [if_neg c3]
    · unfold f_X11_forget f_X11_forget_J52
      simp only [if_pos (k_226 hS1), pi_226 hS1, (fl_in hi).2.1, ob_eq, if_neg d10, isIn_0_1, if_neg c0, if_neg (Int32.not_lt.mpr c1), if_pos c2, hMt, r_226_1130 hSt, az_252 hSt hi, wz_252 hSt hi, vz0, e252]
      by_cases c3 : mA M (X + 252) i = 0
      · simp only [if_pos c3]
      · simp only [if_neg c3]
    · have A1 : Ag X (z n) n (fun num a => num = 103 ∧ a = aCx X i) (fun a j => a = X + 252 ∧ j = i) T0 M M1 := by rw [← hM1]; exact Ag_sI (Or.inr (Or.inl ⟨rfl, rfl⟩))
      have A2 : Ag X (z n) n (fun num a => num = 103 ∧ a = aCx X i) (fun a j => a = X + 252 ∧ j = i) T0 M1 Mt := by rw [← hMt]; exact Ag_sI (Or.inl (by unfold ScI; omega))
      have A3 : Ag X (z n) n (fun num a => num = 103 ∧ a = aCx X i) (fun a j => a = X + 252 ∧ j = i) T0 Mt (sA Mt (X + 252) (va_up (mA M (X + 252)) i 0)) := Ag_sA (Or.inr (Or.inr (fun j q => (vau_ne (fun e => q ⟨rfl, e⟩)).trans (by rw [e252]))))
      have A := (A1.tr' A2).tr' A3
      refine ⟨St_Ag hN A hS, tr_W hN A hW (by intro a j h; first | exact False.elim h | ((try dsimp only at h); (try simp only [aSq, aSt, aRg, aHd, aHv, aCx, aCh, aCv, aCs, aSh, aSr] at h ⊢); omega)), tr_P hN A ⟨p8, p1, p2, p3⟩ (by intro a j h; first | exact False.elim h | ((try dsimp only at h); (try simp only [aSq, aSt, aRg, aHd, aHv, aCx, aCh, aCv, aCs, aSh, aSr] at h ⊢); omega)) (by intro a j h; first | exact False.elim h | ((try dsimp only at h); (try simp only [aSq, aSt, aRg, aHd, aHv, aCx, aCh, aCv, aCs, aSh, aSr] at h ⊢); omega)) (by intro a j h; first | exact False.elim h | ((try dsimp only at h); (try simp only [aSq, aSt, aRg, aHd, aHv, aCx, aCh, aCv, aCs, aSh, aSr] at h ⊢); omega)), tr_D hN A hD (by intro a j h; first | exact False.elim h | ((try dsimp only at h); (try simp only [aSq, aSt, aRg, aHd, aHv, aCx, aCh, aCv, aCs, aSh, aSr] at h ⊢); omega)) (by intro a j h; first | exact False.elim h | ((try dsimp only at h); (try simp only [aSq, aSt, aRg, aHd, aHv, aCx, aCh, aCv, aCs, aSh, aSr] at h ⊢); omega)), tr_C hN A hC (by intro a j h; first | exact False.elim h | ((try dsimp only at h); (try simp only [aSq, aSt, aRg, aHd, aHv, aCx, aCh, aCv, aCs, aSh, aSr] at h ⊢); omega)), fun i hi => tr_Q hN p8 hW.2.2.2 hi A (hQ i hi) (by intro a j h; first | exact False.elim h | ((try dsimp only at h); (try simp only [aSq, aSt, aRg, aHd, aHv, aCx, aCh, aCv, aCs, aSh, aSr] at h ⊢); omega)) (by intro a j h; first | exact False.elim h | ((try dsimp only at h); (try simp only [aSq, aSt, aRg, aHd, aHv, aCx, aCh, aCv, aCs, aSh, aSr] at h ⊢); omega)) (by intro a j h; first | exact False.elim h | ((try dsimp only at h); (try simp only [aSq, aSt, aRg, aHd, aHv, aCx, aCh, aCv, aCs, aSh, aSr] at h ⊢); omega)), fun i2 hi2 => ?_, tr_Z A hZ, fun l hl => tr_L p8 hZ hl (Nat.le_refl _) (Nat.le_refl _) A (hL l hl) (by have zz := z_ge hZ l (by omega); intro a j h; first | exact False.elim h | ((try dsimp only at h); (try simp only [aSq, aSt, aRg, aHd, aHv, aCx, aCh, aCv, aCs, aSh, aSr] at h ⊢); omega)) (by have zz := z_ge hZ l (by omega); intro a j h; first | exact False.elim h | ((try dsimp only at h); (try simp only [aSq, aSt, aRg, aHd, aHv, aCx, aCh, aCv, aCs, aSh, aSr] at h ⊢); omega)), tr_G hN A hG (by intro a j h; first | exact False.elim h | ((try dsimp only at h); (try simp only [aSq, aSt, aRg, aHd, aHv, aCx, aCh, aCv, aCs, aSh, aSr] at h ⊢); omega)) (by intro a j h; first | exact False.elim h | ((try dsimp only at h); (try simp only [aSq, aSt, aRg, aHd, aHv, aCx, aCh, aCv, aCs, aSh, aSr] at h ⊢); omega)) (by intro a j h; first | exact False.elim h | ((try dsimp only at h); (try simp only [aSq, aSt, aRg, aHd, aHv, aCx, aCh, aCv, aCs, aSh, aSr] at h ⊢); omega)), fun s hs => tr_H hN hs A (hH s hs) (by intro a j h; first | exact False.elim h | ((try dsimp only at h); (try simp only [aSq, aSt, aRg, aHd, aHv, aCx, aCh, aCv, aCs, aSh, aSr] at h ⊢); omega)) (by intro a j h; first | exact False.elim h | ((try dsimp only at h); (try simp only [aSq, aSt, aRg, aHd, aHv, aCx, aCh, aCv, aCs, aSh, aSr] at h ⊢); omega)) (by intro a j h; first | exact False.elim h | ((try dsimp only at h); (try simp only [aSq, aSt, aRg, aHd, aHv, aCx, aCh, aCv, aCs, aSh, aSr] at h ⊢); omega)), tr_T hN A hT (by intro a j h; first | exact False.elim h | ((try dsimp only at h); (try simp only [aSq, aSt, aRg, aHd, aHv, aCx, aCh, aCv, aCs, aSh, aSr] at h ⊢); omega)) (by intro a j h; first | exact False.elim h | ((try dsimp only at h); (try simp only [aSq, aSt, aRg, aHd, aHv, aCx, aCh, aCv, aCs, aSh, aSr] at h ⊢); omega))⟩
      by_cases e : i2 = i
      rotate_left
      · exact tr_X hN p8 hi2 A (hX i2 hi2) (by intro a j h; first | exact False.elim h | ((try dsimp only at h); (try simp only [aSq, aSt, aRg, aHd, aHv, aCx, aCh, aCv, aCs, aSh, aSr] at h ⊢); omega)) (by intro a j h; first | exact False.elim h | ((try dsimp only at h); (try simp only [aSq, aSt, aRg, aHd, aHv, aCx, aCh, aCv, aCs, aSh, aSr] at h ⊢); omega)) (by intro a j h; first | exact False.elim h | ((try dsimp only at h); (try simp only [aSq, aSt, aRg, aHd, aHv, aCx, aCh, aCv, aCs, aSh, aSr] at h ⊢); omega))
      subst e
      have g1 : mA (sA Mt (X + 252) (va_up (mA M (X + 252)) i2 0)) (X + 252) i2 = 0 := by rw [mA_sA, if_pos rfl, vau_eq]
      refine ⟨?_, Or.inl g1⟩
      rw [g1, mI_sA, ← hMt, mI_sI, if_neg (by decide), ← hM1, mI_sI, if_pos rfl, if_pos rfl]
  · -- the squeezer's end
    obtain ⟨k, r, hh, f0, q1, q2, q3, q4, q5, q6, q7, q8, q9, q10, q11, q12, q13, q14, q15⟩ := hQ i hi
    have w8 := hW.2.2.2
    generalize hMa : sI M 904 (aSq X i) 0 = Ma
    have hSa : St Ma X := by rw [← hMa]; exact hS
    generalize hM1 : sI Ma 903 (aSq X i) 1 = M1
    have hS1 : St M1 X := by rw [← hM1]; exact hSa
    generalize hMt : sI M1 1100 (X + 226) 0 = Mt
    have hSt : St Mt X := by rw [← hMt]; exact hS1
    have eo : ∀ o, mA Mt (X + o) = mA M (X + o) := fun o => by rw [← hMt, ← hM1, ← hMa]; rfl
    generalize hMb : sA Mt (X + 235) (va_up (mA M (X + 235)) i 1) = Mb
    have hSb : St Mb X := by rw [← hMb]; exact hSt
    have e236 : mA Mb (X + 236) = mA M (X + 236) := by rw [← hMb, mA_sA, if_neg (by omega), eo]
    have hle : nI hh ≤ 0 ↔ hh = 0 := by
      constructor
      · intro q
        exact Classical.byContradiction fun hne => absurd q (nI_nle (by omega) (by omega))
      · intro q; subst q; exact (by decide : nI 0 ≤ 0)
    refine ⟨M1, sA Mb (X + 236) (va_up (mA M (X + 236)) i 0), if hh = 0 then 0 else 1, ?_, ?_, ?_⟩
    · unfold f_X10_forget f_X10_forget_J63
      simp only [if_pos (k_0 hS), (fl_in hi).1, ob_eq, if_neg d10, if_neg c0, if_pos c1, if_neg c2, r_0_1003 hS, q_sq hS hi, gi_aSq hS hi, q10, pi_aSq hS hi, hMa, r_0_1003 hSa, q_sq hSa hi, pZ_of (v := 1) (num := 903) (k_aSq hSa hi) (Or.inr rfl), hM1, if_true, hle]
      by_cases c3 : hh = 0
      · simp only [if_pos c3]
      · simp only [if_neg c3]
    · unfold f_X11_forget f_X11_forget_J52
      simp only [if_pos (k_226 hS1), pi_226 hS1, (fl_in hi).2.1, ob_eq, if_neg d10, isIn_0_1, if_neg c0, if_neg (Int32.not_lt.mpr c1), if_neg c2, hMt, r_226_1113 hSt, ai_236 hSt hi, eo, q11, hle, r_226_1112 hSt, wz_235 hSt hi, vz1, hMb, r_226_1113 hSb, wi_236 hSb hi, e236, if_true]
      by_cases c3 : hh = 0
      · simp only [if_pos c3]
      · simp only [if_neg c3]
    · have A1 : Ag X (z n) n (fun num a => (num = 903 ∨ num = 904) ∧ a = aSq X i) (fun a j => (a = X + 235 ∨ a = X + 236) ∧ j = i) T0 M Ma := by rw [← hMa]; exact Ag_sI (Or.inr (Or.inl ⟨Or.inr rfl, rfl⟩))
      have A2 : Ag X (z n) n (fun num a => (num = 903 ∨ num = 904) ∧ a = aSq X i) (fun a j => (a = X + 235 ∨ a = X + 236) ∧ j = i) T0 Ma M1 := by rw [← hM1]; exact Ag_sI (Or.inr (Or.inl ⟨Or.inl rfl, rfl⟩))
      have A3 : Ag X (z n) n (fun num a => (num = 903 ∨ num = 904) ∧ a = aSq X i) (fun a j => (a = X + 235 ∨ a = X + 236) ∧ j = i) T0 M1 Mt := by rw [← hMt]; exact Ag_sI (Or.inl (by unfold ScI; omega))
      have A4 : Ag X (z n) n (fun num a => (num = 903 ∨ num = 904) ∧ a = aSq X i) (fun a j => (a = X + 235 ∨ a = X + 236) ∧ j = i) T0 Mt Mb := by rw [← hMb]; exact Ag_sA (Or.inr (Or.inr (fun j q => (vau_ne (fun e => q ⟨Or.inl rfl, e⟩)).trans (by rw [eo]))))
      have A5 : Ag X (z n) n (fun num a => (num = 903 ∨ num = 904) ∧ a = aSq X i) (fun a j => (a = X + 235 ∨ a = X + 236) ∧ j = i) T0 Mb (sA Mb (X + 236) (va_up (mA M (X + 236)) i 0)) := Ag_sA (Or.inr (Or.inr (fun j q => (vau_ne (fun e => q ⟨Or.inr rfl, e⟩)).trans (by rw [e236]))))
      have A := (((A1.tr' A2).tr' A3).tr' A4).tr' A5
      refine ⟨St_Ag hN A hS, tr_W hN A hW (by intro a j h; first | exact False.elim h | ((try dsimp only at h); (try simp only [aSq, aSt, aRg, aHd, aHv, aCx, aCh, aCv, aCs, aSh, aSr] at h ⊢); omega)), tr_P hN A ⟨p8, p1, p2, p3⟩ (by intro a j h; first | exact False.elim h | ((try dsimp only at h); (try simp only [aSq, aSt, aRg, aHd, aHv, aCx, aCh, aCv, aCs, aSh, aSr] at h ⊢); omega)) (by intro a j h; first | exact False.elim h | ((try dsimp only at h); (try simp only [aSq, aSt, aRg, aHd, aHv, aCx, aCh, aCv, aCs, aSh, aSr] at h ⊢); omega)) (by intro a j h; first | exact False.elim h | ((try dsimp only at h); (try simp only [aSq, aSt, aRg, aHd, aHv, aCx, aCh, aCv, aCs, aSh, aSr] at h ⊢); omega)), tr_D hN A hD (by intro a j h; first | exact False.elim h | ((try dsimp only at h); (try simp only [aSq, aSt, aRg, aHd, aHv, aCx, aCh, aCv, aCs, aSh, aSr] at h ⊢); omega)) (by intro a j h; first | exact False.elim h | ((try dsimp only at h); (try simp only [aSq, aSt, aRg, aHd, aHv, aCx, aCh, aCv, aCs, aSh, aSr] at h ⊢); omega)), tr_C hN A hC (by intro a j h; first | exact False.elim h | ((try dsimp only at h); (try simp only [aSq, aSt, aRg, aHd, aHv, aCx, aCh, aCv, aCs, aSh, aSr] at h ⊢); omega)), fun i2 hi2 => ?_, fun i hi => tr_X hN p8 hi A (hX i hi) (by intro a j h; first | exact False.elim h | ((try dsimp only at h); (try simp only [aSq, aSt, aRg, aHd, aHv, aCx, aCh, aCv, aCs, aSh, aSr] at h ⊢); omega)) (by intro a j h; first | exact False.elim h | ((try dsimp only at h); (try simp only [aSq, aSt, aRg, aHd, aHv, aCx, aCh, aCv, aCs, aSh, aSr] at h ⊢); omega)) (by intro a j h; first | exact False.elim h | ((try dsimp only at h); (try simp only [aSq, aSt, aRg, aHd, aHv, aCx, aCh, aCv, aCs, aSh, aSr] at h ⊢); omega)), tr_Z A hZ, fun l hl => tr_L p8 hZ hl (Nat.le_refl _) (Nat.le_refl _) A (hL l hl) (by have zz := z_ge hZ l (by omega); intro a j h; first | exact False.elim h | ((try dsimp only at h); (try simp only [aSq, aSt, aRg, aHd, aHv, aCx, aCh, aCv, aCs, aSh, aSr] at h ⊢); omega)) (by have zz := z_ge hZ l (by omega); intro a j h; first | exact False.elim h | ((try dsimp only at h); (try simp only [aSq, aSt, aRg, aHd, aHv, aCx, aCh, aCv, aCs, aSh, aSr] at h ⊢); omega)), tr_G hN A hG (by intro a j h; first | exact False.elim h | ((try dsimp only at h); (try simp only [aSq, aSt, aRg, aHd, aHv, aCx, aCh, aCv, aCs, aSh, aSr] at h ⊢); omega)) (by intro a j h; first | exact False.elim h | ((try dsimp only at h); (try simp only [aSq, aSt, aRg, aHd, aHv, aCx, aCh, aCv, aCs, aSh, aSr] at h ⊢); omega)) (by intro a j h; first | exact False.elim h | ((try dsimp only at h); (try simp only [aSq, aSt, aRg, aHd, aHv, aCx, aCh, aCv, aCs, aSh, aSr] at h ⊢); omega)), fun s hs => tr_H hN hs A (hH s hs) (by intro a j h; first | exact False.elim h | ((try dsimp only at h); (try simp only [aSq, aSt, aRg, aHd, aHv, aCx, aCh, aCv, aCs, aSh, aSr] at h ⊢); omega)) (by intro a j h; first | exact False.elim h | ((try dsimp only at h); (try simp only [aSq, aSt, aRg, aHd, aHv, aCx, aCh, aCv, aCs, aSh, aSr] at h ⊢); omega)) (by intro a j h; first | exact False.elim h | ((try dsimp only at h); (try simp only [aSq, aSt, aRg, aHd, aHv, aCx, aCh, aCv, aCs, aSh, aSr] at h ⊢); omega)), tr_T hN A hT (by intro a j h; first | exact False.elim h | ((try dsimp only at h); (try simp only [aSq, aSt, aRg, aHd, aHv, aCx, aCh, aCv, aCs, aSh, aSr] at h ⊢); omega)) (by intro a j h; first | exact False.elim h | ((try dsimp only at h); (try simp only [aSq, aSt, aRg, aHd, aHv, aCx, aCh, aCv, aCs, aSh, aSr] at h ⊢); omega))⟩
      by_cases e : i2 = i
      rotate_left
      · exact tr_Q hN p8 hW.2.2.2 hi2 A (hQ i2 hi2) (by intro a j h; first | exact False.elim h | ((try dsimp only at h); (try simp only [aSq, aSt, aRg, aHd, aHv, aCx, aCh, aCv, aCs, aSh, aSr] at h ⊢); omega)) (by intro a j h; first | exact False.elim h | ((try dsimp only at h); (try simp only [aSq, aSt, aRg, aHd, aHv, aCx, aCh, aCv, aCs, aSh, aSr] at h ⊢); omega)) (by intro a j h; first | exact False.elim h | ((try dsimp only at h); (try simp only [aSq, aSt, aRg, aHd, aHv, aCx, aCh, aCv, aCs, aSh, aSr] at h ⊢); omega))
      subst e
      have gI : ∀ num, num ≠ 903 → num ≠ 904 → 901 ≤ num → num ≤ 906 → mI (sA Mb (X + 236) (va_up (mA M (X + 236)) i2 0)) num (aSq X i2) = mI M num (aSq X i2) := fun num h0 h1 h2 h3 => A.1 _ _ (by unfold ScI; omega) (by omega) (by unfold aSq; omega)
      have gA : ∀ o, (o = 232 ∨ o = 233 ∨ o = 234) → mA (sA Mb (X + 236) (va_up (mA M (X + 236)) i2 0)) (X + o) = mA M (X + o) := fun o ho => funext fun j => A.2.1 _ _ (by unfold ScA; omega) (by omega) (by omega)
      have g903 : mI (sA Mb (X + 236) (va_up (mA M (X + 236)) i2 0)) 903 (aSq X i2) = 1 := by
        rw [mI_sA, ← hMb, mI_sA, ← hMt, mI_sI, if_neg (by decide), ← hM1, mI_sI, if_pos rfl, if_pos rfl]
      have g904 : mI (sA Mb (X + 236) (va_up (mA M (X + 236)) i2 0)) 904 (aSq X i2) = 0 := by
        rw [mI_sA, ← hMb, mI_sA, ← hMt, mI_sI, if_neg (by decide), ← hM1, mI_sI, if_neg (by decide), ← hMa, mI_sI, if_pos rfl, if_pos rfl]
      have g235 : mA (sA Mb (X + 236) (va_up (mA M (X + 236)) i2 0)) (X + 235) i2 = 1 := by rw [mA_sA, if_neg (by omega), ← hMb, mA_sA, if_pos rfl, vau_eq]
      have g236 : mA (sA Mb (X + 236) (va_up (mA M (X + 236)) i2 0)) (X + 236) i2 = 0 := by rw [mA_sA, if_pos rfl, vau_eq]
      have gSt : mA (sA Mb (X + 236) (va_up (mA M (X + 236)) i2 0)) (aSt X i2) = mA M (aSt X i2) := funext fun j => A.2.1 _ _ (by unfold ScA aSt; omega) (by unfold aSt; omega) (by unfold aSt; omega)
      exact ⟨k, r, 0, f0, q1, by rw [gI 901 (by decide) (by decide) (by decide) (by decide)]; exact q2, by rw [gA 232 (by omega)]; exact q3, q4, by rw [gI 902 (by decide) (by decide) (by decide) (by decide)]; exact q5, by rw [gA 233 (by omega)]; exact q6, by rw [g903, g235], Or.inr g235, Nat.zero_le _, g904, g236, q12, by rw [gI 906 (by decide) (by decide) (by decide) (by decide)]; exact q13, fun g hg => by rw [gA 234 (by omega), gSt]; exact q14 g hg, fun j hj => absurd hj (Nat.not_lt_zero j)⟩
/-- a letter under way -/
theorem uw {M : Mm} {X p n l : Nat} {z : Nat → Nat} (hS : St M X) (hC : IC M X n) (hL : IL M X p z l) (hl : l < n) : f_X10_letterUnderWay M X (nI l) = some (if mA M (X + 246) l = 0 then some (lA z l) else none) ∧ f_X11_isUnderWay M (X + 226) (nI l) = some (if mA M (X + 246) l = 0 then 1 else 0) := by
  have h200 := hC.1
  unfold f_X10_letterUnderWay f_X11_isUnderWay
  simp only [if_pos (k_0 hS), if_pos (k_226 hS), lt_in hS hC hL hl, ob_eq, nm_some, gI_of hL.2.1, if_neg (nI_pos (by omega : l < 2 ^ 31)), gi_226 hS, hC.2.2.1, if_neg (nI_ge hl (by omega)), r_226_1124 hS, az_246 hS (by omega : l < 200), ← hL.2.2.2.2.2.2.2.2.2.1]
  by_cases c : mA M (X + 246) l = 0
  · simp only [if_pos c, and_self]
  · simp only [if_neg c, and_self]
theorem uw_out {M : Mm} {X n : Nat} {a : Int32} (hS : St M X) (hC : IC M X n) (h : a < 0 ∨ nI n ≤ a) : f_X10_letterUnderWay M X a = some none ∧ f_X11_isUnderWay M (X + 226) a = some 0 := by
  unfold f_X10_letterUnderWay f_X11_isUnderWay
  simp only [if_pos (k_0 hS), if_pos (k_226 hS), lt_out hS hC h, ob_eq, nm_none, gi_226 hS, hC.2.2.1, true_and]
  by_cases h1 : a < 0
  · simp only [if_pos h1]
  · simp only [if_neg h1, if_pos (h.resolve_left h1)]
theorem lc_up {g : Nat → Int32} {l : Nat} (h0 : g l = 0) : ∀ {n : Nat}, l < n → lc (va_up g l 1) n = lc g n + 1
  | 0, h => absurd h (Nat.not_lt_zero l)
  | n + 1, h => by
    show lc (va_up g l 1) n + (if va_up g l 1 n = 0 then 0 else 1) = lc g n + (if g n = 0 then 0 else 1) + 1
    by_cases e : l = n
    · subst e
      rw [vau_eq, h0, if_neg (by decide), if_pos rfl, lc_congr (g := g) (fun m hm => vau_ne (by omega))]
    · rw [vau_ne (by omega), lc_up h0 (by omega)]
      omega
end
section
theorem ILb_Ag {X N n0 : Nat} {TI TA TB : Nat → Nat → Prop} {M M1 : Mm} {n l : Nat} {z : Nat → Nat} (hz : IZ M X n z) (hl : l < n) (hN : z n ≤ N) (h : Ag X N n0 TI TA TB M M1) (H : ILb M X z l) (t2 : ∀ a j, TA a j → ¬ ((a = X + 239 ∧ j = l) ∨ (a = X + 240 ∧ 64 * l ≤ j ∧ j < 64 * l + 60) ∨ a = lB z l)) : ILb M1 X z l := by
  have z1 := z_ge hz l (by omega)
  have z2 := hz.2.1 l hl
  have z3 := z_mo hz (l := l + 1) (m := n) (by omega) (Nat.le_refl _)
  obtain ⟨len, g1, g2, g3, g4, g5⟩ := H
  refine ⟨len, g1, g2, by rw [(h.2.2.2.1 (lB z l) (by unfold lB; omega)).2]; exact g3, by rw [h.2.1 (X + 239) l (by unfold ScA; omega) (fun q => t2 _ _ q (by omega)) (by omega)]; exact g4, fun k hk => ?_⟩
  rw [h.2.1 (lB z l) k (by unfold ScA lB; omega) (fun q => t2 _ _ q (by omega)) (by unfold lB; omega), h.2.1 (X + 240) (64 * l + k) (by unfold ScA; omega) (fun q => t2 _ _ q (by omega)) (by omega)]
  exact g5 k hk
/-- a letter whose outcome, loss or bytes have changed -/
theorem IL_mk {X N n0 : Nat} {TI TA TB : Nat → Nat → Prop} {M M1 : Mm} {p n l : Nat} {z : Nat → Nat} (hp : p ≤ 8) (hz : IZ M X n z) (hl : l < n) (hN : z n ≤ N) (hn : n ≤ n0) (h : Ag X N n0 TI TA TB M M1) (H : IL M X p z l) (t1 : ∀ num a, TI num a → ¬ (z l ≤ a ∧ a < z (l + 1) ∧ num ≠ 405 ∧ num ≠ 406)) (t2 : ∀ a j, TA a j → ¬ ((X + 241 ≤ a ∧ a ≤ X + 251 ∧ a ≠ X + 245 ∧ a ≠ X + 246 ∧ a ≠ X + 248 ∧ a ≠ X + 249 ∧ j = l) ∨ ((a = X + 248 ∨ a = X + 249) ∧ 8 * l ≤ j ∧ j < 8 * l + 8) ∨ a = X + 2 ∨ (z l ≤ a ∧ a < z (l + 1) ∧ a ≠ lB z l)))
    (h9 : mA M1 (X + 245) l = mI M1 405 (lA z l)) (h10 : mA M1 (X + 246) l = mI M1 406 (lA z l)) (h11 : mI M1 406 (lA z l) = 0 ∨ mI M1 406 (lA z l) = 1) (h14 : ILb M1 X z l) : IL M1 X p z l := by
  have z1 := z_ge hz l (by omega)
  have z2 := hz.2.1 l hl
  have z3 := z_mo hz (l := l + 1) (m := n) (by omega) (Nat.le_refl _)
  obtain ⟨g1, g2, g3, g4, g5, g6, g7, g8, -, -, -, g12, g13, -, g15⟩ := H
  have kA := (h.2.2.2.1 (lA z l) (by unfold lA; omega)).1
  have kB := (h.2.2.2.1 (lB z l) (by unfold lB; omega)).1
  have rA : ∀ num, mR M1 num (lA z l) = mR M num (lA z l) := fun num => h.2.2.2.2.2.1 num _ (by unfold lA; omega) (by unfold lA; omega)
  have e1 : ∀ num, (num = 400 ∨ num = 401 ∨ num = 402 ∨ num = 404 ∨ num = 407) → mI M1 num (lA z l) = mI M num (lA z l) := fun num hnum => h.1 _ _ (by unfold ScI lA; omega) (fun q => t1 _ _ q (by unfold lA; omega)) (by unfold lA; omega)
  have a1 : ∀ o, (o = 241 ∨ o = 242 ∨ o = 243 ∨ o = 244 ∨ o = 247 ∨ o = 250 ∨ o = 251) → mA M1 (X + o) l = mA M (X + o) l := fun o ho => h.2.1 _ _ (by unfold ScA; omega) (fun q => t2 _ _ q (by omega)) (by omega)
  have q1 : mQ M1 (X + 194) l = mQ M (X + 194) l := h.2.2.2.2.1 _ _ (by omega) (fun _ => by omega)
  refine ⟨by rw [q1]; exact g1, by rw [kA]; exact g2, by rw [rA]; exact g3, by rw [kB]; exact g4, by rw [e1 400 (by omega), a1 241 (by omega)]; exact g5, by rw [e1 401 (by omega), a1 242 (by omega)]; exact g6, by rw [e1 402 (by omega), a1 243 (by omega)]; exact g7, by rw [e1 404 (by omega), a1 244 (by omega)]; exact g8, h9, h10, h11, by rw [e1 407 (by omega), a1 247 (by omega)]; exact g12, by rw [e1 407 (by omega)]; exact g13, h14, ?_⟩
  rw [e1 400 (by omega), e1 407 (by omega), rA]
  refine g15.imp_left (fun ⟨y1, y2, y3⟩ => ⟨y1, y2, ?_⟩)
  obtain ⟨p1, p2, p3, p4, p5, p6, p7, p8, p9, p10, p11, p12⟩ := y3
  have kP := (h.2.2.2.1 (lP z l) (by unfold lP; omega)).1
  have kU := h.2.2.2.1 (lU z l) (by unfold lU; omega)
  have kV := h.2.2.2.1 (lV z l) (by unfold lV; omega)
  have rP : ∀ num, mR M1 num (lP z l) = mR M num (lP z l) := fun num => h.2.2.2.2.2.1 num _ (by unfold lP; omega) (by unfold lP; omega)
  have e2 : ∀ num, (num = 702 ∨ num = 703) → mI M1 num (lP z l) = mI M num (lP z l) := fun num hnum => h.1 _ _ (by unfold ScI lP; omega) (fun q => t1 _ _ q (by unfold lP; omega)) (by unfold lP; omega)
  have aU : mA M1 (lU z l) = mA M (lU z l) := funext fun j => h.2.1 _ _ (by unfold ScA lU; omega) (fun q => t2 _ _ q (by unfold lU lB; omega)) (by unfold lU; omega)
  have aV : mA M1 (lV z l) = mA M (lV z l) := funext fun j => h.2.1 _ _ (by unfold ScA lV; omega) (fun q => t2 _ _ q (by unfold lV lB; omega)) (by unfold lV; omega)
  have a2 : mA M1 (X + 2) = mA M (X + 2) := funext fun j => h.2.1 _ _ (by unfold ScA; omega) (fun q => t2 _ _ q (by omega)) (by omega)
  unfold ILp
  rw [rA, rP, rP, kP, kU.1, kU.2, kV.1, kV.2, e2 702 (by omega), e2 703 (by omega), a1 250 (by omega), a1 251 (by omega), aU, aV, a2]
  refine ⟨p1, p2, p3, p4, p5, p6, p7, p8, p9, p10, p11, fun f hf g => ?_⟩
  rw [h.2.1 (X + 248) (8 * l + f) (by unfold ScA; omega) (fun q => t2 _ _ q (by omega)) (by omega), h.2.1 (X + 249) (8 * l + f) (by unfold ScA; omega) (fun q => t2 _ _ q (by omega)) (by omega)]
  exact p12 f hf g
/-- another letter's cells -/
theorem z_apart {M : Mm} {X n l l0 a : Nat} {z : Nat → Nat} (hZ : IZ M X n z) (hl : l < n) (hl0 : l0 < n) (e : l0 ≠ l) (h1 : z l ≤ a) (h2 : a < z (l + 1)) : ¬ (z l0 ≤ a ∧ a < z (l0 + 1)) := by
  rcases Nat.lt_or_ge l l0 with q | q
  · have := z_mo hZ (l := l + 1) (m := l0) (by omega) (by omega); omega
  · have := z_mo hZ (l := l0 + 1) (m := l) (by omega) (by omega); omega
theorem op_lose {M : Mm} {X p n w : Nat} {z : Nat → Nat} (H : Inv M X p n w z) (a : Int32) : ∃ M1 M2 r, f_X10_lose M X a = some (M1, r) ∧ f_X11_lose M1 (X + 226) a = some (M2, r) ∧ Inv M2 X p n w z := by
  obtain ⟨hS, hW, ⟨p8, p1, p2, p3⟩, hD, hC, hQ, hX, hZ, hL, hG, hH, hT⟩ := id H
  have hS1 : St (sI M 1100 (X + 226) 0) X := hS
  have hC1 : IC (sI M 1100 (X + 226) 0) X n := hC
  have d10 : ¬ (1 : Int32) = 0 := by decide
  have hN := z_ge hZ n (Nat.le_refl _)
  have h200 := hC.1
  rcases ix_cases a (n := n) (by omega) with h | ⟨l, hl, rfl⟩
  · refine ⟨M, _, -1, ?_, ?_, inv_thr (v := 0) H⟩
    · unfold f_X10_lose
      simp only [if_pos (k_0 hS), (uw_out hS hC h).1, ob_eq, nm_none]
    · unfold f_X11_lose
      simp only [if_pos (k_226 hS), pi_226 hS, ob_eq, (uw_out hS1 hC1 h).2, if_true]
  have hl8 : l < 200 := by omega
  have z1 := z_ge hZ l (by omega)
  have z2 := hZ.2.1 l hl
  have z3 := z_mo hZ (l := l + 1) (m := n) (by omega) (Nat.le_refl _)
  by_cases c : mA M (X + 246) l = 0
  rotate_left
  · have hL1 : IL (sI M 1100 (X + 226) 0) X p z l := by
      have := inv_thr (v := 0) H
      exact this.2.2.2.2.2.2.2.2.1 l hl
    refine ⟨M, _, -1, ?_, ?_, inv_thr (v := 0) H⟩
    · unfold f_X10_lose
      simp only [if_pos (k_0 hS), (uw hS hC (hL l hl) hl).1, ob_eq, if_neg c, nm_none]
    · unfold f_X11_lose
      have e := (uw hS1 hC1 hL1 hl).2
      rw [show (sI M 1100 (X + 226) 0) = (sI M 1100 (X + 226) 0) from rfl, show mA (sI M 1100 (X + 226) 0) (X + 246) l = mA M (X + 246) l from rfl, if_neg c] at e
      simp only [if_pos (k_226 hS), pi_226 hS, ob_eq, e, if_true]
  obtain ⟨l1, l2, l3, l4, l5, l6, l7, l8, l9, l10, l11, l12, l13, l14, l15⟩ := hL l hl
  have hlA : X + 270 ≤ lA z l ∧ lA z l < z n := by unfold lA; omega
  generalize hMa : sI M 406 (lA z l) 1 = Ma
  have hSa : St Ma X := by rw [← hMa]; exact hS
  have e1011 : mI Ma 1011 X = nI (lc (mA M (X + 246)) n) := by rw [← hMa, mI_sI, if_neg (by decide)]; exact hT
  generalize hM1 : sI Ma 1011 X (nI (lc (mA M (X + 246)) n + 1)) = M1
  have hS1 : St M1 X := by rw [← hM1]; exact hSa
  generalize hMt : sI M1 1100 (X + 226) 0 = Mt
  have hSt : St Mt X := by rw [← hMt]; exact hS1
  have eo : ∀ o, mA Mt (X + o) = mA M (X + o) := fun o => by rw [← hMt, ← hM1, ← hMa]; rfl
  have u1 : f_X11_isUnderWay Mt (X + 226) (nI l) = some 1 := by
    unfold f_X11_isUnderWay
    simp only [if_pos (k_226 hSt), if_neg (nI_pos (by omega : l < 2 ^ 31)), gi_226 hSt, ob_eq, show mI Mt 1116 (X + 226) = nI n by rw [← hMt, ← hM1, ← hMa]; exact hC.2.2.1, if_neg (nI_ge hl (by omega)), r_226_1124 hSt, az_246 hSt hl8, eo, if_pos c]
  refine ⟨M1, sA Mt (X + 246) (va_up (mA M (X + 246)) l 1), 0, ?_, ?_, ?_⟩
  · unfold f_X10_lose
    simp only [if_pos (k_0 hS), (uw hS hC (hL l hl) hl).1, ob_eq, if_pos c, nm_some, pZ_of (v := 1) (num := 406) l2 (Or.inr rfl), hMa, gi_0 hSa, e1011, nI_1, pi_0 hSa, hM1]
  · unfold f_X11_lose
    simp only [if_pos (k_226 hS1), pi_226 hS1, ob_eq, hMt, u1, if_neg d10, r_226_1124 hSt, wz_246 hSt hl8, vz1, eo]
  · have A1 : Ag X (z n) n (fun num a => (num = 406 ∧ a = lA z l) ∨ (num = 1011 ∧ a = X)) (fun a j => a = X + 246 ∧ j = l) T0 M Ma := by rw [← hMa]; exact Ag_sI (Or.inr (Or.inl (Or.inl ⟨rfl, rfl⟩)))
    have A2 : Ag X (z n) n (fun num a => (num = 406 ∧ a = lA z l) ∨ (num = 1011 ∧ a = X)) (fun a j => a = X + 246 ∧ j = l) T0 Ma M1 := by rw [← hM1]; exact Ag_sI (Or.inr (Or.inl (Or.inr ⟨rfl, rfl⟩)))
    have A3 : Ag X (z n) n (fun num a => (num = 406 ∧ a = lA z l) ∨ (num = 1011 ∧ a = X)) (fun a j => a = X + 246 ∧ j = l) T0 M1 Mt := by rw [← hMt]; exact Ag_sI (Or.inl (by unfold ScI; omega))
    have A4 : Ag X (z n) n (fun num a => (num = 406 ∧ a = lA z l) ∨ (num = 1011 ∧ a = X)) (fun a j => a = X + 246 ∧ j = l) T0 Mt (sA Mt (X + 246) (va_up (mA M (X + 246)) l 1)) := Ag_sA (Or.inr (Or.inr (fun j q => (vau_ne (fun e => q ⟨rfl, e⟩)).trans (by rw [eo]))))
    have A := ((A1.tr' A2).tr' A3).tr' A4
    have g246 : mA (sA Mt (X + 246) (va_up (mA M (X + 246)) l 1)) (X + 246) = va_up (mA M (X + 246)) l 1 := by rw [mA_sA, if_pos rfl]
    have g406 : mI (sA Mt (X + 246) (va_up (mA M (X + 246)) l 1)) 406 (lA z l) = 1 := by
      rw [mI_sA, ← hMt, mI_sI, if_neg (by decide), ← hM1, mI_sI, if_neg (by decide), ← hMa, mI_sI, if_pos rfl, if_pos rfl]
    have g1011 : mI (sA Mt (X + 246) (va_up (mA M (X + 246)) l 1)) 1011 X = nI (lc (mA M (X + 246)) n + 1) := by
      rw [mI_sA, ← hMt, mI_sI, if_neg (by decide), ← hM1, mI_sI, if_pos rfl, if_pos rfl]
    refine ⟨St_Ag hN A hS, tr_W hN A hW (by intro a j h; first | exact False.elim h | ((try dsimp only at h); (try simp only [aSq, aSt, aRg, aHd, aHv, aCx, aCh, aCv, aCs, aSh, aSr] at h ⊢); omega)), tr_P hN A ⟨p8, p1, p2, p3⟩ (by intro a j h; first | exact False.elim h | ((try dsimp only at h); (try simp only [aSq, aSt, aRg, aHd, aHv, aCx, aCh, aCv, aCs, aSh, aSr] at h ⊢); omega)) (by intro a j h; first | exact False.elim h | ((try dsimp only at h); (try simp only [aSq, aSt, aRg, aHd, aHv, aCx, aCh, aCv, aCs, aSh, aSr] at h ⊢); omega)) (by intro a j h; first | exact False.elim h | ((try dsimp only at h); (try simp only [aSq, aSt, aRg, aHd, aHv, aCx, aCh, aCv, aCs, aSh, aSr] at h ⊢); omega)), tr_D hN A hD (by intro a j h; first | exact False.elim h | ((try dsimp only at h); (try simp only [aSq, aSt, aRg, aHd, aHv, aCx, aCh, aCv, aCs, aSh, aSr] at h ⊢); omega)) (by intro a j h; first | exact False.elim h | ((try dsimp only at h); (try simp only [aSq, aSt, aRg, aHd, aHv, aCx, aCh, aCv, aCs, aSh, aSr] at h ⊢); omega)), tr_C hN A hC (by intro a j h; first | exact False.elim h | ((try dsimp only at h); (try simp only [aSq, aSt, aRg, aHd, aHv, aCx, aCh, aCv, aCs, aSh, aSr] at h ⊢); omega)), fun i hi => tr_Q hN p8 hW.2.2.2 hi A (hQ i hi) (by intro a j h; first | exact False.elim h | ((try dsimp only at h); (try simp only [aSq, aSt, aRg, aHd, aHv, aCx, aCh, aCv, aCs, aSh, aSr] at h ⊢); omega)) (by intro a j h; first | exact False.elim h | ((try dsimp only at h); (try simp only [aSq, aSt, aRg, aHd, aHv, aCx, aCh, aCv, aCs, aSh, aSr] at h ⊢); omega)) (by intro a j h; first | exact False.elim h | ((try dsimp only at h); (try simp only [aSq, aSt, aRg, aHd, aHv, aCx, aCh, aCv, aCs, aSh, aSr] at h ⊢); omega)), fun i hi => tr_X hN p8 hi A (hX i hi) (by intro a j h; first | exact False.elim h | ((try dsimp only at h); (try simp only [aSq, aSt, aRg, aHd, aHv, aCx, aCh, aCv, aCs, aSh, aSr] at h ⊢); omega)) (by intro a j h; first | exact False.elim h | ((try dsimp only at h); (try simp only [aSq, aSt, aRg, aHd, aHv, aCx, aCh, aCv, aCs, aSh, aSr] at h ⊢); omega)) (by intro a j h; first | exact False.elim h | ((try dsimp only at h); (try simp only [aSq, aSt, aRg, aHd, aHv, aCx, aCh, aCv, aCs, aSh, aSr] at h ⊢); omega)), tr_Z A hZ, fun l0 hl0 => ?_, tr_G hN A hG (by intro a j h; first | exact False.elim h | ((try dsimp only at h); (try simp only [aSq, aSt, aRg, aHd, aHv, aCx, aCh, aCv, aCs, aSh, aSr] at h ⊢); omega)) (by intro a j h; first | exact False.elim h | ((try dsimp only at h); (try simp only [aSq, aSt, aRg, aHd, aHv, aCx, aCh, aCv, aCs, aSh, aSr] at h ⊢); omega)) (by intro a j h; first | exact False.elim h | ((try dsimp only at h); (try simp only [aSq, aSt, aRg, aHd, aHv, aCx, aCh, aCv, aCs, aSh, aSr] at h ⊢); omega)), fun s hs => tr_H hN hs A (hH s hs) (by intro a j h; first | exact False.elim h | ((try dsimp only at h); (try simp only [aSq, aSt, aRg, aHd, aHv, aCx, aCh, aCv, aCs, aSh, aSr] at h ⊢); omega)) (by intro a j h; first | exact False.elim h | ((try dsimp only at h); (try simp only [aSq, aSt, aRg, aHd, aHv, aCx, aCh, aCv, aCs, aSh, aSr] at h ⊢); omega)) (by intro a j h; first | exact False.elim h | ((try dsimp only at h); (try simp only [aSq, aSt, aRg, aHd, aHv, aCx, aCh, aCv, aCs, aSh, aSr] at h ⊢); omega)), ?_⟩
    · by_cases e : l0 = l
      rotate_left
      · have y1 := z_ge hZ l0 (by omega)
        have y3 := z_apart hZ hl hl0 e (a := lA z l) (by unfold lA; omega) (by unfold lA; omega)
        exact tr_L p8 hZ hl0 (Nat.le_refl _) (Nat.le_refl _) A (hL l0 hl0) (by intro num a h; rcases h with ⟨-, rfl⟩ | ⟨-, rfl⟩; exact y3; omega) (by intro a j h; omega)
      · subst e
        refine IL_mk p8 hZ hl (Nat.le_refl _) (Nat.le_refl _) A (hL l0 hl) (by intro num a h; omega) (by intro a j h; omega) ?_ (by rw [g246, vau_eq, g406]) (Or.inr g406) (ILb_Ag hZ hl (Nat.le_refl _) A l14 (by intro a j h; unfold lB; omega))
        rw [A.2.1 (X + 245) l0 (by unfold ScA; omega) (by omega) (by omega), A.1 405 (lA z l0) (by unfold ScI; omega) (by omega) (by omega)]
        exact l9
    · unfold IT
      rw [g1011, g246, lc_up c hl]
end
section
theorem hb_eq {M : Mm} {X p l len : Nat} {z : Nat → Nat} {b : Int32} (hL : IL M X p z l) (b3 : mN M (lB z l) = len) : f_X4_hasByte M (lA z l) b = some (if b < 0 then 0 else if nI len ≤ b then 0 else 1) := by
  unfold f_X4_hasByte
  rw [if_pos hL.2.1, gR_of hL.2.1 hL.2.2.1, ob_eq, aL_of hL.2.2.2.1 (by decide) (by decide) b3, ob_eq]
  by_cases h1 : b < 0
  · simp only [if_pos h1]
  · by_cases h2 : nI len ≤ b
    · simp only [if_neg h1, if_pos h2]
    · simp only [if_neg h1, if_neg h2]
theorem op_bend {M : Mm} {X p n w : Nat} {z : Nat → Nat} (H : Inv M X p n w z) (a b c : Int32) : ∃ M1 M2 r, f_X10_bend M X a b c = some (M1, r) ∧ f_X11_bend M1 (X + 226) a b c = some (M2, r) ∧ Inv M2 X p n w z := by
  obtain ⟨hS, hW, ⟨p8, p1, p2, p3⟩, hD, hC, hQ, hX, hZ, hL, hG, hH, hT⟩ := id H
  have hS1 : St (sI M 1100 (X + 226) 0) X := hS
  have hC1 : IC (sI M 1100 (X + 226) 0) X n := hC
  have d10 : ¬ (1 : Int32) = 0 := by decide
  have hN := z_ge hZ n (Nat.le_refl _)
  have h200 := hC.1
  rcases ix_cases a (n := n) (by omega) with h | ⟨l, hl, rfl⟩
  · refine ⟨M, _, -1, ?_, ?_, inv_thr (v := 0) H⟩
    · unfold f_X10_bend
      simp only [if_pos (k_0 hS), (uw_out hS hC h).1, ob_eq, nm_none]
    · unfold f_X11_bend
      simp only [if_pos (k_226 hS), pi_226 hS, ob_eq, (uw_out hS1 hC1 h).2, if_true]
  have hl8 : l < 200 := by omega
  have z1 := z_ge hZ l (by omega)
  have z2 := hZ.2.1 l hl
  have z3 := z_mo hZ (l := l + 1) (m := n) (by omega) (Nat.le_refl _)
  have hL1 : IL (sI M 1100 (X + 226) 0) X p z l := (inv_thr (v := 0) H).2.2.2.2.2.2.2.2.1 l hl
  have u1 := (uw hS hC (hL l hl) hl).1
  have u2 := (uw hS1 hC1 hL1 hl).2
  rw [show mA (sI M 1100 (X + 226) 0) (X + 246) l = mA M (X + 246) l from rfl] at u2
  by_cases c0 : mA M (X + 246) l = 0
  rotate_left
  · rw [if_neg c0] at u1 u2
    refine ⟨M, _, -1, ?_, ?_, inv_thr (v := 0) H⟩
    · unfold f_X10_bend
      simp only [if_pos (k_0 hS), u1, ob_eq, nm_none]
    · unfold f_X11_bend
      simp only [if_pos (k_226 hS), pi_226 hS, ob_eq, u2, if_true]
  rw [if_pos c0] at u1 u2
  obtain ⟨l1, l2, l3, l4, l5, l6, l7, l8, l9, l10, l11, l12, l13, ⟨len, b1, b2, b3, b4, b5⟩, l15⟩ := id (hL l hl)
  have hb := hb_eq (b := b) (hL l hl) b3
  have b4' : mA (sI M 1100 (X + 226) 0) (X + 239) l = nI len := b4
  rcases ix_cases b (n := len) (by omega) with h | ⟨k, hk, rfl⟩
  · have hb0 : f_X4_hasByte M (lA z l) b = some 0 := by
      rw [hb]
      by_cases q : b < 0
      · rw [if_pos q]
      · rw [if_neg q, if_pos (h.resolve_left q)]
    refine ⟨M, _, -1, ?_, ?_, inv_thr (v := 0) H⟩
    · unfold f_X10_bend
      simp only [if_pos (k_0 hS), u1, ob_eq, nm_some, hb0, if_true]
    · unfold f_X11_bend
      simp only [if_pos (k_226 hS), pi_226 hS, ob_eq, u2, if_neg d10, r_226_1117 hS1, ai_239 hS1 hl8, b4']
      by_cases q : b < 0
      · simp only [if_pos q]
      · simp only [if_neg q, if_pos (h.resolve_left q)]
  have e1 : ¬ nI k < 0 := nI_pos (by omega)
  have e2 : ¬ nI len ≤ nI k := nI_ge hk (by omega)
  rw [if_neg e1, if_neg e2] at hb
  by_cases c1 : c < 1
  · refine ⟨M, _, -1, ?_, ?_, inv_thr (v := 0) H⟩
    · unfold f_X10_bend
      simp only [if_pos (k_0 hS), u1, ob_eq, nm_some, hb, if_neg d10, if_pos c1]
    · unfold f_X11_bend
      simp only [if_pos (k_226 hS), pi_226 hS, ob_eq, u2, if_neg d10, r_226_1117 hS1, ai_239 hS1 hl8, b4', if_neg e1, if_neg e2, isIn_1_255, if_pos c1, if_true]
  by_cases c2 : c ≤ 255
  rotate_left
  · refine ⟨M, _, -1, ?_, ?_, inv_thr (v := 0) H⟩
    · unfold f_X10_bend
      simp only [if_pos (k_0 hS), u1, ob_eq, nm_some, hb, if_neg d10, if_neg c1, if_neg c2]
    · unfold f_X11_bend
      simp only [if_pos (k_226 hS), pi_226 hS, ob_eq, u2, if_neg d10, r_226_1117 hS1, ai_239 hS1 hl8, b4', if_neg e1, if_neg e2, isIn_1_255, if_neg c1, if_pos (Int32.not_le.mp c2), if_true]
  obtain ⟨m, hm, rfl⟩ : ∃ m, m ≤ 255 ∧ c = nI m := by
    refine nI_of2 (by decide) (fun q => c1 ?_) c2
    have h1 := Int32.lt_iff_toInt_lt.mp q
    refine Int32.lt_iff_toInt_lt.mpr ?_
    have e0 : (0 : Int32).toInt = 0 := by decide
    have e1 : (1 : Int32).toInt = 1 := by decide
    omega
  obtain ⟨v, v1, v2, v3⟩ := b5 k hk
  have hx : v ^^^ m < 256 := Nat.xor_lt_two_pow (n := 8) (by omega) (by omega)
  generalize hM1 : sA M (lB z l) (va_up (mA M (lB z l)) k (nI (v ^^^ m))) = M1
  have hS1 : St M1 X := by rw [← hM1]; exact hS
  generalize hMt : sI M1 1100 (X + 226) 0 = Mt
  have hSt : St Mt X := by rw [← hMt]; exact hS1
  have hlB : X + 270 ≤ lB z l ∧ lB z l < z n := by unfold lB; omega
  have eo : ∀ o, o < 270 → mA Mt (X + o) = mA M (X + o) := fun o ho => by
    rw [← hMt, ← hM1, mA_sI, mA_sA, if_neg (by omega)]
  have u3 : f_X11_isUnderWay Mt (X + 226) (nI l) = some 1 := by
    unfold f_X11_isUnderWay
    simp only [if_pos (k_226 hSt), if_neg (nI_pos (by omega : l < 2 ^ 31)), gi_226 hSt, ob_eq, show mI Mt 1116 (X + 226) = nI n by rw [← hMt, ← hM1]; exact hC.2.2.1, if_neg (nI_ge hl (by omega)), r_226_1124 hSt, az_246 hSt hl8, eo 246 (by decide), if_pos c0]
  have m1b : mA M1 (lB z l) = va_up (mA M (lB z l)) k (nI (v ^^^ m)) := by rw [← hM1, mA_sA, if_pos rfl]
  have k1b : mK M1 (lB z l) = 20 := by rw [← hM1]; exact l4
  have n1b : mN M1 (lB z l) = len := by rw [← hM1]; exact b3
  have k1a : mK M1 (lA z l) = 5 := by rw [← hM1]; exact l2
  have r1a : mR M1 403 (lA z l) = some (lB z l) := by rw [← hM1]; exact l3
  have hkk : 64 * l + k < 12800 := by omega
  have e240 : mA Mt (X + 240) (64 * l + k) = nI v := by rw [eo 240 (by decide)]; exact v3
  generalize hM2 : sA Mt (X + 240) (va_up (mA M (X + 240)) (64 * l + k) (nI (v ^^^ m))) = M2
  have hS2 : St M2 X := by rw [← hM2]; exact hSt
  have m2r : mA M2 (X + 240) = va_up (mA M (X + 240)) (64 * l + k) (nI (v ^^^ m)) := by rw [← hM2, mA_sA, if_pos rfl]
  refine ⟨M1, M2, nI (v ^^^ m), ?_, ?_, ?_⟩
  · unfold f_X10_bend
    simp only [if_pos (k_0 hS), u1, ob_eq, nm_some, hb, if_neg d10, if_neg c1, if_pos c2, gR_of l2 l3, aI_of l4 b3 hk (by omega), v2, xorI, wI_of l4 b3 hk (by omega), hM1, gR_of k1a r1a, aI_of k1b n1b hk (by omega), m1b, vau_eq]
  · unfold f_X11_bend
    simp only [if_pos (k_226 hS1), pi_226 hS1, ob_eq, hMt, u3, if_neg d10, if_neg e1, r_226_1117 hSt, ai_239 hSt hl8, eo 239 (by decide), b4, if_neg e2, isIn_1_255, if_neg c1, if_neg (Int32.not_lt.mpr c2), r_226_1118 hSt, m64, nI_add, ai_240 hSt hkk, wi_240 hSt hkk, e240, xorI, eo 240 (by decide), hM2, r_226_1118 hS2, ai_240 hS2 hkk, m2r, vau_eq]
  · have A1 : Ag X (z n) n T0 (fun a j => a = lB z l ∨ (a = X + 240 ∧ j = 64 * l + k)) T0 M M1 := by rw [← hM1]; exact Ag_sA (Or.inr (Or.inr (fun j q => absurd (Or.inl rfl) q)))
    have A2 : Ag X (z n) n T0 (fun a j => a = lB z l ∨ (a = X + 240 ∧ j = 64 * l + k)) T0 M1 Mt := by rw [← hMt]; exact Ag_sI (Or.inl (by unfold ScI; omega))
    have A3 : Ag X (z n) n T0 (fun a j => a = lB z l ∨ (a = X + 240 ∧ j = 64 * l + k)) T0 Mt M2 := by rw [← hM2]; exact Ag_sA (Or.inr (Or.inr (fun j q => (vau_ne (fun e => q (Or.inr ⟨rfl, e⟩))).trans (by rw [eo 240 (by decide)]))))
    have A := (A1.tr' A2).tr' A3
    refine ⟨St_Ag hN A hS, tr_W hN A hW (by intro a j h; first | exact False.elim h | ((try dsimp only at h); (try simp only [aSq, aSt, aRg, aHd, aHv, aCx, aCh, aCv, aCs, aSh, aSr] at h ⊢); omega)), tr_P hN A ⟨p8, p1, p2, p3⟩ (by intro a j h; first | exact False.elim h | ((try dsimp only at h); (try simp only [aSq, aSt, aRg, aHd, aHv, aCx, aCh, aCv, aCs, aSh, aSr] at h ⊢); omega)) (by intro a j h; first | exact False.elim h | ((try dsimp only at h); (try simp only [aSq, aSt, aRg, aHd, aHv, aCx, aCh, aCv, aCs, aSh, aSr] at h ⊢); omega)) (by intro a j h; first | exact False.elim h | ((try dsimp only at h); (try simp only [aSq, aSt, aRg, aHd, aHv, aCx, aCh, aCv, aCs, aSh, aSr] at h ⊢); omega)), tr_D hN A hD (by intro a j h; first | exact False.elim h | ((try dsimp only at h); (try simp only [aSq, aSt, aRg, aHd, aHv, aCx, aCh, aCv, aCs, aSh, aSr] at h ⊢); omega)) (by intro a j h; first | exact False.elim h | ((try dsimp only at h); (try simp only [aSq, aSt, aRg, aHd, aHv, aCx, aCh, aCv, aCs, aSh, aSr] at h ⊢); omega)), tr_C hN A hC (by intro a j h; first | exact False.elim h | ((try dsimp only at h); (try simp only [aSq, aSt, aRg, aHd, aHv, aCx, aCh, aCv, aCs, aSh, aSr] at h ⊢); omega)), fun i hi => tr_Q hN p8 hW.2.2.2 hi A (hQ i hi) (by intro a j h; first | exact False.elim h | ((try dsimp only at h); (try simp only [aSq, aSt, aRg, aHd, aHv, aCx, aCh, aCv, aCs, aSh, aSr] at h ⊢); omega)) (by intro a j h; first | exact False.elim h | ((try dsimp only at h); (try simp only [aSq, aSt, aRg, aHd, aHv, aCx, aCh, aCv, aCs, aSh, aSr] at h ⊢); omega)) (by intro a j h; first | exact False.elim h | ((try dsimp only at h); (try simp only [aSq, aSt, aRg, aHd, aHv, aCx, aCh, aCv, aCs, aSh, aSr] at h ⊢); omega)), fun i hi => tr_X hN p8 hi A (hX i hi) (by intro a j h; first | exact False.elim h | ((try dsimp only at h); (try simp only [aSq, aSt, aRg, aHd, aHv, aCx, aCh, aCv, aCs, aSh, aSr] at h ⊢); omega)) (by intro a j h; first | exact False.elim h | ((try dsimp only at h); (try simp only [aSq, aSt, aRg, aHd, aHv, aCx, aCh, aCv, aCs, aSh, aSr] at h ⊢); omega)) (by intro a j h; first | exact False.elim h | ((try dsimp only at h); (try simp only [aSq, aSt, aRg, aHd, aHv, aCx, aCh, aCv, aCs, aSh, aSr] at h ⊢); omega)), tr_Z A hZ, fun l0 hl0 => ?_, tr_G hN A hG (by intro a j h; first | exact False.elim h | ((try dsimp only at h); (try simp only [aSq, aSt, aRg, aHd, aHv, aCx, aCh, aCv, aCs, aSh, aSr] at h ⊢); omega)) (by intro a j h; first | exact False.elim h | ((try dsimp only at h); (try simp only [aSq, aSt, aRg, aHd, aHv, aCx, aCh, aCv, aCs, aSh, aSr] at h ⊢); omega)) (by intro a j h; first | exact False.elim h | ((try dsimp only at h); (try simp only [aSq, aSt, aRg, aHd, aHv, aCx, aCh, aCv, aCs, aSh, aSr] at h ⊢); omega)), fun s hs => tr_H hN hs A (hH s hs) (by intro a j h; first | exact False.elim h | ((try dsimp only at h); (try simp only [aSq, aSt, aRg, aHd, aHv, aCx, aCh, aCv, aCs, aSh, aSr] at h ⊢); omega)) (by intro a j h; first | exact False.elim h | ((try dsimp only at h); (try simp only [aSq, aSt, aRg, aHd, aHv, aCx, aCh, aCv, aCs, aSh, aSr] at h ⊢); omega)) (by intro a j h; first | exact False.elim h | ((try dsimp only at h); (try simp only [aSq, aSt, aRg, aHd, aHv, aCx, aCh, aCv, aCs, aSh, aSr] at h ⊢); omega)), tr_T hN A hT (by intro a j h; first | exact False.elim h | ((try dsimp only at h); (try simp only [aSq, aSt, aRg, aHd, aHv, aCx, aCh, aCv, aCs, aSh, aSr] at h ⊢); omega)) (by intro a j h; first | exact False.elim h | ((try dsimp only at h); (try simp only [aSq, aSt, aRg, aHd, aHv, aCx, aCh, aCv, aCs, aSh, aSr] at h ⊢); omega))⟩
    by_cases e : l0 = l
    rotate_left
    · have y1 := z_ge hZ l0 (by omega)
      have y3 := z_apart hZ hl hl0 e (a := lB z l) (by unfold lB; omega) (by unfold lB; omega)
      exact tr_L p8 hZ hl0 (Nat.le_refl _) (Nat.le_refl _) A (hL l0 hl0) (by intro num a h; exact False.elim h) (by intro a j h; omega)
    · subst e
      have m2b : mA M2 (lB z l0) = va_up (mA M (lB z l0)) k (nI (v ^^^ m)) := by
        rw [← hM2, mA_sA, if_neg (by omega), ← hMt, mA_sI, m1b]
      refine IL_mk p8 hZ hl (Nat.le_refl _) (Nat.le_refl _) A (hL l0 hl) (by intro num a h; exact False.elim h) (by intro a j h; unfold lB at *; omega) ?_ ?_ ?_ ?_
      · rw [A.2.1 (X + 245) l0 (by unfold ScA; omega) (by omega) (by omega), A.1 405 (lA z l0) (by unfold ScI; omega) (fun q => q.elim) (by unfold lA; omega)]
        exact l9
      · rw [A.2.1 (X + 246) l0 (by unfold ScA; omega) (by omega) (by omega), A.1 406 (lA z l0) (by unfold ScI; omega) (fun q => q.elim) (by unfold lA; omega)]
        exact l10
      · rw [A.1 406 (lA z l0) (by unfold ScI; omega) (fun q => q.elim) (by unfold lA; omega)]
        exact l11
      · refine ⟨len, b1, b2, by rw [(A.2.2.2.1 (lB z l0) (by omega)).2]; exact b3, by rw [A.2.1 (X + 239) l0 (by unfold ScA; omega) (by omega) (by omega)]; exact b4, fun k2 hk2 => ?_⟩
        rw [m2b, m2r]
        by_cases e3 : k2 = k
        · subst e3
          rw [vau_eq, vau_eq]
          exact ⟨v ^^^ m, hx, rfl, rfl⟩
        · rw [vau_ne e3, vau_ne (by omega)]
          exact b5 k2 hk2
end
section
/-! Shelves. -/
theorem sB_sB (M : Mm) (a : Nat) (g g2 : Nat → Int64) : sB (sB M a g) a g2 = sB M a g2 := by
  have e : va_up (va_up (mB M) a g) a g2 = va_up (mB M) a g2 := bx_uu _ _ _ _
  show (mK M, mN M, mI M, mJ M, mR M, mA M, va_up (va_up (mB M) a g) a g2, mQ M, mS M) = _
  rw [e]; rfl
theorem sB_self (M : Mm) (a : Nat) {g : Nat → Int64} (h : ∀ j, g j = mB M a j) : sB M a g = M := by
  have e : va_up (mB M) a g = mB M := by
    funext x
    by_cases q : x = a
    · subst q; rw [vau_eq]; exact funext h
    · rw [vau_ne q]
  show (mK M, mN M, mI M, mJ M, mR M, mA M, va_up (mB M) a g, mQ M, mS M) = _
  rw [e]; rfl
theorem sA_sA (M : Mm) (a : Nat) (g g2 : Nat → Int32) : sA (sA M a g) a g2 = sA M a g2 := by
  have e : va_up (va_up (mA M) a g) a g2 = va_up (mA M) a g2 := bx_uu _ _ _ _
  show (mK M, mN M, mI M, mJ M, mR M, va_up (va_up (mA M) a g) a g2, mB M, mQ M, mS M) = _
  rw [e]; rfl
theorem sA_self (M : Mm) (a : Nat) {g : Nat → Int32} (h : ∀ j, g j = mA M a j) : sA M a g = M := by
  have e : va_up (mA M) a g = mA M := by
    funext x
    by_cases q : x = a
    · subst q; rw [vau_eq]; exact funext h
    · rw [vau_ne q]
  show (mK M, mN M, mI M, mJ M, mR M, va_up (mA M) a g, mB M, mQ M, mS M) = _
  rw [e]; rfl
theorem fillJ_loop {M : Mm} {a n : Nat} {v : Int64} (hk : mK M a = 21) (hn : mN M a = n) (h9 : n < 900) : ∀ d i fu, i + d = n → d < fu → f_J7_fill_d0a16_L6 fu (sB M a (fun j => if j < i then v else mB M a j)) a v (nI i) (nI n) = some (sB M a (fun j => if j < n then v else mB M a j)) := by
  intro d
  induction d with
  | zero =>
    intro i fu h1 h2
    obtain ⟨fu, rfl⟩ : ∃ k, fu = k + 1 := ⟨fu - 1, by omega⟩
    have e : i = n := by omega
    subst e
    rw [f_J7_fill_d0a16_L6, if_pos (nI_le (Nat.le_refl _) (by omega))]
  | succ d ih =>
    intro i fu h1 h2
    obtain ⟨fu, rfl⟩ : ∃ k, fu = k + 1 := ⟨fu - 1, by omega⟩
    rw [f_J7_fill_d0a16_L6, if_neg (nI_ge (by omega) (by omega)), wJ_of (n := n) (show mK (sB M a _) a = 21 from hk) (show mN (sB M a _) a = n from hn) (by omega) (by omega), ob_eq, sB_sB, nI_1]
    have e := ih (i + 1) fu (by omega) (by omega)
    have e2 : va_up (mB (sB M a (fun j => if j < i then v else mB M a j)) a) i v = fun j => if j < i + 1 then v else mB M a j := by
      funext j
      rw [mB_sB, if_pos rfl]
      by_cases q : j = i
      · subst q; rw [vau_eq, if_pos (by omega)]
      · rw [vau_ne q]
        by_cases q2 : j < i
        · rw [if_pos q2, if_pos (by omega)]
        · rw [if_neg q2, if_neg (by omega)]
    rw [e2]
    exact e
theorem fillJ {M : Mm} {a n : Nat} {v : Int64} (hk : mK M a = 21) (hn : mN M a = n) (h9 : n < 900) : f_J7_fill_d0a16 M a v = some (sB M a (fun j => if j < n then v else mB M a j)) := by
  unfold f_J7_fill_d0a16
  rw [aL_of hk (by decide) (by decide) hn, ob_eq]
  have e := fillJ_loop (v := v) hk hn h9 n 0 1000 (by omega) (by omega)
  rw [sB_self M a (g := fun j => if j < 0 then v else mB M a j) (fun j => if_neg (Nat.not_lt_zero j))] at e
  exact e
theorem fillI_loop {M : Mm} {a n : Nat} {v : Int32} (hk : mK M a = 20) (hn : mN M a = n) (h9 : n < 900) : ∀ d i fu, i + d = n → d < fu → f_J7_fill_53178_L5 fu (sA M a (fun j => if j < i then v else mA M a j)) a v (nI i) (nI n) = some (sA M a (fun j => if j < n then v else mA M a j)) := by
  intro d
  induction d with
  | zero =>
    intro i fu h1 h2
    obtain ⟨fu, rfl⟩ : ∃ k, fu = k + 1 := ⟨fu - 1, by omega⟩
    have e : i = n := by omega
    subst e
    rw [f_J7_fill_53178_L5, if_pos (nI_le (Nat.le_refl _) (by omega))]
  | succ d ih =>
    intro i fu h1 h2
    obtain ⟨fu, rfl⟩ : ∃ k, fu = k + 1 := ⟨fu - 1, by omega⟩
    rw [f_J7_fill_53178_L5, if_neg (nI_ge (by omega) (by omega)), wI_of (n := n) (show mK (sA M a _) a = 20 from hk) (show mN (sA M a _) a = n from hn) (by omega) (by omega), ob_eq, sA_sA, nI_1]
    have e := ih (i + 1) fu (by omega) (by omega)
    have e2 : va_up (mA (sA M a (fun j => if j < i then v else mA M a j)) a) i v = fun j => if j < i + 1 then v else mA M a j := by
      funext j
      rw [mA_sA, if_pos rfl]
      by_cases q : j = i
      · subst q; rw [vau_eq, if_pos (by omega)]
      · rw [vau_ne q]
        by_cases q2 : j < i
        · rw [if_pos q2, if_pos (by omega)]
        · rw [if_neg q2, if_neg (by omega)]
    rw [e2]
    exact e
theorem fillI {M : Mm} {a n : Nat} {v : Int32} (hk : mK M a = 20) (hn : mN M a = n) (h9 : n < 900) : f_J7_fill_53178 M a v = some (sA M a (fun j => if j < n then v else mA M a j)) := by
  unfold f_J7_fill_53178
  rw [aL_of hk (by decide) (by decide) hn, ob_eq]
  have e := fillI_loop (v := v) hk hn h9 n 0 1000 (by omega) (by omega)
  rw [sA_self M a (g := fun j => if j < 0 then v else mA M a j) (fun j => if_neg (Nat.not_lt_zero j))] at e
  exact e
theorem hr_eq {M : Mm} {X s sz : Nat} {what : Int32} (hS : St M X) (hs : s < 8) (hz : sz ≤ 60) : f_X8_holdRow M (aSh X s) what (nI sz) = some (sB (sI (sI M 801 (aSh X s) what) 802 (aSh X s) (nI sz)) (aSr X s) (fun j => if j < 60 then 0 else mB M (aSr X s) j)) := by
  have h1 : ¬ (60 : Int32) < nI sz := nI_nlt (a := 60) (b := sz) hz (by omega)
  have h2 : (if 0 < nI sz then nI sz else 0) = nI sz := by
    by_cases q : sz = 0
    · subst q; rfl
    · have q2 : (0 : Int32) < nI sz := nI_lt (a := 0) (by omega) (by omega)
      rw [if_pos q2]
  unfold f_X8_holdRow
  rw [if_pos (k_aSh hS hs), pi_aSh hS hs, ob_eq, if_neg h1, h2, pi_aSh (M := sI M 801 (aSh X s) what) hS hs, ob_eq, r_aSh_800 (M := sI (sI M 801 (aSh X s) what) 802 (aSh X s) (nI sz)) hS hs, ob_eq, fillJ (n := 60) (k_aSr (M := sI (sI M 801 (aSh X s) what) 802 (aSh X s) (nI sz)) hS hs) (n_aSr (M := sI (sI M 801 (aSh X s) what) 802 (aSh X s) (nI sz)) hS hs) (by decide), ob_eq]
  rfl
theorem op_put {M : Mm} {X p n w : Nat} {z : Nat → Nat} (H : Inv M X p n w z) (a b c : Int32) : ∃ M1 M2 r, f_X10_put M X a b c = some (M1, r) ∧ f_X11_put M1 (X + 226) a b c = some (M2, r) ∧ Inv M2 X p n w z := by
  obtain ⟨hS, hW, ⟨p8, p1, p2, p3⟩, hD, hC, hQ, hX, hZ, hL, hG, hH, hT⟩ := id H
  have hS1 : St (sI M 1100 (X + 226) 0) X := hS
  have d10 : ¬ (1 : Int32) = 0 := by decide
  have hN := z_ge hZ n (Nat.le_refl _)
  rcases ix_cases a (n := 8) (by omega) with h | ⟨s, hs, rfl⟩
  · refine ⟨M, _, -1, ?_, ?_, inv_thr (v := 0) H⟩
    · unfold f_X10_put
      simp only [if_pos (k_0 hS), (fl_out h).2.2.1, ob_eq, if_true]
    · unfold f_X11_put
      simp only [if_pos (k_226 hS), pi_226 hS, (fl_out h).2.2.2, ob_eq, if_true]
  by_cases c0 : c < 0
  · refine ⟨M, _, -1, ?_, ?_, inv_thr (v := 0) H⟩
    · unfold f_X10_put
      simp only [if_pos (k_0 hS), (fl_in hs).2.2.1, ob_eq, if_neg d10, if_pos c0]
    · unfold f_X11_put
      simp only [if_pos (k_226 hS), pi_226 hS, (fl_in hs).2.2.2, ob_eq, if_neg d10, isIn_0_30000, if_pos c0, if_true]
  by_cases c1 : c ≤ 30000
  rotate_left
  · refine ⟨M, _, -1, ?_, ?_, inv_thr (v := 0) H⟩
    · unfold f_X10_put
      simp only [if_pos (k_0 hS), (fl_in hs).2.2.1, ob_eq, if_neg d10, if_neg c0, if_neg c1]
    · unfold f_X11_put
      simp only [if_pos (k_226 hS), pi_226 hS, (fl_in hs).2.2.2, ob_eq, if_neg d10, isIn_0_30000, if_neg c0, if_pos (Int32.not_le.mp c1), if_true]
  obtain ⟨h1, hk, h2, h3, h4, h5⟩ := id (hH s hs)
  have h3' : mA (sI M 1100 (X + 226) 0) (X + 265) s = nI hk := h3
  by_cases e0 : hk = 0
  · subst e0
    refine ⟨M, _, -11, ?_, ?_, inv_thr (v := 0) H⟩
    · unfold f_X10_put
      simp only [if_pos (k_0 hS), (fl_in hs).2.2.1, ob_eq, if_neg d10, if_neg c0, if_pos c1, r_0_1006 hS, q_sh hS hs, gi_aSh hS hs, h1, h3, if_pos (show nI 0 = 0 from rfl)]
    · unfold f_X11_put
      simp only [if_pos (k_226 hS), pi_226 hS, (fl_in hs).2.2.2, ob_eq, if_neg d10, isIn_0_30000, if_neg c0, if_neg (Int32.not_lt.mpr c1), r_226_1153 hS1, ai_265 hS1 hs, h3', if_neg (by decide : ¬ (2 : Int32) ≤ nI 0), if_pos (show nI 0 = 0 from rfl)]
  by_cases e1 : hk = 1
  · subst e1
    refine ⟨M, _, -12, ?_, ?_, inv_thr (v := 0) H⟩
    · unfold f_X10_put
      simp only [if_pos (k_0 hS), (fl_in hs).2.2.1, ob_eq, if_neg d10, if_neg c0, if_pos c1, r_0_1006 hS, q_sh hS hs, gi_aSh hS hs, h1, h3, if_neg (by decide : ¬ nI 1 = 0), if_pos (show nI 1 = 1 from rfl)]
    · unfold f_X11_put
      simp only [if_pos (k_226 hS), pi_226 hS, (fl_in hs).2.2.2, ob_eq, if_neg d10, isIn_0_30000, if_neg c0, if_neg (Int32.not_lt.mpr c1), r_226_1153 hS1, ai_265 hS1 hs, h3', if_neg (by decide : ¬ (2 : Int32) ≤ nI 1), if_neg (by decide : ¬ nI 1 = 0)]
  obtain ⟨sz, s1, s2, s3, s4⟩ := h5 (by omega)
  have n0 : ¬ nI hk = 0 := nI_ne0 (by omega) (by omega)
  have n1 : ¬ nI hk = 1 := fun q => e1 ((nI_eq (a := hk) (b := 1) (by omega) (by decide)).mp q)
  have n2 : (2 : Int32) ≤ nI hk := nI_le (a := 2) (by omega) (by omega)
  have hpl : f_X8_hasPlaces M (aSh X s) b 1 = some (if b < 0 then 0 else if nI sz - 1 < b then 0 else 1) := by
    unfold f_X8_hasPlaces
    simp only [if_pos (k_aSh hS hs), if_neg (by decide : ¬ (1 : Int32) < 0), gi_aSh hS hs, ob_eq, s2]
    by_cases q : b < 0
    · simp only [if_pos q]
    · by_cases q2 : nI sz - 1 < b
      · simp only [if_neg q, if_pos q2]
      · simp only [if_neg q, if_neg q2]
  have s3' : mA (sI M 1100 (X + 226) 0) (X + 266) s = nI sz := s3
  rcases ix_cases b (n := sz) (by omega) with h | ⟨k, hkk, rfl⟩
  · have hp0 : f_X8_hasPlaces M (aSh X s) b 1 = some 0 := by
      rw [hpl]
      by_cases q : b < 0
      · rw [if_pos q]
      · have q2 := Int32.le_iff_toInt_le.mp (h.resolve_left q)
        have q3 : nI sz - 1 < b := by
          refine Int32.lt_iff_toInt_lt.mpr ?_
          have q4 := pk_sub_toInt (a := sz) (b := 1) (by omega) (by decide)
          rw [show (nI sz - 1).toInt = _ from q4]
          rw [nI_toInt (by omega)] at q2
          omega
        rw [if_neg q, if_pos q3]
    refine ⟨M, _, -13, ?_, ?_, inv_thr (v := 0) H⟩
    · unfold f_X10_put
      simp only [if_pos (k_0 hS), (fl_in hs).2.2.1, ob_eq, if_neg d10, if_neg c0, if_pos c1, r_0_1006 hS, q_sh hS hs, gi_aSh hS hs, h1, h3, if_neg n0, if_neg n1, hp0, if_true]
    · unfold f_X11_put
      simp only [if_pos (k_226 hS), pi_226 hS, (fl_in hs).2.2.2, ob_eq, if_neg d10, isIn_0_30000, if_neg c0, if_neg (Int32.not_lt.mpr c1), r_226_1153 hS1, ai_265 hS1 hs, h3', if_pos n2, r_226_1154 hS1, ai_266 hS1 hs, s3']
      by_cases q : b < 0
      · simp only [if_pos q]
      · simp only [if_neg q, if_neg (not_le_of_out h q)]
  have hp1 : f_X8_hasPlaces M (aSh X s) (nI k) 1 = some 1 := by
    rw [hpl, if_neg (nI_pos (by omega)), if_neg]
    intro q
    have q1 := Int32.lt_iff_toInt_lt.mp q
    rw [show (nI sz - 1).toInt = _ from pk_sub_toInt (a := sz) (b := 1) (by omega) (by decide), nI_toInt (by omega)] at q1
    omega
  have hk60 : k < 60 := by omega
  have hk5 : 64 * s + k < 512 := by omega
  generalize hM1 : sB M (aSr X s) (va_up (mB M (aSr X s)) k c.toInt64) = M1
  have hS1 : St M1 X := by rw [← hM1]; exact hS
  generalize hMt : sI M1 1100 (X + 226) 0 = Mt
  have hSt : St Mt X := by rw [← hMt]; exact hS1
  have eA : mA Mt = mA M := by rw [← hMt, ← hM1]; rfl
  have e268 : mB Mt (X + 268) = mB M (X + 268) := by rw [← hMt, mB_sI, ← hM1, mB_sB, if_neg (by unfold aSr; omega)]
  generalize hM2 : sB Mt (X + 268) (va_up (mB M (X + 268)) (64 * s + k) c.toInt64) = M2
  refine ⟨M1, M2, mB M (aSr X s) k, ?_, ?_, ?_⟩
  · unfold f_X10_put
    simp only [if_pos (k_0 hS), (fl_in hs).2.2.1, ob_eq, if_neg d10, if_neg c0, if_pos c1, r_0_1006 hS, q_sh hS hs, gi_aSh hS hs, h1, h3, if_neg n0, if_neg n1, hp1, r_aSh_800 hS hs, aj_aSr hS hs hk60, wj_aSr hS hs hk60, hM1]
  · unfold f_X11_put
    simp only [if_pos (k_226 hS1), pi_226 hS1, (fl_in hs).2.2.2, ob_eq, if_neg d10, isIn_0_30000, if_neg c0, if_neg (Int32.not_lt.mpr c1), hMt, r_226_1153 hSt, ai_265 hSt hs, eA, h3, if_pos n2, if_neg (nI_pos (by omega : k < 2 ^ 31)), r_226_1154 hSt, ai_266 hSt hs, s3, if_pos (nI_lt hkk (by omega)), r_226_1156 hSt, m64, nI_add, aj_268 hSt hk5, wj_268 hSt hk5, e268, hM2, s4 k hkk]
  · have A1 : Ag X (z n) n T0 T0 (fun a j => a = aSr X s ∨ (a = X + 268 ∧ j = 64 * s + k)) M M1 := by rw [← hM1]; exact Ag_sB (Or.inr (Or.inr (fun j q => absurd (Or.inl rfl) q)))
    have A2 : Ag X (z n) n T0 T0 (fun a j => a = aSr X s ∨ (a = X + 268 ∧ j = 64 * s + k)) M1 Mt := by rw [← hMt]; exact Ag_sI (Or.inl (by unfold ScI; omega))
    have A3 : Ag X (z n) n T0 T0 (fun a j => a = aSr X s ∨ (a = X + 268 ∧ j = 64 * s + k)) Mt M2 := by rw [← hM2]; exact Ag_sB (Or.inr (Or.inr (fun j q => (vau_ne (fun e => q (Or.inr ⟨rfl, e⟩))).trans (by rw [e268]))))
    have A := (A1.tr' A2).tr' A3
    refine ⟨St_Ag hN A hS, tr_W hN A hW (by intro a j h; first | exact False.elim h | ((try dsimp only at h); (try simp only [aSq, aSt, aRg, aHd, aHv, aCx, aCh, aCv, aCs, aSh, aSr] at h ⊢); omega)), tr_P hN A ⟨p8, p1, p2, p3⟩ (by intro a j h; first | exact False.elim h | ((try dsimp only at h); (try simp only [aSq, aSt, aRg, aHd, aHv, aCx, aCh, aCv, aCs, aSh, aSr] at h ⊢); omega)) (by intro a j h; first | exact False.elim h | ((try dsimp only at h); (try simp only [aSq, aSt, aRg, aHd, aHv, aCx, aCh, aCv, aCs, aSh, aSr] at h ⊢); omega)) (by intro a j h; first | exact False.elim h | ((try dsimp only at h); (try simp only [aSq, aSt, aRg, aHd, aHv, aCx, aCh, aCv, aCs, aSh, aSr] at h ⊢); omega)), tr_D hN A hD (by intro a j h; first | exact False.elim h | ((try dsimp only at h); (try simp only [aSq, aSt, aRg, aHd, aHv, aCx, aCh, aCv, aCs, aSh, aSr] at h ⊢); omega)) (by intro a j h; first | exact False.elim h | ((try dsimp only at h); (try simp only [aSq, aSt, aRg, aHd, aHv, aCx, aCh, aCv, aCs, aSh, aSr] at h ⊢); omega)), tr_C hN A hC (by intro a j h; first | exact False.elim h | ((try dsimp only at h); (try simp only [aSq, aSt, aRg, aHd, aHv, aCx, aCh, aCv, aCs, aSh, aSr] at h ⊢); omega)), fun i hi => tr_Q hN p8 hW.2.2.2 hi A (hQ i hi) (by intro a j h; first | exact False.elim h | ((try dsimp only at h); (try simp only [aSq, aSt, aRg, aHd, aHv, aCx, aCh, aCv, aCs, aSh, aSr] at h ⊢); omega)) (by intro a j h; first | exact False.elim h | ((try dsimp only at h); (try simp only [aSq, aSt, aRg, aHd, aHv, aCx, aCh, aCv, aCs, aSh, aSr] at h ⊢); omega)) (by intro a j h; first | exact False.elim h | ((try dsimp only at h); (try simp only [aSq, aSt, aRg, aHd, aHv, aCx, aCh, aCv, aCs, aSh, aSr] at h ⊢); omega)), fun i hi => tr_X hN p8 hi A (hX i hi) (by intro a j h; first | exact False.elim h | ((try dsimp only at h); (try simp only [aSq, aSt, aRg, aHd, aHv, aCx, aCh, aCv, aCs, aSh, aSr] at h ⊢); omega)) (by intro a j h; first | exact False.elim h | ((try dsimp only at h); (try simp only [aSq, aSt, aRg, aHd, aHv, aCx, aCh, aCv, aCs, aSh, aSr] at h ⊢); omega)) (by intro a j h; first | exact False.elim h | ((try dsimp only at h); (try simp only [aSq, aSt, aRg, aHd, aHv, aCx, aCh, aCv, aCs, aSh, aSr] at h ⊢); omega)), tr_Z A hZ, fun l hl => tr_L p8 hZ hl (Nat.le_refl _) (Nat.le_refl _) A (hL l hl) (by have zz := z_ge hZ l (by omega); intro a j h; first | exact False.elim h | ((try dsimp only at h); (try simp only [aSq, aSt, aRg, aHd, aHv, aCx, aCh, aCv, aCs, aSh, aSr] at h ⊢); omega)) (by have zz := z_ge hZ l (by omega); intro a j h; first | exact False.elim h | ((try dsimp only at h); (try simp only [aSq, aSt, aRg, aHd, aHv, aCx, aCh, aCv, aCs, aSh, aSr] at h ⊢); omega)), tr_G hN A hG (by intro a j h; first | exact False.elim h | ((try dsimp only at h); (try simp only [aSq, aSt, aRg, aHd, aHv, aCx, aCh, aCv, aCs, aSh, aSr] at h ⊢); omega)) (by intro a j h; first | exact False.elim h | ((try dsimp only at h); (try simp only [aSq, aSt, aRg, aHd, aHv, aCx, aCh, aCv, aCs, aSh, aSr] at h ⊢); omega)) (by intro a j h; first | exact False.elim h | ((try dsimp only at h); (try simp only [aSq, aSt, aRg, aHd, aHv, aCx, aCh, aCv, aCs, aSh, aSr] at h ⊢); omega)), fun s0 hs0 => ?_, tr_T hN A hT (by intro a j h; first | exact False.elim h | ((try dsimp only at h); (try simp only [aSq, aSt, aRg, aHd, aHv, aCx, aCh, aCv, aCs, aSh, aSr] at h ⊢); omega)) (by intro a j h; first | exact False.elim h | ((try dsimp only at h); (try simp only [aSq, aSt, aRg, aHd, aHv, aCx, aCh, aCv, aCs, aSh, aSr] at h ⊢); omega))⟩
    by_cases e : s0 = s
    rotate_left
    · exact tr_H hN hs0 A (hH s0 hs0) (by intro a j h; first | exact False.elim h | ((try dsimp only at h); (try simp only [aSq, aSt, aRg, aHd, aHv, aCx, aCh, aCv, aCs, aSh, aSr] at h ⊢); omega)) (by intro a j h; first | exact False.elim h | ((try dsimp only at h); (try simp only [aSq, aSt, aRg, aHd, aHv, aCx, aCh, aCv, aCs, aSh, aSr] at h ⊢); omega)) (by intro a j h; first | exact False.elim h | ((try dsimp only at h); (try simp only [aSq, aSt, aRg, aHd, aHv, aCx, aCh, aCv, aCs, aSh, aSr] at h ⊢); omega))
    subst e
    have gI : ∀ num, 801 ≤ num → num ≤ 804 → mI M2 num (aSh X s0) = mI M num (aSh X s0) := fun num q1 q2 => A.1 _ _ (by unfold ScI; omega) (fun q => q.elim) (by unfold aSh; omega)
    have gA : ∀ o, 265 ≤ o → o ≤ 267 → mA M2 (X + o) s0 = mA M (X + o) s0 := fun o q1 q2 => A.2.1 _ _ (by unfold ScA; omega) (fun q => q.elim) (by omega)
    have m2 : mB M2 (X + 268) = va_up (mB M (X + 268)) (64 * s0 + k) c.toInt64 := by rw [← hM2, mB_sB, if_pos rfl]
    have m1 : mB M2 (aSr X s0) = va_up (mB M (aSr X s0)) k c.toInt64 := by rw [← hM2, mB_sB, if_neg (by unfold aSr; omega), ← hMt, mB_sI, ← hM1, mB_sB, if_pos rfl]
    refine ⟨by rw [gI 801 (by decide) (by decide), gA 265 (by decide) (by decide)]; exact h1, hk, h2, by rw [gA 265 (by decide) (by decide)]; exact h3, fun q => absurd q e1, fun _ => ⟨sz, s1, by rw [gI 802 (by decide) (by decide)]; exact s2, by rw [gA 266 (by decide) (by decide)]; exact s3, fun k2 hk2 => ?_⟩⟩
    rw [m2, m1]
    by_cases e3 : k2 = k
    · subst e3; rw [vau_eq, vau_eq]
    · rw [vau_ne (by omega), vau_ne e3]; exact s4 k2 hk2
end
section
/-! Loops, and rows written place by place. -/
theorem loop_run {α : Type} (F : Nat → Nat → Option α) (n : Nat) (r : Option α) (hs : ∀ i fu, i < n → F (fu + 1) i = F fu (i + 1)) (he : ∀ fu, F (fu + 1) n = r) : ∀ fu, n < fu → F fu 0 = r := by
  have main : ∀ d i fu, i + d = n → d < fu → F fu i = r := by
    intro d
    induction d with
    | zero =>
      intro i fu h1 h2
      obtain ⟨fu, rfl⟩ : ∃ k, fu = k + 1 := ⟨fu - 1, by omega⟩
      have e : i = n := by omega
      rw [e]; exact he fu
    | succ d ih =>
      intro i fu h1 h2
      obtain ⟨fu, rfl⟩ : ∃ k, fu = k + 1 := ⟨fu - 1, by omega⟩
      rw [hs i fu (by omega)]
      exact ih (i + 1) fu (by omega) (by omega)
  intro fu h
  exact main n 0 fu (by omega) h
def wr {α : Type} (g : Nat → α) (lo i : Nat) (v : Nat → α) : Nat → α := fun j => if lo ≤ j ∧ j < lo + i then v (j - lo) else g j
theorem wr_0 {α : Type} (g : Nat → α) (lo : Nat) (v : Nat → α) : wr g lo 0 v = g := by
  funext j; unfold wr; rw [if_neg (by omega)]
theorem wr_s {α : Type} (g : Nat → α) (lo i : Nat) (v : Nat → α) : va_up (wr g lo i v) (lo + i) (v i) = wr g lo (i + 1) v := by
  funext j
  unfold wr
  by_cases e : j = lo + i
  · subst e; rw [vau_eq, if_pos (by omega)]; congr 1; omega
  · rw [vau_ne e]
    by_cases q : lo ≤ j ∧ j < lo + i
    · rw [if_pos q, if_pos (by omega)]
    · rw [if_neg q, if_neg (by omega)]
theorem wr_in {α : Type} {g : Nat → α} {lo i k : Nat} {v : Nat → α} (h : k < i) : wr g lo i v (lo + k) = v k := by
  unfold wr; rw [if_pos (by omega)]; congr 1; omega
theorem wr_out {α : Type} {g : Nat → α} {lo i j : Nat} {v : Nat → α} (h : ¬ (lo ≤ j ∧ j < lo + i)) : wr g lo i v j = g j := by
  unfold wr; rw [if_neg h]
section AgC
variable {X N n : Nat} {TI TA TB : Nat → Nat → Prop} {M M1 : Mm}
theorem Ag.cI {k b : Nat} {v : Int32} (h : Ag X N n TI TA TB M M1) (q : ScI X k b ∨ TI k b ∨ N ≤ b) : Ag X N n TI TA TB M (sI M1 k b v) := h.tr' (Ag_sI q)
theorem Ag.cJ {k b : Nat} {v : Int64} (h : Ag X N n TI TA TB M M1) : Ag X N n TI TA TB M (sJ M1 k b v) := h.tr' Ag_sJ
theorem Ag.cA {b : Nat} {g : Nat → Int32} (h : Ag X N n TI TA TB M M1) (q : ScA X b ∨ N ≤ b ∨ ∀ j, ¬ TA b j → g j = mA M1 b j) : Ag X N n TI TA TB M (sA M1 b g) := h.tr' (Ag_sA q)
theorem Ag.cB {b : Nat} {g : Nat → Int64} (h : Ag X N n TI TA TB M M1) (q : ScB X b ∨ N ≤ b ∨ ∀ j, ¬ TB b j → g j = mB M1 b j) : Ag X N n TI TA TB M (sB M1 b g) := h.tr' (Ag_sB q)
theorem Ag.cAu {b i : Nat} {v : Int32} (h : Ag X N n TI TA TB M M1) (q : ScA X b ∨ N ≤ b ∨ TA b i) : Ag X N n TI TA TB M (sA M1 b (va_up (mA M1 b) i v)) := h.cA (q.imp_right (fun q => q.imp_right (fun q j t => vau_ne (fun e => t (e ▸ q)))))
theorem Ag.cBu {b i : Nat} {v : Int64} (h : Ag X N n TI TA TB M M1) (q : ScB X b ∨ N ≤ b ∨ TB b i) : Ag X N n TI TA TB M (sB M1 b (va_up (mB M1 b) i v)) := h.cB (q.imp_right (fun q => q.imp_right (fun q j t => vau_ne (fun e => t (e ▸ q)))))
theorem Ag.cBw {b lo i : Nat} {v : Nat → Int64} (h : Ag X N n TI TA TB M M1) (q : ∀ j, lo ≤ j → j < lo + i → TB b j) : Ag X N n TI TA TB M (sB M1 b (wr (mB M1 b) lo i v)) := h.cB (Or.inr (Or.inr (fun j t => wr_out (fun ⟨e1, e2⟩ => t (q j e1 e2)))))
theorem Ag.cAw {b lo i : Nat} {v : Nat → Int32} (h : Ag X N n TI TA TB M M1) (q : ∀ j, lo ≤ j → j < lo + i → TA b j) : Ag X N n TI TA TB M (sA M1 b (wr (mA M1 b) lo i v)) := h.cA (Or.inr (Or.inr (fun j t => wr_out (fun ⟨e1, e2⟩ => t (q j e1 e2)))))
end AgC
def TIs (X s : Nat) : Nat → Nat → Prop := fun num a => 801 ≤ num ∧ num ≤ 804 ∧ a = aSh X s
def TAs (X s : Nat) : Nat → Nat → Prop := fun a j => (a = X + 265 ∨ a = X + 266 ∨ a = X + 267) ∧ j = s
def TBs (X s : Nat) : Nat → Nat → Prop := fun a j => a = aSr X s ∨ (a = X + 268 ∧ 64 * s ≤ j ∧ j < 64 * s + 64)
theorem inv_shelf {M M2 : Mm} {X p n w s : Nat} {z : Nat → Nat} (H : Inv M X p n w z) (hs : s < 8) (A : Ag X (z n) n (TIs X s) (TAs X s) (TBs X s) M M2) (hI : IH M2 X s) : Inv M2 X p n w z := by
  obtain ⟨hS, hW, ⟨p8, p1, p2, p3⟩, hD, hC, hQ, hX, hZ, hL, hG, hH, hT⟩ := id H
  have hN := z_ge hZ n (Nat.le_refl _)
  unfold TIs TAs TBs at A
  refine ⟨St_Ag hN A hS, tr_W hN A hW (by intro a j h; first | exact False.elim h | ((try dsimp only at h); (try simp only [aSq, aSt, aRg, aHd, aHv, aCx, aCh, aCv, aCs, aSh, aSr] at h ⊢); omega)), tr_P hN A ⟨p8, p1, p2, p3⟩ (by intro a j h; first | exact False.elim h | ((try dsimp only at h); (try simp only [aSq, aSt, aRg, aHd, aHv, aCx, aCh, aCv, aCs, aSh, aSr] at h ⊢); omega)) (by intro a j h; first | exact False.elim h | ((try dsimp only at h); (try simp only [aSq, aSt, aRg, aHd, aHv, aCx, aCh, aCv, aCs, aSh, aSr] at h ⊢); omega)) (by intro a j h; first | exact False.elim h | ((try dsimp only at h); (try simp only [aSq, aSt, aRg, aHd, aHv, aCx, aCh, aCv, aCs, aSh, aSr] at h ⊢); omega)), tr_D hN A hD (by intro a j h; first | exact False.elim h | ((try dsimp only at h); (try simp only [aSq, aSt, aRg, aHd, aHv, aCx, aCh, aCv, aCs, aSh, aSr] at h ⊢); omega)) (by intro a j h; first | exact False.elim h | ((try dsimp only at h); (try simp only [aSq, aSt, aRg, aHd, aHv, aCx, aCh, aCv, aCs, aSh, aSr] at h ⊢); omega)), tr_C hN A hC (by intro a j h; first | exact False.elim h | ((try dsimp only at h); (try simp only [aSq, aSt, aRg, aHd, aHv, aCx, aCh, aCv, aCs, aSh, aSr] at h ⊢); omega)), fun i hi => tr_Q hN p8 hW.2.2.2 hi A (hQ i hi) (by intro a j h; first | exact False.elim h | ((try dsimp only at h); (try simp only [aSq, aSt, aRg, aHd, aHv, aCx, aCh, aCv, aCs, aSh, aSr] at h ⊢); omega)) (by intro a j h; first | exact False.elim h | ((try dsimp only at h); (try simp only [aSq, aSt, aRg, aHd, aHv, aCx, aCh, aCv, aCs, aSh, aSr] at h ⊢); omega)) (by intro a j h; first | exact False.elim h | ((try dsimp only at h); (try simp only [aSq, aSt, aRg, aHd, aHv, aCx, aCh, aCv, aCs, aSh, aSr] at h ⊢); omega)), fun i hi => tr_X hN p8 hi A (hX i hi) (by intro a j h; first | exact False.elim h | ((try dsimp only at h); (try simp only [aSq, aSt, aRg, aHd, aHv, aCx, aCh, aCv, aCs, aSh, aSr] at h ⊢); omega)) (by intro a j h; first | exact False.elim h | ((try dsimp only at h); (try simp only [aSq, aSt, aRg, aHd, aHv, aCx, aCh, aCv, aCs, aSh, aSr] at h ⊢); omega)) (by intro a j h; first | exact False.elim h | ((try dsimp only at h); (try simp only [aSq, aSt, aRg, aHd, aHv, aCx, aCh, aCv, aCs, aSh, aSr] at h ⊢); omega)), tr_Z A hZ, fun l hl => tr_L p8 hZ hl (Nat.le_refl _) (Nat.le_refl _) A (hL l hl) (by have zz := z_ge hZ l (by omega); intro a j h; first | exact False.elim h | ((try dsimp only at h); (try simp only [aSq, aSt, aRg, aHd, aHv, aCx, aCh, aCv, aCs, aSh, aSr] at h ⊢); omega)) (by have zz := z_ge hZ l (by omega); intro a j h; first | exact False.elim h | ((try dsimp only at h); (try simp only [aSq, aSt, aRg, aHd, aHv, aCx, aCh, aCv, aCs, aSh, aSr] at h ⊢); omega)), tr_G hN A hG (by intro a j h; first | exact False.elim h | ((try dsimp only at h); (try simp only [aSq, aSt, aRg, aHd, aHv, aCx, aCh, aCv, aCs, aSh, aSr] at h ⊢); omega)) (by intro a j h; first | exact False.elim h | ((try dsimp only at h); (try simp only [aSq, aSt, aRg, aHd, aHv, aCx, aCh, aCv, aCs, aSh, aSr] at h ⊢); omega)) (by intro a j h; first | exact False.elim h | ((try dsimp only at h); (try simp only [aSq, aSt, aRg, aHd, aHv, aCx, aCh, aCv, aCs, aSh, aSr] at h ⊢); omega)), fun s0 hs0 => ?_, tr_T hN A hT (by intro a j h; first | exact False.elim h | ((try dsimp only at h); (try simp only [aSq, aSt, aRg, aHd, aHv, aCx, aCh, aCv, aCs, aSh, aSr] at h ⊢); omega)) (by intro a j h; first | exact False.elim h | ((try dsimp only at h); (try simp only [aSq, aSt, aRg, aHd, aHv, aCx, aCh, aCv, aCs, aSh, aSr] at h ⊢); omega))⟩
  by_cases e : s0 = s
  · subst e; exact hI
  · exact tr_H hN hs0 A (hH s0 hs0) (by intro a j h; first | exact False.elim h | ((try dsimp only at h); (try simp only [aSq, aSt, aRg, aHd, aHv, aCx, aCh, aCv, aCs, aSh, aSr] at h ⊢); omega)) (by intro a j h; first | exact False.elim h | ((try dsimp only at h); (try simp only [aSq, aSt, aRg, aHd, aHv, aCx, aCh, aCv, aCs, aSh, aSr] at h ⊢); omega)) (by intro a j h; first | exact False.elim h | ((try dsimp only at h); (try simp only [aSq, aSt, aRg, aHd, aHv, aCx, aCh, aCv, aCs, aSh, aSr] at h ⊢); omega))
theorem mk_loop {M : Mm} {X s sz : Nat} (hS : St M X) (hs : s < 8) (hz : sz ≤ 60) : f_X11_make_L58 1000 M (X + 226) (nI s) (nI sz) 0 = some (sB M (X + 268) (wr (mB M (X + 268)) (64 * s) sz (fun _ => 0)), 0) := by
  have e := loop_run (fun fu i => f_X11_make_L58 fu (sB M (X + 268) (wr (mB M (X + 268)) (64 * s) i (fun _ => 0))) (X + 226) (nI s) (nI sz) (nI i)) sz (some (sB M (X + 268) (wr (mB M (X + 268)) (64 * s) sz (fun _ => 0)), 0))
    (fun i fu hi => by
      have hS1 : St (sB M (X + 268) (wr (mB M (X + 268)) (64 * s) i (fun _ => 0))) X := St_sB hS
      show f_X11_make_L58 (fu + 1) (sB M (X + 268) (wr (mB M (X + 268)) (64 * s) i (fun _ => 0))) (X + 226) (nI s) (nI sz) (nI i) = f_X11_make_L58 fu (sB M (X + 268) (wr (mB M (X + 268)) (64 * s) (i + 1) (fun _ => 0))) (X + 226) (nI s) (nI sz) (nI (i + 1))
      rw [f_X11_make_L58, if_neg (nI_ge hi (by omega)), r_226_1156 hS1, ob_eq, m64, nI_add, wj_268 hS1 (by omega), ob_eq, mB_sB, if_pos rfl, sB_sB, wr_s (v := fun _ => (0 : Int64)), nI_1])
    (fun fu => by
      show f_X11_make_L58 (fu + 1) _ (X + 226) (nI s) (nI sz) (nI sz) = _
      rw [f_X11_make_L58, if_pos (nI_le (Nat.le_refl _) (by omega))]) 1000 (by omega)
  have e2 : sB M (X + 268) (wr (mB M (X + 268)) (64 * s) 0 (fun _ => 0)) = M := sB_self _ _ (fun j => by rw [wr_0])
  rw [e2] at e
  exact e
theorem op_make {M : Mm} {X p n w : Nat} {z : Nat → Nat} (H : Inv M X p n w z) (a b c : Int32) : ∃ M1 M2 r, f_X10_make M X a b c = some (M1, r) ∧ f_X11_make M1 (X + 226) a b c = some (M2, r) ∧ Inv M2 X p n w z := by
  obtain ⟨hS, hW, ⟨p8, p1, p2, p3⟩, hD, hC, hQ, hX, hZ, hL, hG, hH, hT⟩ := id H
  have d10 : ¬ (1 : Int32) = 0 := by decide
  have hN := z_ge hZ n (Nat.le_refl _)
  rcases ix_cases a (n := 8) (by omega) with h | ⟨s, hs, rfl⟩
  · refine ⟨M, _, -1, ?_, ?_, inv_thr (v := 0) H⟩
    · unfold f_X10_make
      simp only [if_pos (k_0 hS), (fl_out h).2.2.1, ob_eq, if_true]
    · unfold f_X11_make
      simp only [if_pos (k_226 hS), pi_226 hS, (fl_out h).2.2.2, ob_eq, if_true]
  by_cases b0 : b < 2
  · refine ⟨M, _, -1, ?_, ?_, inv_thr (v := 0) H⟩
    · unfold f_X10_make
      simp only [if_pos (k_0 hS), (fl_in hs).2.2.1, ob_eq, if_neg d10, if_pos b0]
    · unfold f_X11_make
      simp only [if_pos (k_226 hS), pi_226 hS, (fl_in hs).2.2.2, ob_eq, if_neg d10, isIn_2_4, if_pos b0, if_true]
  by_cases b1 : 4 < b
  · refine ⟨M, _, -1, ?_, ?_, inv_thr (v := 0) H⟩
    · unfold f_X10_make
      simp only [if_pos (k_0 hS), (fl_in hs).2.2.1, ob_eq, if_neg d10, if_neg b0, if_pos b1]
    · unfold f_X11_make
      simp only [if_pos (k_226 hS), pi_226 hS, (fl_in hs).2.2.2, ob_eq, if_neg d10, isIn_2_4, if_neg b0, if_pos b1, if_true]
  by_cases c1 : c ≤ 60
  rotate_left
  · refine ⟨M, _, -1, ?_, ?_, inv_thr (v := 0) H⟩
    · unfold f_X10_make
      simp only [if_pos (k_0 hS), (fl_in hs).2.2.1, ob_eq, if_neg d10, if_neg b0, if_neg b1, if_neg c1]
    · unfold f_X11_make
      simp only [if_pos (k_226 hS), pi_226 hS, (fl_in hs).2.2.2, ob_eq, if_neg d10, isIn_2_4, if_neg b0, if_neg b1, if_neg c1]
  by_cases c0 : 0 ≤ c
  rotate_left
  · refine ⟨M, _, -14, ?_, ?_, inv_thr (v := 0) H⟩
    · unfold f_X10_make
      simp only [if_pos (k_0 hS), (fl_in hs).2.2.1, ob_eq, if_neg d10, if_neg b0, if_neg b1, if_pos c1, if_neg c0]
    · unfold f_X11_make
      simp only [if_pos (k_226 hS), pi_226 hS, (fl_in hs).2.2.2, ob_eq, if_neg d10, isIn_2_4, if_neg b0, if_neg b1, if_pos c1, if_neg c0]
  rcases rg_cases c 60 (by decide) with h | h | ⟨sz, hsz, rfl⟩
  · exact absurd c0 (Int32.not_le.mpr h)
  · exact absurd c1 (Int32.not_le.mpr h)
  rcases rg_cases b 4 (by decide) with h | h | ⟨hk, hk4, rfl⟩
  · exact absurd (Int32.lt_trans h (by decide)) b0
  · exact absurd h b1
  have hk2 : 2 ≤ hk := by
    apply Nat.le_of_not_lt
    intro q
    exact b0 (nI_lt (b := 2) q (by decide))
  generalize hM1 : sB (sI (sI M 801 (aSh X s) (nI hk)) 802 (aSh X s) (nI sz)) (aSr X s) (fun j => if j < 60 then 0 else mB M (aSr X s) j) = M1
  have hS1 : St M1 X := by rw [← hM1]; exact St_sB (St_sI (St_sI hS))
  generalize hMt : sI M1 1100 (X + 226) 0 = Mt
  have hSt : St Mt X := by rw [← hMt]; exact St_sI hS1
  generalize hMa : sA Mt (X + 265) (va_up (mA Mt (X + 265)) s (nI hk)) = Ma
  have hSa : St Ma X := by rw [← hMa]; exact St_sA hSt
  generalize hMb : sA Ma (X + 266) (va_up (mA Ma (X + 266)) s (nI sz)) = Mb
  have hSb : St Mb X := by rw [← hMb]; exact St_sA hSa
  refine ⟨M1, sB Mb (X + 268) (wr (mB Mb (X + 268)) (64 * s) sz (fun _ => 0)), 0, ?_, ?_, inv_shelf H hs ?_ ?_⟩
  · unfold f_X10_make
    simp only [if_pos (k_0 hS), (fl_in hs).2.2.1, ob_eq, if_neg d10, if_neg b0, if_neg b1, if_pos c1, if_pos c0, r_0_1006 hS, q_sh hS hs, hr_eq hS hs hsz, hM1]
  · unfold f_X11_make
    simp only [if_pos (k_226 hS1), pi_226 hS1, (fl_in hs).2.2.2, ob_eq, if_neg d10, isIn_2_4, if_neg b0, if_neg b1, if_pos c1, if_pos c0, hMt, r_226_1153 hSt, wi_265 hSt hs, hMa, r_226_1154 hSa, wi_266 hSa hs, hMb, mk_loop hSb hs hsz]
  · subst hMb; subst hMa; subst hMt; subst hM1
    refine Ag.cBw (Ag.cAu (Ag.cAu (Ag.cI (Ag.cB (Ag.cI (Ag.cI Ag.rf ?_) ?_) ?_) ?_) ?_) ?_) ?_
    · exact Or.inr (Or.inl ⟨by decide, by decide, rfl⟩)
    · exact Or.inr (Or.inl ⟨by decide, by decide, rfl⟩)
    · exact Or.inr (Or.inr (fun j t => absurd (Or.inl rfl) t))
    · exact Or.inl (by unfold ScI; omega)
    · exact Or.inr (Or.inr ⟨by omega, rfl⟩)
    · exact Or.inr (Or.inr ⟨by omega, rfl⟩)
    · exact fun j q1 q2 => Or.inr ⟨rfl, q1, by omega⟩
  · have a265 : mA (sB Mb (X + 268) (wr (mB Mb (X + 268)) (64 * s) sz (fun _ => 0))) (X + 265) s = nI hk := by
      rw [mA_sB, ← hMb, mA_sA, if_neg (by omega), ← hMa, mA_sA, if_pos rfl, vau_eq]
    have a266 : mA (sB Mb (X + 268) (wr (mB Mb (X + 268)) (64 * s) sz (fun _ => 0))) (X + 266) s = nI sz := by
      rw [mA_sB, ← hMb, mA_sA, if_pos rfl, vau_eq]
    have eI : ∀ num, ¬ num = 1100 → mI (sB Mb (X + 268) (wr (mB Mb (X + 268)) (64 * s) sz (fun _ => 0))) num = mI M1 num := by
      intro num hn
      rw [mI_sB, ← hMb, mI_sA, ← hMa, mI_sA, ← hMt]
      funext y; rw [mI_sI, if_neg hn]
    have i801 : mI M1 801 (aSh X s) = nI hk := by rw [← hM1, mI_sB, mI_sI, if_neg (by decide), mI_sI, if_pos rfl, if_pos rfl]
    have i802 : mI M1 802 (aSh X s) = nI sz := by rw [← hM1, mI_sB, mI_sI, if_pos rfl, if_pos rfl]
    have eB : mB (sB Mb (X + 268) (wr (mB Mb (X + 268)) (64 * s) sz (fun _ => 0))) (aSr X s) = fun j => if j < 60 then 0 else mB M (aSr X s) j := by
      rw [mB_sB, if_neg (by unfold aSr; omega), ← hMb, mB_sA, ← hMa, mB_sA, ← hMt, mB_sI, ← hM1, mB_sB, if_pos rfl]
    refine ⟨by rw [eI 801 (by decide), a265]; exact i801, hk, hk4, a265, fun q => absurd hk2 (by omega), fun _ => ⟨sz, hsz, by rw [eI 802 (by decide)]; exact i802, a266, fun k hkk => ?_⟩⟩
    rw [eB, mB_sB, if_pos rfl, wr_in hkk]
    show (0 : Int64) = if k < 60 then 0 else _
    rw [if_pos (by omega)]
end
section
/-! keep -/
theorem wr0_s {α : Type} (g : Nat → α) (i : Nat) (v : Nat → α) : va_up (wr g 0 i v) i (v i) = wr g 0 (i + 1) v := by
  have e := wr_s g 0 i v
  rw [Nat.zero_add] at e
  exact e
theorem wr0_in {α : Type} {g : Nat → α} {i k : Nat} {v : Nat → α} (h : k < i) : wr g 0 i v k = v k := by
  have e := wr_in (g := g) (lo := 0) (v := v) h
  rw [Nat.zero_add] at e
  exact e
/-- the reference's loop: one step -/
theorem kl_step {M : Mm} {X s i : Nat} {x2 x3 : Int32} {v : Nat → Int64} {F : Mm → Nat → Int32 → Int32 → Int32 → Int32 → Option (Mm × Int32)} (hS : St M X) (hi : 64 * s + i < 512) : f_X11_keep_J188 F (sB M (X + 268) (wr (mB M (X + 268)) (64 * s) i v)) (X + 226) (nI s) x2 x3 (nI i) (X + 268) ((64 * nI s) + nI i) (v i) = F (sB M (X + 268) (wr (mB M (X + 268)) (64 * s) (i + 1) v)) (X + 226) (nI s) x2 x3 (nI (i + 1)) := by
  have hS1 : St (sB M (X + 268) (wr (mB M (X + 268)) (64 * s) i v)) X := St_sB hS
  unfold f_X11_keep_J188
  rw [m64, nI_add, wj_268 hS1 hi, ob_eq, mB_sB, if_pos rfl, sB_sB, wr_s, nI_1]
theorem kl12 {M : Mm} {X s l sz hk : Nat} (hS : St M X) (hs : s < 8) (hl : l < 200) (hz : sz ≤ 60) (h1 : hk < 3) (h266 : mA M (X + 266) s = nI sz) : f_X11_keep_L112 1000 M (X + 226) (nI s) (nI hk) (nI l) 0 = some (sB M (X + 268) (wr (mB M (X + 268)) (64 * s) sz (fun i => (mA M (X + 240) (64 * l + i)).toInt64)), 0) := by
  have e := loop_run (fun fu i => f_X11_keep_L112 fu (sB M (X + 268) (wr (mB M (X + 268)) (64 * s) i (fun i => (mA M (X + 240) (64 * l + i)).toInt64))) (X + 226) (nI s) (nI hk) (nI l) (nI i)) sz (some (sB M (X + 268) (wr (mB M (X + 268)) (64 * s) sz (fun i => (mA M (X + 240) (64 * l + i)).toInt64)), 0))
    (fun i fu hi => by
      have hS1 : St (sB M (X + 268) (wr (mB M (X + 268)) (64 * s) i (fun i => (mA M (X + 240) (64 * l + i)).toInt64))) X := St_sB hS
      have e3 : ¬ (3 : Int32) ≤ nI hk := nI_ge (b := 3) h1 (by decide)
      show f_X11_keep_L112 (fu + 1) (sB M (X + 268) (wr (mB M (X + 268)) (64 * s) i (fun i => (mA M (X + 240) (64 * l + i)).toInt64))) (X + 226) (nI s) (nI hk) (nI l) (nI i) = f_X11_keep_L112 fu (sB M (X + 268) (wr (mB M (X + 268)) (64 * s) (i + 1) (fun i => (mA M (X + 240) (64 * l + i)).toInt64))) (X + 226) (nI s) (nI hk) (nI l) (nI (i + 1))
      rw [f_X11_keep_L112, r_226_1154 hS1, ob_eq, ai_266 hS1 hs, ob_eq, mA_sB, h266, if_neg (nI_ge hi (by omega)), r_226_1156 hS1, ob_eq, if_neg e3, r_226_1118 hS1, ob_eq, m64 l, nI_add, ai_240 hS1 (by omega), ob_eq, mA_sB]
      exact kl_step (F := f_X11_keep_L112 fu) (v := (fun i => (mA M (X + 240) (64 * l + i)).toInt64)) hS (by omega))
    (fun fu => by
      have hS1 : St (sB M (X + 268) (wr (mB M (X + 268)) (64 * s) sz (fun i => (mA M (X + 240) (64 * l + i)).toInt64))) X := St_sB hS
      show f_X11_keep_L112 (fu + 1) _ (X + 226) (nI s) (nI hk) (nI l) (nI sz) = _
      rw [f_X11_keep_L112, r_226_1154 hS1, ob_eq, ai_266 hS1 hs, ob_eq, mA_sB, h266, if_pos (nI_le (Nat.le_refl _) (by omega))]) 1000 (by omega)
  have e2 : sB M (X + 268) (wr (mB M (X + 268)) (64 * s) 0 (fun i => (mA M (X + 240) (64 * l + i)).toInt64)) = M := sB_self _ _ (fun j => by rw [wr_0])
  rw [e2] at e
  exact e
theorem kl3 {M : Mm} {X s l sz : Nat} (hS : St M X) (hs : s < 8) (hl : l < 8) (hz : sz ≤ 8) (h266 : mA M (X + 266) s = nI sz) : f_X11_keep_L112 1000 M (X + 226) (nI s) 3 (nI l) 0 = some (sB M (X + 268) (wr (mB M (X + 268)) (64 * s) sz (fun i => (mA M (X + 237) (9 * l + i)).toInt64)), 0) := by
  have e := loop_run (fun fu i => f_X11_keep_L112 fu (sB M (X + 268) (wr (mB M (X + 268)) (64 * s) i (fun i => (mA M (X + 237) (9 * l + i)).toInt64))) (X + 226) (nI s) 3 (nI l) (nI i)) sz (some (sB M (X + 268) (wr (mB M (X + 268)) (64 * s) sz (fun i => (mA M (X + 237) (9 * l + i)).toInt64)), 0))
    (fun i fu hi => by
      have hS1 : St (sB M (X + 268) (wr (mB M (X + 268)) (64 * s) i (fun i => (mA M (X + 237) (9 * l + i)).toInt64))) X := St_sB hS
      have e3 : (3 : Int32) ≤ 3 := by decide
      show f_X11_keep_L112 (fu + 1) (sB M (X + 268) (wr (mB M (X + 268)) (64 * s) i (fun i => (mA M (X + 237) (9 * l + i)).toInt64))) (X + 226) (nI s) 3 (nI l) (nI i) = f_X11_keep_L112 fu (sB M (X + 268) (wr (mB M (X + 268)) (64 * s) (i + 1) (fun i => (mA M (X + 237) (9 * l + i)).toInt64))) (X + 226) (nI s) 3 (nI l) (nI (i + 1))
      rw [f_X11_keep_L112, r_226_1154 hS1, ob_eq, ai_266 hS1 hs, ob_eq, mA_sB, h266, if_neg (nI_ge hi (by omega)), r_226_1156 hS1, ob_eq, if_pos e3, if_pos rfl, r_226_1114 hS1, ob_eq, m9 l, nI_add, ai_237 hS1 (by omega), ob_eq, mA_sB]
      exact kl_step (F := f_X11_keep_L112 fu) (v := (fun i => (mA M (X + 237) (9 * l + i)).toInt64)) hS (by omega))
    (fun fu => by
      have hS1 : St (sB M (X + 268) (wr (mB M (X + 268)) (64 * s) sz (fun i => (mA M (X + 237) (9 * l + i)).toInt64))) X := St_sB hS
      show f_X11_keep_L112 (fu + 1) _ (X + 226) (nI s) 3 (nI l) (nI sz) = _
      rw [f_X11_keep_L112, r_226_1154 hS1, ob_eq, ai_266 hS1 hs, ob_eq, mA_sB, h266, if_pos (nI_le (Nat.le_refl _) (by omega))]) 1000 (by omega)
  have e2 : sB M (X + 268) (wr (mB M (X + 268)) (64 * s) 0 (fun i => (mA M (X + 237) (9 * l + i)).toInt64)) = M := sB_self _ _ (fun j => by rw [wr_0])
  rw [e2] at e
  exact e
theorem kl4 {M : Mm} {X s l sz : Nat} (hS : St M X) (hs : s < 8) (hl : l < 8) (hz : sz ≤ 8) (h266 : mA M (X + 266) s = nI sz) : f_X11_keep_L112 1000 M (X + 226) (nI s) 4 (nI l) 0 = some (sB M (X + 268) (wr (mB M (X + 268)) (64 * s) sz (fun i => mB M (X + 256) (8 * l + i))), 0) := by
  have e := loop_run (fun fu i => f_X11_keep_L112 fu (sB M (X + 268) (wr (mB M (X + 268)) (64 * s) i (fun i => mB M (X + 256) (8 * l + i)))) (X + 226) (nI s) 4 (nI l) (nI i)) sz (some (sB M (X + 268) (wr (mB M (X + 268)) (64 * s) sz (fun i => mB M (X + 256) (8 * l + i))), 0))
    (fun i fu hi => by
      have hS1 : St (sB M (X + 268) (wr (mB M (X + 268)) (64 * s) i (fun i => mB M (X + 256) (8 * l + i)))) X := St_sB hS
      have e3 : (3 : Int32) ≤ 4 := by decide
      have e4 : ¬ (4 : Int32) = 3 := by decide
      show f_X11_keep_L112 (fu + 1) (sB M (X + 268) (wr (mB M (X + 268)) (64 * s) i (fun i => mB M (X + 256) (8 * l + i)))) (X + 226) (nI s) 4 (nI l) (nI i) = f_X11_keep_L112 fu (sB M (X + 268) (wr (mB M (X + 268)) (64 * s) (i + 1) (fun i => mB M (X + 256) (8 * l + i)))) (X + 226) (nI s) 4 (nI l) (nI (i + 1))
      rw [f_X11_keep_L112, r_226_1154 hS1, ob_eq, ai_266 hS1 hs, ob_eq, mA_sB, h266, if_neg (nI_ge hi (by omega)), r_226_1156 hS1, ob_eq, if_pos e3, if_neg e4, r_226_1134 hS1, ob_eq, m8 l, nI_add, aj_256 hS1 (by omega), ob_eq, mB_sB, if_neg (by omega)]
      exact kl_step (F := f_X11_keep_L112 fu) (v := (fun i => mB M (X + 256) (8 * l + i))) hS (by omega))
    (fun fu => by
      have hS1 : St (sB M (X + 268) (wr (mB M (X + 268)) (64 * s) sz (fun i => mB M (X + 256) (8 * l + i)))) X := St_sB hS
      show f_X11_keep_L112 (fu + 1) _ (X + 226) (nI s) 4 (nI l) (nI sz) = _
      rw [f_X11_keep_L112, r_226_1154 hS1, ob_eq, ai_266 hS1 hs, ob_eq, mA_sB, h266, if_pos (nI_le (Nat.le_refl _) (by omega))]) 1000 (by omega)
  have e2 : sB M (X + 268) (wr (mB M (X + 268)) (64 * s) 0 (fun i => mB M (X + 256) (8 * l + i))) = M := sB_self _ _ (fun j => by rw [wr_0])
  rw [e2] at e
  exact e
/-- the class's memory after holdRow -/
def kR (M : Mm) (X s hk sz : Nat) : Mm := sB (sI (sI M 801 (aSh X s) (nI hk)) 802 (aSh X s) (nI sz)) (aSr X s) (fun j => if j < 60 then 0 else mB M (aSr X s) j)
def kV (M : Mm) (X s hk sz : Nat) (v : Nat → Int64) : Mm := sB (kR M X s hk sz) (aSr X s) (wr (mB (kR M X s hk sz) (aSr X s)) 0 sz v)
/-- the reference's, before its loop -/
def kS (M : Mm) (X s hk sz : Nat) (kd : Int32) : Mm := sA (sA (sA (sI M 1100 (X + 226) 0) (X + 265) (va_up (mA M (X + 265)) s (nI hk))) (X + 266) (va_up (mA M (X + 266)) s (nI sz))) (X + 267) (va_up (mA M (X + 267)) s kd)
theorem St_kR {M : Mm} {X s hk sz : Nat} (h : St M X) : St (kR M X s hk sz) X := St_sB (St_sI (St_sI h))
theorem St_kV {M : Mm} {X s hk sz : Nat} {v : Nat → Int64} (h : St M X) : St (kV M X s hk sz v) X := St_sB (St_kR h)
theorem St_kS {M : Mm} {X s hk sz : Nat} {kd : Int32} (h : St M X) : St (kS M X s hk sz kd) X := St_sA (St_sA (St_sA (St_sI h)))
theorem kS_266 {M : Mm} {X s hk sz : Nat} {kd : Int32} : mA (kS M X s hk sz kd) (X + 266) s = nI sz := by
  unfold kS; rw [mA_sA, if_neg (by omega), mA_sA, if_pos rfl, vau_eq]
theorem kS_265 {M : Mm} {X s hk sz : Nat} {kd : Int32} : mA (kS M X s hk sz kd) (X + 265) s = nI hk := by
  unfold kS; rw [mA_sA, if_neg (by omega), mA_sA, if_neg (by omega), mA_sA, if_pos rfl, vau_eq]
theorem kS_267 {M : Mm} {X s hk sz : Nat} {kd : Int32} : mA (kS M X s hk sz kd) (X + 267) s = kd := by
  unfold kS; rw [mA_sA, if_pos rfl, vau_eq]
theorem kS_A {M : Mm} {X s hk sz a : Nat} {kd : Int32} (h : a ≠ X + 265) (h2 : a ≠ X + 266) (h3 : a ≠ X + 267) : mA (kS M X s hk sz kd) a = mA M a := by
  unfold kS; rw [mA_sA, if_neg h3, mA_sA, if_neg h2, mA_sA, if_neg h, mA_sI]
theorem kS_B {M : Mm} {X s hk sz : Nat} {kd : Int32} : mB (kS M X s hk sz kd) = mB M := by
  unfold kS; rw [mB_sA, mB_sA, mB_sA, mB_sI]
theorem kS_I {M : Mm} {X s hk sz num : Nat} {kd : Int32} (h : num ≠ 1100) : mI (kS M X s hk sz kd) num = mI M num := by
  unfold kS; rw [mI_sA, mI_sA, mI_sA]; funext y; rw [mI_sI, if_neg h]
theorem ks_tail {M : Mm} {X s hk sz : Nat} {c : Int32} (hS : St M X) (hs : s < 8) : f_X11_keep_J87 (sA (sI M 1100 (X + 226) 0) (X + 265) (va_up (mA (sI M 1100 (X + 226) 0) (X + 265)) s (nI hk))) (X + 226) (nI s) (nI hk) c (X + 266) (nI s) (nI sz) = if nI hk = 1 then (aI (sA (sA (sI M 1100 (X + 226) 0) (X + 265) (va_up (mA M (X + 265)) s (nI hk))) (X + 266) (va_up (mA M (X + 266)) s (nI sz))) (X + 241) c).bind (fun kd => f_X11_keep_L112 1000 (kS M X s hk sz kd) (X + 226) (nI s) (nI hk) c 0) else f_X11_keep_L112 1000 (kS M X s hk sz 0) (X + 226) (nI s) (nI hk) c 0 := by
  rw [mA_sI]
  generalize hA : sA (sI M 1100 (X + 226) 0) (X + 265) (va_up (mA M (X + 265)) s (nI hk)) = Ma
  have hSa : St Ma X := by rw [← hA]; exact St_sA (St_sI hS)
  have e266 : mA Ma (X + 266) = mA M (X + 266) := by rw [← hA, mA_sA, if_neg (by omega), mA_sI]
  unfold f_X11_keep_J87
  rw [wi_266 hSa hs, ob_eq, e266]
  generalize hB : sA Ma (X + 266) (va_up (mA M (X + 266)) s (nI sz)) = Mb
  have hSb : St Mb X := by rw [← hB]; exact St_sA hSa
  have e267 : mA Mb (X + 267) = mA M (X + 267) := by rw [← hB, mA_sA, if_neg (by omega), ← hA, mA_sA, if_neg (by omega), mA_sI]
  have ek : ∀ kd : Int32, sA Mb (X + 267) (va_up (mA Mb (X + 267)) s kd) = kS M X s hk sz kd := by
    intro kd; rw [e267, ← hB, ← hA]; rfl
  rw [r_226_1155 hSb, ob_eq]
  by_cases q : nI hk = 1
  · rw [if_pos q, if_pos q, r_226_1119 hSb, ob_eq]
    congr 1
    funext kd
    unfold f_X11_keep_J108
    rw [wi_267 hSb hs, ob_eq, ek]
  · rw [if_neg q, if_neg q]
    unfold f_X11_keep_J108
    rw [wi_267 hSb hs, ob_eq, ek]
theorem Ag_kS {M : Mm} {X N n s hk sz : Nat} {kd : Int32} : Ag X N n (TIs X s) (TAs X s) (TBs X s) M (kS M X s hk sz kd) := by
  refine ⟨fun num a h1 h2 h3 => by rw [kS_I (fun e => h1 (by unfold ScI; omega))], fun a j h1 h2 h3 => ?_, fun a j _ _ _ => by rw [kS_B], fun a _ => ⟨rfl, rfl⟩, fun _ _ _ _ => rfl, fun _ _ _ _ => rfl, Nat.le_refl _⟩
  by_cases e : a = X + 265 ∨ a = X + 266 ∨ a = X + 267
  · have hj : j ≠ s := fun q => h2 ⟨e, q⟩
    unfold kS
    rcases e with e | e | e
    · subst e; rw [mA_sA, if_neg (by omega), mA_sA, if_neg (by omega), mA_sA, if_pos rfl, vau_ne hj]
    · subst e; rw [mA_sA, if_neg (by omega), mA_sA, if_pos rfl, vau_ne hj]
    · subst e; rw [mA_sA, if_pos rfl, vau_ne hj]
  · rw [kS_A (fun q => e (Or.inl q)) (fun q => e (Or.inr (Or.inl q))) (fun q => e (Or.inr (Or.inr q)))]
theorem Ag_kR {M : Mm} {X N n s hk sz : Nat} : Ag X N n (TIs X s) (TAs X s) (TBs X s) M (kR M X s hk sz) := by
  unfold kR
  refine Ag.cB (Ag.cI (Ag.cI Ag.rf ?_) ?_) ?_
  · exact Or.inr (Or.inl ⟨by decide, by decide, rfl⟩)
  · exact Or.inr (Or.inl ⟨by decide, by decide, rfl⟩)
  · exact Or.inr (Or.inr (fun j t => absurd (Or.inl rfl) t))
theorem Ag_kV {M : Mm} {X N n s hk sz : Nat} {v : Nat → Int64} : Ag X N n (TIs X s) (TAs X s) (TBs X s) M (kV M X s hk sz v) :=
  Ag.cB Ag_kR (Or.inr (Or.inr (fun j t => absurd (Or.inl rfl) t)))
/-- both ends hold the same row -/
theorem inv_row {M : Mm} {X p n w s hk sz : Nat} {z : Nat → Nat} {v : Nat → Int64} {kd : Int32} (H : Inv M X p n w z) (hs : s < 8) (h2 : 2 ≤ hk) (h4 : hk ≤ 4) (hz : sz ≤ 60) : Inv (sB (kS (kV M X s hk sz v) X s hk sz kd) (X + 268) (wr (mB (kS (kV M X s hk sz v) X s hk sz kd) (X + 268)) (64 * s) sz v)) X p n w z := by
  refine inv_shelf H hs ?_ ?_
  · exact Ag.cBw (Ag_kV.tr' Ag_kS) (fun j q1 q2 => Or.inr ⟨rfl, q1, by omega⟩)
  · have eI : ∀ num, ¬ num = 1100 → mI (sB (kS (kV M X s hk sz v) X s hk sz kd) (X + 268) (wr (mB (kS (kV M X s hk sz v) X s hk sz kd) (X + 268)) (64 * s) sz v)) num = mI (kV M X s hk sz v) num := by
      intro num hn; rw [mI_sB, kS_I hn]
    have i801 : mI (kV M X s hk sz v) 801 (aSh X s) = nI hk := by unfold kV kR; rw [mI_sB, mI_sB, mI_sI, if_neg (by decide), mI_sI, if_pos rfl, if_pos rfl]
    have i802 : mI (kV M X s hk sz v) 802 (aSh X s) = nI sz := by unfold kV kR; rw [mI_sB, mI_sB, mI_sI, if_pos rfl, if_pos rfl]
    refine ⟨by rw [eI 801 (by decide), mA_sB, kS_265]; exact i801, hk, h4, by rw [mA_sB, kS_265], fun q => absurd h2 (by omega), fun _ => ⟨sz, hz, by rw [eI 802 (by decide)]; exact i802, by rw [mA_sB, kS_266], fun k hkk => ?_⟩⟩
    rw [mB_sB, if_pos rfl, wr_in hkk, mB_sB, if_neg (by unfold aSr; omega), kS_B]
    unfold kV
    rw [mB_sB, if_pos rfl, wr0_in hkk]
end
section
theorem hr_kR {M : Mm} {X s hk sz : Nat} (hS : St M X) (hs : s < 8) (hz : sz ≤ 60) : f_X8_holdRow M (aSh X s) (nI hk) (nI sz) = some (kR M X s hk sz) := hr_eq hS hs hz
theorem kR_802 {M : Mm} {X s hk sz : Nat} : mI (kR M X s hk sz) 802 (aSh X s) = nI sz := by unfold kR; rw [mI_sB, mI_sI, if_pos rfl, if_pos rfl]
theorem kR_I {M : Mm} {X s hk sz num : Nat} (h : num ≠ 801) (h2 : num ≠ 802) : mI (kR M X s hk sz) num = mI M num := by unfold kR; rw [mI_sB]; funext y; rw [mI_sI, if_neg h2, mI_sI, if_neg h]
theorem kR_A {M : Mm} {X s hk sz : Nat} : mA (kR M X s hk sz) = mA M := by unfold kR; rw [mA_sB, mA_sI, mA_sI]
theorem kR_B {M : Mm} {X s hk sz a : Nat} (h : a ≠ aSr X s) : mB (kR M X s hk sz) a = mB M a := by unfold kR; rw [mB_sB, if_neg h, mB_sI, mB_sI]
theorem kR_K {M : Mm} {X s hk sz : Nat} : mK (kR M X s hk sz) = mK M := by unfold kR; rw [mK_sB, mK_sI, mK_sI]
theorem kR_N {M : Mm} {X s hk sz : Nat} : mN (kR M X s hk sz) = mN M := by unfold kR; rw [mN_sB, mN_sI, mN_sI]
theorem kR_R {M : Mm} {X s hk sz : Nat} : mR (kR M X s hk sz) = mR M := by unfold kR; rw [mR_sB, mR_sI, mR_sI]
theorem kc2_loop {M : Mm} {X s A B sz : Nat} (hS : St M X) (hs : s < 8) (hz : sz ≤ 60) (h802 : mI M 802 (aSh X s) = nI sz) (kA : mK M A = 5) (rA : mR M 403 A = some B) (kB : mK M B = 20) (nB : mN M B = sz) : f_X10_keepLetter_L30 1000 M (aSh X s) A 0 = some (sB M (aSr X s) (wr (mB M (aSr X s)) 0 sz (fun i => (mA M B i).toInt64)), 0) := by
  have e := loop_run (fun fu i => f_X10_keepLetter_L30 fu (sB M (aSr X s) (wr (mB M (aSr X s)) 0 i (fun i => (mA M B i).toInt64))) (aSh X s) A (nI i)) sz (some (sB M (aSr X s) (wr (mB M (aSr X s)) 0 sz (fun i => (mA M B i).toInt64)), 0))
    (fun i fu hi => by
      have hS1 : St (sB M (aSr X s) (wr (mB M (aSr X s)) 0 i (fun i => (mA M B i).toInt64))) X := St_sB hS
      show f_X10_keepLetter_L30 (fu + 1) (sB M (aSr X s) (wr (mB M (aSr X s)) 0 i (fun i => (mA M B i).toInt64))) (aSh X s) A (nI i) = f_X10_keepLetter_L30 fu (sB M (aSr X s) (wr (mB M (aSr X s)) 0 (i + 1) (fun i => (mA M B i).toInt64))) (aSh X s) A (nI (i + 1))
      rw [f_X10_keepLetter_L30, gi_aSh hS1 hs, ob_eq, mI_sB, h802, if_neg (nI_ge hi (by omega)), r_aSh_800 hS1 hs, ob_eq, gR_of (by rw [mK_sB]; exact kA) (by rw [mR_sB]; exact rA), ob_eq, aI_of (by rw [mK_sB]; exact kB) (by rw [mN_sB]; exact nB) hi (by omega), ob_eq, wj_aSr hS1 hs (by omega), ob_eq, mB_sB, if_pos rfl, sB_sB, mA_sB, nI_1]
      exact congrArg (fun g => f_X10_keepLetter_L30 fu (sB M (aSr X s) g) (aSh X s) A (nI (i + 1))) (wr0_s (mB M (aSr X s)) i (fun i => (mA M B i).toInt64)))
    (fun fu => by
      have hS1 : St (sB M (aSr X s) (wr (mB M (aSr X s)) 0 sz (fun i => (mA M B i).toInt64))) X := St_sB hS
      show f_X10_keepLetter_L30 (fu + 1) _ (aSh X s) A (nI sz) = _
      rw [f_X10_keepLetter_L30, gi_aSh hS1 hs, ob_eq, mI_sB, h802, if_pos (nI_le (Nat.le_refl _) (by omega))]) 1000 (by omega)
  have e2 : sB M (aSr X s) (wr (mB M (aSr X s)) 0 0 (fun i => (mA M B i).toInt64)) = M := sB_self _ _ (fun j => by rw [wr_0])
  rw [e2] at e
  exact e
theorem kc3_loop {M : Mm} {X s q f0 sz : Nat} (hS : St M X) (hs : s < 8) (hq : q < 8) (hz : sz ≤ 8) (h802 : mI M 802 (aSh X s) = nI sz) (h906 : mI M 906 (aSq X q) = nI f0) (hf : f0 < 8) : f_X10_keepReferences_L28 1000 M (aSh X s) (aSq X q) 0 = some (sB M (aSr X s) (wr (mB M (aSr X s)) 0 sz (fun i => (mI M 301 (aHd X q ((f0 + i) % 8))).toInt64)), 0) := by
  have e := loop_run (fun fu i => f_X10_keepReferences_L28 fu (sB M (aSr X s) (wr (mB M (aSr X s)) 0 i (fun i => (mI M 301 (aHd X q ((f0 + i) % 8))).toInt64))) (aSh X s) (aSq X q) (nI i)) sz (some (sB M (aSr X s) (wr (mB M (aSr X s)) 0 sz (fun i => (mI M 301 (aHd X q ((f0 + i) % 8))).toInt64)), 0))
    (fun i fu hi => by
      have hS1 : St (sB M (aSr X s) (wr (mB M (aSr X s)) 0 i (fun i => (mI M 301 (aHd X q ((f0 + i) % 8))).toInt64))) X := St_sB hS
      show f_X10_keepReferences_L28 (fu + 1) (sB M (aSr X s) (wr (mB M (aSr X s)) 0 i (fun i => (mI M 301 (aHd X q ((f0 + i) % 8))).toInt64))) (aSh X s) (aSq X q) (nI i) = f_X10_keepReferences_L28 fu (sB M (aSr X s) (wr (mB M (aSr X s)) 0 (i + 1) (fun i => (mI M 301 (aHd X q ((f0 + i) % 8))).toInt64))) (aSh X s) (aSq X q) (nI (i + 1))
      rw [f_X10_keepReferences_L28, gi_aSh hS1 hs, ob_eq, mI_sB, h802, if_neg (nI_ge hi (by omega)), r_aSh_800 hS1 hs, ob_eq, rf_in hS1 hq (by rw [mI_sB]; exact h906) hf (by omega), ob_eq, gi_aHd hS1 hq (Nat.mod_lt _ (by decide)), ob_eq, wj_aSr hS1 hs (by omega), ob_eq, mB_sB, if_pos rfl, sB_sB, mI_sB, nI_1]
      exact congrArg (fun g => f_X10_keepReferences_L28 fu (sB M (aSr X s) g) (aSh X s) (aSq X q) (nI (i + 1))) (wr0_s (mB M (aSr X s)) i (fun i => (mI M 301 (aHd X q ((f0 + i) % 8))).toInt64)))
    (fun fu => by
      have hS1 : St (sB M (aSr X s) (wr (mB M (aSr X s)) 0 sz (fun i => (mI M 301 (aHd X q ((f0 + i) % 8))).toInt64))) X := St_sB hS
      show f_X10_keepReferences_L28 (fu + 1) _ (aSh X s) (aSq X q) (nI sz) = _
      rw [f_X10_keepReferences_L28, gi_aSh hS1 hs, ob_eq, mI_sB, h802, if_pos (nI_le (Nat.le_refl _) (by omega))]) 1000 (by omega)
  have e2 : sB M (aSr X s) (wr (mB M (aSr X s)) 0 0 (fun i => (mI M 301 (aHd X q ((f0 + i) % 8))).toInt64)) = M := sB_self _ _ (fun j => by rw [wr_0])
  rw [e2] at e
  exact e
theorem kc4_loop {M : Mm} {X s q sz : Nat} (hS : St M X) (hs : s < 8) (hq : q < 8) (hz : sz ≤ 8) (h802 : mI M 802 (aSh X s) = nI sz) : f_X10_keepContext_L35 1000 M X (aSh X s) (nI q) 0 = some (sB M (aSr X s) (wr (mB M (aSr X s)) 0 sz (fun i => mB M (aCv X q) i)), 0) := by
  have e := loop_run (fun fu i => f_X10_keepContext_L35 fu (sB M (aSr X s) (wr (mB M (aSr X s)) 0 i (fun i => mB M (aCv X q) i))) X (aSh X s) (nI q) (nI i)) sz (some (sB M (aSr X s) (wr (mB M (aSr X s)) 0 sz (fun i => mB M (aCv X q) i)), 0))
    (fun i fu hi => by
      have hS1 : St (sB M (aSr X s) (wr (mB M (aSr X s)) 0 i (fun i => mB M (aCv X q) i))) X := St_sB hS
      show f_X10_keepContext_L35 (fu + 1) (sB M (aSr X s) (wr (mB M (aSr X s)) 0 i (fun i => mB M (aCv X q) i))) X (aSh X s) (nI q) (nI i) = f_X10_keepContext_L35 fu (sB M (aSr X s) (wr (mB M (aSr X s)) 0 (i + 1) (fun i => mB M (aCv X q) i))) X (aSh X s) (nI q) (nI (i + 1))
      rw [f_X10_keepContext_L35, gi_aSh hS1 hs, ob_eq, mI_sB, h802, if_neg (nI_ge hi (by omega)), r_aSh_800 hS1 hs, ob_eq, r_0_1004 hS1, ob_eq, q_cx hS1 hq, ob_eq, r_aCx_100 hS1 hq, ob_eq, r_aCh_300 hS1 hq, ob_eq, aj_aCv hS1 hq (by omega), ob_eq, wj_aSr hS1 hs (by omega), ob_eq, mB_sB, if_pos rfl, sB_sB, mB_sB, if_neg (by unfold aCv aSr; omega), nI_1]
      exact congrArg (fun g => f_X10_keepContext_L35 fu (sB M (aSr X s) g) X (aSh X s) (nI q) (nI (i + 1))) (wr0_s (mB M (aSr X s)) i (fun i => mB M (aCv X q) i)))
    (fun fu => by
      have hS1 : St (sB M (aSr X s) (wr (mB M (aSr X s)) 0 sz (fun i => mB M (aCv X q) i))) X := St_sB hS
      show f_X10_keepContext_L35 (fu + 1) _ X (aSh X s) (nI q) (nI sz) = _
      rw [f_X10_keepContext_L35, gi_aSh hS1 hs, ob_eq, mI_sB, h802, if_pos (nI_le (Nat.le_refl _) (by omega))]) 1000 (by omega)
  have e2 : sB M (aSr X s) (wr (mB M (aSr X s)) 0 0 (fun i => mB M (aCv X q) i)) = M := sB_self _ _ (fun j => by rw [wr_0])
  rw [e2] at e
  exact e
/-! the reference's keep, by what is kept -/
theorem km0 {M : Mm} {X s : Nat} {c : Int32} (hS : St M X) (hs : s < 8) : f_X11_keep M (X + 226) (nI s) (nI 0) c = some (kS M X s 0 0 0, 0) := by
  have d10 : ¬ (1 : Int32) = 0 := by decide
  have hSt : St (sI M 1100 (X + 226) 0) X := St_sI hS
  have e1 : ¬ nI 0 = 1 := by decide
  have e2 : ¬ nI 0 = 2 := by decide
  have e0 : nI 0 = 0 := rfl
  have q1 : ¬ nI 0 < 0 := by decide
  have q2 : ¬ (4 : Int32) < nI 0 := by decide
  have hc : f_X11_canKeep (sI M 1100 (X + 226) 0) (X + 226) (nI 0) c = some 1 := by
    unfold f_X11_canKeep
    rw [if_pos (k_226 hSt), if_neg e1, if_neg e2, if_pos e0]
  have ht := ks_tail (c := c) (sz := 0) (hk := 0) hS hs
  rw [if_neg e1] at ht
  unfold f_X11_keep
  rw [if_pos (k_226 hS), pi_226 hS, ob_eq, (fl_in hs).2.2.2, ob_eq, if_neg d10, isIn_0_4, ob_eq, if_neg q1, if_neg q2, if_neg d10, hc, ob_eq, if_neg d10, r_226_1153 hSt, ob_eq, wi_265 hSt hs, ob_eq, r_226_1154 (St_sA hSt), ob_eq, if_pos e0]
  refine Eq.trans ht ?_
  have hK : St (kS M X s 0 0 0) X := St_kS hS
  rw [f_X11_keep_L112, r_226_1154 hK, ob_eq, ai_266 hK hs, ob_eq, kS_266, if_pos (by decide : nI 0 ≤ 0)]
theorem km12 {M : Mm} {X s l n sz hk : Nat} (hS : St M X) (hs : s < 8) (hl : l < n) (h2 : n ≤ 200) (hz : sz ≤ 60) (hn : mI M 1116 (X + 226) = nI n) (h239 : mA M (X + 239) l = nI sz) (hh : hk = 1 ∨ hk = 2) : f_X11_keep M (X + 226) (nI s) (nI hk) (nI l) = some (sB (kS M X s hk sz (if hk = 1 then mA M (X + 241) l else 0)) (X + 268) (wr (mB (kS M X s hk sz (if hk = 1 then mA M (X + 241) l else 0)) (X + 268)) (64 * s) sz (fun i => (mA M (X + 240) (64 * l + i)).toInt64)), 0) := by
  have d10 : ¬ (1 : Int32) = 0 := by decide
  have hSt : St (sI M 1100 (X + 226) 0) X := St_sI hS
  have l2 : l < 200 := by omega
  have hn' : mI (sI M 1100 (X + 226) 0) 1116 (X + 226) = nI n := by rw [mI_sI, if_neg (by decide)]; exact hn
  have q1 : ¬ nI hk < 0 := nI_pos (by omega)
  have q2 : ¬ (4 : Int32) < nI hk := nI_nlt (a := 4) (b := hk) (by omega) (by decide)
  have q3 : ¬ nI hk = 0 := nI_ne0 (by omega) (by omega)
  have q4 : ¬ (3 : Int32) ≤ nI hk := nI_ge (b := 3) (by omega) (by decide)
  have hj : f_X11_canKeep_J10 (sI M 1100 (X + 226) 0) (X + 226) (nI l) = some 1 := by
    unfold f_X11_canKeep_J10
    rw [if_neg (nI_pos (by omega)), gi_226 hSt, ob_eq, hn', if_neg (nI_ge hl (by omega))]
  have hc : f_X11_canKeep (sI M 1100 (X + 226) 0) (X + 226) (nI hk) (nI l) = some 1 := by
    unfold f_X11_canKeep
    rw [if_pos (k_226 hSt)]
    rcases hh with rfl | rfl
    · rw [if_pos (by decide), hj]
    · rw [if_neg (by decide), if_pos (by decide), hj]
  have h239' : mA (sA (sI M 1100 (X + 226) 0) (X + 265) (va_up (mA (sI M 1100 (X + 226) 0) (X + 265)) s (nI hk))) (X + 239) l = nI sz := by rw [mA_sA, if_neg (by omega), mA_sI]; exact h239
  have ht := ks_tail (c := nI l) (sz := sz) (hk := hk) hS hs
  have main : f_X11_keep M (X + 226) (nI s) (nI hk) (nI l) = f_X11_keep_L112 1000 (kS M X s hk sz (if hk = 1 then mA M (X + 241) l else 0)) (X + 226) (nI s) (nI hk) (nI l) 0 := by
    unfold f_X11_keep
    rw [if_pos (k_226 hS), pi_226 hS, ob_eq, (fl_in hs).2.2.2, ob_eq, if_neg d10, isIn_0_4, ob_eq, if_neg q1, if_neg q2, if_neg d10, hc, ob_eq, if_neg d10, r_226_1153 hSt, ob_eq, wi_265 hSt hs, ob_eq, r_226_1154 (St_sA hSt), ob_eq, if_neg q3, if_neg q4, r_226_1117 (St_sA hSt), ob_eq, ai_239 (St_sA hSt) l2, ob_eq, h239', ht]
    rcases hh with rfl | rfl
    · rw [if_pos (by decide), ai_241 (St_sA (St_sA hSt)) l2, ob_eq, mA_sA, if_neg (by omega), mA_sA, if_neg (by omega), mA_sI, if_pos rfl]
    · rw [if_neg (by decide), if_neg (by decide)]
  rw [main, kl12 (St_kS hS) hs l2 hz (by omega) kS_266]
  have e240 : mA (kS M X s hk sz (if hk = 1 then mA M (X + 241) l else 0)) (X + 240) = mA M (X + 240) := kS_A (by omega) (by omega) (by omega)
  rw [e240]
theorem km3 {M : Mm} {X s l sz : Nat} (hS : St M X) (hs : s < 8) (hl : l < 8) (hz : sz ≤ 8) (h236 : mA M (X + 236) l = nI sz) : f_X11_keep M (X + 226) (nI s) (nI 3) (nI l) = some (sB (kS M X s 3 sz 0) (X + 268) (wr (mB (kS M X s 3 sz 0) (X + 268)) (64 * s) sz (fun i => (mA M (X + 237) (9 * l + i)).toInt64)), 0) := by
  have d10 : ¬ (1 : Int32) = 0 := by decide
  have hSt : St (sI M 1100 (X + 226) 0) X := St_sI hS
  have q1 : ¬ nI 3 < 0 := by decide
  have q2 : ¬ (4 : Int32) < nI 3 := by decide
  have q3 : ¬ nI 3 = 0 := by decide
  have q4 : (3 : Int32) ≤ nI 3 := by decide
  have q5 : nI 3 = 3 := rfl
  have q6 : ¬ nI 3 = 1 := by decide
  have q7 : ¬ nI 3 = 2 := by decide
  have hc : f_X11_canKeep (sI M 1100 (X + 226) 0) (X + 226) (nI 3) (nI l) = some 1 := by
    unfold f_X11_canKeep
    rw [if_pos (k_226 hSt), if_neg q6, if_neg q7, if_neg q3, (fl_in hl).2.1, ob_eq, if_neg d10, if_pos q5]
  have h236' : mA (sA (sI M 1100 (X + 226) 0) (X + 265) (va_up (mA (sI M 1100 (X + 226) 0) (X + 265)) s (nI 3))) (X + 236) l = nI sz := by rw [mA_sA, if_neg (by omega), mA_sI]; exact h236
  have ht := ks_tail (c := nI l) (sz := sz) (hk := 3) hS hs
  rw [if_neg q6] at ht
  unfold f_X11_keep
  rw [if_pos (k_226 hS), pi_226 hS, ob_eq, (fl_in hs).2.2.2, ob_eq, if_neg d10, isIn_0_4, ob_eq, if_neg q1, if_neg q2, if_neg d10, hc, ob_eq, if_neg d10, r_226_1153 hSt, ob_eq, wi_265 hSt hs, ob_eq, r_226_1154 (St_sA hSt), ob_eq, if_neg q3, if_pos q4, if_pos q5, r_226_1113 (St_sA hSt), ob_eq, ai_236 (St_sA hSt) hl, ob_eq, h236', ht]
  refine (kl3 (St_kS hS) hs hl hz kS_266).trans ?_
  have e240 : mA (kS M X s 3 sz 0) (X + 237) = mA M (X + 237) := kS_A (by omega) (by omega) (by omega)
  rw [e240]
theorem km4 {M : Mm} {X s l sz : Nat} (hS : St M X) (hs : s < 8) (hl : l < 8) (hz : sz ≤ 8) (h252 : mA M (X + 252) l = 1) (hp : mI M 1101 (X + 226) = nI sz) : f_X11_keep M (X + 226) (nI s) (nI 4) (nI l) = some (sB (kS M X s 4 sz 0) (X + 268) (wr (mB (kS M X s 4 sz 0) (X + 268)) (64 * s) sz (fun i => mB M (X + 256) (8 * l + i))), 0) := by
  have d10 : ¬ (1 : Int32) = 0 := by decide
  have hSt : St (sI M 1100 (X + 226) 0) X := St_sI hS
  have q1 : ¬ nI 4 < 0 := by decide
  have q2 : ¬ (4 : Int32) < nI 4 := by decide
  have q3 : ¬ nI 4 = 0 := by decide
  have q4 : (3 : Int32) ≤ nI 4 := by decide
  have q5 : ¬ nI 4 = 3 := by decide
  have q6 : ¬ nI 4 = 1 := by decide
  have q7 : ¬ nI 4 = 2 := by decide
  have hc : f_X11_canKeep (sI M 1100 (X + 226) 0) (X + 226) (nI 4) (nI l) = some 1 := by
    unfold f_X11_canKeep
    rw [if_pos (k_226 hSt), if_neg q6, if_neg q7, if_neg q3, (fl_in hl).2.1, ob_eq, if_neg d10, if_neg q5, r_226_1130 hSt, ob_eq, az_252 hSt hl, ob_eq, mA_sI, h252, if_neg d10]
  have hp' : mI (sA (sI M 1100 (X + 226) 0) (X + 265) (va_up (mA (sI M 1100 (X + 226) 0) (X + 265)) s (nI 4))) 1101 (X + 226) = nI sz := by rw [mI_sA, mI_sI, if_neg (by decide)]; exact hp
  have ht := ks_tail (c := nI l) (sz := sz) (hk := 4) hS hs
  rw [if_neg q6] at ht
  unfold f_X11_keep
  rw [if_pos (k_226 hS), pi_226 hS, ob_eq, (fl_in hs).2.2.2, ob_eq, if_neg d10, isIn_0_4, ob_eq, if_neg q1, if_neg q2, if_neg d10, hc, ob_eq, if_neg d10, r_226_1153 hSt, ob_eq, wi_265 hSt hs, ob_eq, r_226_1154 (St_sA hSt), ob_eq, if_neg q3, if_pos q4, if_neg q5, gi_226 (St_sA hSt), ob_eq, hp', ht]
  refine (kl4 (St_kS hS) hs hl hz kS_266).trans ?_
  rw [kS_B]
end
section
theorem op_keep {M : Mm} {X p n w : Nat} {z : Nat → Nat} (H : Inv M X p n w z) (a b c : Int32) : ∃ M1 M2 r, f_X10_keep M X a b c = some (M1, r) ∧ f_X11_keep M1 (X + 226) a b c = some (M2, r) ∧ Inv M2 X p n w z := by
  obtain ⟨hS, hW, ⟨p8, p1, p2, p3⟩, hD, hC, hQ, hX, hZ, hL, hG, hH, hT⟩ := id H
  have hSt : St (sI M 1100 (X + 226) 0) X := St_sI hS
  have hC' : IC (sI M 1100 (X + 226) 0) X n := by
    obtain ⟨c1, c2, c3, c4⟩ := hC
    exact ⟨c1, by rw [mI_sI, if_neg (by decide)]; exact c2, by rw [mI_sI, if_neg (by decide)]; exact c3, by rw [mI_sI, if_neg (by decide)]; exact c4⟩
  have d10 : ¬ (1 : Int32) = 0 := by decide
  rcases ix_cases a (n := 8) (by omega) with h | ⟨s, hs, rfl⟩
  · refine ⟨M, _, -1, ?_, ?_, inv_thr (v := 0) H⟩
    · unfold f_X10_keep
      simp only [if_pos (k_0 hS), (fl_out h).2.2.1, ob_eq, if_true]
    · unfold f_X11_keep
      simp only [if_pos (k_226 hS), pi_226 hS, (fl_out h).2.2.2, ob_eq, if_true]
  have bad : ∀ hk, hk ≤ 4 → f_X11_canKeep (sI M 1100 (X + 226) 0) (X + 226) (nI hk) c = some 0 → f_X11_keep M (X + 226) (nI s) (nI hk) c = some (sI M 1100 (X + 226) 0, -1) := by
    intro hk h4 hc
    have q1 : ¬ nI hk < 0 := nI_pos (by omega)
    have q2 : ¬ (4 : Int32) < nI hk := nI_nlt (a := 4) (b := hk) (by omega) (by decide)
    unfold f_X11_keep
    rw [if_pos (k_226 hS), pi_226 hS, ob_eq, (fl_in hs).2.2.2, ob_eq, if_neg d10, isIn_0_4, ob_eq, if_neg q1, if_neg q2, if_neg d10, hc, ob_eq, if_pos rfl]
  have e10 : ∀ b, f_X10_keep M X (nI s) b c = if b = 0 then some (sI M 801 (aSh X s) 0, 0) else if b = 1 then f_X10_keep_J60 M X b c (aSh X s) else if b = 2 then f_X10_keep_J60 M X b c (aSh X s) else if b = 3 then ob2 (f_X10_keepReferences M X (aSh X s) c) (fun M v => some (M, v)) else if b = 4 then ob2 (f_X10_keepContext M X (aSh X s) c) (fun M v => some (M, v)) else some (M, -1) := by
    intro b
    unfold f_X10_keep
    rw [if_pos (k_0 hS), (fl_in hs).2.2.1, ob_eq, if_neg d10, r_0_1006 hS, ob_eq, q_sh hS hs, ob_eq, pi_aSh hS hs, ob_eq]
  rcases rg_cases b 4 (by decide) with hb | hb | ⟨hk, hk4, rfl⟩
  · refine ⟨M, _, -1, ?_, ?_, inv_thr (v := 0) H⟩
    · have g0 : ¬ b = 0 := fun e => by subst e; exact absurd hb (by decide)
      have g1 : ¬ b = 1 := fun e => by subst e; exact absurd hb (by decide)
      have g2 : ¬ b = 2 := fun e => by subst e; exact absurd hb (by decide)
      have g3 : ¬ b = 3 := fun e => by subst e; exact absurd hb (by decide)
      have g4 : ¬ b = 4 := fun e => by subst e; exact absurd hb (by decide)
      rw [e10, if_neg g0, if_neg g1, if_neg g2, if_neg g3, if_neg g4]
    · unfold f_X11_keep
      simp only [if_pos (k_226 hS), pi_226 hS, (fl_in hs).2.2.2, ob_eq, if_neg d10, isIn_0_4, if_pos hb, if_true]
  · have hb' : (4 : Int32) < b := hb
    refine ⟨M, _, -1, ?_, ?_, inv_thr (v := 0) H⟩
    · have g0 : ¬ b = 0 := fun e => by subst e; exact absurd hb' (by decide)
      have g1 : ¬ b = 1 := fun e => by subst e; exact absurd hb' (by decide)
      have g2 : ¬ b = 2 := fun e => by subst e; exact absurd hb' (by decide)
      have g3 : ¬ b = 3 := fun e => by subst e; exact absurd hb' (by decide)
      have g4 : ¬ b = 4 := fun e => by subst e; exact absurd hb' (by decide)
      rw [e10, if_neg g0, if_neg g1, if_neg g2, if_neg g3, if_neg g4]
    · have g5 : ¬ b < 0 := fun e => Int32.lt_irrefl (Int32.lt_trans e (Int32.lt_trans (by decide) hb'))
      unfold f_X11_keep
      simp only [if_pos (k_226 hS), pi_226 hS, (fl_in hs).2.2.2, ob_eq, if_neg d10, isIn_0_4, if_neg g5, if_pos hb', if_true]
  have hkc : hk = 0 ∨ hk = 1 ∨ hk = 2 ∨ hk = 3 ∨ hk = 4 := by omega
  rcases hkc with rfl | rfl | rfl | rfl | rfl
  · -- nothing
    refine ⟨sI M 801 (aSh X s) 0, _, 0, by rw [e10, if_pos (by decide)], km0 (St_sI hS) hs, inv_shelf H hs ((Ag_sI (Or.inr (Or.inl ⟨by decide, by decide, rfl⟩))).tr' Ag_kS) ?_⟩
    refine ⟨by rw [kS_I (by decide), kS_265, mI_sI, if_pos rfl, if_pos rfl]; rfl, 0, by decide, kS_265, fun q => absurd q (by decide), fun q => absurd q (by decide)⟩
  · -- a letter
    rcases ix_cases c (n := n) (by have := hC.1; omega) with h | ⟨l, hl, rfl⟩
    · refine ⟨M, _, -1, ?_, bad 1 (by decide) ?_, inv_thr (v := 0) H⟩
      · rw [e10, if_neg (by decide), if_pos (by decide)]
        unfold f_X10_keep_J60
        rw [lt_out hS hC h, ob_eq]
        unfold f_X10_keepLetter
        rw [nm_none, ob2_eq]
      · unfold f_X11_canKeep
        rw [if_pos (k_226 hSt), if_pos (by decide)]
        unfold f_X11_canKeep_J10
        by_cases g : c < 0
        · rw [if_pos g]
        · rw [if_neg g, gi_226 hSt, ob_eq, hC'.2.2.1, if_pos (h.resolve_left g)]
    have hLl := hL l hl
    obtain ⟨h1, h2, h3, h4, ⟨k, hk5, h5, h5b⟩, h6, h7, h8, h9, h10, h11, h12, h13, ⟨len, b1, b2, b3, b4, b5⟩, h15⟩ := id hLl
    generalize hM1 : sI (sI (sI M 801 (aSh X s) 1) 803 (aSh X s) (nI k)) 804 (aSh X s) (nI len) = M1
    have hS1 : St M1 X := by rw [← hM1]; exact St_sI (St_sI (St_sI hS))
    have eA : mA M1 = mA M := by rw [← hM1, mA_sI, mA_sI, mA_sI]
    have eI : ∀ num, num ≠ 801 → num ≠ 803 → num ≠ 804 → mI M1 num = mI M num := by
      intro num g1 g2 g3; rw [← hM1]; funext y; rw [mI_sI, if_neg g3, mI_sI, if_neg g2, mI_sI, if_neg g1]
    have hn1 : mI M1 1116 (X + 226) = nI n := by rw [eI 1116 (by decide) (by decide) (by decide)]; exact hC.2.2.1
    refine ⟨M1, _, 0, ?_, km12 (hk := 1) hS1 hs hl hC.1 b2 hn1 (by rw [eA]; exact b4) (Or.inl rfl), inv_shelf H hs ?_ ?_⟩
    · rw [e10, if_neg (by decide), if_pos (by decide)]
      unfold f_X10_keep_J60
      rw [lt_in hS hC hLl hl, ob_eq]
      unfold f_X10_keepLetter
      rw [nm_some, if_pos (by decide)]
      unfold f_X8_holdLetter
      rw [if_pos (k_aSh hS hs), pi_aSh hS hs, ob_eq, gI_of (by rw [mK_sI]; exact h2), ob_eq, mI_sI, if_neg (by decide), h5, pi_aSh (St_sI hS) hs, ob_eq, gR_of (by rw [mK_sI, mK_sI]; exact h2) (by rw [mR_sI, mR_sI]; exact h3), ob_eq, aL_of (k := 20) (n := len) (by rw [mK_sI, mK_sI]; exact h4) (by decide) (by decide) (by rw [mN_sI, mN_sI]; exact b3), ob_eq, pi_aSh (St_sI (St_sI hS)) hs, ob_eq, ob_eq, ob2_eq, hM1]
    · have A1 : Ag X (z n) n (TIs X s) (TAs X s) (TBs X s) M M1 := by
        rw [← hM1]
        exact Ag.cI (Ag.cI (Ag.cI Ag.rf (Or.inr (Or.inl ⟨by decide, by decide, rfl⟩))) (Or.inr (Or.inl ⟨by decide, by decide, rfl⟩))) (Or.inr (Or.inl ⟨by decide, by decide, rfl⟩))
      exact Ag.cBw (A1.tr' Ag_kS) (fun j q1 q2 => Or.inr ⟨rfl, q1, by omega⟩)
    · rw [if_pos rfl]
      have i801 : mI M1 801 (aSh X s) = nI 1 := by rw [← hM1, mI_sI, if_neg (by decide), mI_sI, if_neg (by decide), mI_sI, if_pos rfl, if_pos rfl]; rfl
      have i803 : mI M1 803 (aSh X s) = nI k := by rw [← hM1, mI_sI, if_neg (by decide), mI_sI, if_pos rfl, if_pos rfl]
      have i804 : mI M1 804 (aSh X s) = nI len := by rw [← hM1, mI_sI, if_pos rfl, if_pos rfl]
      refine ⟨by rw [mI_sB, kS_I (by decide), mA_sB, kS_265]; exact i801, 1, by decide, by rw [mA_sB, kS_265], fun _ => ⟨⟨k, hk5, by rw [mI_sB, kS_I (by decide)]; exact i803, by rw [mA_sB, kS_267, eA]; exact h5b⟩, by rw [mI_sB, kS_I (by decide), mA_sB, kS_266]; exact i804⟩, fun q => absurd q (by decide)⟩
  · -- shorts
    rcases ix_cases c (n := n) (by have := hC.1; omega) with h | ⟨l, hl, rfl⟩
    · refine ⟨M, _, -1, ?_, bad 2 (by decide) ?_, inv_thr (v := 0) H⟩
      · rw [e10, if_neg (by decide), if_neg (by decide), if_pos (by decide)]
        unfold f_X10_keep_J60
        rw [lt_out hS hC h, ob_eq]
        unfold f_X10_keepLetter
        rw [nm_none, ob2_eq]
      · unfold f_X11_canKeep
        rw [if_pos (k_226 hSt), if_neg (by decide), if_pos (by decide)]
        unfold f_X11_canKeep_J10
        by_cases g : c < 0
        · rw [if_pos g]
        · rw [if_neg g, gi_226 hSt, ob_eq, hC'.2.2.1, if_pos (h.resolve_left g)]
    have hLl := hL l hl
    obtain ⟨h1, h2, h3, h4, ⟨k, hk5, h5, h5b⟩, h6, h7, h8, h9, h10, h11, h12, h13, ⟨len, b1, b2, b3, b4, b5⟩, h15⟩ := id hLl
    have ev : (fun i => (mA (kR M X s 2 len) (lB z l) i).toInt64) = fun i => (mA M (lB z l) i).toInt64 := by rw [kR_A]
    have eC : f_X10_keep M X (nI s) (nI 2) (nI l) = some (kV M X s 2 len (fun i => (mA M (lB z l) i).toInt64), 0) := by
      rw [e10, if_neg (by decide), if_neg (by decide), if_pos (by decide)]
      unfold f_X10_keep_J60
      rw [lt_in hS hC hLl hl, ob_eq]
      unfold f_X10_keepLetter
      have hr := hr_kR (hk := 2) hS hs b2
      have hr2 : f_X8_holdRow M (aSh X s) 2 (nI len) = some (kR M X s 2 len) := hr
      rw [nm_some, if_neg (by decide), gR_of h2 h3, ob_eq, aL_of h4 (by decide) (by decide) b3, ob_eq, hr2, ob_eq, kc2_loop (St_kR hS) hs b2 kR_802 (by rw [kR_K]; exact h2) (by rw [kR_R]; exact h3) (by rw [kR_K]; exact h4) (by rw [kR_N]; exact b3), ob2_eq, ev]
      rfl
    have hn1 : mI (kV M X s 2 len (fun i => (mA M (lB z l) i).toInt64)) 1116 (X + 226) = nI n := by
      unfold kV; rw [mI_sB, kR_I (by decide) (by decide)]; exact hC.2.2.1
    have eA : mA (kV M X s 2 len (fun i => (mA M (lB z l) i).toInt64)) = mA M := by unfold kV; rw [mA_sB, kR_A]
    refine ⟨_, _, 0, eC, km12 (hk := 2) (St_kV hS) hs hl hC.1 b2 hn1 (by rw [eA]; exact b4) (Or.inr rfl), ?_⟩
    have e3 : (wr (mB (kS (kV M X s 2 len (fun i => (mA M (lB z l) i).toInt64)) X s 2 len (if 2 = 1 then mA (kV M X s 2 len (fun i => (mA M (lB z l) i).toInt64)) (X + 241) l else 0)) (X + 268)) (64 * s) len (fun i => (mA (kV M X s 2 len (fun i => (mA M (lB z l) i).toInt64)) (X + 240) (64 * l + i)).toInt64)) = wr (mB (kS (kV M X s 2 len (fun i => (mA M (lB z l) i).toInt64)) X s 2 len (if 2 = 1 then mA (kV M X s 2 len (fun i => (mA M (lB z l) i).toInt64)) (X + 241) l else 0)) (X + 268)) (64 * s) len (fun i => (mA M (lB z l) i).toInt64) := by
      funext j
      unfold wr
      by_cases q : 64 * s ≤ j ∧ j < 64 * s + len
      · rw [if_pos q, if_pos q, eA]
        obtain ⟨bb, g1, g2, g3⟩ := b5 (j - 64 * s) (by omega)
        dsimp only
        rw [g2, g3]
      · rw [if_neg q, if_neg q]
    rw [e3]
    exact inv_row H hs (by decide) (by decide) b2
  · -- ints
    rcases ix_cases c (n := 8) (by omega) with h | ⟨q, hq, rfl⟩
    · refine ⟨M, _, -1, ?_, bad 3 (by decide) ?_, inv_thr (v := 0) H⟩
      · rw [e10, if_neg (by decide), if_neg (by decide), if_neg (by decide), if_pos (by decide)]
        unfold f_X10_keepReferences
        rw [if_pos (k_0 hS), (fl_out h).1, ob_eq, if_pos rfl, ob2_eq]
      · unfold f_X11_canKeep
        rw [if_pos (k_226 hSt), if_neg (by decide), if_neg (by decide), if_neg (by decide), (fl_out h).2.1, ob_eq, if_pos rfl]
    obtain ⟨k, r, hh, f0, q1, q2, q3, q4, q5, q6, q7, q8, q9, q10, q11, q12, q13, q14, q15⟩ := id (hQ q hq)
    have h8 : hh ≤ 8 := Nat.le_trans q9 hW.2.2.2
    have ev : (fun i => (mI (kR M X s 3 hh) 301 (aHd X q ((f0 + i) % 8))).toInt64) = fun i => (mI M 301 (aHd X q ((f0 + i) % 8))).toInt64 := by rw [kR_I (by decide) (by decide)]
    have eC : f_X10_keep M X (nI s) (nI 3) (nI q) = some (kV M X s 3 hh (fun i => (mI M 301 (aHd X q ((f0 + i) % 8))).toInt64), 0) := by
      rw [e10, if_neg (by decide), if_neg (by decide), if_neg (by decide), if_pos (by decide)]
      unfold f_X10_keepReferences
      have hr2 : f_X8_holdRow M (aSh X s) 3 (nI hh) = some (kR M X s 3 hh) := hr_kR (hk := 3) hS hs (by omega)
      rw [if_pos (k_0 hS), (fl_in hq).1, ob_eq, if_neg d10, r_0_1003 hS, ob_eq, q_sq hS hq, ob_eq, gi_aSq hS hq, ob_eq, q10, hr2, ob_eq, kc3_loop (St_kR hS) hs hq h8 kR_802 (by rw [kR_I (by decide) (by decide)]; exact q13) q12, ob2_eq, ev]
      rfl
    have eA : mA (kV M X s 3 hh (fun i => (mI M 301 (aHd X q ((f0 + i) % 8))).toInt64)) = mA M := by unfold kV; rw [mA_sB, kR_A]
    refine ⟨_, _, 0, eC, km3 (St_kV hS) hs hq h8 (by rw [eA]; exact q11), ?_⟩
    generalize hV : kV M X s 3 hh (fun i => (mI M 301 (aHd X q ((f0 + i) % 8))).toInt64) = V at eA
    have e3 : wr (mB (kS V X s 3 hh 0) (X + 268)) (64 * s) hh (fun i => (mA V (X + 237) (9 * q + i)).toInt64) = wr (mB (kS V X s 3 hh 0) (X + 268)) (64 * s) hh (fun i => (mI M 301 (aHd X q ((f0 + i) % 8))).toInt64) := by
      funext j
      unfold wr
      by_cases g : 64 * s ≤ j ∧ j < 64 * s + hh
      · rw [if_pos g, if_pos g, eA]
        obtain ⟨⟨u, g1, g2, g3⟩, -⟩ := q15 (j - 64 * s) (by omega)
        dsimp only
        rw [g2, g3]
      · rw [if_neg g, if_neg g]
    rw [e3, ← hV]
    exact inv_row H hs (by decide) (by decide) (by omega)
  · -- longs
    rcases ix_cases c (n := 8) (by omega) with h | ⟨q, hq, rfl⟩
    · refine ⟨M, _, -1, ?_, bad 4 (by decide) ?_, inv_thr (v := 0) H⟩
      · rw [e10, if_neg (by decide), if_neg (by decide), if_neg (by decide), if_neg (by decide), if_pos (by decide)]
        unfold f_X10_keepContext
        rw [if_pos (k_0 hS), (fl_out h).1, ob_eq, if_pos rfl, ob2_eq]
      · unfold f_X11_canKeep
        rw [if_pos (k_226 hSt), if_neg (by decide), if_neg (by decide), if_neg (by decide), (fl_out h).2.1, ob_eq, if_pos rfl]
    obtain ⟨x1, x2⟩ := id (hX q hq)
    rcases x2 with x2 | ⟨x2, -, x3, x4, x5⟩
    · refine ⟨M, _, -1, ?_, bad 4 (by decide) ?_, inv_thr (v := 0) H⟩
      · rw [e10, if_neg (by decide), if_neg (by decide), if_neg (by decide), if_neg (by decide), if_pos (by decide)]
        unfold f_X10_keepContext
        rw [if_pos (k_0 hS), (fl_in hq).1, ob_eq, if_neg d10, r_0_1004 hS, ob_eq, q_cx hS hq, ob_eq, gi_aCx hS hq, ob_eq, x1, x2, if_pos rfl, ob2_eq]
      · unfold f_X11_canKeep
        rw [if_pos (k_226 hSt), if_neg (by decide), if_neg (by decide), if_neg (by decide), (fl_in hq).2.1, ob_eq, if_neg d10, if_neg (by decide), r_226_1130 hSt, ob_eq, az_252 hSt hq, ob_eq, mA_sI, x2, if_pos rfl]
    have ev : (fun i => mB (kR M X s 4 p) (aCv X q) i) = fun i => mB M (aCv X q) i := by rw [kR_B (by unfold aCv aSr; omega)]
    have eC : f_X10_keep M X (nI s) (nI 4) (nI q) = some (kV M X s 4 p (fun i => mB M (aCv X q) i), 0) := by
      rw [e10, if_neg (by decide), if_neg (by decide), if_neg (by decide), if_neg (by decide), if_pos (by decide)]
      unfold f_X10_keepContext
      have hr2 : f_X8_holdRow M (aSh X s) 4 (nI p) = some (kR M X s 4 p) := hr_kR (hk := 4) hS hs (by omega)
      rw [if_pos (k_0 hS), (fl_in hq).1, ob_eq, if_neg d10, r_0_1004 hS, ob_eq, q_cx hS hq, ob_eq, gi_aCx hS hq, ob_eq, x1, x2, if_neg d10, r_0_1001 hS, ob_eq, gi_1 hS, ob_eq, p1, hr2, ob_eq, kc4_loop (St_kR hS) hs hq p8 kR_802, ob2_eq, ev]
      rfl
    generalize hV : kV M X s 4 p (fun i => mB M (aCv X q) i) = V at eC
    have hSV : St V X := by rw [← hV]; exact St_kV hS
    have eA : mA V = mA M := by rw [← hV]; unfold kV; rw [mA_sB, kR_A]
    have e256 : mB V (X + 256) = mB M (X + 256) := by rw [← hV]; unfold kV; rw [mB_sB, if_neg (by unfold aSr; omega), kR_B (by unfold aSr; omega)]
    have hp1 : mI V 1101 (X + 226) = nI p := by rw [← hV]; unfold kV; rw [mI_sB, kR_I (by decide) (by decide)]; exact p2
    refine ⟨_, _, 0, eC, km4 hSV hs hq p8 (by rw [eA]; exact x2) hp1, ?_⟩
    have e3 : wr (mB (kS V X s 4 p 0) (X + 268)) (64 * s) p (fun i => mB V (X + 256) (8 * q + i)) = wr (mB (kS V X s 4 p 0) (X + 268)) (64 * s) p (fun i => mB M (aCv X q) i) := by
      funext j
      unfold wr
      by_cases g : 64 * s ≤ j ∧ j < 64 * s + p
      · rw [if_pos g, if_pos g, e256]
        exact (x5 (j - 64 * s) (by omega)).2
      · rw [if_neg g, if_neg g]
    rw [e3, ← hV]
    exact inv_row H hs (by decide) (by decide) (by omega)
end
section
/-! copy, spent -/
theorem hp_cases {M : Mm} {X s sz : Nat} (hS : St M X) (hs : s < 8) (hz : sz ≤ 60) (h802 : mI M 802 (aSh X s) = nI sz) (h266 : mA M (X + 266) s = nI sz) (a b : Int32) : (f_X8_hasPlaces M (aSh X s) a b = some 0 ∧ f_X11_hasPlaces M (X + 226) (nI s) a b = some 0) ∨ (∃ i k : Nat, a = nI i ∧ b = nI k ∧ i + k ≤ sz ∧ f_X8_hasPlaces M (aSh X s) a b = some 1 ∧ f_X11_hasPlaces M (X + 226) (nI s) a b = some 1) := by
  unfold f_X8_hasPlaces f_X11_hasPlaces
  rw [if_pos (k_aSh hS hs), if_pos (k_226 hS), gi_aSh hS hs, ob_eq, h802, r_226_1154 hS, ob_eq, ob_eq, ai_266 hS hs, ob_eq, ob_eq, h266]
  by_cases a0 : a < 0
  · by_cases b0 : b < 0
    · left; rw [if_pos a0, if_pos b0]; exact ⟨rfl, rfl⟩
    · left; rw [if_pos a0, if_neg b0, if_pos a0]; exact ⟨rfl, rfl⟩
  by_cases b0 : b < 0
  · left; rw [if_neg a0, if_pos b0, if_pos b0]; exact ⟨rfl, rfl⟩
  have ia : 0 ≤ a.toInt := by have := Int32.le_iff_toInt_le.mp (Int32.not_lt.mp a0); exact this
  have ib : 0 ≤ b.toInt := by have := Int32.le_iff_toInt_le.mp (Int32.not_lt.mp b0); exact this
  have la := Int32.toInt_lt a
  have lb := Int32.toInt_lt b
  have ez : (nI sz).toInt = (sz : Int) := nI_toInt (by omega)
  have e1 : (nI sz - b).toInt = (sz : Int) - b.toInt := by
    rw [Int32.toInt_sub, ez]
    apply Int.bmod_eq_of_le_mul_two <;> omega
  have e2 : (nI sz - a).toInt = (sz : Int) - a.toInt := by
    rw [Int32.toInt_sub, ez]
    apply Int.bmod_eq_of_le_mul_two <;> omega
  rw [if_neg a0, if_neg b0, if_neg b0, if_neg a0]
  by_cases q : (sz : Int) - b.toInt < a.toInt
  · left
    rw [if_pos (Int32.lt_iff_toInt_lt.mpr (by rw [e1]; exact q))]
    refine ⟨rfl, ?_⟩
    by_cases q2 : (sz : Int) < a.toInt
    · rw [if_pos (Int32.lt_iff_toInt_lt.mpr (by rw [ez]; exact q2))]
    · rw [if_neg (fun g => q2 (by have := Int32.lt_iff_toInt_lt.mp g; rw [ez] at this; exact this)), if_pos (Int32.lt_iff_toInt_lt.mpr (by rw [e2]; omega))]
  · right
    rw [if_neg (fun g => q (by have := Int32.lt_iff_toInt_lt.mp g; rw [e1] at this; exact this)), if_neg (fun g => q (by have := Int32.lt_iff_toInt_lt.mp g; rw [ez] at this; omega)), if_neg (fun g => q (by have := Int32.lt_iff_toInt_lt.mp g; rw [e2] at this; omega))]
    rcases ix_cases a (n := 61) (by decide) with h | ⟨i, hi, rfl⟩
    · exfalso
      rcases h with h | h
      · exact a0 h
      · have := Int32.le_iff_toInt_le.mp h
        rw [nI_toInt (by decide)] at this
        omega
    rcases ix_cases b (n := 61) (by decide) with h | ⟨k, hk, rfl⟩
    · exfalso
      rcases h with h | h
      · exact b0 h
      · have := Int32.le_iff_toInt_le.mp h
        rw [nI_toInt (by decide)] at this
        omega
    rw [nI_toInt (by omega), nI_toInt (by omega)] at q
    exact ⟨i, k, rfl, rfl, by omega, rfl, rfl⟩
theorem cp1 {M : Mm} {X s i k : Nat} {x3 x4 : Int32} (hS : St M X) (hs : s < 8) (h : i + k ≤ 60) : f_X11_copy_L99 1000 M (X + 226) (nI s) (nI i) x3 x4 (nI k) 0 = f_X11_copy_L136 1000 (sB M (X + 269) (wr (mB M (X + 269)) 0 k (fun y => mB M (X + 268) (64 * s + i + y)))) (X + 226) x3 x4 (nI k) 0 := by
  have e := loop_run (fun fu j => f_X11_copy_L99 fu (sB M (X + 269) (wr (mB M (X + 269)) 0 j (fun y => mB M (X + 268) (64 * s + i + y)))) (X + 226) (nI s) (nI i) x3 x4 (nI k) (nI j)) k (f_X11_copy_L136 1000 (sB M (X + 269) (wr (mB M (X + 269)) 0 k (fun y => mB M (X + 268) (64 * s + i + y)))) (X + 226) x3 x4 (nI k) 0)
    (fun j fu hj => by
      have hS1 : St (sB M (X + 269) (wr (mB M (X + 269)) 0 j (fun y => mB M (X + 268) (64 * s + i + y)))) X := St_sB hS
      show f_X11_copy_L99 (fu + 1) (sB M (X + 269) (wr (mB M (X + 269)) 0 j (fun y => mB M (X + 268) (64 * s + i + y)))) (X + 226) (nI s) (nI i) x3 x4 (nI k) (nI j) = f_X11_copy_L99 fu (sB M (X + 269) (wr (mB M (X + 269)) 0 (j + 1) (fun y => mB M (X + 268) (64 * s + i + y)))) (X + 226) (nI s) (nI i) x3 x4 (nI k) (nI (j + 1))
      rw [f_X11_copy_L99, if_neg (nI_ge hj (by omega)), r_226_1157 hS1, ob_eq, r_226_1156 hS1, ob_eq, m64, nI_add, nI_add, aj_268 hS1 (by omega), ob_eq, wj_269 hS1 (by omega), ob_eq, mB_sB, if_pos rfl, sB_sB, mB_sB, if_neg (by omega), nI_1]
      exact congrArg (fun g => f_X11_copy_L99 fu (sB M (X + 269) g) (X + 226) (nI s) (nI i) x3 x4 (nI k) (nI (j + 1))) (wr0_s (mB M (X + 269)) j (fun y => mB M (X + 268) (64 * s + i + y))))
    (fun fu => by
      show f_X11_copy_L99 (fu + 1) _ (X + 226) (nI s) (nI i) x3 x4 (nI k) (nI k) = _
      rw [f_X11_copy_L99, if_pos (nI_le (Nat.le_refl _) (by omega))]) 1000 (by omega)
  have e2 : sB M (X + 269) (wr (mB M (X + 269)) 0 0 (fun y => mB M (X + 268) (64 * s + i + y))) = M := sB_self _ _ (fun j => by rw [wr_0])
  rw [e2] at e
  exact e
theorem cp2 {M : Mm} {X t j k : Nat} (hS : St M X) (ht : t < 8) (h : j + k ≤ 60) : f_X11_copy_L136 1000 M (X + 226) (nI t) (nI j) (nI k) 0 = some (sB M (X + 268) (wr (mB M (X + 268)) (64 * t + j) k (fun y => mB M (X + 269) y)), nI k) := by
  have e := loop_run (fun fu x => f_X11_copy_L136 fu (sB M (X + 268) (wr (mB M (X + 268)) (64 * t + j) x (fun y => mB M (X + 269) y))) (X + 226) (nI t) (nI j) (nI k) (nI x)) k (some (sB M (X + 268) (wr (mB M (X + 268)) (64 * t + j) k (fun y => mB M (X + 269) y)), nI k))
    (fun x fu hx => by
      have hS1 : St (sB M (X + 268) (wr (mB M (X + 268)) (64 * t + j) x (fun y => mB M (X + 269) y))) X := St_sB hS
      show f_X11_copy_L136 (fu + 1) (sB M (X + 268) (wr (mB M (X + 268)) (64 * t + j) x (fun y => mB M (X + 269) y))) (X + 226) (nI t) (nI j) (nI k) (nI x) = f_X11_copy_L136 fu (sB M (X + 268) (wr (mB M (X + 268)) (64 * t + j) (x + 1) (fun y => mB M (X + 269) y))) (X + 226) (nI t) (nI j) (nI k) (nI (x + 1))
      rw [f_X11_copy_L136, if_neg (nI_ge hx (by omega)), r_226_1156 hS1, ob_eq, r_226_1157 hS1, ob_eq, aj_269 hS1 (by omega), ob_eq, m64, nI_add, nI_add, wj_268 hS1 (by omega), ob_eq, mB_sB, if_pos rfl, sB_sB, mB_sB, if_neg (by omega), nI_1]
      exact congrArg (fun g => f_X11_copy_L136 fu (sB M (X + 268) g) (X + 226) (nI t) (nI j) (nI k) (nI (x + 1))) (wr_s (mB M (X + 268)) (64 * t + j) x (fun y => mB M (X + 269) y)))
    (fun fu => by
      show f_X11_copy_L136 (fu + 1) _ (X + 226) (nI t) (nI j) (nI k) (nI k) = _
      rw [f_X11_copy_L136, if_pos (nI_le (Nat.le_refl _) (by omega))]) 1000 (by omega)
  have e2 : sB M (X + 268) (wr (mB M (X + 268)) (64 * t + j) 0 (fun y => mB M (X + 269) y)) = M := sB_self _ _ (fun j => by rw [wr_0])
  rw [e2] at e
  exact e
theorem cpJ_of {M : Mm} {a b i j k na nb : Nat} (ka : mK M a = 21) (kb : mK M b = 21) (ha : mN M a = na) (hb : mN M b = nb) (h1 : i + k ≤ na) (h2 : j + k ≤ nb) (h9 : na < 1000) (h8 : nb < 1000) : cpJ M a (nI i) b (nI j) (nI k) = some (sB M b (va_cpy (mB M a) (mB M b) i j k)) := by
  have ei : (nI i).toInt = (i : Int) := nI_toInt (by omega)
  have ej : (nI j).toInt = (j : Int) := nI_toInt (by omega)
  have ek : (nI k).toInt = (k : Int) := nI_toInt (by omega)
  unfold cpJ
  rw [if_pos ka, if_pos kb, ei, ej, ek, if_pos (by omega), if_pos (by omega), if_pos (by omega), ha, hb, if_pos (by omega), if_pos (by omega), ix_nI (by omega), ix_nI (by omega), ix_nI (by omega)]
theorem cpI_of {M : Mm} {a b i j k na nb : Nat} (ka : mK M a = 20) (kb : mK M b = 20) (ha : mN M a = na) (hb : mN M b = nb) (h1 : i + k ≤ na) (h2 : j + k ≤ nb) (h9 : na < 1000) (h8 : nb < 1000) : cpI M a (nI i) b (nI j) (nI k) = some (sA M b (va_cpy (mA M a) (mA M b) i j k)) := by
  have ei : (nI i).toInt = (i : Int) := nI_toInt (by omega)
  have ej : (nI j).toInt = (j : Int) := nI_toInt (by omega)
  have ek : (nI k).toInt = (k : Int) := nI_toInt (by omega)
  unfold cpI
  rw [if_pos ka, if_pos kb, ei, ej, ek, if_pos (by omega), if_pos (by omega), if_pos (by omega), ha, hb, if_pos (by omega), if_pos (by omega), ix_nI (by omega), ix_nI (by omega), ix_nI (by omega)]
theorem op_copy {M : Mm} {X p n w : Nat} {z : Nat → Nat} (H : Inv M X p n w z) (a b c d e : Int32) : ∃ M1 M2 r, f_X10_copy M X a b c d e = some (M1, r) ∧ f_X11_copy M1 (X + 226) a b c d e = some (M2, r) ∧ Inv M2 X p n w z := by
  obtain ⟨hS, hW, ⟨p8, p1, p2, p3⟩, hD, hC, hQ, hX, hZ, hL, hG, hH, hT⟩ := id H
  have d10 : ¬ (1 : Int32) = 0 := by decide
  have hSt : St (sI M 1100 (X + 226) 0) X := St_sI hS
  rcases ix_cases a (n := 8) (by omega) with h | ⟨s, hs, rfl⟩
  · refine ⟨M, _, -1, ?_, ?_, inv_thr (v := 0) H⟩
    · unfold f_X10_copy
      simp only [if_pos (k_0 hS), (fl_out h).2.2.1, ob_eq, if_true]
    · unfold f_X11_copy
      simp only [if_pos (k_226 hS), pi_226 hS, (fl_out h).2.2.2, ob_eq, if_true]
  rcases ix_cases c (n := 8) (by omega) with h | ⟨t, ht, rfl⟩
  · refine ⟨M, _, -1, ?_, ?_, inv_thr (v := 0) H⟩
    · unfold f_X10_copy
      simp only [if_pos (k_0 hS), (fl_in hs).2.2.1, (fl_out h).2.2.1, ob_eq, if_neg d10, if_true]
    · unfold f_X11_copy
      simp only [if_pos (k_226 hS), pi_226 hS, (fl_in hs).2.2.2, (fl_out h).2.2.2, ob_eq, if_neg d10, if_true]
  obtain ⟨s1, hk, s2, s3, s4, s5⟩ := id (hH s hs)
  obtain ⟨t1, hj, t2, t3, t4, t5⟩ := id (hH t ht)
  have e10 : ∀ M', M' = M → f_X10_copy M X (nI s) b (nI t) d e = if nI hk = 0 then some (M, -11) else if nI hj = 0 then some (M, -11) else if nI hk = 1 then some (M, -12) else if nI hk = nI hj then (f_X8_hasPlaces M (aSh X s) b e).bind (fun v21 => if v21 = 0 then some (M, -13) else (f_X8_hasPlaces M (aSh X t) d e).bind (fun v24 => if v24 = 0 then some (M, -13) else (cpJ M (aSr X s) b (aSr X t) d e).bind (fun M28 => some (M28, e)))) else some (M, -12) := by
    intro _ _
    unfold f_X10_copy
    rw [if_pos (k_0 hS), (fl_in hs).2.2.1, ob_eq, if_neg d10, (fl_in ht).2.2.1, ob_eq, if_neg d10, r_0_1006 hS, ob_eq, q_sh hS hs, ob_eq, ob_eq, q_sh hS ht, ob_eq, gi_aSh hS hs, ob_eq, ob_eq, ob_eq, gi_aSh hS ht, ob_eq, ob_eq, s1, s3, t1, t3, r_aSh_800 hS hs, ob_eq, r_aSh_800 hS ht, ob_eq]
  have e11 : ∀ M', St M' X → mA M' = mA M → f_X11_copy M' (X + 226) (nI s) b (nI t) d e = if nI hk = 0 then some (sI M' 1100 (X + 226) 0, -11) else if nI hj = 0 then some (sI M' 1100 (X + 226) 0, -11) else if nI hk = 1 then some (sI M' 1100 (X + 226) 0, -12) else if nI hk = nI hj then (f_X11_hasPlaces (sI M' 1100 (X + 226) 0) (X + 226) (nI s) b e).bind (fun v23 => if v23 = 0 then some (sI M' 1100 (X + 226) 0, -13) else (f_X11_hasPlaces (sI M' 1100 (X + 226) 0) (X + 226) (nI t) d e).bind (fun v26 => if v26 = 0 then some (sI M' 1100 (X + 226) 0, -13) else f_X11_copy_L99 1000 (sI M' 1100 (X + 226) 0) (X + 226) (nI s) b (nI t) d e 0)) else some (sI M' 1100 (X + 226) 0, -12) := by
    intro M' hS' eA
    have hSt' : St (sI M' 1100 (X + 226) 0) X := St_sI hS'
    unfold f_X11_copy
    simp only [if_pos (k_226 hS'), pi_226 hS', ob_eq, (fl_in hs).2.2.2, if_neg d10, (fl_in ht).2.2.2, r_226_1153 hSt', ai_265 hSt' hs, ai_265 hSt' ht, mA_sI, eA, s3, t3]
  by_cases c0 : hk = 0
  · refine ⟨M, _, -11, by rw [e10 M rfl, if_pos (by rw [c0]; rfl)], by rw [e11 M hS rfl, if_pos (by rw [c0]; rfl)], inv_thr (v := 0) H⟩
  have n0 : ¬ nI hk = 0 := nI_ne0 (by omega) (by omega)
  by_cases c1 : hj = 0
  · refine ⟨M, _, -11, by rw [e10 M rfl, if_neg n0, if_pos (by rw [c1]; rfl)], by rw [e11 M hS rfl, if_neg n0, if_pos (by rw [c1]; rfl)], inv_thr (v := 0) H⟩
  have m0 : ¬ nI hj = 0 := nI_ne0 (by omega) (by omega)
  by_cases c2 : hk = 1
  · refine ⟨M, _, -12, by rw [e10 M rfl, if_neg n0, if_neg m0, if_pos (by rw [c2]; rfl)], by rw [e11 M hS rfl, if_neg n0, if_neg m0, if_pos (by rw [c2]; rfl)], inv_thr (v := 0) H⟩
  have n1 : ¬ nI hk = 1 := fun q => c2 ((nI_eq (a := hk) (b := 1) (by omega) (by decide)).mp q)
  by_cases c3 : hk = hj
  rotate_left
  · have n3 : ¬ nI hk = nI hj := fun q => c3 ((nI_eq (by omega) (by omega)).mp q)
    refine ⟨M, _, -12, by rw [e10 M rfl, if_neg n0, if_neg m0, if_neg n1, if_neg n3], by rw [e11 M hS rfl, if_neg n0, if_neg m0, if_neg n1, if_neg n3], inv_thr (v := 0) H⟩
  subst c3
  have hk2 : 2 ≤ hk := by clear s4 s5 t4 t5; omega
  obtain ⟨sz, g1, g2, g3, g4⟩ := s5 hk2
  obtain ⟨tz, k1, k2, k3, k4⟩ := t5 hk2
  clear s4 s5 t4 t5
  have hp : ∀ M', St M' X → mA M' = mA M → ∀ q x y, q < 8 → f_X11_hasPlaces (sI M' 1100 (X + 226) 0) (X + 226) (nI q) x y = f_X11_hasPlaces M (X + 226) (nI q) x y := by
    intro M' hS' eA q x y hq
    unfold f_X11_hasPlaces
    rw [if_pos (k_226 hS), if_pos (k_226 (St_sI hS')), r_226_1154 hS, r_226_1154 (St_sI hS'), ob_eq, ob_eq, ob_eq, ob_eq, ai_266 hS hq, ai_266 (St_sI hS') hq, mA_sI, eA]
  rcases hp_cases hS hs g1 g2 g3 b e with ⟨q1, q2⟩ | ⟨i, k, rfl, rfl, q3, q1, q2⟩
  · refine ⟨M, _, -13, by rw [e10 M rfl, if_neg n0, if_neg m0, if_neg n1, if_pos rfl, q1, ob_eq, if_pos rfl], by rw [e11 M hS rfl, if_neg n0, if_neg m0, if_neg n1, if_pos rfl, hp M hS rfl _ _ _ hs, q2, ob_eq, if_pos rfl], inv_thr (v := 0) H⟩
  rcases hp_cases hS ht k1 k2 k3 d (nI k) with ⟨r1, r2⟩ | ⟨j, k', rfl, ek, r3, r1, r2⟩
  · refine ⟨M, _, -13, by rw [e10 M rfl, if_neg n0, if_neg m0, if_neg n1, if_pos rfl, q1, ob_eq, if_neg d10, r1, ob_eq, if_pos rfl], by rw [e11 M hS rfl, if_neg n0, if_neg m0, if_neg n1, if_pos rfl, hp M hS rfl _ _ _ hs, q2, ob_eq, if_neg d10, hp M hS rfl _ _ _ ht, r2, ob_eq, if_pos rfl], inv_thr (v := 0) H⟩
  have ek' : k' = k := ((nI_eq (by omega) (by
    apply Nat.lt_of_not_le
    intro q
    omega)).mp ek).symm
  subst ek'
  generalize hM1 : sB M (aSr X t) (va_cpy (mB M (aSr X s)) (mB M (aSr X t)) i j k') = M1
  have hS1 : St M1 X := by rw [← hM1]; exact St_sB hS
  have eA1 : mA M1 = mA M := by rw [← hM1, mA_sB]
  have eC : f_X10_copy M X (nI s) (nI i) (nI t) (nI j) (nI k') = some (M1, nI k') := by
    rw [e10 M rfl, if_neg n0, if_neg m0, if_neg n1, if_pos rfl, q1, ob_eq, if_neg d10, r1, ob_eq, if_neg d10, cpJ_of (k_aSr hS hs) (k_aSr hS ht) (n_aSr hS hs) (n_aSr hS ht) (by omega) (by omega) (by decide) (by decide), ob_eq, hM1]
  generalize hMt : sI M1 1100 (X + 226) 0 = Mt
  have hSt1 : St Mt X := by rw [← hMt]; exact St_sI hS1
  generalize hMa : sB Mt (X + 269) (wr (mB Mt (X + 269)) 0 k' (fun y => mB Mt (X + 268) (64 * s + i + y))) = Ma
  have hSa : St Ma X := by rw [← hMa]; exact St_sB hSt1
  have eM : f_X11_copy M1 (X + 226) (nI s) (nI i) (nI t) (nI j) (nI k') = some (sB Ma (X + 268) (wr (mB Ma (X + 268)) (64 * t + j) k' (fun y => mB Ma (X + 269) y)), nI k') := by
    rw [e11 M1 hS1 eA1, if_neg n0, if_neg m0, if_neg n1, if_pos rfl, hp M1 hS1 eA1 _ _ _ hs, q2, ob_eq, if_neg d10, hp M1 hS1 eA1 _ _ _ ht, r2, ob_eq, if_neg d10, hMt, cp1 hSt1 hs (by omega), hMa, cp2 hSa ht (by omega)]
  refine ⟨M1, _, _, eC, eM, inv_shelf H ht ?_ ?_⟩
  · have A1 : Ag X (z n) n (TIs X t) (TAs X t) (TBs X t) M M1 := by rw [← hM1]; exact Ag_sB (Or.inr (Or.inr (fun j q => absurd (Or.inl rfl) q)))
    have A2 : Ag X (z n) n (TIs X t) (TAs X t) (TBs X t) M1 Mt := by rw [← hMt]; exact Ag_sI (Or.inl (by unfold ScI; omega))
    have A3 : Ag X (z n) n (TIs X t) (TAs X t) (TBs X t) Mt Ma := by rw [← hMa]; exact Ag_sB (Or.inl (by unfold ScB; omega))
    exact Ag.cBw ((A1.tr' A2).tr' A3) (fun x y1 y2 => Or.inr ⟨rfl, by omega, by omega⟩)
  · have f268 : mB Ma (X + 268) = mB M (X + 268) := by rw [← hMa, mB_sB, if_neg (by omega), ← hMt, mB_sI, ← hM1, mB_sB, if_neg (by unfold aSr; omega)]
    have f269 : ∀ y, y < k' → mB Ma (X + 269) y = mB M (X + 268) (64 * s + i + y) := by
      intro y hy
      rw [← hMa, mB_sB, if_pos rfl, wr0_in hy, ← hMt, mB_sI, ← hM1, mB_sB, if_neg (by unfold aSr; omega)]
    have fr : mB Ma (aSr X t) = va_cpy (mB M (aSr X s)) (mB M (aSr X t)) i j k' := by rw [← hMa, mB_sB, if_neg (by unfold aSr; omega), ← hMt, mB_sI, ← hM1, mB_sB, if_pos rfl]
    have fA : mA Ma = mA M := by rw [← hMa, mA_sB, ← hMt, mA_sI, eA1]
    have fI : ∀ num, num ≠ 1100 → mI Ma num = mI M num := by
      intro num hn
      rw [← hMa, mI_sB, ← hMt]; funext y; rw [mI_sI, if_neg hn, ← hM1, mI_sB]
    refine ⟨by rw [mI_sB, fI 801 (by decide), mA_sB, fA]; exact t1, hk, t2, by rw [mA_sB, fA]; exact t3, fun q => absurd q c2, fun _ => ⟨tz, k1, by rw [mI_sB, fI 802 (by decide)]; exact k2, by rw [mA_sB, fA]; exact k3, fun x hx => ?_⟩⟩
    rw [mB_sB, if_pos rfl, mB_sB, if_neg (by unfold aSr; omega), fr]
    unfold va_cpy
    by_cases q : j ≤ x ∧ x < j + k'
    · rw [if_pos q, show 64 * t + x = 64 * t + j + (x - j) by omega, wr_in (by omega)]
      rw [f269 (x - j) (by omega), show 64 * s + i + (x - j) = 64 * s + (i + (x - j)) by omega]
      exact g4 _ (by omega)
    · rw [if_neg q, wr_out (by omega), f268]
      exact k4 x hx
end
section
/-! spent -/
def sm (c : Nat → Bool) (v : Nat → Int64) : Nat → Int64
  | 0 => 0
  | n + 1 => if c n then sm c v n + v n else sm c v n
def wbs (kd wd : Nat → Int32) : Nat → Nat → Int32
  | 0, _ => 26
  | f + 1, i => wbs kd wd f i + (wd f + (if kd f = 2 then 8 else if kd f = 3 then 8 else 0))
theorem wb10 {M : Mm} {X p : Nat} (hS : St M X) (p1 : mI M 604 (X + 1) = nI p) (p8 : p ≤ 8) : f_X6_wholeBits M (X + 1) = some (wbs (mA M (X + 2)) (mA M (X + 3)) p 0) := by
  unfold f_X6_wholeBits
  rw [if_pos (k_1 hS)]
  exact loop_run (fun fu i => f_X6_wholeBits_L5 M fu (X + 1) (wbs (mA M (X + 2)) (mA M (X + 3)) i 0) (nI i)) p (some (wbs (mA M (X + 2)) (mA M (X + 3)) p 0))
    (fun i fu hi => by
      show f_X6_wholeBits_L5 M (fu + 1) (X + 1) (wbs (mA M (X + 2)) (mA M (X + 3)) i 0) (nI i) = f_X6_wholeBits_L5 M fu (X + 1) (wbs (mA M (X + 2)) (mA M (X + 3)) (i + 1) 0) (nI (i + 1))
      rw [f_X6_wholeBits_L5, gi_1 hS, ob_eq, p1, if_neg (nI_ge hi (by omega)), r_1_601 hS, ob_eq, ai_3 hS (by omega), ob_eq, hs_in hS p1 p8 hi, ob_eq]
      unfold f_X6_wholeBits_J34
      show _ = f_X6_wholeBits_L5 M fu (X + 1) (wbs (mA M (X + 2)) (mA M (X + 3)) i 0 + (mA M (X + 3) i + (if mA M (X + 2) i = 2 then 8 else if mA M (X + 2) i = 3 then 8 else 0))) (nI (i + 1))
      rw [nI_1]
      by_cases q : mA M (X + 2) i = 2
      · rw [if_pos q, if_pos q, if_neg (by decide)]
      · rw [if_neg q, if_neg q]
        by_cases q2 : mA M (X + 2) i = 3
        · rw [if_pos q2, if_pos q2, if_neg (by decide)]
        · rw [if_neg q2, if_neg q2, if_pos rfl])
    (fun fu => by
      show f_X6_wholeBits_L5 M (fu + 1) (X + 1) (wbs (mA M (X + 2)) (mA M (X + 3)) p 0) (nI p) = _
      rw [f_X6_wholeBits_L5, gi_1 hS, ob_eq, p1, if_pos (nI_le (Nat.le_refl _) (by omega))]) 1000 (by omega)
theorem wb11 {M : Mm} {X p : Nat} (hS : St M X) (p1 : mI M 1101 (X + 226) = nI p) (p8 : p ≤ 8) : f_X11_wholeBits M (X + 226) = some (wbs (mA M (X + 227)) (mA M (X + 228)) p 0) := by
  unfold f_X11_wholeBits
  rw [if_pos (k_226 hS)]
  exact loop_run (fun fu i => f_X11_wholeBits_L5 M fu (X + 226) (wbs (mA M (X + 227)) (mA M (X + 228)) i 0) (nI i)) p (some (wbs (mA M (X + 227)) (mA M (X + 228)) p 0))
    (fun i fu hi => by
      show f_X11_wholeBits_L5 M (fu + 1) (X + 226) (wbs (mA M (X + 227)) (mA M (X + 228)) i 0) (nI i) = f_X11_wholeBits_L5 M fu (X + 226) (wbs (mA M (X + 227)) (mA M (X + 228)) (i + 1) 0) (nI (i + 1))
      rw [f_X11_wholeBits_L5, gi_226 hS, ob_eq, p1, if_neg (nI_ge hi (by omega)), r_226_1103 hS, ob_eq, ai_228 hS (by omega), ob_eq, ru_in hS (by omega), ob_eq]
      unfold f_X11_wholeBits_J34
      show _ = f_X11_wholeBits_L5 M fu (X + 226) (wbs (mA M (X + 227)) (mA M (X + 228)) i 0 + (mA M (X + 228) i + (if mA M (X + 227) i = 2 then 8 else if mA M (X + 227) i = 3 then 8 else 0))) (nI (i + 1))
      rw [nI_1]
      by_cases q : mA M (X + 227) i = 2
      · rw [if_pos q, if_pos q, if_neg (by decide)]
      · rw [if_neg q, if_neg q]
        by_cases q2 : mA M (X + 227) i = 3
        · rw [if_pos q2, if_pos q2, if_neg (by decide)]
        · rw [if_neg q2, if_neg q2, if_pos rfl])
    (fun fu => by
      show f_X11_wholeBits_L5 M (fu + 1) (X + 226) (wbs (mA M (X + 227)) (mA M (X + 228)) p 0) (nI p) = _
      rw [f_X11_wholeBits_L5, gi_226 hS, ob_eq, p1, if_pos (nI_le (Nat.le_refl _) (by omega))]) 1000 (by omega)
theorem wbs_eq {M : Mm} {X p : Nat} (p8 : p ≤ 8) (h : ∀ f, f < p → IF M X f) : ∃ W, W ≤ 26 + 40 * p ∧ wbs (mA M (X + 2)) (mA M (X + 3)) p 0 = nI W ∧ wbs (mA M (X + 227)) (mA M (X + 228)) p 0 = nI W := by
  induction p with
  | zero => exact ⟨26, by decide, rfl, rfl⟩
  | succ p ih =>
    obtain ⟨W, w1, w2, w3⟩ := ih (by omega) (fun f hf => h f (by omega))
    obtain ⟨f1, f2, -, ⟨wd, g1, g2, g3⟩, -⟩ := h p (by omega)
    have e8 : (8 : Int32) = nI 8 := rfl
    have e0 : (0 : Int32) = nI 0 := rfl
    have key : ∀ b : Nat, b ≤ 8 → nI W + (nI wd + nI b) = nI (W + (wd + b)) := fun b hb => by rw [nI_add, nI_add]
    have main : ∃ b : Nat, b ≤ 8 ∧ (if mA M (X + 2) p = 2 then (8 : Int32) else if mA M (X + 2) p = 3 then 8 else 0) = nI b := by
      by_cases q : mA M (X + 2) p = 2
      · exact ⟨8, by decide, by rw [if_pos q]; rfl⟩
      · by_cases q2 : mA M (X + 2) p = 3
        · exact ⟨8, by decide, by rw [if_neg q, if_pos q2]; rfl⟩
        · exact ⟨0, by decide, by rw [if_neg q, if_neg q2]; rfl⟩
    obtain ⟨b, b1, b2⟩ := main
    refine ⟨W + (wd + b), by omega, ?_, ?_⟩
    · show wbs (mA M (X + 2)) (mA M (X + 3)) p 0 + (mA M (X + 3) p + _) = _
      rw [w2, g3, b2, key b b1]
    · show wbs (mA M (X + 227)) (mA M (X + 228)) p 0 + (mA M (X + 228) p + _) = _
      rw [w3, f2, f1, g3, b2, key b b1]
def spc (M : Mm) (X : Nat) (fl k : Int32) (l : Nat) : Bool := decide (mA M (X + 247) l = 0) && (decide (mA M (X + 242) l = fl) && decide (mA M (X + 241) l = k))
theorem sp10 {M : Mm} {X p n : Nat} {z : Nat → Nat} {fl k what : Int32} (hS : St M X) (hC : IC M X n) (hL : ∀ l, l < n → IL M X p z l) : f_X10_spent_L38 M 1000 X fl k what 0 0 0 = if what = 0 then some (sm (spc M X fl k) (fun _ => 1) n) else if what = 1 then some (sm (spc M X fl k) (fun l => (mA M (X + 244) l).toInt64) n) else if k ≤ 2 then (f_X6_wholeBits M (X + 1)).bind (fun v => some (sm (spc M X fl k) (fun _ => 1) n * v.toInt64 - sm (spc M X fl k) (fun l => (mA M (X + 244) l).toInt64) n)) else some 0 := by
  have h200 := hC.1
  exact loop_run (fun fu i => f_X10_spent_L38 M fu X fl k what (sm (spc M X fl k) (fun _ => 1) i) (sm (spc M X fl k) (fun l => (mA M (X + 244) l).toInt64) i) (nI i)) n _
    (fun i fu hi => by
      show f_X10_spent_L38 M (fu + 1) X fl k what (sm (spc M X fl k) (fun _ => 1) i) (sm (spc M X fl k) (fun l => (mA M (X + 244) l).toInt64) i) (nI i) = f_X10_spent_L38 M fu X fl k what (sm (spc M X fl k) (fun _ => 1) (i + 1)) (sm (spc M X fl k) (fun l => (mA M (X + 244) l).toInt64) (i + 1)) (nI (i + 1))
      obtain ⟨h1, h2, h3, h4, ⟨kk, g5, h5, h5b⟩, ⟨fi, g6, h6, h6b⟩, h7, ⟨nb, g8, h8, h8b⟩, h9, h10, h11, h12, h13, -⟩ := hL i hi
      rw [f_X10_spent_L38, gi_0 hS, ob_eq, hC.2.1, if_neg (nI_ge hi (by omega)), r_0_1005 hS, ob_eq, aN_of (k_194 hS) (n_194 hS) (by omega) (by decide), ob_eq, h1, nm_some, gI_of h2, ob_eq, gI_of h2, ob_eq, gI_of h2, ob_eq, gI_of h2, ob_eq, h5, h6, h8, ← h12]
      unfold f_X10_spent_J104
      rw [nI_1]
      by_cases q : spc M X fl k i = true
      · have e1 : sm (spc M X fl k) (fun _ => 1) (i + 1) = sm (spc M X fl k) (fun _ => 1) i + 1 := if_pos q
        have e2 : sm (spc M X fl k) (fun l => (mA M (X + 244) l).toInt64) (i + 1) = sm (spc M X fl k) (fun l => (mA M (X + 244) l).toInt64) i + (mA M (X + 244) i).toInt64 := if_pos q
        rw [e1, e2]
        unfold spc at q
        rw [Bool.and_eq_true, Bool.and_eq_true, decide_eq_true_eq, decide_eq_true_eq, decide_eq_true_eq] at q
        rw [if_pos q.1, if_pos (h5b.symm.trans q.2.2), if_pos (h6b.symm.trans q.2.1), h8b]
      · have e1 : sm (spc M X fl k) (fun _ => 1) (i + 1) = sm (spc M X fl k) (fun _ => 1) i := if_neg q
        have e2 : sm (spc M X fl k) (fun l => (mA M (X + 244) l).toInt64) (i + 1) = sm (spc M X fl k) (fun l => (mA M (X + 244) l).toInt64) i := if_neg q
        rw [e1, e2]
        unfold spc at q
        rw [Bool.and_eq_true, Bool.and_eq_true, decide_eq_true_eq, decide_eq_true_eq, decide_eq_true_eq] at q
        by_cases q1 : mA M (X + 247) i = 0
        · rw [if_pos q1]
          by_cases q2 : nI kk = k
          · rw [if_pos q2, if_neg (fun q3 => q ⟨q1, h6b.trans q3, h5b.trans q2⟩)]
          · rw [if_neg q2]
        · rw [if_neg q1])
    (fun fu => by
      show f_X10_spent_L38 M (fu + 1) X fl k what (sm (spc M X fl k) (fun _ => 1) n) (sm (spc M X fl k) (fun l => (mA M (X + 244) l).toInt64) n) (nI n) = _
      rw [f_X10_spent_L38, gi_0 hS, ob_eq, hC.2.1, if_pos (nI_le (Nat.le_refl _) (by omega)), r_0_1001 hS, ob_eq]) 1000 (by omega)
theorem sp11 {M : Mm} {X p n : Nat} {fl k what W : Int32} (hS : St M X) (hC : IC M X n) (hW : f_X11_wholeBits M (X + 226) = some W) : f_X11_spent_L46 1000 M (X + 226) fl k what 0 0 = some (M, sm (spc M X fl k) (fun l => if what = 0 then 1 else if what = 1 then (mA M (X + 244) l).toInt64 else if 3 ≤ k then 0 else (W - mA M (X + 244) l).toInt64) n) := by
  have h200 := hC.1
  exact loop_run (fun fu i => f_X11_spent_L46 fu M (X + 226) fl k what (sm (spc M X fl k) (fun l => if what = 0 then 1 else if what = 1 then (mA M (X + 244) l).toInt64 else if 3 ≤ k then 0 else (W - mA M (X + 244) l).toInt64) i) (nI i)) n _
    (fun i fu hi => by
      show f_X11_spent_L46 (fu + 1) M (X + 226) fl k what (sm (spc M X fl k) (fun l => if what = 0 then 1 else if what = 1 then (mA M (X + 244) l).toInt64 else if 3 ≤ k then 0 else (W - mA M (X + 244) l).toInt64) i) (nI i) = f_X11_spent_L46 fu M (X + 226) fl k what (sm (spc M X fl k) (fun l => if what = 0 then 1 else if what = 1 then (mA M (X + 244) l).toInt64 else if 3 ≤ k then 0 else (W - mA M (X + 244) l).toInt64) (i + 1)) (nI (i + 1))
      rw [f_X11_spent_L46, gi_226 hS, ob_eq, hC.2.2.1, if_neg (nI_ge hi (by omega)), r_226_1125 hS, ob_eq, az_247 hS (by omega), ob_eq, r_226_1120 hS, ob_eq, ai_242 hS (by omega), ob_eq, r_226_1119 hS, ob_eq, ai_241 hS (by omega), ob_eq, r_226_1122 hS, ob_eq, ai_244 hS (by omega), ob_eq, hW, ob_eq, ob_eq, ai_244 hS (by omega), ob_eq]
      unfold f_X11_spent_J135 f_X11_spent_J138
      rw [nI_1]
      by_cases q : spc M X fl k i = true
      · have e1 : sm (spc M X fl k) (fun l => if what = 0 then 1 else if what = 1 then (mA M (X + 244) l).toInt64 else if 3 ≤ k then 0 else (W - mA M (X + 244) l).toInt64) (i + 1) = sm (spc M X fl k) (fun l => if what = 0 then 1 else if what = 1 then (mA M (X + 244) l).toInt64 else if 3 ≤ k then 0 else (W - mA M (X + 244) l).toInt64) i + (if what = 0 then 1 else if what = 1 then (mA M (X + 244) i).toInt64 else if 3 ≤ k then 0 else (W - mA M (X + 244) i).toInt64) := if_pos q
        rw [e1]
        unfold spc at q
        rw [Bool.and_eq_true, Bool.and_eq_true, decide_eq_true_eq, decide_eq_true_eq, decide_eq_true_eq] at q
        rw [if_pos q.1, if_pos q.2.1, if_pos q.2.2]
        by_cases c0 : what = 0
        · rw [if_pos c0, if_pos c0]
        · rw [if_neg c0, if_neg c0]
          by_cases c1 : what = 1
          · rw [if_pos c1, if_pos c1]
          · rw [if_neg c1, if_neg c1]
            by_cases c2 : 3 ≤ k
            · rw [if_pos c2, if_pos c2]
            · rw [if_neg c2, if_neg c2]
      · have e1 : sm (spc M X fl k) (fun l => if what = 0 then 1 else if what = 1 then (mA M (X + 244) l).toInt64 else if 3 ≤ k then 0 else (W - mA M (X + 244) l).toInt64) (i + 1) = sm (spc M X fl k) (fun l => if what = 0 then 1 else if what = 1 then (mA M (X + 244) l).toInt64 else if 3 ≤ k then 0 else (W - mA M (X + 244) l).toInt64) i := if_neg q
        rw [e1]
        unfold spc at q
        rw [Bool.and_eq_true, Bool.and_eq_true, decide_eq_true_eq, decide_eq_true_eq, decide_eq_true_eq] at q
        by_cases q1 : mA M (X + 247) i = 0
        · rw [if_pos q1]
          by_cases q2 : mA M (X + 242) i = fl
          · rw [if_pos q2, if_neg (fun q3 => q ⟨q1, q2, q3⟩)]
          · rw [if_neg q2]
        · rw [if_neg q1])
    (fun fu => by
      show f_X11_spent_L46 (fu + 1) M (X + 226) fl k what _ (nI n) = _
      rw [f_X11_spent_L46, gi_226 hS, ob_eq, hC.2.2.1, if_pos (nI_le (Nat.le_refl _) (by omega))]) 1000 (by omega)
theorem sm_congr {c : Nat → Bool} {v v' : Nat → Int64} : ∀ {n : Nat}, (∀ l, l < n → v l = v' l) → sm c v n = sm c v' n
  | 0, _ => rfl
  | n + 1, h => by
    show (if c n then sm c v n + v n else sm c v n) = if c n then sm c v' n + v' n else sm c v' n
    rw [sm_congr (fun l hl => h l (by omega)), h n (by omega)]
theorem sm_zero {c : Nat → Bool} : ∀ n : Nat, sm c (fun _ => 0) n = 0
  | 0 => rfl
  | n + 1 => by
    show (if c n then sm c (fun _ => 0) n + 0 else sm c (fun _ => 0) n) = 0
    rw [sm_zero n]
    by_cases q : c n = true
    · rw [if_pos q]; rfl
    · rw [if_neg q]
theorem i64r (c W b v : Int64) : (c + 1) * W - (b + v) = c * W - b + (W - v) := by
  rw [Int64.add_mul, Int64.one_mul, Int64.sub_eq_add_neg, Int64.sub_eq_add_neg, Int64.sub_eq_add_neg, Int64.neg_add]
  simp only [Int64.add_assoc, Int64.sub_eq_add_neg]
  rw [← Int64.add_assoc W, Int64.add_comm W, Int64.add_assoc]
theorem sm_lin {c : Nat → Bool} {v : Nat → Int64} {W : Int64} : ∀ n : Nat, sm c (fun l => W - v l) n = sm c (fun _ => 1) n * W - sm c v n
  | 0 => by show (0 : Int64) = 0 * W - 0; rw [Int64.zero_mul]; rfl
  | n + 1 => by
    show (if c n then sm c (fun l => W - v l) n + (W - v n) else sm c (fun l => W - v l) n) = (if c n then sm c (fun _ => 1) n + 1 else sm c (fun _ => 1) n) * W - (if c n then sm c v n + v n else sm c v n)
    rw [sm_lin n]
    by_cases q : c n = true
    · rw [if_pos q, if_pos q, if_pos q, i64r]
    · rw [if_neg q, if_neg q, if_neg q]
theorem w64_sub {a b : Nat} (ha : a < 2 ^ 30) (hb : b < 2 ^ 30) : (nI a - nI b).toInt64 = (nI a).toInt64 - (nI b).toInt64 := by
  apply Int64.toInt_inj.mp
  rw [Int32.toInt_toInt64, Int32.toInt_sub, Int64.toInt_sub, Int32.toInt_toInt64, Int32.toInt_toInt64, nI_toInt (by omega), nI_toInt (by omega)]
  rw [Int.bmod_eq_of_le_mul_two (by omega) (by omega), Int.bmod_eq_of_le_mul_two (by omega) (by omega)]
theorem op_spent {M : Mm} {X p n w : Nat} {z : Nat → Nat} (H : Inv M X p n w z) (a b c : Int32) : ∃ r, f_X10_spent M X a b c = some r ∧ f_X11_spent M (X + 226) a b c = some (sI M 1100 (X + 226) 0, r) := by
  obtain ⟨hS, hW, ⟨p8, p1, p2, p3⟩, hD, hC, hQ, hX, hZ, hL, hG, hH, hT⟩ := id H
  have hSt : St (sI M 1100 (X + 226) 0) X := St_sI hS
  have hC' : IC (sI M 1100 (X + 226) 0) X n := by
    obtain ⟨c1, c2, c3, c4⟩ := hC
    exact ⟨c1, by rw [mI_sI, if_neg (by decide)]; exact c2, by rw [mI_sI, if_neg (by decide)]; exact c3, by rw [mI_sI, if_neg (by decide)]; exact c4⟩
  have d10 : ¬ (1 : Int32) = 0 := by decide
  obtain ⟨W, w1, w2, w3⟩ := wbs_eq p8 p3
  have hWb : f_X11_wholeBits (sI M 1100 (X + 226) 0) (X + 226) = some (nI W) := by
    rw [wb11 hSt (by rw [mI_sI, if_neg (by decide)]; exact p2) p8, mA_sI, w3]
  unfold f_X10_spent f_X11_spent
  rw [if_pos (k_0 hS), if_pos (k_226 hS), pi_226 hS, ob_eq, isIn_0_5, isIn_0_2, ob_eq, ob_eq, sp10 hS hC hL, sp11 (p := p) hSt hC' hWb, wb10 hS p1 p8, ob_eq, w2]
  rcases ix_cases a (n := 8) (by omega) with h | ⟨i, hi, rfl⟩
  · rw [(fl_out h).1, (fl_out h).2.1, ob_eq, ob_eq, if_pos rfl, if_pos rfl]; exact ⟨_, rfl, rfl⟩
  rw [(fl_in hi).1, (fl_in hi).2.1, ob_eq, ob_eq, if_neg d10, if_neg d10]
  by_cases b0 : b < 0
  · rw [if_pos b0, if_pos b0, if_pos rfl]; exact ⟨_, rfl, rfl⟩
  rw [if_neg b0, if_neg b0]
  by_cases b1 : 5 < b
  · rw [if_pos b1, if_pos b1, if_pos rfl]; exact ⟨_, rfl, rfl⟩
  rw [if_neg b1, if_neg b1, if_neg d10]
  by_cases c0 : c < 0
  · rw [if_pos c0, if_pos c0, if_pos rfl]; exact ⟨_, rfl, rfl⟩
  rw [if_neg c0, if_neg c0]
  by_cases c1 : c ≤ 2
  rotate_left
  · rw [if_neg c1, if_pos (Int32.not_le.mp c1), if_pos rfl]; exact ⟨_, rfl, rfl⟩
  rw [if_pos c1, if_neg (Int32.not_lt.mpr c1), if_neg d10]
  have es : spc (sI M 1100 (X + 226) 0) X (nI i) b = spc M X (nI i) b := rfl
  rw [es, mA_sI]
  by_cases x0 : c = 0
  · rw [if_pos x0]
    refine ⟨_, rfl, ?_⟩
    rw [sm_congr (v' := fun _ => 1) (fun l hl => if_pos x0)]
  by_cases x1 : c = 1
  · rw [if_neg x0, if_pos x1]
    refine ⟨_, rfl, ?_⟩
    rw [sm_congr (v' := fun l => (mA M (X + 244) l).toInt64) (fun l hl => by rw [if_neg x0, if_pos x1])]
  rw [if_neg x0, if_neg x1]
  by_cases x2 : b ≤ 2
  · rw [if_pos x2]
    refine ⟨_, rfl, ?_⟩
    have x3 : ¬ 3 ≤ b := fun q => absurd (Int32.le_trans q x2) (by decide)
    rw [sm_congr (v' := fun l => (nI W).toInt64 - (mA M (X + 244) l).toInt64) (fun l hl => by
      obtain ⟨h1, h2, h3, h4, h5, h6, h7, ⟨nb, g8, h8, h8b⟩, -⟩ := hL l hl
      rw [if_neg x0, if_neg x1, if_neg x3, h8b]
      exact w64_sub (by omega) (by omega)), sm_lin]
  · rw [if_neg x2]
    have x3 : 3 ≤ b := by
      have q1 := Int32.lt_iff_toInt_lt.mp (Int32.not_le.mp x2)
      exact Int32.le_iff_toInt_le.mpr (by
        have e2 : (2 : Int32).toInt = 2 := by decide
        have e3 : (3 : Int32).toInt = 3 := by decide
        rw [e2] at q1; rw [e3]; omega)
    refine ⟨_, rfl, ?_⟩
    rw [sm_congr (v' := fun _ => 0) (fun l hl => by rw [if_neg x0, if_neg x1, if_pos x3]), sm_zero]
end
section
/-! field -/
def apM (M : Mm) (X p : Nat) (a b t d : Int32) : Mm := sI (sA (sA (sA (sA M (X + 2) (va_up (mA M (X + 2)) p a)) (X + 3) (va_up (mA M (X + 3)) p b)) (X + 4) (va_up (mA M (X + 4)) p t)) (X + 5) (va_up (mA M (X + 5)) p d)) 604 (X + 1) (nI (p + 1))
theorem ap_eq {M : Mm} {X p : Nat} {a b c d : Int32} (hS : St M X) (p1 : mI M 604 (X + 1) = nI p) (hp : p < 8) : f_X6_append M (X + 1) a b c d = some (apM M X p a b (if a = 1 then c else 0) d, nI p) := by
  unfold f_X6_append
  have l8 : nI p < 8 := nI_lt (b := 8) hp (by decide)
  simp only [if_pos (k_1 hS), gi_1 hS, ob_eq, p1, if_pos l8, r_1_600 hS, wi_2 hS hp]
  generalize hA : sA M (X + 2) (va_up (mA M (X + 2)) p a) = Ma
  have hSa : St Ma X := by rw [← hA]; exact St_sA hS
  have pa : mI Ma 604 (X + 1) = nI p := by rw [← hA, mI_sA]; exact p1
  simp only [gi_1 hSa, ob_eq, pa, r_1_601 hSa, wi_3 hSa hp]
  generalize hB : sA Ma (X + 3) (va_up (mA Ma (X + 3)) p b) = Mb
  have hSb : St Mb X := by rw [← hB]; exact St_sA hSa
  have pb : mI Mb 604 (X + 1) = nI p := by rw [← hB, mI_sA]; exact pa
  have key : ∀ t : Int32, f_X6_append_J50 Mb (X + 1) d (X + 4) (nI p) t = some (apM M X p a b t d, nI p) := by
    intro t
    unfold f_X6_append_J50
    simp only [wi_4 hSb hp, ob_eq]
    generalize hC : sA Mb (X + 4) (va_up (mA Mb (X + 4)) p t) = Mc
    have hSc : St Mc X := by rw [← hC]; exact St_sA hSb
    have pc : mI Mc 604 (X + 1) = nI p := by rw [← hC, mI_sA]; exact pb
    simp only [gi_1 hSc, ob_eq, pc, r_1_603 hSc, wi_5 hSc hp]
    generalize hD : sA Mc (X + 5) (va_up (mA Mc (X + 5)) p d) = Md
    have hSd : St Md X := by rw [← hD]; exact St_sA hSc
    have pd : mI Md 604 (X + 1) = nI p := by rw [← hD, mI_sA]; exact pc
    simp only [gi_1 hSd, ob_eq, pd, pi_1 hSd, nI_1, gi_1 (St_sI hSd)]
    have e1 : mI (sI Md 604 (X + 1) (nI (p + 1))) 604 (X + 1) = nI (p + 1) := by rw [mI_sI, if_pos rfl, if_pos rfl]
    have e2 : nI (p + 1) - 1 = nI p := by rw [nI_succ]; exact Int32.add_sub_cancel _ _
    rw [e1, e2]
    have e3 : sI Md 604 (X + 1) (nI (p + 1)) = apM M X p a b t d := by
      rw [← hD, ← hC, ← hB, ← hA]
      unfold apM
      simp only [mA_sA, if_neg (by omega : ¬ X + 3 = X + 2), if_neg (by omega : ¬ X + 4 = X + 3), if_neg (by omega : ¬ X + 4 = X + 2), if_neg (by omega : ¬ X + 5 = X + 2), if_neg (by omega : ¬ X + 5 = X + 3), if_neg (by omega : ¬ X + 5 = X + 4)]
    rw [e3]
  simp only [gi_1 hSb, ob_eq, pb, r_1_602 hSb]
  by_cases q : a = 1
  · rw [if_pos q, if_pos q, key]
  · rw [if_neg q, if_neg q, key]
def amM (M : Mm) (X p : Nat) (a b t d : Int32) : Mm := sI (sB (sB (sA (sA (sA M (X + 227) (va_up (mA M (X + 227)) p a)) (X + 228) (va_up (mA M (X + 228)) p b)) (X + 229) (va_up (mA M (X + 229)) p t)) (X + 230) (va_up (mB M (X + 230)) p d.toInt64)) (X + 231) (va_up (mB M (X + 231)) p 0)) 1101 (X + 226) (nI (p + 1))
theorem am_eq {M : Mm} {X p : Nat} {a b c d : Int32} (hS : St M X) (p1 : mI M 1101 (X + 226) = nI p) (hp : p < 8) (h6 : mI M 1106 (X + 226) = 0) : f_X11_field_J65 M (X + 226) a b c d 1 = some (amM M X p a b c d, nI p) := by
  have d10 : ¬ (1 : Int32) = 0 := by decide
  have n8 : ¬ nI p = 8 := fun q => absurd ((nI_eq (a := p) (b := 8) (by omega) (by decide)).mp q) (by omega)
  unfold f_X11_field_J65
  simp only [if_neg d10, gi_226 hS, ob_eq, p1, if_neg n8, h6, if_true, r_226_1102 hS, wi_227 hS hp]
  generalize hA : sA M (X + 227) (va_up (mA M (X + 227)) p a) = Ma
  have hSa : St Ma X := by rw [← hA]; exact St_sA hS
  have pa : mI Ma 1101 (X + 226) = nI p := by rw [← hA, mI_sA]; exact p1
  simp only [gi_226 hSa, ob_eq, pa, r_226_1103 hSa, wi_228 hSa hp]
  generalize hB : sA Ma (X + 228) (va_up (mA Ma (X + 228)) p b) = Mb
  have hSb : St Mb X := by rw [← hB]; exact St_sA hSa
  have pb : mI Mb 1101 (X + 226) = nI p := by rw [← hB, mI_sA]; exact pa
  simp only [gi_226 hSb, ob_eq, pb, r_226_1104 hSb, wi_229 hSb hp]
  generalize hC : sA Mb (X + 229) (va_up (mA Mb (X + 229)) p c) = Mc
  have hSc : St Mc X := by rw [← hC]; exact St_sA hSb
  have pc : mI Mc 1101 (X + 226) = nI p := by rw [← hC, mI_sA]; exact pb
  simp only [gi_226 hSc, ob_eq, pc, r_226_1105 hSc, wj_230 hSc hp]
  generalize hD : sB Mc (X + 230) (va_up (mB Mc (X + 230)) p d.toInt64) = Md
  have hSd : St Md X := by rw [← hD]; exact St_sB hSc
  have pd : mI Md 1101 (X + 226) = nI p := by rw [← hD, mI_sB]; exact pc
  simp only [gi_226 hSd, ob_eq, pd, r_226_1108 hSd, wj_231 hSd hp]
  generalize hE : sB Md (X + 231) (va_up (mB Md (X + 231)) p 0) = Me
  have hSe : St Me X := by rw [← hE]; exact St_sB hSd
  have pe : mI Me 1101 (X + 226) = nI p := by rw [← hE, mI_sB]; exact pd
  simp only [gi_226 hSe, ob_eq, pe, pi_226 hSe, nI_1, gi_226 (St_sI hSe)]
  have e1 : mI (sI Me 1101 (X + 226) (nI (p + 1))) 1101 (X + 226) = nI (p + 1) := by rw [mI_sI, if_pos rfl, if_pos rfl]
  have e2 : nI (p + 1) - 1 = nI p := by rw [nI_succ]; exact Int32.add_sub_cancel _ _
  rw [e1, e2]
  have e3 : sI Me 1101 (X + 226) (nI (p + 1)) = amM M X p a b c d := by
    rw [← hE, ← hD, ← hC, ← hB, ← hA]
    unfold amM
    simp only [mA_sA, mB_sA, mB_sB, if_neg (by omega : ¬ X + 228 = X + 227), if_neg (by omega : ¬ X + 229 = X + 228), if_neg (by omega : ¬ X + 229 = X + 227), if_neg (by omega : ¬ X + 231 = X + 230)]
  rw [e3]
theorem fd_good {M Mt : Mm} {X p : Nat} (hS : St M X) (hSt : St Mt X) (p1 : mI M 604 (X + 1) = nI p) (p2 : mI Mt 1101 (X + 226) = nI p) (p8 : p ≤ 8) (a b c d : Int32) : ∃ g : Int32, f_X6_allows M (X + 1) a b c d = some g ∧ ((f_X11_isIn a.toInt64 0 4).bind fun v3 => if v3 = 0 then (f_X11_field_J64 Mt (X + 226) a b c d) else ((f_X11_isIn b.toInt64 1 32).bind fun v6 => if v6 = 0 then (f_X11_field_J64 Mt (X + 226) a b c d) else (if a = 1 then ((f_X11_isField Mt (X + 226) c).bind fun v10 => if v10 = 0 then (f_X11_field_J64 Mt (X + 226) a b c d) else (f_X11_field_J42 Mt (X + 226) a b c d)) else (f_X11_field_J42 Mt (X + 226) a b c d)))) = f_X11_field_J65 Mt (X + 226) a b c d g ∧ (g = 0 ∨ (g = 1 ∧ (∃ k, k ≤ 4 ∧ a = nI k) ∧ (∃ wd, 1 ≤ wd ∧ wd ≤ 32 ∧ b = nI wd) ∧ (a = 1 → ∃ t, t < p ∧ c = nI t))) := by
  have d10 : ¬ (1 : Int32) = 0 := by decide
  have r01 : (0 : Int32) = 0 ∨ (0 : Int32) = 1 := Or.inl rfl
  have r11 : (1 : Int32) = 0 ∨ (1 : Int32) = 1 := Or.inr rfl
  unfold f_X6_allows
  rw [if_pos (k_1 hS), isIn_0_4, isIn_1_32, ob_eq, ob_eq]
  unfold f_X11_field_J64
  by_cases a0 : a < 0
  · exact ⟨0, by rw [if_pos a0], by rw [if_pos a0, if_pos rfl], Or.inl rfl⟩
  by_cases a1 : 4 < a
  · exact ⟨0, by rw [if_neg a0, if_pos a1], by rw [if_neg a0, if_pos a1, if_pos rfl], Or.inl rfl⟩
  by_cases b0 : b < 1
  · exact ⟨0, by rw [if_neg a0, if_neg a1, if_pos b0], by rw [if_neg a0, if_neg a1, if_neg d10, if_pos b0, if_pos rfl], Or.inl rfl⟩
  by_cases b1 : b ≤ 32
  rotate_left
  · exact ⟨0, by rw [if_neg a0, if_neg a1, if_neg b0, if_neg b1], by rw [if_neg a0, if_neg a1, if_neg d10, if_neg b0, if_pos (Int32.not_le.mp b1), if_pos rfl], Or.inl rfl⟩
  have hb : ∃ wd, 1 ≤ wd ∧ wd ≤ 32 ∧ b = nI wd := by
    rcases rg_cases b 32 (by decide) with h | h | ⟨wd, h1, h2⟩
    · exact absurd (Int32.lt_trans h (by decide)) b0
    · exact absurd b1 (Int32.not_le.mpr h)
    · refine ⟨wd, Nat.le_of_not_lt (fun q => b0 ?_), h1, h2⟩
      have : wd = 0 := by omega
      subst this; rw [h2]; decide
  have ha : ∃ k, k ≤ 4 ∧ a = nI k := by
    rcases rg_cases a 4 (by decide) with h | h | ⟨k, h1, h2⟩
    · exact absurd h a0
    · exact absurd h a1
    · exact ⟨k, h1, h2⟩
  have nb1 := Int32.not_lt.mpr b1
  by_cases c1 : a = 1
  · have c3 : ¬ a = 3 := fun q => absurd (c1.symm.trans q) (by decide)
    rcases ix_cases c (n := p) (by omega) with h | ⟨t, ht, rfl⟩
    · exact ⟨0, by rw [if_neg a0, if_neg a1, if_neg b0, if_pos b1, if_pos c1, has_out hS p1 h, ob_eq, if_pos r01], by rw [if_neg a0, if_neg a1, if_neg d10, if_neg b0, if_neg nb1, if_neg d10, if_pos c1, fd_out hSt p2 h, ob_eq, if_pos rfl], Or.inl rfl⟩
    · refine ⟨1, by rw [if_neg a0, if_neg a1, if_neg b0, if_pos b1, if_pos c1, has_in hS p1 p8 ht, ob_eq, if_pos r11], ?_, Or.inr ⟨rfl, ha, hb, fun _ => ⟨t, ht, rfl⟩⟩⟩
      rw [if_neg a0, if_neg a1, if_neg d10, if_neg b0, if_neg nb1, if_neg d10, if_pos c1, fd_in hSt p2 p8 ht, ob_eq, if_neg d10]
      unfold f_X11_field_J42 f_X11_field_J60
      rw [if_neg c3]
  · by_cases c3 : a = 3
    · by_cases d0 : d < 1
      · refine ⟨0, by rw [if_neg a0, if_neg a1, if_neg b0, if_pos b1, if_neg c1, if_pos c3, if_pos d0], ?_, Or.inl rfl⟩
        rw [if_neg a0, if_neg a1, if_neg d10, if_neg b0, if_neg nb1, if_neg d10, if_neg c1]
        unfold f_X11_field_J42 f_X11_field_J64
        rw [if_pos c3, isIn_1_1000, ob_eq, if_pos d0, if_pos rfl]
      · by_cases d1 : 1000 < d
        · refine ⟨0, by rw [if_neg a0, if_neg a1, if_neg b0, if_pos b1, if_neg c1, if_pos c3, if_neg d0, if_pos d1], ?_, Or.inl rfl⟩
          rw [if_neg a0, if_neg a1, if_neg d10, if_neg b0, if_neg nb1, if_neg d10, if_neg c1]
          unfold f_X11_field_J42 f_X11_field_J64
          rw [if_pos c3, isIn_1_1000, ob_eq, if_neg d0, if_pos d1, if_pos rfl]
        · refine ⟨1, by rw [if_neg a0, if_neg a1, if_neg b0, if_pos b1, if_neg c1, if_pos c3, if_neg d0, if_neg d1], ?_, Or.inr ⟨rfl, ha, hb, fun q => absurd q c1⟩⟩
          rw [if_neg a0, if_neg a1, if_neg d10, if_neg b0, if_neg nb1, if_neg d10, if_neg c1]
          unfold f_X11_field_J42 f_X11_field_J60
          rw [if_pos c3, isIn_1_1000, ob_eq, if_neg d0, if_neg d1, if_neg d10]
    · refine ⟨1, by rw [if_neg a0, if_neg a1, if_neg b0, if_pos b1, if_neg c1, if_neg c3], ?_, Or.inr ⟨rfl, ha, hb, fun q => absurd q c1⟩⟩
      rw [if_neg a0, if_neg a1, if_neg d10, if_neg b0, if_neg nb1, if_neg d10, if_neg c1]
      unfold f_X11_field_J42 f_X11_field_J60
      rw [if_neg c3]
theorem op_field {M : Mm} {X p n w : Nat} {z : Nat → Nat} (H : Inv M X p n w z) (a b c d : Int32) : ∃ M1 M2 r p', f_X10_field M X a b c d = some (M1, r) ∧ f_X11_field M1 (X + 226) a b c d = some (M2, r) ∧ Inv M2 X p' n w z := by
  obtain ⟨hS, hW, ⟨p8, p1, p2, p3⟩, hD, hC, hQ, hX, hZ, hL, hG, hH, hT⟩ := id H
  have d10 : ¬ (1 : Int32) = 0 := by decide
  have hN := z_ge hZ n (Nat.le_refl _)
  obtain ⟨g, g1, -, g3⟩ := fd_good (Mt := M) hS hS p1 p2 p8 a b c d
  have e11 : ∀ M', St M' X → mI M' 1101 (X + 226) = nI p → f_X11_field M' (X + 226) a b c d = f_X11_field_J65 (sI M' 1100 (X + 226) 0) (X + 226) a b c d g := by
    intro M' hS' p'
    obtain ⟨g', k1, k2, -⟩ := fd_good (Mt := sI M' 1100 (X + 226) 0) hS (St_sI hS') p1 (by rw [mI_sI, if_neg (by decide)]; exact p') p8 a b c d
    have : g' = g := Option.some.inj (k1.symm.trans g1)
    subst this
    unfold f_X11_field
    rw [if_pos (k_226 hS'), pi_226 hS', ob_eq, k2]
  have e10 : f_X10_field M X a b c d = if g = 0 then some (M, -1) else if nI p < 8 then (if nI n ≤ 0 then ob2 (f_X6_append M (X + 1) a b c d) (fun M v => some (M, v)) else some (M, -3)) else some (M, -2) := by
    unfold f_X10_field
    rw [if_pos (k_0 hS), r_0_1001 hS, ob_eq, g1, ob_eq, ob_eq, gi_1 hS, ob_eq, gi_0 hS, ob_eq, ob_eq, p1, hC.2.1]
  have p2' : mI (sI M 1100 (X + 226) 0) 1101 (X + 226) = nI p := by rw [mI_sI, if_neg (by decide)]; exact p2
  have hSt : St (sI M 1100 (X + 226) 0) X := St_sI hS
  rcases g3 with g0 | ⟨gg, ⟨k, hk, rfl⟩, ⟨wd, w1, w2, rfl⟩, gt⟩
  · refine ⟨M, _, -1, p, by rw [e10, if_pos g0], ?_, inv_thr (v := 0) H⟩
    rw [e11 M hS p2]
    unfold f_X11_field_J65
    rw [if_pos g0]
  have gn : ¬ g = 0 := by rw [gg]; exact d10
  by_cases pe : p = 8
  · have n8 : ¬ nI p < 8 := by rw [pe]; decide
    refine ⟨M, _, -2, p, by rw [e10, if_neg gn, if_neg n8], ?_, inv_thr (v := 0) H⟩
    rw [e11 M hS p2]
    unfold f_X11_field_J65
    rw [if_neg gn, gi_226 hSt, ob_eq, p2', if_pos (by rw [pe]; rfl)]
  have hp : p < 8 := by omega
  have l8 : nI p < 8 := nI_lt (b := 8) hp (by decide)
  have n8 : ¬ nI p = 8 := fun q => absurd ((nI_eq (a := p) (b := 8) (by omega) (by decide)).mp q) (by omega)
  by_cases n0 : n = 0
  rotate_left
  · have q0 : ¬ nI n ≤ 0 := nI_ge (a := 0) (b := n) (by omega) (by have := hC.1; omega)
    have c4 : mI (sI M 1100 (X + 226) 0) 1106 (X + 226) = 1 := by rw [mI_sI, if_neg (by decide), hC.2.2.2, if_neg n0]
    refine ⟨M, _, -3, p, by rw [e10, if_neg gn, if_pos l8, if_neg q0], ?_, inv_thr (v := 0) H⟩
    rw [e11 M hS p2]
    unfold f_X11_field_J65
    rw [if_neg gn, gi_226 hSt, ob_eq, p2', if_neg n8, gi_226 hSt, ob_eq, c4, if_neg d10]
  subst n0
  generalize hMp : apM M X p (nI k) (nI wd) (if nI k = 1 then c else 0) d = M1
  have hS1 : St M1 X := by rw [← hMp]; exact St_sI (St_sA (St_sA (St_sA (St_sA hS))))
  have i1 : ∀ num, num ≠ 604 → mI M1 num = mI M num := by
    intro num hn; rw [← hMp]; unfold apM; funext y; rw [mI_sI, if_neg hn, mI_sA, mI_sA, mI_sA, mI_sA]
  generalize hMt : sI M1 1100 (X + 226) 0 = Mt
  have hSt1 : St Mt X := by rw [← hMt]; exact St_sI hS1
  have it : ∀ num, num ≠ 604 → num ≠ 1100 → mI Mt num = mI M num := by
    intro num hn hm; rw [← hMt]; funext y; rw [mI_sI, if_neg hm, i1 num hn]
  generalize hM2 : amM Mt X p (nI k) (nI wd) c d = M2
  have q0 : nI 0 ≤ 0 := by decide
  have eC : f_X10_field M X (nI k) (nI wd) c d = some (M1, nI p) := by
    rw [e10, if_neg gn, if_pos l8, if_pos q0, ap_eq hS p1 hp, ob2_eq, hMp]
  have eM : f_X11_field M1 (X + 226) (nI k) (nI wd) c d = some (M2, nI p) := by
    have c4 : mI Mt 1106 (X + 226) = 0 := by rw [it 1106 (by decide) (by decide), hC.2.2.2, if_pos rfl]
    rw [e11 M1 hS1 (by rw [i1 1101 (by decide)]; exact p2), hMt, gg, am_eq hSt1 (by rw [it 1101 (by decide) (by decide)]; exact p2) hp c4, hM2]
  have A : Ag X (z 0) 0 (fun num _ => num = 604 ∨ num = 1101) (fun a j => ((X + 2 ≤ a ∧ a ≤ X + 5) ∨ (X + 227 ≤ a ∧ a ≤ X + 229)) ∧ j = p) (fun a j => (a = X + 230 ∨ a = X + 231) ∧ j = p) M M2 := by
    have up : ∀ {α : Type} {f : Nat → α} {v : α} {j : Nat} {Q : Prop}, ¬ (Q ∧ j = p) → Q → va_up f p v j = f j := fun h q => vau_ne (fun e => h ⟨q, e⟩)
    have A1 : Ag X (z 0) 0 (fun num _ => num = 604 ∨ num = 1101) (fun a j => ((X + 2 ≤ a ∧ a ≤ X + 5) ∨ (X + 227 ≤ a ∧ a ≤ X + 229)) ∧ j = p) (fun a j => (a = X + 230 ∨ a = X + 231) ∧ j = p) M M1 := by
      rw [← hMp]
      unfold apM
      refine Ag.cI (Ag.cA (Ag.cA (Ag.cA (Ag.cA Ag.rf ?_) ?_) ?_) ?_) (Or.inr (Or.inl (Or.inl rfl)))
      · exact Or.inr (Or.inr (fun j t => up t (by omega)))
      · exact Or.inr (Or.inr (fun j t => (up t (by omega)).trans (by rw [mA_sA, if_neg (by omega)])))
      · exact Or.inr (Or.inr (fun j t => (up t (by omega)).trans (by rw [mA_sA, if_neg (by omega), mA_sA, if_neg (by omega)])))
      · exact Or.inr (Or.inr (fun j t => (up t (by omega)).trans (by rw [mA_sA, if_neg (by omega), mA_sA, if_neg (by omega), mA_sA, if_neg (by omega)])))
    have A2 : Ag X (z 0) 0 (fun num _ => num = 604 ∨ num = 1101) (fun a j => ((X + 2 ≤ a ∧ a ≤ X + 5) ∨ (X + 227 ≤ a ∧ a ≤ X + 229)) ∧ j = p) (fun a j => (a = X + 230 ∨ a = X + 231) ∧ j = p) M1 Mt := by rw [← hMt]; exact Ag_sI (Or.inl (by unfold ScI; omega))
    have A3 : Ag X (z 0) 0 (fun num _ => num = 604 ∨ num = 1101) (fun a j => ((X + 2 ≤ a ∧ a ≤ X + 5) ∨ (X + 227 ≤ a ∧ a ≤ X + 229)) ∧ j = p) (fun a j => (a = X + 230 ∨ a = X + 231) ∧ j = p) Mt M2 := by
      rw [← hM2]
      unfold amM
      refine Ag.cI (Ag.cB (Ag.cB (Ag.cA (Ag.cA (Ag.cA Ag.rf ?_) ?_) ?_) ?_) ?_) (Or.inr (Or.inl (Or.inr rfl)))
      · exact Or.inr (Or.inr (fun j t => up t (by omega)))
      · exact Or.inr (Or.inr (fun j t => (up t (by omega)).trans (by rw [mA_sA, if_neg (by omega)])))
      · exact Or.inr (Or.inr (fun j t => (up t (by omega)).trans (by rw [mA_sA, if_neg (by omega), mA_sA, if_neg (by omega)])))
      · exact Or.inr (Or.inr (fun j t => (up t (by omega)).trans (by rw [mB_sA, mB_sA, mB_sA])))
      · exact Or.inr (Or.inr (fun j t => (up t (by omega)).trans (by rw [mB_sB, if_neg (by omega), mB_sA, mB_sA, mB_sA])))
    exact (A1.tr' A2).tr' A3
  have aO : ∀ o f, o < 270 → f ≠ p → (o < 213 ∨ (226 < o ∧ o < 259)) → mA M2 (X + o) f = mA M (X + o) f := fun o f h1 h2 h3 => A.2.1 _ _ (by unfold ScA; omega) (fun q => h2 q.2) (by omega)
  have bO : ∀ o f, o < 270 → f ≠ p → (o < 213 ∨ (226 < o ∧ o < 259)) → mB M2 (X + o) f = mB M (X + o) f := fun o f h1 h2 h3 => A.2.2.1 _ _ (by unfold ScB; omega) (fun q => h2 q.2) (by omega)
  have n604 : mI M2 604 (X + 1) = nI (p + 1) := by
    rw [← hM2]; unfold amM; rw [mI_sI, if_neg (by decide), mI_sB, mI_sB, mI_sA, mI_sA, mI_sA, ← hMt, mI_sI, if_neg (by decide), ← hMp]; unfold apM; rw [mI_sI, if_pos rfl, if_pos rfl]
  have n1101 : mI M2 1101 (X + 226) = nI (p + 1) := by rw [← hM2]; unfold amM; rw [mI_sI, if_pos rfl, if_pos rfl]
  have kA1 : ∀ o, (o < 227 ∨ 229 < o) → mA M2 (X + o) = mA M1 (X + o) := by
    intro o ho; rw [← hM2]; unfold amM; rw [mA_sI, mA_sB, mA_sB, mA_sA, if_neg (by omega), mA_sA, if_neg (by omega), mA_sA, if_neg (by omega), ← hMt, mA_sI]
  have v2 : mA M2 (X + 2) p = nI k := by rw [kA1 2 (by omega), ← hMp]; unfold apM; rw [mA_sI, mA_sA, if_neg (by omega), mA_sA, if_neg (by omega), mA_sA, if_neg (by omega), mA_sA, if_pos rfl, vau_eq]
  have v3 : mA M2 (X + 3) p = nI wd := by rw [kA1 3 (by omega), ← hMp]; unfold apM; rw [mA_sI, mA_sA, if_neg (by omega), mA_sA, if_neg (by omega), mA_sA, if_pos rfl, vau_eq]
  have v4 : mA M2 (X + 4) p = if nI k = 1 then c else 0 := by rw [kA1 4 (by omega), ← hMp]; unfold apM; rw [mA_sI, mA_sA, if_neg (by omega), mA_sA, if_pos rfl, vau_eq]
  have v5 : mA M2 (X + 5) p = d := by rw [kA1 5 (by omega), ← hMp]; unfold apM; rw [mA_sI, mA_sA, if_pos rfl, vau_eq]
  have v227 : mA M2 (X + 227) p = nI k := by rw [← hM2]; unfold amM; rw [mA_sI, mA_sB, mA_sB, mA_sA, if_neg (by omega), mA_sA, if_neg (by omega), mA_sA, if_pos rfl, vau_eq]
  have v228 : mA M2 (X + 228) p = nI wd := by rw [← hM2]; unfold amM; rw [mA_sI, mA_sB, mA_sB, mA_sA, if_neg (by omega), mA_sA, if_pos rfl, vau_eq]
  have v229 : mA M2 (X + 229) p = c := by rw [← hM2]; unfold amM; rw [mA_sI, mA_sB, mA_sB, mA_sA, if_pos rfl, vau_eq]
  have v230 : mB M2 (X + 230) p = d.toInt64 := by rw [← hM2]; unfold amM; rw [mB_sI, mB_sB, if_neg (by omega), mB_sB, if_pos rfl, vau_eq]
  have v231 : mB M2 (X + 231) p = 0 := by rw [← hM2]; unfold amM; rw [mB_sI, mB_sB, if_pos rfl, vau_eq]
  have b7 : ∀ f, mB M2 (X + 7) f = mB M (X + 7) f := fun f => A.2.2.1 _ _ (by unfold ScB; omega) (by omega) (by omega)
  refine ⟨M1, M2, nI p, p + 1, eC, eM, St_Ag hN A hS, tr_W hN A hW (by intro a j h; first | exact False.elim h | ((try dsimp only at h); (try simp only [aSq, aSt, aRg, aHd, aHv, aCx, aCh, aCv, aCs, aSh, aSr] at h ⊢); omega)), ⟨by omega, n604, n1101, fun f hf => ?_⟩, ⟨fun f hf => ?_, fun f h1 h2 => by rw [b7]; exact hD.2 f (by omega) h2⟩, tr_C hN A hC (by intro a j h; first | exact False.elim h | ((try dsimp only at h); (try simp only [aSq, aSt, aRg, aHd, aHv, aCx, aCh, aCv, aCs, aSh, aSr] at h ⊢); omega)), fun i hi => ?_, fun i hi => ?_, tr_Z A hZ, fun l hl => absurd hl (Nat.not_lt_zero _), ?_, fun s hs => tr_H hN hs A (hH s hs) (by intro a j h; first | exact False.elim h | ((try dsimp only at h); (try simp only [aSq, aSt, aRg, aHd, aHv, aCx, aCh, aCv, aCs, aSh, aSr] at h ⊢); omega)) (by intro a j h; first | exact False.elim h | ((try dsimp only at h); (try simp only [aSq, aSt, aRg, aHd, aHv, aCx, aCh, aCv, aCs, aSh, aSr] at h ⊢); omega)) (by intro a j h; first | exact False.elim h | ((try dsimp only at h); (try simp only [aSq, aSt, aRg, aHd, aHv, aCx, aCh, aCv, aCs, aSh, aSr] at h ⊢); omega)), tr_T hN A hT (by intro a j h; first | exact False.elim h | ((try dsimp only at h); (try simp only [aSq, aSt, aRg, aHd, aHv, aCx, aCh, aCv, aCs, aSh, aSr] at h ⊢); omega)) (by intro a j h; first | exact False.elim h | ((try dsimp only at h); (try simp only [aSq, aSt, aRg, aHd, aHv, aCx, aCh, aCv, aCs, aSh, aSr] at h ⊢); omega))⟩
  · by_cases e : f = p
    · subst e
      refine ⟨v227.trans v2.symm, v228.trans v3.symm, ⟨k, hk, v2⟩, ⟨wd, w1, w2, v3⟩, by rw [v230, v5], fun q => ?_⟩
      rw [v2] at q
      obtain ⟨t, t1, t2⟩ := gt q
      rw [v229, v4, if_pos q]
      exact ⟨rfl, t, t1, t2⟩
    · obtain ⟨f1, f2, f3, f4, f5, f6⟩ := p3 f (by omega)
      unfold IF
      rw [aO 2 f (by decide) e (by decide), aO 3 f (by decide) e (by decide), aO 4 f (by decide) e (by decide), aO 5 f (by decide) e (by decide), aO 227 f (by decide) e (by decide), aO 228 f (by decide) e (by decide), aO 229 f (by decide) e (by decide), bO 230 f (by decide) e (by decide)]
      exact ⟨f1, f2, f3, f4, f5, f6⟩
  · by_cases e : f = p
    · subst e
      refine ⟨by rw [v231, b7]; exact (hD.2 f (Nat.le_refl _) hp).symm, wd, 0, v3, w1, w2, Nat.two_pow_pos _, ?_⟩
      rw [b7, hD.2 f (Nat.le_refl _) hp]
      rfl
    · rw [bO 231 f (by decide) e (by decide), b7, aO 3 f (by decide) e (by decide)]
      exact hD.1 f (by omega)
  · obtain ⟨k', r, hh, f0, q1, q2, q3, q4, q5, q6, q7, q8, q9, q10, q11, q12, q13, q14, q15⟩ := tr_Q hN p8 hW.2.2.2 hi A (hQ i hi) (by intro a j h; first | exact False.elim h | ((try dsimp only at h); (try simp only [aSq, aSt, aRg, aHd, aHv, aCx, aCh, aCv, aCs, aSh, aSr] at h ⊢); omega)) (by intro a j h; first | exact False.elim h | ((try dsimp only at h); (try simp only [aSq, aSt, aRg, aHd, aHv, aCx, aCh, aCv, aCs, aSh, aSr] at h ⊢); omega)) (by intro a j h; first | exact False.elim h | ((try dsimp only at h); (try simp only [aSq, aSt, aRg, aHd, aHv, aCx, aCh, aCv, aCs, aSh, aSr] at h ⊢); omega))
    refine ⟨k', r, hh, f0, q1, q2, q3, q4, q5, q6, q7, q8, q9, q10, q11, q12, q13, q14, fun j hj => ?_⟩
    obtain ⟨⟨u, hu, -⟩, -⟩ := q15 j hj
    omega
  · obtain ⟨x1, x2⟩ := tr_X hN p8 hi A (hX i hi) (by intro a j h; first | exact False.elim h | ((try dsimp only at h); (try simp only [aSq, aSt, aRg, aHd, aHv, aCx, aCh, aCv, aCs, aSh, aSr] at h ⊢); omega)) (by intro a j h; first | exact False.elim h | ((try dsimp only at h); (try simp only [aSq, aSt, aRg, aHd, aHv, aCx, aCh, aCv, aCs, aSh, aSr] at h ⊢); omega)) (by intro a j h; first | exact False.elim h | ((try dsimp only at h); (try simp only [aSq, aSt, aRg, aHd, aHv, aCx, aCh, aCv, aCs, aSh, aSr] at h ⊢); omega))
    refine ⟨x1, x2.imp_right (fun x => absurd x.2.1 (Nat.not_lt_zero _))⟩
  · obtain ⟨x1, x2⟩ := tr_G hN A hG (by intro a j h; first | exact False.elim h | ((try dsimp only at h); (try simp only [aSq, aSt, aRg, aHd, aHv, aCx, aCh, aCv, aCs, aSh, aSr] at h ⊢); omega)) (by intro a j h; first | exact False.elim h | ((try dsimp only at h); (try simp only [aSq, aSt, aRg, aHd, aHv, aCx, aCh, aCv, aCs, aSh, aSr] at h ⊢); omega)) (by intro a j h; first | exact False.elim h | ((try dsimp only at h); (try simp only [aSq, aSt, aRg, aHd, aHv, aCx, aCh, aCv, aCs, aSh, aSr] at h ⊢); omega))
    exact ⟨x1, x2.imp_right (fun x => absurd x.1 (Nat.not_lt_zero _))⟩
end
section
/-! Bits: how they are written, and what bytes they make. -/
theorem andI (a b : Nat) : nI a &&& nI b = nI (a &&& b) := by
  apply Int32.toBitVec_inj.1
  show BitVec.ofNat 32 a &&& BitVec.ofNat 32 b = BitVec.ofNat 32 (a &&& b)
  apply BitVec.eq_of_getLsbD_eq
  intro i hi
  simp [hi]
theorem orI (a b : Nat) : nI a ||| nI b = nI (a ||| b) := by
  apply Int32.toBitVec_inj.1
  show BitVec.ofNat 32 a ||| BitVec.ofNat 32 b = BitVec.ofNat 32 (a ||| b)
  apply BitVec.eq_of_getLsbD_eq
  intro i hi
  simp [hi]
theorem and7 (m : Nat) : nI m &&& 7 = nI (m % 8) := by
  have e : nI m &&& nI 7 = nI (m &&& (2 ^ 3 - 1)) := andI m 7
  rw [Nat.and_two_pow_sub_one_eq_mod] at e
  exact e
theorem and255 (m : Nat) : nI m &&& 255 = nI (m % 256) := by
  have e : nI m &&& nI 255 = nI (m &&& (2 ^ 8 - 1)) := andI m 255
  rw [Nat.and_two_pow_sub_one_eq_mod] at e
  exact e
theorem shr3 {m : Nat} (h : m < 2 ^ 31) : nI m >>> (3 &&& 31) = nI (m / 8) := pk_shrN h _ 3 (by decide)
theorem shl7 : ∀ r, r < 8 → ∀ v, v < 2 → nI v <<< ((7 - nI r) &&& 31) = nI (v * 2 ^ (7 - r)) := by decide
theorem shn : ∀ i, i < 64 → ((nI i).toInt64 &&& 63).toBitVec.smod 64 = BitVec.ofNat 64 i := by decide
theorem shrL (x : Int64) {i : Nat} (hi : i < 64) : (x >>> ((nI i).toInt64 &&& 63)).toBitVec = x.toBitVec.sshiftRight i := by
  rw [Int64.toBitVec_shiftRight, shn i hi]
  simp [BitVec.sshiftRight', Nat.mod_eq_of_lt (Nat.lt_trans hi (by decide : 64 < 2 ^ 64))]
theorem bitM {u i : Nat} (hi : i < 64) : ((lN u >>> ((nI i).toInt64 &&& 63)) &&& 1).toInt32 = nI (u / 2 ^ i % 2) := by
  apply Int32.toBitVec_inj.1
  show _ = BitVec.ofNat 32 (u / 2 ^ i % 2)
  rw [Int64.toBitVec_toInt32, Int64.toBitVec_and, shrL _ hi]
  apply BitVec.eq_of_getLsbD_eq
  intro j hj
  have e1 : (1 : Int64).toBitVec = BitVec.ofNat 64 1 := rfl
  have e2 : (lN u).toBitVec = BitVec.ofNat 64 u := rfl
  rw [e1, e2]
  have e3 : u / 2 ^ i % 2 = u / 2 ^ i % 2 ^ 1 := rfl
  rw [e3, BitVec.getLsbD_ofNat, Nat.testBit_mod_two_pow, Nat.testBit_div_two_pow]
  by_cases q : j = 0
  · subst q
    rw [BitVec.getLsbD_signExtend, BitVec.getLsbD_and, BitVec.getLsbD_sshiftRight, BitVec.getLsbD_ofNat, BitVec.getLsbD_ofNat]
    simp [hi]
  · simp [BitVec.getLsbD_signExtend, hj, q, BitVec.getLsbD_one, (by omega : j < 64)]
theorem bitP {u i : Nat} (hi : i < 64) : ((lN u >>> ((nI i).toInt64 &&& 63)).toInt32) &&& 1 = nI (u / 2 ^ i % 2) := by
  rw [← bitM hi]
  apply Int32.toBitVec_inj.1
  rw [Int32.toBitVec_and]
  rw [Int64.toBitVec_toInt32, Int64.toBitVec_toInt32, Int64.toBitVec_and]
  apply BitVec.eq_of_getLsbD_eq
  intro j hj
  have e1 : (1 : Int64).toBitVec = BitVec.ofNat 64 1 := rfl
  have e2 : (1 : Int32).toBitVec = BitVec.ofNat 32 1 := rfl
  rw [e1, e2]
  by_cases q : j = 0
  · subst q; simp [BitVec.getLsbD_signExtend]
  · simp [BitVec.getLsbD_signExtend, hj, q, BitVec.getLsbD_one, (by omega : j < 64)]
def hv (b : Nat → Nat) (m k : Nat) : Nat → Nat
  | 0 => 0
  | i + 1 => 2 * hv b m k i + (if 8 * k + i < m then b (8 * k + i) else 0)
def byv (b : Nat → Nat) (m k : Nat) : Nat := hv b m k 8
theorem hv_congr {b b' : Nat → Nat} {m k : Nat} (h : ∀ j, j < m → b' j = b j) : ∀ i, hv b' m k i = hv b m k i
  | 0 => rfl
  | i + 1 => by
    show 2 * hv b' m k i + _ = 2 * hv b m k i + _
    rw [hv_congr h i]
    by_cases q : 8 * k + i < m
    · rw [if_pos q, if_pos q, h _ q]
    · rw [if_neg q, if_neg q]
theorem byv_congr {b b' : Nat → Nat} {m k : Nat} (h : ∀ j, j < m → b' j = b j) : byv b' m k = byv b m k := hv_congr h 8
theorem hv_lt {b : Nat → Nat} {m k : Nat} (h : ∀ j, j < m → b j < 2) : ∀ i, hv b m k i < 2 ^ i
  | 0 => by show 0 < 1; decide
  | i + 1 => by
    have e := hv_lt (k := k) h i
    show 2 * hv b m k i + _ < 2 ^ (i + 1)
    rw [Nat.pow_succ]
    by_cases q : 8 * k + i < m
    · rw [if_pos q]; have := h _ q; omega
    · rw [if_neg q]; omega
theorem byv_lt {b : Nat → Nat} {m k : Nat} (h : ∀ j, j < m → b j < 2) : byv b m k < 256 := hv_lt h 8
theorem hv_far {b b' : Nat → Nat} {m k : Nat} (h : ∀ j, j < m → b' j = b j) (hk : k ≠ m / 8) : ∀ i, i ≤ 8 → hv b' (m + 1) k i = hv b m k i
  | 0, _ => rfl
  | i + 1, hi => by
    show 2 * hv b' (m + 1) k i + _ = 2 * hv b m k i + _
    rw [hv_far h hk i (by omega)]
    by_cases q : 8 * k + i < m
    · rw [if_pos q, if_pos (by omega), h _ q]
    · rw [if_neg q, if_neg (by omega)]
theorem hv_zero {b : Nat → Nat} {m k i : Nat} (hm : m ≤ 8 * k + i) : ∀ t, hv b m k (i + t) = hv b m k i * 2 ^ t
  | 0 => by rw [Nat.add_zero, Nat.pow_zero, Nat.mul_one]
  | t + 1 => by
    show 2 * hv b m k (i + t) + (if 8 * k + (i + t) < m then b (8 * k + (i + t)) else 0) = _
    rw [hv_zero hm t, if_neg (by omega), Nat.add_zero, Nat.pow_succ]
    rw [Nat.mul_comm 2, Nat.mul_assoc]
theorem hv_near {b b' : Nat → Nat} {m k : Nat} (h : ∀ j, j < m → b' j = b j) : ∀ i, 8 * k + i ≤ m → hv b' (m + 1) k i = hv b m k i
  | 0, _ => rfl
  | i + 1, hi => by
    show 2 * hv b' (m + 1) k i + _ = 2 * hv b m k i + _
    rw [hv_near h i (by omega), if_pos (by omega), if_pos (by omega), h _ (by omega)]
theorem byv_step {b b' : Nat → Nat} {m : Nat} (h : ∀ j, j < m → b' j = b j) (hv2 : b' m < 2) (hb : ∀ j, j < m → b j < 2) : byv b' (m + 1) (m / 8) = byv b m (m / 8) ||| (b' m * 2 ^ (7 - m % 8)) := by
  have hr : m % 8 < 8 := Nat.mod_lt _ (by decide)
  have e0 : 8 * (m / 8) + m % 8 = m := Nat.div_add_mod m 8
  have a1 : byv b m (m / 8) = hv b m (m / 8) (m % 8) * 2 ^ (8 - m % 8) := by
    have := hv_zero (b := b) (m := m) (k := m / 8) (i := m % 8) (by omega) (8 - m % 8)
    rw [show m % 8 + (8 - m % 8) = 8 by omega] at this
    exact this
  have a2 : hv b' (m + 1) (m / 8) (m % 8 + 1) = 2 * hv b m (m / 8) (m % 8) + b' m := by
    show 2 * hv b' (m + 1) (m / 8) (m % 8) + _ = _
    rw [hv_near h _ (by omega), if_pos (by omega), e0]
  have a3 : byv b' (m + 1) (m / 8) = (2 * hv b m (m / 8) (m % 8) + b' m) * 2 ^ (7 - m % 8) := by
    have := hv_zero (b := b') (m := m + 1) (k := m / 8) (i := m % 8 + 1) (by omega) (7 - m % 8)
    rw [show m % 8 + 1 + (7 - m % 8) = 8 by omega, a2] at this
    exact this
  have e8 : 2 ^ (8 - m % 8) = 2 * 2 ^ (7 - m % 8) := by
    rw [show 8 - m % 8 = 7 - m % 8 + 1 by omega, Nat.pow_succ, Nat.mul_comm]
  have hlt : b' m * 2 ^ (7 - m % 8) < 2 ^ (8 - m % 8) := by
    rw [e8]
    exact Nat.mul_lt_mul_of_pos_right hv2 (Nat.two_pow_pos _)
  have or := Nat.shiftLeft_add_eq_or_of_lt hlt (hv b m (m / 8) (m % 8))
  rw [Nat.shiftLeft_eq] at or
  rw [a3, a1, ← or, e8, Nat.add_mul, Nat.mul_comm 2 (hv _ _ _ _), Nat.mul_assoc]
/-- c bits of u behind the m that stand, t of them written -/
def apt (b : Nat → Nat) (m u c t : Nat) : Nat → Nat := fun j => if m ≤ j ∧ j < m + t then u / 2 ^ (m + c - 1 - j) % 2 else b j
def ap (b : Nat → Nat) (m u c : Nat) : Nat → Nat := apt b m u c c
theorem apt_0 (b : Nat → Nat) (m u c : Nat) : apt b m u c 0 = b := by funext j; unfold apt; rw [if_neg (by omega)]
theorem apt_lo {b : Nat → Nat} {m u c t j : Nat} (h : j < m) : apt b m u c t j = b j := by unfold apt; rw [if_neg (by omega)]
theorem apt_s {b : Nat → Nat} {m u c t j : Nat} (h : j < m + t) : apt b m u c (t + 1) j = apt b m u c t j := by
  unfold apt
  by_cases q : m ≤ j ∧ j < m + t
  · rw [if_pos q, if_pos (by omega)]
  · rw [if_neg q, if_neg (by omega)]
theorem apt_n {b : Nat → Nat} {m u c t : Nat} : apt b m u c (t + 1) (m + t) = u / 2 ^ (c - 1 - t) % 2 := by
  unfold apt
  rw [if_pos (by omega), show m + c - 1 - (m + t) = c - 1 - t by omega]
theorem apt_b {b : Nat → Nat} {m u c t : Nat} (h : ∀ j, j < m → b j < 2) : ∀ j, j < m + t → apt b m u c t j < 2 := by
  intro j hj
  unfold apt
  by_cases q : m ≤ j ∧ j < m + t
  · rw [if_pos q]; exact Nat.mod_lt _ (by decide)
  · rw [if_neg q]; exact h j (by omega)
end
section
/-! The pen of the class, and what the reference says: bit by bit. -/
theorem sI_sI (M : Mm) (k a : Nat) (v v2 : Int32) : sI (sI M k a v) k a v2 = sI M k a v2 := by
  have e : up2 (up2 (mI M) k a v) k a v2 = up2 (mI M) k a v2 := by
    funext x y
    unfold up2
    by_cases q : x = k
    · by_cases q2 : y = a
      · rw [if_pos q, if_pos q2, if_pos q, if_pos q2]
      · rw [if_pos q, if_neg q2, if_pos q, if_neg q2, if_pos q, if_neg q2]
    · rw [if_neg q, if_neg q, if_neg q]
  show (mK M, mN M, up2 (up2 (mI M) k a v) k a v2, mJ M, mR M, mA M, mB M, mQ M, mS M) = _
  rw [e]; rfl
theorem sI_sA (M : Mm) (k a b : Nat) (v : Int32) (g : Nat → Int32) : sI (sA M b g) k a v = sA (sI M k a v) b g := rfl
def pn (M : Mm) (X : Nat) (b : Nat → Nat) (m : Nat) : Mm := sA (sI M 501 (X + 212) (nI m)) (X + 213) (wr (mA M (X + 213)) 0 60 (fun k => nI (byv b m k)))
def rm (M : Mm) (X : Nat) (b : Nat → Nat) (m : Nat) : Mm := sA (sI M 1142 (X + 226) (nI m)) (X + 259) (wr (mA M (X + 259)) 0 m (fun j => nI (b j)))
theorem St_pn {M : Mm} {X m : Nat} {b : Nat → Nat} (h : St M X) : St (pn M X b m) X := St_sA (St_sI h)
theorem St_rm {M : Mm} {X m : Nat} {b : Nat → Nat} (h : St M X) : St (rm M X b m) X := St_sA (St_sI h)
theorem pn_501 {M : Mm} {X m : Nat} {b : Nat → Nat} : mI (pn M X b m) 501 (X + 212) = nI m := by unfold pn; rw [mI_sA, mI_sI, if_pos rfl, if_pos rfl]
theorem rm_1142 {M : Mm} {X m : Nat} {b : Nat → Nat} : mI (rm M X b m) 1142 (X + 226) = nI m := by unfold rm; rw [mI_sA, mI_sI, if_pos rfl, if_pos rfl]
theorem pn_row {M : Mm} {X m k : Nat} {b : Nat → Nat} (h : k < 60) : mA (pn M X b m) (X + 213) k = nI (byv b m k) := by unfold pn; rw [mA_sA, if_pos rfl]; exact wr0_in h
theorem rm_row {M : Mm} {X m k : Nat} {b : Nat → Nat} (h : k < m) : mA (rm M X b m) (X + 259) k = nI (b k) := by unfold rm; rw [mA_sA, if_pos rfl]; exact wr0_in h
theorem m1I (c : Nat) : nI (c + 1) - 1 = nI c := nI_pred c
theorem sub1 (x : Int32) : x + (-1) = x - 1 := (Int32.sub_eq_add_neg x 1).symm
theorem wBy {m : Nat} (h : m < 2 ^ 30) : f_X10_wholeBytes (nI m) = some (nI ((m + 7) / 8)) := by
  unfold f_X10_wholeBytes
  have e : nI m + 7 = nI (m + 7) := nI_add m 7
  rw [e, shr3 (by omega)]
theorem pn_step {M : Mm} {X : Nat} {b b' : Nat → Nat} {m : Nat} (hm : m < 480) (h : ∀ j, j < m → b' j = b j) (hv2 : b' m < 2) (hb : ∀ j, j < m → b j < 2) : sI (sA (pn M X b m) (X + 213) (va_up (mA (pn M X b m) (X + 213)) (m / 8) (nI (byv b m (m / 8) ||| (b' m * 2 ^ (7 - m % 8)))))) 501 (X + 212) (nI (m + 1)) = pn M X b' (m + 1) := by
  rw [← byv_step h hv2 hb]
  unfold pn
  rw [sA_sA, sI_sA, sI_sI, mA_sA, if_pos rfl]
  congr 1
  funext j
  by_cases q : j = m / 8
  · subst q; rw [vau_eq]; exact (wr0_in (i := 60) (k := m / 8) (v := fun k => nI (byv b' (m + 1) k)) (by omega)).symm
  · rw [vau_ne q]
    by_cases q2 : j < 60
    · rw [wr0_in q2, wr0_in q2]
      exact congrArg nI (hv_far h q 8 (by omega)).symm
    · rw [wr_out (by omega), wr_out (by omega)]
theorem wr_pn {M : Mm} {X m u c : Nat} {b : Nat → Nat} (hS : St M X) (hm : m + c ≤ 480) (hc : c < 64) (hb : ∀ j, j < m → b j < 2) : f_X5_write (pn M X b m) (X + 212) (lN u) (nI c) = some (pn M X (ap b m u c) (m + c)) := by
  unfold f_X5_write
  rw [if_pos (k_212 (St_pn hS))]
  have e := loop_run (fun fu t => f_X5_write_L5 fu (pn M X (apt b m u c t) (m + t)) (X + 212) (lN u) (nI (c - t) - 1)) c (some (pn M X (ap b m u c) (m + c)))
    (fun t fu ht => by
      show f_X5_write_L5 (fu + 1) (pn M X (apt b m u c t) (m + t)) (X + 212) (lN u) (nI (c - t) - 1) = f_X5_write_L5 fu (pn M X (apt b m u c (t + 1)) (m + (t + 1))) (X + 212) (lN u) (nI (c - (t + 1)) - 1)
      have hSp : St (pn M X (apt b m u c t) (m + t)) X := St_pn hS
      have e1 : nI (c - t) - 1 = nI (c - (t + 1)) := by rw [show c - t = c - (t + 1) + 1 by omega]; exact m1I _
      have e2 : nI (m + t) + 1 = nI (m + t + 1) := nI_1 _
      have hr : (m + t) % 8 < 8 := Nat.mod_lt _ (by decide)
      have hb2 : apt b m u c (t + 1) (m + t) = u / 2 ^ (c - (t + 1)) % 2 := by rw [apt_n, show c - 1 - t = c - (t + 1) by omega]
      have hl2 : apt b m u c (t + 1) (m + t) < 2 := by rw [hb2]; exact Nat.mod_lt _ (by decide)
      have e3 : (((lN u >>> ((nI (c - (t + 1))).toInt64 &&& 63)).toInt32) &&& 1) <<< ((7 - nI ((m + t) % 8)) &&& 31) = nI (apt b m u c (t + 1) (m + t) * 2 ^ (7 - (m + t) % 8)) := by
        rw [bitP (by omega), ← hb2]; exact shl7 _ hr _ hl2
      rw [f_X5_write_L5, e1, if_neg (nI_pos (by omega)), gi_212 hSp, ob_eq, pn_501, e2, wBy (by omega), ob_eq, r_212_500 hSp, ob_eq, al_213 hSp, ob_eq, if_neg (nI_nlt (by omega) (by decide)), ob_eq, ob_eq, shr3 (by omega), ai_213 hSp (by omega), ob_eq, ob_eq, and7, e3, pn_row (by omega), orI, wi_213 hSp (by omega), ob_eq, gi_212 (St_sA hSp), ob_eq, mI_sA, pn_501, e2, pi_212 (St_sA hSp), ob_eq, pn_step (by omega) (fun j hj => apt_s hj) hl2 (apt_b hb), sub1]
      rfl)
    (fun fu => by
      show f_X5_write_L5 (fu + 1) (pn M X (apt b m u c c) (m + c)) (X + 212) (lN u) (nI (c - c) - 1) = _
      rw [f_X5_write_L5, Nat.sub_self, if_pos (by decide)]
      rfl) 1000 (by omega)
  rw [apt_0, Nat.add_zero, Nat.sub_zero] at e
  exact e
theorem rm_step {M : Mm} {X : Nat} {b b' : Nat → Nat} {m : Nat} (h : ∀ j, j < m → b' j = b j) : sI (sA (rm M X b m) (X + 259) (va_up (mA (rm M X b m) (X + 259)) m (nI (b' m)))) 1142 (X + 226) (nI (m + 1)) = rm M X b' (m + 1) := by
  unfold rm
  rw [sA_sA, sI_sA, sI_sI, mA_sA, if_pos rfl]
  congr 1
  have e : wr (mA M (X + 259)) 0 m (fun j => nI (b j)) = wr (mA M (X + 259)) 0 m (fun j => nI (b' j)) := by
    funext j
    by_cases q : j < m
    · rw [wr0_in q, wr0_in q, h j q]
    · rw [wr_out (by omega), wr_out (by omega)]
  rw [e]
  exact wr0_s _ _ (fun j => nI (b' j))
theorem say_rm {M : Mm} {X m u c : Nat} {b : Nat → Nat} (hS : St M X) (hm : m + c ≤ 600) (hc : c < 64) : f_X11_say (rm M X b m) (X + 226) (lN u) (nI c) = some (rm M X (ap b m u c) (m + c)) := by
  unfold f_X11_say
  rw [if_pos (k_226 (St_rm hS))]
  have e := loop_run (fun fu t => f_X11_say_L5 fu (rm M X (apt b m u c t) (m + t)) (X + 226) (lN u) (nI (c - t) - 1)) c (some (rm M X (ap b m u c) (m + c)))
    (fun t fu ht => by
      show f_X11_say_L5 (fu + 1) (rm M X (apt b m u c t) (m + t)) (X + 226) (lN u) (nI (c - t) - 1) = f_X11_say_L5 fu (rm M X (apt b m u c (t + 1)) (m + (t + 1))) (X + 226) (lN u) (nI (c - (t + 1)) - 1)
      have hSp : St (rm M X (apt b m u c t) (m + t)) X := St_rm hS
      have e1 : nI (c - t) - 1 = nI (c - (t + 1)) := by rw [show c - t = c - (t + 1) + 1 by omega]; exact m1I _
      have e2 : nI (m + t) + 1 = nI (m + t + 1) := nI_1 _
      have hb2 : apt b m u c (t + 1) (m + t) = u / 2 ^ (c - (t + 1)) % 2 := by rw [apt_n, show c - 1 - t = c - (t + 1) by omega]
      rw [f_X11_say_L5, e1, if_neg (nI_pos (by omega)), r_226_1141 hSp, ob_eq, gi_226 hSp, ob_eq, rm_1142, bitM (by omega), ← hb2, wi_259 hSp (by omega), ob_eq, gi_226 (St_sA hSp), ob_eq, mI_sA, rm_1142, e2, pi_226 (St_sA hSp), ob_eq, rm_step (fun j hj => apt_s hj), sub1]
      rfl)
    (fun fu => by
      show f_X11_say_L5 (fu + 1) (rm M X (apt b m u c c) (m + c)) (X + 226) (lN u) (nI (c - c) - 1) = _
      rw [f_X11_say_L5, Nat.sub_self, if_pos (by decide)]
      rfl) 1000 (by omega)
  rw [apt_0, Nat.add_zero, Nat.sub_zero] at e
  exact e
theorem ap_b {b : Nat → Nat} {m u c : Nat} (h : ∀ j, j < m → b j < 2) : ∀ j, j < m + c → ap b m u c j < 2 := apt_b h
theorem bit_mod {u c i : Nat} (h : i < c) : (u % 2 ^ c) / 2 ^ i % 2 = u / 2 ^ i % 2 := by
  have e : 2 ^ c = 2 ^ i * 2 ^ (c - i) := by rw [← Nat.pow_add, show i + (c - i) = c by omega]
  rw [e, Nat.mod_mul_right_div_self]
  refine Nat.mod_mod_of_dvd _ ?_
  exact ⟨2 ^ (c - i - 1), by rw [Nat.mul_comm, ← Nat.pow_succ]; congr 1; omega⟩
theorem ap_mod (b : Nat → Nat) (m u c : Nat) : ap b m (u % 2 ^ c) c = ap b m u c := by
  funext j
  unfold ap apt
  by_cases q : m ≤ j ∧ j < m + c
  · rw [if_pos q, if_pos q, bit_mod (by omega)]
  · rw [if_neg q, if_neg q]
/-- the head of a letter -/
def hd (k i u : Nat) : Nat → Nat := ap (ap (ap (fun _ => 0) 0 k 3) 3 i 3) 6 u 16
theorem hd_b {k i u : Nat} : ∀ j, j < 22 → hd k i u j < 2 := ap_b (m := 6) (c := 16) (ap_b (m := 3) (c := 3) (ap_b (m := 0) (c := 3) (fun j h => absurd h (Nat.not_lt_zero _))))
theorem hv_0 (b : Nat → Nat) (k : Nat) : ∀ i, hv b 0 k i = 0
  | 0 => rfl
  | i + 1 => by
    show 2 * hv b 0 k i + (if 8 * k + i < 0 then _ else 0) = 0
    rw [hv_0 b k i, if_neg (Nat.not_lt_zero _)]
theorem begin_eq {M : Mm} {X k i u : Nat} (hS : St M X) (hk : k < 8) (hi : i < 8) (hu : u < 2 ^ 31) : f_X5_begin M (X + 212) (nI k) (nI i) (nI u) = some (pn M X (hd k i u) 22) := by
  unfold f_X5_begin
  have e0 : sI (sA M (X + 213) (fun j => if j < 60 then 0 else mA M (X + 213) j)) 501 (X + 212) 0 = pn M X (fun _ => 0) 0 := by
    rw [sI_sA]
    unfold pn
    have e : (fun j => if j < 60 then (0 : Int32) else mA M (X + 213) j) = wr (mA M (X + 213)) 0 60 (fun k => nI (byv (fun _ => 0) 0 k)) := by
      funext j
      by_cases q : j < 60
      · rw [if_pos q, wr0_in q]
        show _ = nI (hv (fun _ => 0) 0 j 8)
        rw [hv_0]; rfl
      · rw [if_neg q, wr_out (by omega)]
    rw [e]; rfl
  have z0 : ∀ j, j < 0 → (fun _ => 0 : Nat → Nat) j < 2 := fun j h => absurd h (Nat.not_lt_zero _)
  have w1 := wr_pn (M := M) (X := X) (m := 0) (u := k) (c := 3) (b := fun _ => 0) hS (by omega) (by omega) z0
  have w2 := wr_pn (M := M) (X := X) (m := 3) (u := i) (c := 3) (b := ap (fun _ => 0) 0 k 3) hS (by omega) (by omega) (ap_b (m := 0) (c := 3) z0)
  have w3 := wr_pn (M := M) (X := X) (m := 6) (u := u) (c := 16) (b := ap (ap (fun _ => 0) 0 k 3) 3 i 3) hS (by omega) (by omega) (ap_b (m := 3) (c := 3) (ap_b (m := 0) (c := 3) z0))
  have g1 : f_X5_write (pn M X (fun _ => 0) 0) (X + 212) (lN k) 3 = some (pn M X (ap (fun _ => 0) 0 k 3) 3) := w1
  have g2 : f_X5_write (pn M X (ap (fun _ => 0) 0 k 3) 3) (X + 212) (lN i) 3 = some (pn M X (ap (ap (fun _ => 0) 0 k 3) 3 i 3) 6) := w2
  have g3 : f_X5_write (pn M X (ap (ap (fun _ => 0) 0 k 3) 3 i 3) 6) (X + 212) (lN u) 16 = some (pn M X (hd k i u) 22) := w3
  rw [if_pos (k_212 hS), r_212_500 hS, ob_eq, fillI (k_213 hS) (n_213 hS) (by decide), ob_eq, pi_212 (St_sA hS), ob_eq, e0, nI_l (by omega), nI_l (by omega), nI_l hu, g1, ob_eq, g2, ob_eq, g3, ob_eq]
theorem head_eq {M : Mm} {X k i u : Nat} (hS : St M X) (hk : k < 8) (hi : i < 8) (hu : u < 2 ^ 31) : f_X11_head M (X + 226) (nI k) (nI i) (nI u) = some (rm M X (hd k i u) 22) := by
  unfold f_X11_head
  have e0 : sI M 1142 (X + 226) 0 = rm M X (fun _ => 0) 0 := by
    unfold rm
    rw [wr_0]
    exact (sA_self _ _ (fun j => rfl)).symm
  have w1 : f_X11_say (rm M X (fun _ => 0) 0) (X + 226) (lN k) 3 = some (rm M X (ap (fun _ => 0) 0 k 3) 3) := say_rm (m := 0) (c := 3) hS (by omega) (by omega)
  have w2 : f_X11_say (rm M X (ap (fun _ => 0) 0 k 3) 3) (X + 226) (lN i) 3 = some (rm M X (ap (ap (fun _ => 0) 0 k 3) 3 i 3) 6) := say_rm (m := 3) (c := 3) hS (by omega) (by omega)
  have w3 : f_X11_say (rm M X (ap (ap (fun _ => 0) 0 k 3) 3 i 3) 6) (X + 226) (lN (u % 65536)) 16 = some (rm M X (hd k i u) 22) := by
    have e := say_rm (M := M) (X := X) (m := 6) (u := u % 2 ^ 16) (c := 16) (b := ap (ap (fun _ => 0) 0 k 3) 3 i 3) hS (by omega) (by omega)
    rw [ap_mod] at e
    exact e
  have e6 : nI u - nI u / 65536 * 65536 = nI (u % 65536) := pk_rem (d := 65536) hu (by decide) (by decide)
  rw [if_pos (k_226 hS), pi_226 hS, ob_eq, e0, e6, nI_l (by omega), nI_l (by omega), nI_l (by omega), w1, ob_eq, w2, ob_eq, w3, ob_eq]
end
section
/-! A new letter: at the class, and at the reference. -/
theorem mI_nO (M : Mm) (kd x y : Nat) : mI (nO M kd) x y = if y = mS M then 0 else mI M x y := rfl
theorem mR_nO (M : Mm) (kd x y : Nat) : mR (nO M kd) x y = if y = mS M then none else mR M x y := rfl
theorem mK_nO (M : Mm) (kd x : Nat) : mK (nO M kd) x = if x = mS M then kd else mK M x := rfl
theorem mN_nO (M : Mm) (kd : Nat) : mN (nO M kd) = mN M := rfl
theorem mA_nO (M : Mm) (kd : Nat) : mA (nO M kd) = mA M := rfl
theorem mQ_nO (M : Mm) (kd : Nat) : mQ (nO M kd) = mQ M := rfl
theorem mS_nO (M : Mm) (kd : Nat) : mS (nO M kd) = mS M + 1 := rfl
theorem mI_nA (M : Mm) (kd n : Nat) : mI (nA M kd n) = mI M := rfl
theorem mR_nA (M : Mm) (kd n : Nat) : mR (nA M kd n) = mR M := rfl
theorem mK_nA (M : Mm) (kd n x : Nat) : mK (nA M kd n) x = if x = mS M then kd else mK M x := rfl
theorem mN_nA (M : Mm) (kd n x : Nat) : mN (nA M kd n) x = if x = mS M then n else mN M x := rfl
theorem mA_nA (M : Mm) (kd n x : Nat) : mA (nA M kd n) x = if x = mS M then (fun _ => 0) else mA M x := rfl
theorem mS_nA (M : Mm) (kd n : Nat) : mS (nA M kd n) = mS M + 1 := rfl
theorem mR_sR (M : Mm) (k a : Nat) (v : Option Nat) (x y : Nat) : mR (sR M k a v) x y = if x = k then (if y = a then v else mR M x y) else mR M x y := rfl
theorem mQ_sQ (M : Mm) (a : Nat) (g : Nat → Option Nat) (x : Nat) : mQ (sQ M a g) x = if x = a then g else mQ M x := rfl
theorem mI_sIy {M : Mm} {k a : Nat} {v : Int32} {x y : Nat} (h : ¬ y = a) : mI (sI M k a v) x y = mI M x y := by
  rw [mI_sI, if_neg h, ite_self]
theorem mR_sRy {M : Mm} {k a : Nat} {v : Option Nat} {x y : Nat} (h : ¬ y = a) : mR (sR M k a v) x y = mR M x y := by
  rw [mR_sR, if_neg h, ite_self]
section AgC2
variable {X N n : Nat} {TI TA TB : Nat → Nat → Prop} {M M1 : Mm}
theorem Ag.cR {k b : Nat} {v : Option Nat} (h : Ag X N n TI TA TB M M1) (q : (k = 9 ∧ b = X + 214) ∨ N ≤ b) : Ag X N n TI TA TB M (sR M1 k b v) := h.tr' (Ag_sR q)
theorem Ag.cQ {b : Nat} {g : Nat → Option Nat} (h : Ag X N n TI TA TB M M1) (q : b = X + 194 ∧ ∀ j, j < n → g j = mQ M1 b j) : Ag X N n TI TA TB M (sQ M1 b g) := h.tr' (Ag_sQ q)
theorem Ag.cO {kd : Nat} (h : Ag X N n TI TA TB M M1) (q : N ≤ mS M1) : Ag X N n TI TA TB M (nO M1 kd) := h.tr' (Ag_nO q)
theorem Ag.cN {kd len : Nat} (h : Ag X N n TI TA TB M M1) (q : N ≤ mS M1) : Ag X N n TI TA TB M (nA M1 kd len) := h.tr' (Ag_nA q)
theorem Ag.cpn {m : Nat} {b : Nat → Nat} (h : Ag X N n TI TA TB M M1) : Ag X N n TI TA TB M (pn M1 X b m) := (h.cI (Or.inl (by unfold ScI; omega))).cA (Or.inl (by unfold ScA; omega))
theorem Ag.crm {m : Nat} {b : Nat → Nat} (h : Ag X N n TI TA TB M M1) : Ag X N n TI TA TB M (rm M1 X b m) := (h.cI (Or.inl (by unfold ScI; omega))).cA (Or.inl (by unfold ScA; omega))
end AgC2
def T10 (X : Nat) : Nat → Nat → Prop := fun num a => num = 1010 ∧ a = X
/-- the class's cells of a letter -/
def cLt (M1 : Mm) (X n A B k i nb len : Nat) (num : Int32) (g : Nat → Int32) (cp : Int32) (pr : Option Nat) : Prop := mQ M1 (X + 194) n = some A ∧ mK M1 A = 5 ∧ mR M1 403 A = some B ∧ mK M1 B = 20 ∧ mN M1 B = len ∧ mA M1 B = g ∧ mI M1 400 A = nI k ∧ mI M1 401 A = nI i ∧ mI M1 402 A = num ∧ mI M1 404 A = nI nb ∧ mI M1 405 A = -1 ∧ mI M1 406 A = 0 ∧ mI M1 407 A = cp ∧ mR M1 408 A = pr ∧ mI M1 1010 X = nI (n + 1)
def li (M : Mm) (k i : Int32) (num : Int32) (B : Nat) (nb : Int32) : Mm := sI (sR (sI (sI (sI (sI (nO M 5) 405 (mS M) (-1)) 400 (mS M) k) 401 (mS M) i) 402 (mS M) num) 403 (mS M) (some B)) 404 (mS M) nb
theorem li_eq {M : Mm} {k i num nb : Int32} {B : Nat} : f_X4_init (nO M 5) (mS M) k i num B nb = some (li M k i num B nb) := by
  have h0 : mK (nO M 5) (mS M) = 5 := by rw [mK_nO, if_pos rfl]
  unfold f_X4_init
  rw [if_pos h0, pI_of h0, ob_eq, pI_of (by rw [mK_sI]; exact h0), ob_eq, pI_of (by rw [mK_sI, mK_sI]; exact h0), ob_eq, pI_of (by rw [mK_sI, mK_sI, mK_sI]; exact h0), ob_eq, pR_of (by rw [mK_sI, mK_sI, mK_sI, mK_sI]; exact h0), ob_eq, pI_of (by rw [mK_sR, mK_sI, mK_sI, mK_sI, mK_sI]; exact h0), ob_eq]
  rfl
theorem Ag_li {X N n : Nat} {TI TA TB : Nat → Nat → Prop} {M0 M : Mm} {k i num nb : Int32} {B : Nat} (h : Ag X N n TI TA TB M0 M) (q : N ≤ mS M) : Ag X N n TI TA TB M0 (li M k i num B nb) := by
  unfold li
  exact ((((((h.cO q).cI (Or.inr (Or.inr q))).cI (Or.inr (Or.inr q))).cI (Or.inr (Or.inr q))).cI (Or.inr (Or.inr q))).cR (Or.inr q)).cI (Or.inr (Or.inr q))
theorem add_eq {M : Mm} {X n A : Nat} (hS : St M X) (h1 : mI M 1010 X = nI n) (hn : n < 200) (hA : mK M A = 5) : f_X10_add M X A = some (sI (sQ M (X + 194) (va_up (mQ M (X + 194)) n (some A))) 1010 X (nI (n + 1)), nI n) := by
  have hf : f_X10_isLineFull M X = some 0 := by
    unfold f_X10_isLineFull
    rw [if_pos (k_0 hS), gi_0 hS, ob_eq, h1, if_pos (show nI n < 200 from nI_lt (b := 200) hn (by decide))]
  have hw : wR M 25 5 (X + 194) (nI n) A = some (sQ M (X + 194) (va_up (mQ M (X + 194)) n (some A))) := by
    unfold wR
    rw [if_pos (k_194 hS), n_194 hS, if_pos (vin_nI hn (by decide)), if_pos hA, ix_nI (by omega)]
  have k0 : mK (sQ M (X + 194) (va_up (mQ M (X + 194)) n (some A))) X = 11 := by rw [mK_sQ]; exact k_0 hS
  unfold f_X10_add
  rw [if_pos (k_0 hS), hf, ob_eq, if_pos rfl, r_0_1005 hS, ob_eq, gi_0 hS, ob_eq, h1, hw, ob_eq, gI_of k0, ob_eq, mI_sQ, h1, nI_1, pI_of k0, ob_eq, gI_of (by rw [mK_sI]; exact k0), ob_eq, mI_sI, if_pos rfl, if_pos rfl, m1I]
theorem lf_in {M : Mm} {X n : Nat} (hS : St M X) (hC : IC M X n) : f_X10_isLineFull M X = some (if n < 200 then 0 else 1) := by
  unfold f_X10_isLineFull
  rw [if_pos (k_0 hS), gi_0 hS, ob_eq, hC.2.1]
  by_cases q : n < 200
  · rw [if_pos (show nI n < 200 from nI_lt (b := 200) q (by decide)), if_pos q]
  · rw [if_neg (show ¬ nI n < 200 from nI_nlt (a := n) (b := 200) (by omega) (by have := hC.1; omega)), if_neg q]
/-- a letter is made of the row at B, behind which nothing lies -/
theorem mk_let {M0 M : Mm} {X N n B k i nb len : Nat} {num : Int32} {g : Nat → Int32} {pr : Option Nat} (hX : X + 270 ≤ N) (hS : St M0 X) (A0 : Ag X N n (T10 X) T0 T0 M0 M) (hN : N ≤ mS M) (h1 : mI M 1010 X = nI n) (hn : n < 200) (hB : B < mS M) (kB : mK M B = 20) (nB : mN M B = len) (gB : mA M B = g) :
    ∃ M1, ((f_X4_init (nO M 5) (mS M) (nI k) (nI i) num B (nI nb)).bind fun M10 => (pR M10 5 408 (mS M) pr).bind fun M11 => ob2 (f_X10_add M11 X (mS M)) fun M13 v14 => some (M13, v14)) = some (M1, nI n) ∧ Ag X N n (T10 X) T0 T0 M0 M1 ∧ mS M1 = mS M + 1 ∧ cLt M1 X n (mS M) B k i nb len num g 0 pr ∧ (∀ num a, a < mS M → num ≠ 1010 → mI M1 num a = mI M num a) ∧ (∀ a, mA M1 a = mA M a) ∧ (∀ a, a < mS M → mK M1 a = mK M a ∧ mN M1 a = mN M a) ∧ ∀ num a, a < mS M → mR M1 num a = mR M num a := by
  have x1 : ¬ X = mS M := by omega
  have hk : mK (li M (nI k) (nI i) num B (nI nb)) (mS M) = 5 := by
    unfold li; rw [mK_sI, mK_sR, mK_sI, mK_sI, mK_sI, mK_sI, mK_nO, if_pos rfl]
  have A1 : Ag X N n (T10 X) T0 T0 M0 (sR (li M (nI k) (nI i) num B (nI nb)) 408 (mS M) pr) := (Ag_li A0 hN).cR (Or.inr hN)
  have hS1 : St (sR (li M (nI k) (nI i) num B (nI nb)) 408 (mS M) pr) X := St_Ag hX A1 hS
  have h2 : mI (sR (li M (nI k) (nI i) num B (nI nb)) 408 (mS M) pr) 1010 X = nI n := by
    unfold li
    rw [mI_sR, mI_sIy x1, mI_sR, mI_sIy x1, mI_sIy x1, mI_sIy x1, mI_sIy x1, mI_nO, if_neg x1]
    exact h1
  have ea := add_eq (A := mS M) hS1 h2 hn (by rw [mK_sR]; exact hk)
  refine ⟨sI (sQ (sR (li M (nI k) (nI i) num B (nI nb)) 408 (mS M) pr) (X + 194) (va_up (mQ (sR (li M (nI k) (nI i) num B (nI nb)) 408 (mS M) pr) (X + 194)) n (some (mS M)))) 1010 X (nI (n + 1)), ?_, ?_, ?_, ?_, ?_, ?_, ?_, ?_⟩
  · rw [li_eq, ob_eq, pR_of hk, ob_eq, ea, ob2_eq]
  · exact (A1.cQ ⟨rfl, fun j hj => vau_ne (by omega)⟩).cI (Or.inr (Or.inl ⟨rfl, rfl⟩))
  · unfold li; rw [mS_sI, mS_sQ, mS_sR, mS_sI, mS_sR, mS_sI, mS_sI, mS_sI, mS_sI, mS_nO]
  · have b1 : ¬ B = mS M := by omega
    refine ⟨?_, ?_, ?_, ?_, ?_, ?_, ?_, ?_, ?_, ?_, ?_, ?_, ?_, ?_, ?_⟩
    · rw [mQ_sI, mQ_sQ, if_pos rfl, vau_eq]
    · rw [mK_sI, mK_sQ, mK_sR]; exact hk
    · unfold li; rw [mR_sI, mR_sQ, mR_sR, if_neg (by decide), mR_sI, mR_sR, if_pos rfl, if_pos rfl]
    · unfold li; rw [mK_sI, mK_sQ, mK_sR, mK_sI, mK_sR, mK_sI, mK_sI, mK_sI, mK_sI, mK_nO, if_neg b1]; exact kB
    · unfold li; rw [mN_sI, mN_sQ, mN_sR, mN_sI, mN_sR, mN_sI, mN_sI, mN_sI, mN_sI, mN_nO]; exact nB
    · unfold li; rw [mA_sI, mA_sQ, mA_sR, mA_sI, mA_sR, mA_sI, mA_sI, mA_sI, mA_sI, mA_nO]; exact gB
    · unfold li; rw [mI_sI, if_neg (by decide), mI_sQ, mI_sR, mI_sI, if_neg (by decide), mI_sR, mI_sI, if_neg (by decide), mI_sI, if_neg (by decide), mI_sI, if_pos rfl, if_pos rfl]
    · unfold li; rw [mI_sI, if_neg (by decide), mI_sQ, mI_sR, mI_sI, if_neg (by decide), mI_sR, mI_sI, if_neg (by decide), mI_sI, if_pos rfl, if_pos rfl]
    · unfold li; rw [mI_sI, if_neg (by decide), mI_sQ, mI_sR, mI_sI, if_neg (by decide), mI_sR, mI_sI, if_pos rfl, if_pos rfl]
    · unfold li; rw [mI_sI, if_neg (by decide), mI_sQ, mI_sR, mI_sI, if_pos rfl, if_pos rfl]
    · unfold li; rw [mI_sI, if_neg (by decide), mI_sQ, mI_sR, mI_sI, if_neg (by decide), mI_sR, mI_sI, if_neg (by decide), mI_sI, if_neg (by decide), mI_sI, if_neg (by decide), mI_sI, if_pos rfl, if_pos rfl]
    · unfold li; rw [mI_sI, if_neg (by decide), mI_sQ, mI_sR, mI_sI, if_neg (by decide), mI_sR, mI_sI, if_neg (by decide), mI_sI, if_neg (by decide), mI_sI, if_neg (by decide), mI_sI, if_neg (by decide), mI_nO, if_pos rfl]
    · unfold li; rw [mI_sI, if_neg (by decide), mI_sQ, mI_sR, mI_sI, if_neg (by decide), mI_sR, mI_sI, if_neg (by decide), mI_sI, if_neg (by decide), mI_sI, if_neg (by decide), mI_sI, if_neg (by decide), mI_nO, if_pos rfl]
    · rw [mR_sI, mR_sQ, mR_sR, if_pos rfl, if_pos rfl]
    · rw [mI_sI, if_pos rfl, if_pos rfl]
  · intro nu a ha hne
    have a1 : ¬ a = mS M := by omega
    unfold li
    rw [mI_sI, if_neg hne, mI_sQ, mI_sR, mI_sIy a1, mI_sR, mI_sIy a1, mI_sIy a1, mI_sIy a1, mI_sIy a1, mI_nO, if_neg a1]
  · intro a
    unfold li; rw [mA_sI, mA_sQ, mA_sR, mA_sI, mA_sR, mA_sI, mA_sI, mA_sI, mA_sI, mA_nO]
  · intro a ha
    have a1 : ¬ a = mS M := by omega
    unfold li
    exact ⟨by rw [mK_sI, mK_sQ, mK_sR, mK_sI, mK_sR, mK_sI, mK_sI, mK_sI, mK_sI, mK_nO, if_neg a1], by rw [mN_sI, mN_sQ, mN_sR, mN_sI, mN_sR, mN_sI, mN_sI, mN_sI, mN_sI, mN_nO]⟩
  · intro nu a ha
    have a1 : ¬ a = mS M := by omega
    unfold li
    rw [mR_sI, mR_sQ, mR_sRy a1, mR_sI, mR_sRy a1, mR_sI, mR_sI, mR_sI, mR_sI, mR_nO, if_neg a1]
end
section
/-- a letter is made of the row at B, behind which nothing lies -/
theorem mk_let2 {M0 M : Mm} {X N n B k i nb len : Nat} {num : Int32} {g : Nat → Int32} (hX : X + 270 ≤ N) (hS : St M0 X) (A0 : Ag X N n (T10 X) T0 T0 M0 M) (hN : N ≤ mS M) (h1 : mI M 1010 X = nI n) (hn : n < 200) (hB : B < mS M) (kB : mK M B = 20) (nB : mN M B = len) (gB : mA M B = g) :
    ∃ M1, ((f_X4_init (nO M 5) (mS M) (nI k) (nI i) num B (nI nb)).bind fun M10 => (pZ M10 5 407 (mS M) 1).bind fun M11 => ob2 (f_X10_add M11 X (mS M)) fun M13 v14 => some (M13, v14)) = some (M1, nI n) ∧ Ag X N n (T10 X) T0 T0 M0 M1 ∧ mS M1 = mS M + 1 ∧ cLt M1 X n (mS M) B k i nb len num g 1 none ∧ (∀ num a, a < mS M → num ≠ 1010 → mI M1 num a = mI M num a) ∧ (∀ a, mA M1 a = mA M a) ∧ (∀ a, a < mS M → mK M1 a = mK M a ∧ mN M1 a = mN M a) ∧ ∀ num a, a < mS M → mR M1 num a = mR M num a := by
  have x1 : ¬ X = mS M := by omega
  have hk : mK (li M (nI k) (nI i) num B (nI nb)) (mS M) = 5 := by
    unfold li; rw [mK_sI, mK_sR, mK_sI, mK_sI, mK_sI, mK_sI, mK_nO, if_pos rfl]
  have A1 : Ag X N n (T10 X) T0 T0 M0 (sI (li M (nI k) (nI i) num B (nI nb)) 407 (mS M) 1) := (Ag_li A0 hN).cI (Or.inr (Or.inr hN))
  have hS1 : St (sI (li M (nI k) (nI i) num B (nI nb)) 407 (mS M) 1) X := St_Ag hX A1 hS
  have h2 : mI (sI (li M (nI k) (nI i) num B (nI nb)) 407 (mS M) 1) 1010 X = nI n := by
    unfold li
    rw [mI_sIy x1, mI_sIy x1, mI_sR, mI_sIy x1, mI_sIy x1, mI_sIy x1, mI_sIy x1, mI_nO, if_neg x1]
    exact h1
  have ea := add_eq (A := mS M) hS1 h2 hn (by rw [mK_sI]; exact hk)
  refine ⟨sI (sQ (sI (li M (nI k) (nI i) num B (nI nb)) 407 (mS M) 1) (X + 194) (va_up (mQ (sI (li M (nI k) (nI i) num B (nI nb)) 407 (mS M) 1) (X + 194)) n (some (mS M)))) 1010 X (nI (n + 1)), ?_, ?_, ?_, ?_, ?_, ?_, ?_, ?_⟩
  · rw [li_eq, ob_eq, pZ_of hk (Or.inr rfl), ob_eq, ea, ob2_eq]
  · exact (A1.cQ ⟨rfl, fun j hj => vau_ne (by omega)⟩).cI (Or.inr (Or.inl ⟨rfl, rfl⟩))
  · unfold li; rw [mS_sI, mS_sQ, mS_sI, mS_sI, mS_sR, mS_sI, mS_sI, mS_sI, mS_sI, mS_nO]
  · have b1 : ¬ B = mS M := by omega
    refine ⟨?_, ?_, ?_, ?_, ?_, ?_, ?_, ?_, ?_, ?_, ?_, ?_, ?_, ?_, ?_⟩
    · rw [mQ_sI, mQ_sQ, if_pos rfl, vau_eq]
    · rw [mK_sI, mK_sQ, mK_sI]; exact hk
    · unfold li; rw [mR_sI, mR_sQ, mR_sI, mR_sI, mR_sR, if_pos rfl, if_pos rfl]
    · unfold li; rw [mK_sI, mK_sQ, mK_sI, mK_sI, mK_sR, mK_sI, mK_sI, mK_sI, mK_sI, mK_nO, if_neg b1]; exact kB
    · unfold li; rw [mN_sI, mN_sQ, mN_sI, mN_sI, mN_sR, mN_sI, mN_sI, mN_sI, mN_sI, mN_nO]; exact nB
    · unfold li; rw [mA_sI, mA_sQ, mA_sI, mA_sI, mA_sR, mA_sI, mA_sI, mA_sI, mA_sI, mA_nO]; exact gB
    · unfold li; rw [mI_sI, if_neg (by decide), mI_sQ, mI_sI, if_neg (by decide), mI_sI, if_neg (by decide), mI_sR, mI_sI, if_neg (by decide), mI_sI, if_neg (by decide), mI_sI, if_pos rfl, if_pos rfl]
    · unfold li; rw [mI_sI, if_neg (by decide), mI_sQ, mI_sI, if_neg (by decide), mI_sI, if_neg (by decide), mI_sR, mI_sI, if_neg (by decide), mI_sI, if_pos rfl, if_pos rfl]
    · unfold li; rw [mI_sI, if_neg (by decide), mI_sQ, mI_sI, if_neg (by decide), mI_sI, if_neg (by decide), mI_sR, mI_sI, if_pos rfl, if_pos rfl]
    · unfold li; rw [mI_sI, if_neg (by decide), mI_sQ, mI_sI, if_neg (by decide), mI_sI, if_pos rfl, if_pos rfl]
    · unfold li; rw [mI_sI, if_neg (by decide), mI_sQ, mI_sI, if_neg (by decide), mI_sI, if_neg (by decide), mI_sR, mI_sI, if_neg (by decide), mI_sI, if_neg (by decide), mI_sI, if_neg (by decide), mI_sI, if_pos rfl, if_pos rfl]
    · unfold li; rw [mI_sI, if_neg (by decide), mI_sQ, mI_sI, if_neg (by decide), mI_sI, if_neg (by decide), mI_sR, mI_sI, if_neg (by decide), mI_sI, if_neg (by decide), mI_sI, if_neg (by decide), mI_sI, if_neg (by decide), mI_nO, if_pos rfl]
    · rw [mI_sI, if_neg (by decide), mI_sQ, mI_sI, if_pos rfl, if_pos rfl]
    · unfold li; rw [mR_sI, mR_sQ, mR_sI, mR_sI, mR_sR, if_neg (by decide), mR_sI, mR_sI, mR_sI, mR_sI, mR_nO, if_pos rfl]
    · rw [mI_sI, if_pos rfl, if_pos rfl]
  · intro nu a ha hne
    have a1 : ¬ a = mS M := by omega
    unfold li
    rw [mI_sI, if_neg hne, mI_sQ, mI_sIy a1, mI_sIy a1, mI_sR, mI_sIy a1, mI_sIy a1, mI_sIy a1, mI_sIy a1, mI_nO, if_neg a1]
  · intro a
    unfold li; rw [mA_sI, mA_sQ, mA_sI, mA_sI, mA_sR, mA_sI, mA_sI, mA_sI, mA_sI, mA_nO]
  · intro a ha
    have a1 : ¬ a = mS M := by omega
    unfold li
    exact ⟨by rw [mK_sI, mK_sQ, mK_sI, mK_sI, mK_sR, mK_sI, mK_sI, mK_sI, mK_sI, mK_nO, if_neg a1], by rw [mN_sI, mN_sQ, mN_sI, mN_sI, mN_sR, mN_sI, mN_sI, mN_sI, mN_sI, mN_nO]⟩
  · intro nu a ha
    have a1 : ¬ a = mS M := by omega
    unfold li
    rw [mR_sI, mR_sQ, mR_sI, mR_sI, mR_sRy a1, mR_sI, mR_sI, mR_sI, mR_sI, mR_nO, if_neg a1]
theorem cp_eq {M : Mm} {a na L : Nat} (ka : mK M a = 20) (ha : mN M a = na) (hs : ¬ a = mS M) (hL : L < na) (h6 : na ≤ 60) : f_J7_copyOf_59c91 M a (nI L) = some (sA (nA M 20 L) (mS M) (va_cpy (mA M a) (fun _ => 0) 0 0 L), mS M) := by
  have kA : mK (nA M 20 L) a = 20 := by rw [mK_nA, if_neg hs]; exact ka
  have kB : mK (nA M 20 L) (mS M) = 20 := by rw [mK_nA, if_pos rfl]
  have nA' : mN (nA M 20 L) a = na := by rw [mN_nA, if_neg hs]; exact ha
  have nB : mN (nA M 20 L) (mS M) = L := by rw [mN_nA, if_pos rfl]
  have e1 : mA0 M 20 64 (nI L) = some (nA M 20 L) := by
    unfold mA0
    rw [nI_toInt (by omega), if_pos (by omega), if_pos (by omega), ix_nI (by omega)]
  have e2 : cpI (nA M 20 L) a 0 (mS M) 0 (nI L) = some (sA (nA M 20 L) (mS M) (va_cpy (mA (nA M 20 L) a) (mA (nA M 20 L) (mS M)) 0 0 L)) := cpI_of (i := 0) (j := 0) kA kB nA' nB (by omega) (by omega) (by omega) (by omega)
  unfold f_J7_copyOf_59c91
  rw [aL_of ka (by decide) (by decide) ha, ob_eq, if_neg (fun q => absurd ((nI_eq (by omega) (by omega)).mp q) (by omega)), e1, ob_eq, aL_of kA (by decide) (by decide) nA', ob_eq, if_pos (nI_lt hL (by omega)), e2, ob_eq, mA_nA, if_neg hs, mA_nA, if_pos rfl]
theorem cl_eq {M : Mm} {a na : Nat} (ka : mK M a = 20) (ha : mN M a = na) (h6 : na ≤ 60) : f_J7_copyOf_59c91 M a (nI na) = some (sA (nA M 20 na) (mS M) (mA M a), mS M) := by
  unfold f_J7_copyOf_59c91 clI
  rw [aL_of ka (by decide) (by decide) ha, ob_eq, if_pos rfl, if_pos ka, ha, if_pos (by omega), ob_eq]
def bsum (f : Nat → Nat) : Nat → Nat
  | 0 => 0
  | k + 1 => bsum f k + f k
def cbv (f : Nat → Nat) (w : Nat) : Nat := 255 - bsum f w % 256
theorem bsum_le {f : Nat → Nat} : ∀ {w : Nat}, (∀ k, k < w → f k < 256) → bsum f w ≤ 256 * w
  | 0, _ => Nat.le_refl _
  | w + 1, h => by
    have h1 := bsum_le (f := f) (w := w) (fun k hk => h k (by omega))
    have h2 := h w (by omega)
    show bsum f w + f w ≤ _
    omega
theorem ck10 {M : Mm} {B L w : Nat} {f : Nat → Nat} (kB : mK M B = 20) (nB : mN M B = L) (hw : w ≤ L) (hL : L ≤ 100) (hf : ∀ k, k < w → f k < 256) (hr : ∀ k, k < w → mA M B k = nI (f k)) : f_X10_checkOf M B (nI w) = some (nI (cbv f w)) := by
  unfold f_X10_checkOf
  exact loop_run (fun fu i => f_X10_checkOf_L4 M fu B (nI w) (nI (bsum f i)) (nI i)) w _
    (fun i fu hi => by
      show f_X10_checkOf_L4 M (fu + 1) B (nI w) (nI (bsum f i)) (nI i) = f_X10_checkOf_L4 M fu B (nI w) (nI (bsum f i + f i)) (nI (i + 1))
      rw [f_X10_checkOf_L4, if_neg (nI_ge hi (by omega)), aL_of kB (by decide) (by decide) nB, ob_eq, if_neg (nI_ge (by omega) (by omega)), aI_of kB nB (by omega) (by omega), ob_eq, hr i hi, nI_add, nI_1])
    (fun fu => by
      show f_X10_checkOf_L4 M (fu + 1) B (nI w) (nI (bsum f w)) (nI w) = _
      have e : (255 : Int32) - nI (bsum f w % 256) = nI (255 - bsum f w % 256) := pk_sub (a := 255) (by omega)
      rw [f_X10_checkOf_L4, if_pos (nI_le (Nat.le_refl _) (by omega)), and255, e]
      rfl) 1000 (by omega)
theorem ck11 {M : Mm} {X l w : Nat} {f : Nat → Nat} (hS : St M X) (hl : l < 200) (hw : w ≤ 60) (hf : ∀ k, k < w → f k < 256) (hr : ∀ k, k < w → mA M (X + 240) (64 * l + k) = nI (f k)) : f_X11_checkOf M (X + 226) (nI l) (nI w) = some (nI (cbv f w)) := by
  unfold f_X11_checkOf
  rw [if_pos (k_226 hS)]
  exact loop_run (fun fu i => f_X11_checkOf_L5 M fu (X + 226) (nI l) (nI w) (nI (bsum f i)) (nI i)) w _
    (fun i fu hi => by
      show f_X11_checkOf_L5 M (fu + 1) (X + 226) (nI l) (nI w) (nI (bsum f i)) (nI i) = f_X11_checkOf_L5 M fu (X + 226) (nI l) (nI w) (nI (bsum f i + f i)) (nI (i + 1))
      rw [f_X11_checkOf_L5, if_neg (nI_ge hi (by omega)), r_226_1118 hS, ob_eq, m64, nI_add, ai_240 hS (by omega), ob_eq, hr i hi, nI_add, nI_1])
    (fun fu => by
      show f_X11_checkOf_L5 M (fu + 1) (X + 226) (nI l) (nI w) (nI (bsum f w)) (nI w) = _
      have hb := bsum_le hf
      have e : (255 : Int32) - nI (bsum f w % 256) = nI (255 - bsum f w % 256) := pk_sub (a := 255) (by omega)
      have e6 : nI (bsum f w) - nI (bsum f w) / 256 * 256 = nI (bsum f w % 256) := pk_rem (d := 256) (by omega) (by decide) (by decide)
      rw [f_X11_checkOf_L5, if_pos (nI_le (Nat.le_refl _) (by omega)), e6, e]
      rfl) 1000 (by omega)
/-- the bytes of a letter of m bits b, with a check or without -/
def byt (b : Nat → Nat) (m : Nat) (k : Nat) : Nat := if k < (m + 7) / 8 then byv b m k else cbv (byv b m) ((m + 7) / 8)
def bln (m : Nat) (c : Bool) : Nat := (m + 7) / 8 + (if c then 1 else 0)
theorem byt_lt {b : Nat → Nat} {m k : Nat} (hb : ∀ j, j < m → b j < 2) : byt b m k < 256 := by
  unfold byt cbv
  by_cases q : k < (m + 7) / 8
  · rw [if_pos q]; exact byv_lt hb
  · rw [if_neg q]; omega
theorem fin_eq {M : Mm} {X m : Nat} {b : Nat → Nat} (hS : St M X) (h2 : m ≤ 440) (hb : ∀ j, j < m → b j < 2) (c : Bool) : ∃ g, f_X5_finished (pn M X b m) (X + 212) (if c then 1 else 0) = some (sA (nA (pn M X b m) 20 (bln m c)) (mS M) g, mS M) ∧ ∀ k, k < bln m c → g k = nI (byt b m k) := by
  have hSp : St (pn M X b m) X := St_pn hS
  have sP : mS (pn M X b m) = mS M := rfl
  have hne : ¬ X + 213 = mS (pn M X b m) := by have := hSp.2.2.2.2; omega
  have d10 : ¬ (1 : Int32) = 0 := by decide
  unfold f_X5_finished
  rw [if_pos (k_212 hSp), gi_212 hSp, ob_eq, pn_501, wBy (by omega), ob_eq, r_212_500 hSp]
  cases c with
  | false =>
    refine ⟨va_cpy (mA (pn M X b m) (X + 213)) (fun _ => 0) 0 0 ((m + 7) / 8), ?_, ?_⟩
    · rw [if_pos (show (if false = true then (1 : Int32) else 0) = 0 from rfl), ob_eq, cp_eq (L := (m + 7) / 8) (k_213 hSp) (n_213 hSp) hne (by omega) (by omega), ob2_eq, sP]
      rfl
    · intro k hk
      have hk' : k < (m + 7) / 8 := hk
      rw [pk_cpy_in (by omega) (by omega), show 0 + (k - 0) = k by omega, pn_row (by omega)]
      unfold byt
      rw [if_pos hk']
  | true =>
    have kB : mK (sA (nA (pn M X b m) 20 ((m + 7) / 8 + 1)) (mS M) (va_cpy (mA (pn M X b m) (X + 213)) (fun _ => 0) 0 0 ((m + 7) / 8 + 1))) (mS M) = 20 := by rw [mK_sA, mK_nA, sP, if_pos rfl]
    have nB : mN (sA (nA (pn M X b m) 20 ((m + 7) / 8 + 1)) (mS M) (va_cpy (mA (pn M X b m) (X + 213)) (fun _ => 0) 0 0 ((m + 7) / 8 + 1))) (mS M) = (m + 7) / 8 + 1 := by rw [mN_sA, mN_nA, sP, if_pos rfl]
    have hr : ∀ k, k < (m + 7) / 8 → mA (sA (nA (pn M X b m) 20 ((m + 7) / 8 + 1)) (mS M) (va_cpy (mA (pn M X b m) (X + 213)) (fun _ => 0) 0 0 ((m + 7) / 8 + 1))) (mS M) k = nI (byv b m k) := by
      intro k hk
      rw [mA_sA, if_pos rfl, pk_cpy_in (by omega) (by omega), show 0 + (k - 0) = k by omega, pn_row (by omega)]
    refine ⟨va_up (va_cpy (mA (pn M X b m) (X + 213)) (fun _ => 0) 0 0 ((m + 7) / 8 + 1)) ((m + 7) / 8) (nI (cbv (byv b m) ((m + 7) / 8))), ?_, ?_⟩
    · rw [if_neg (show ¬ (if true = true then (1 : Int32) else 0) = 0 from d10), ob_eq, nI_1, cp_eq (L := (m + 7) / 8 + 1) (k_213 hSp) (n_213 hSp) hne (by omega) (by omega), ob2_eq, sP, ck10 kB nB (by omega) (by omega) (fun k hk => byv_lt hb) hr, ob_eq, wI_of kB nB (by omega) (by omega), ob_eq, sA_sA, mA_sA, if_pos rfl]
      rfl
    · intro k hk
      have hk' : k < (m + 7) / 8 + 1 := hk
      by_cases q : k = (m + 7) / 8
      · subst q
        rw [vau_eq]
        unfold byt
        rw [if_neg (Nat.lt_irrefl _)]
      · rw [vau_ne q, pk_cpy_in (by omega) (by omega), show 0 + (k - 0) = k by omega, pn_row (by omega)]
        unfold byt
        rw [if_pos (by omega)]
end
section
/-! The letter is laid: class (addWritten) and reference (laid). -/
def sU (M : Mm) (a i : Nat) (v : Int32) : Mm := sA M a (va_up (mA M a) i v)
theorem sU_def (M : Mm) (a i : Nat) (v : Int32) : sA M a (va_up (mA M a) i v) = sU M a i v := rfl
theorem mA_sU (M : Mm) (a i : Nat) (v : Int32) (x : Nat) : mA (sU M a i v) x = if x = a then va_up (mA M a) i v else mA M x := rfl
theorem mI_sU (M : Mm) (a i : Nat) (v : Int32) : mI (sU M a i v) = mI M := rfl
theorem mB_sU (M : Mm) (a i : Nat) (v : Int32) : mB (sU M a i v) = mB M := rfl
theorem mS_sU (M : Mm) (a i : Nat) (v : Int32) : mS (sU M a i v) = mS M := rfl
theorem St_sU {M : Mm} {X a i : Nat} {v : Int32} (h : St M X) : St (sU M a i v) X := h
theorem Ag.cU {X N n : Nat} {TI TA TB : Nat → Nat → Prop} {M M1 : Mm} {b i : Nat} {v : Int32} (h : Ag X N n TI TA TB M M1) (q : ScA X b ∨ N ≤ b ∨ TA b i) : Ag X N n TI TA TB M (sU M1 b i v) := Ag.cAu h q
theorem mA_sUx {M : Mm} {a i x : Nat} {v : Int32} (h : ¬ x = a) : mA (sU M a i v) x = mA M x := by rw [mA_sU, if_neg h]
theorem mA_sUi {M : Mm} {a i : Nat} {v : Int32} : mA (sU M a i v) a i = v := by rw [mA_sU, if_pos rfl, vau_eq]
theorem mA_sUj {M : Mm} {a i j x : Nat} {v : Int32} (h : ¬ j = i) : mA (sU M a i v) x j = mA M x j := by
  rw [mA_sU]
  by_cases q : x = a
  · subst q; rw [if_pos rfl, vau_ne h]
  · rw [if_neg q]
theorem addW {M : Mm} {X N n m k i u : Nat} {b : Nat → Nat} {pr : Option Nat} {c : Bool} (hX : X + 270 ≤ N) (hS : St M X) (hN : N ≤ mS M) (h1 : mI M 1010 X = nI n) (hn : n < 200) (h2 : m ≤ 440) (hb : ∀ j, j < m → b j < 2) (hc : f_X10_endsInCheck (nI k) = some (if c then 1 else 0)) (hu : u < 2 ^ 31) :
    ∃ M1 g, f_X10_addWritten (pn M X b m) X (nI k) (nI i) (nI u) pr = some (M1, nI n) ∧ Ag X N n (T10 X) T0 T0 M M1 ∧ mS M1 = mS M + 2 ∧ cLt M1 X n (mS M + 1) (mS M) k i m (bln m c) (nI (u % 65536)) g 0 pr ∧ (∀ k, k < bln m c → g k = nI (byt b m k)) ∧ (∀ num a, a < mS M → num ≠ 1010 → mI M1 num a = mI (pn M X b m) num a) ∧ (∀ a, a < mS M → mA M1 a = mA (pn M X b m) a) ∧ (∀ a, a < mS M → mK M1 a = mK M a ∧ mN M1 a = mN M a) ∧ ∀ num a, a < mS M → mR M1 num a = mR M num a := by
  have hSp : St (pn M X b m) X := St_pn hS
  obtain ⟨g, f1, f2⟩ := fin_eq hS h2 hb c
  generalize hM5 : sA (nA (pn M X b m) 20 (bln m c)) (mS M) g = M5 at f1
  have s5 : mS M5 = mS M + 1 := by rw [← hM5]; rfl
  have A5 : Ag X N n (T10 X) T0 T0 M M5 := by
    rw [← hM5]
    exact ((Ag.rf.cpn).cN hN).cA (Or.inr (Or.inl hN))
  have i5 : mI M5 = mI (pn M X b m) := by rw [← hM5, mI_sA, mI_nA]
  have r5 : mR M5 = mR M := by rw [← hM5, mR_sA, mR_nA]; unfold pn; rw [mR_sA, mR_sI]
  have h5 : mI M5 1010 X = nI n := by rw [i5]; unfold pn; rw [mI_sA, mI_sI, if_neg (by decide)]; exact h1
  have A6 : Ag X N n (T10 X) T0 T0 M (nO M5 5) := A5.cO (by omega)
  have S6 : St (nO M5 5) X := St_Ag hX A6 hS
  have x5 : ¬ X + 212 = mS M5 := by omega
  have h501 : mI (nO M5 5) 501 (X + 212) = nI m := by rw [mI_nO, if_neg x5, i5, pn_501]
  have kB : mK M5 (mS M) = 20 := by rw [← hM5, mK_sA, mK_nA]; exact if_pos rfl
  have nB : mN M5 (mS M) = bln m c := by rw [← hM5, mN_sA, mN_nA]; exact if_pos rfl
  have gB : mA M5 (mS M) = g := by rw [← hM5, mA_sA, if_pos rfl]
  have e6 : nI u - nI u / 65536 * 65536 = nI (u % 65536) := pk_rem (d := 65536) hu (by decide) (by decide)
  obtain ⟨M1, q1, q2, q3, q4, q5, q6, q7, q8⟩ := mk_let (k := k) (i := i) (nb := m) (num := nI (u % 65536)) (pr := pr) hX hS A5 (by omega) h5 hn (by omega) kB nB gB
  refine ⟨M1, g, ?_, q2, by rw [q3, s5], by rw [s5] at q4; exact q4, f2, ?_, ?_, ?_, ?_⟩
  · unfold f_X10_addWritten
    rw [if_pos (k_0 hSp), r_0_1007 hSp, ob_eq, hc, ob_eq, f1, ob2_eq, r_0_1007 S6, ob_eq, gi_212 S6, ob_eq, h501, e6, q1]
  · intro nu a ha hne
    rw [q5 nu a (by omega) hne, i5]
  · intro a ha
    rw [q6 a, ← hM5, mA_sA, if_neg (by omega), mA_nA, if_neg (show ¬ a = mS (pn M X b m) from fun q => absurd (show a = mS M from q) (by omega))]
  · intro a ha
    rw [(q7 a (by omega)).1, (q7 a (by omega)).2, ← hM5, mK_sA, mN_sA, mK_nA, mN_nA, if_neg (show ¬ a = mS (pn M X b m) from fun q => absurd (show a = mS M from q) (by omega)), if_neg (show ¬ a = mS (pn M X b m) from fun q => absurd (show a = mS M from q) (by omega))]
    exact ⟨rfl, rfl⟩
  · intro nu a ha
    rw [q8 nu a (by omega), r5]
theorem l90_eq {K : Mm → Nat → Int32 → Int32 → Int32 → Int32 → Option (Mm × Int32)} {Q : Mm} {X n t m : Nat} {b : Nat → Nat} {x4 : Int32} (hS : St Q X) (h42 : mI Q 1142 (X + 226) = nI m) (hr : ∀ j, j < m → mA Q (X + 259) j = nI (b j)) (ht : t < 60) (hm : m ≤ 440) (hn : n < 200) : f_X11_laid_L90 K 1000 Q (X + 226) x4 (nI n) (nI t) (nI (8 * t)) 0 (nI (8 * t)) = K (sA Q (X + 240) (va_up (mA Q (X + 240)) (64 * n + t) (nI (byv b m t)))) (X + 226) x4 (nI n) (nI (t + 1)) (nI (8 * (t + 1))) := by
  have e8 : nI (8 * t) + 8 = nI (8 * t + 8) := nI_add _ 8
  exact loop_run (fun fu i => f_X11_laid_L90 K fu Q (X + 226) x4 (nI n) (nI t) (nI (8 * t)) (nI (hv b m t i)) (nI (8 * t + i))) 8 _
    (fun i fu hi => by
      show f_X11_laid_L90 K (fu + 1) Q (X + 226) x4 (nI n) (nI t) (nI (8 * t)) (nI (hv b m t i)) (nI (8 * t + i)) = f_X11_laid_L90 K fu Q (X + 226) x4 (nI n) (nI t) (nI (8 * t)) (nI (2 * hv b m t i + (if 8 * t + i < m then b (8 * t + i) else 0))) (nI (8 * t + i + 1))
      have e2 : (2 : Int32) * nI (hv b m t i) = nI (2 * hv b m t i) := pk_mul 2 _
      rw [f_X11_laid_L90, e8, if_neg (nI_ge (by omega) (by omega)), gi_226 hS, ob_eq, h42, e2]
      unfold f_X11_laid_J124
      by_cases q : 8 * t + i < m
      · rw [if_neg (nI_ge q (by omega)), r_226_1141 hS, ob_eq, ai_259 hS (by omega), ob_eq, hr _ q, if_pos q, nI_add, nI_1]
      · rw [if_pos (nI_le (by omega) (by omega)), if_neg q, Nat.add_zero, nI_1]
        congr 1
        exact nI_add _ 0)
    (fun fu => by
      show f_X11_laid_L90 K (fu + 1) Q (X + 226) x4 (nI n) (nI t) (nI (8 * t)) (nI (byv b m t)) (nI (8 * t + 8)) = _
      rw [f_X11_laid_L90, e8, if_pos (nI_le (Nat.le_refl _) (by omega)), r_226_1118 hS, ob_eq, m64, nI_add, wi_240 hS (by omega), ob_eq, nI_1]
      rfl) 1000 (by omega)
theorem l74_eq {Q : Mm} {X n m : Nat} {b : Nat → Nat} {c : Bool} (hS : St Q X) (h42 : mI Q 1142 (X + 226) = nI m) (hr : ∀ j, j < m → mA Q (X + 259) j = nI (b j)) (hm : m ≤ 440) (hn : n < 200) (hb : ∀ j, j < m → b j < 2) : f_X11_laid_L74 1000 Q (X + 226) (if c then 1 else 0) (nI n) 0 0 = f_X11_laid_J186 (sA Q (X + 240) (wr (mA Q (X + 240)) (64 * n) (bln m c) (fun k => nI (byt b m k)))) (X + 226) (nI n) (nI (bln m c)) := by
  have ev : ∀ w, w ≤ (m + 7) / 8 → wr (mA Q (X + 240)) (64 * n) w (fun k => nI (byv b m k)) = wr (mA Q (X + 240)) (64 * n) w (fun k => nI (byt b m k)) := by
    intro w hw
    funext j
    by_cases q : 64 * n ≤ j ∧ j < 64 * n + w
    · unfold wr byt
      rw [if_pos q, if_pos q]
      dsimp only
      rw [if_pos (by omega)]
    · rw [wr_out q, wr_out q]
  have e := loop_run (fun fu t => f_X11_laid_L74 fu (sA Q (X + 240) (wr (mA Q (X + 240)) (64 * n) t (fun k => nI (byv b m k)))) (X + 226) (if c then 1 else 0) (nI n) (nI t) (nI (8 * t))) ((m + 7) / 8) (f_X11_laid_J186 (sA Q (X + 240) (wr (mA Q (X + 240)) (64 * n) (bln m c) (fun k => nI (byt b m k)))) (X + 226) (nI n) (nI (bln m c)))
    (fun t fu ht => by
      show f_X11_laid_L74 (fu + 1) (sA Q (X + 240) (wr (mA Q (X + 240)) (64 * n) t (fun k => nI (byv b m k)))) (X + 226) (if c then 1 else 0) (nI n) (nI t) (nI (8 * t)) = f_X11_laid_L74 fu (sA Q (X + 240) (wr (mA Q (X + 240)) (64 * n) (t + 1) (fun k => nI (byv b m k)))) (X + 226) (if c then 1 else 0) (nI n) (nI (t + 1)) (nI (8 * (t + 1)))
      have hS1 : St (sA Q (X + 240) (wr (mA Q (X + 240)) (64 * n) t (fun k => nI (byv b m k)))) X := St_sA hS
      rw [f_X11_laid_L74, gi_226 hS1, ob_eq, mI_sA, h42, if_neg (nI_ge (by omega) (by omega)), l90_eq (b := b) (m := m) hS1 (by rw [mI_sA]; exact h42) (by intro j hj; rw [mA_sA, if_neg (by omega)]; exact hr j hj) (by omega) hm hn, sA_sA, mA_sA, if_pos rfl]
      exact congrArg (fun g => f_X11_laid_L74 fu (sA Q (X + 240) g) (X + 226) (if c then 1 else 0) (nI n) (nI (t + 1)) (nI (8 * (t + 1)))) (wr_s (mA Q (X + 240)) (64 * n) t (fun k => nI (byv b m k))))
    (fun fu => by
      show f_X11_laid_L74 (fu + 1) (sA Q (X + 240) (wr (mA Q (X + 240)) (64 * n) ((m + 7) / 8) (fun k => nI (byv b m k)))) (X + 226) (if c then 1 else 0) (nI n) (nI ((m + 7) / 8)) (nI (8 * ((m + 7) / 8))) = _
      have hS1 : St (sA Q (X + 240) (wr (mA Q (X + 240)) (64 * n) ((m + 7) / 8) (fun k => nI (byv b m k)))) X := St_sA hS
      rw [f_X11_laid_L74, gi_226 hS1, ob_eq, mI_sA, h42, if_pos (nI_le (by omega) (by omega))]
      cases c with
      | false =>
        rw [if_pos (show (if false = true then (1 : Int32) else 0) = 0 from rfl), ev _ (Nat.le_refl _)]
        rfl
      | true =>
        have hr2 : ∀ k, k < (m + 7) / 8 → mA (sA Q (X + 240) (wr (mA Q (X + 240)) (64 * n) ((m + 7) / 8) (fun k => nI (byv b m k)))) (X + 240) (64 * n + k) = nI (byv b m k) := by
          intro k hk
          rw [mA_sA, if_pos rfl]
          exact wr_in hk
        rw [if_neg (show ¬ (if true = true then (1 : Int32) else 0) = 0 by decide), r_226_1118 hS1, ob_eq, ck11 hS1 hn (by omega) (fun k hk => byv_lt hb) hr2, ob_eq, m64, nI_add, wi_240 hS1 (by omega), ob_eq, sA_sA, mA_sA, if_pos rfl, nI_1, ev _ (Nat.le_refl _)]
        have e3 : nI (cbv (byv b m) ((m + 7) / 8)) = nI (byt b m ((m + 7) / 8)) := by unfold byt; rw [if_neg (Nat.lt_irrefl _)]
        rw [e3]
        exact congrArg (fun g => f_X11_laid_J186 (sA Q (X + 240) g) (X + 226) (nI n) (nI ((m + 7) / 8 + 1))) (wr_s (mA Q (X + 240)) (64 * n) ((m + 7) / 8) (fun k => nI (byt b m k)))) 1000 (by omega)
  rw [wr_0, sA_self Q (X + 240) (fun j => rfl)] at e
  exact e
/-- the reference's cells of a letter -/
def rLt (M2 : Mm) (X n k i nb len : Nat) (num : Int32) (f : Nat → Nat) (cp : Int32) : Prop := mA M2 (X + 241) n = nI k ∧ mA M2 (X + 242) n = nI i ∧ mA M2 (X + 243) n = num ∧ mA M2 (X + 244) n = nI nb ∧ mA M2 (X + 245) n = -1 ∧ mA M2 (X + 246) n = 0 ∧ mA M2 (X + 247) n = cp ∧ mA M2 (X + 239) n = nI len ∧ (∀ k, k < len → mA M2 (X + 240) (64 * n + k) = nI (f k)) ∧ mI M2 1116 (X + 226) = nI (n + 1) ∧ mI M2 1106 (X + 226) = 1
def TAl (X n : Nat) : Nat → Nat → Prop := fun a j => (X + 239 ≤ a ∧ a ≤ X + 247 ∧ a ≠ X + 240 ∧ j = n) ∨ (a = X + 240 ∧ 64 * n ≤ j ∧ j < 64 * n + 60)
def TIl (X : Nat) : Nat → Nat → Prop := fun num a => (num = 1116 ∨ num = 1106) ∧ a = X + 226
theorem laid_eq {M : Mm} {X n m k i u : Nat} {b : Nat → Nat} {c : Bool} (hS : St M X) (h1 : mI M 1116 (X + 226) = nI n) (hn : n < 200) (hm : m ≤ 440) (hb : ∀ j, j < m → b j < 2) (hu : u < 2 ^ 31) :
    ∃ M2, f_X11_laid (rm M X b m) (X + 226) (nI k) (nI i) (nI u) (if c then 1 else 0) = some (M2, nI n) ∧ (∀ N n0, Ag X N n0 (TIl X) (TAl X n) T0 M M2) ∧ mS M2 = mS M ∧ rLt M2 X n k i m (bln m c) (nI (u % 65536)) (byt b m) 0 := by
  have hSr : St (rm M X b m) X := St_rm hS
  have e6 : nI u - nI u / 65536 * 65536 = nI (u % 65536) := pk_rem (d := 65536) hu (by decide) (by decide)
  have h16 : mI (rm M X b m) 1116 (X + 226) = nI n := by unfold rm; rw [mI_sA, mI_sI, if_neg (by decide)]; exact h1
  generalize hQ : sU (sU (sU (sU (sU (sU (sU (rm M X b m) (X + 241) n (nI k)) (X + 242) n (nI i)) (X + 243) n (nI (u % 65536))) (X + 244) n (nI m)) (X + 245) n (-1)) (X + 246) n 0) (X + 247) n 0 = Q
  have eI : mI Q = mI (rm M X b m) := by rw [← hQ]; rw [mI_sU, mI_sU, mI_sU, mI_sU, mI_sU, mI_sU, mI_sU]
  have hSQ : St Q X := by rw [← hQ]; exact St_sU (St_sU (St_sU (St_sU (St_sU (St_sU (St_sU hSr))))))
  have e1 : f_X11_laid (rm M X b m) (X + 226) (nI k) (nI i) (nI u) (if c then 1 else 0) = f_X11_laid_L74 1000 Q (X + 226) (if c then 1 else 0) (nI n) 0 0 := by
    unfold f_X11_laid
    rw [if_pos (k_226 hSr), gi_226 hSr, ob_eq, h16, e6, r_226_1119 hSr, ob_eq, wi_241 hSr hn, ob_eq, sU_def]
    rw [r_226_1120 (St_sU hSr), ob_eq, wi_242 (St_sU hSr) hn, ob_eq, sU_def]
    rw [r_226_1121 (St_sU (St_sU hSr)), ob_eq, wi_243 (St_sU (St_sU hSr)) hn, ob_eq, sU_def]
    rw [r_226_1122 (St_sU (St_sU (St_sU hSr))), ob_eq, gi_226 (St_sU (St_sU (St_sU hSr))), ob_eq, mI_sU, mI_sU, mI_sU, rm_1142, wi_244 (St_sU (St_sU (St_sU hSr))) hn, ob_eq, sU_def]
    rw [r_226_1123 (St_sU (St_sU (St_sU (St_sU hSr)))), ob_eq, wi_245 (St_sU (St_sU (St_sU (St_sU hSr)))) hn, ob_eq, sU_def]
    rw [r_226_1124 (St_sU (St_sU (St_sU (St_sU (St_sU hSr))))), ob_eq, wz_246 (St_sU (St_sU (St_sU (St_sU (St_sU hSr))))) hn, ob_eq, vz0, sU_def]
    rw [r_226_1125 (St_sU (St_sU (St_sU (St_sU (St_sU (St_sU hSr)))))), ob_eq, wz_247 (St_sU (St_sU (St_sU (St_sU (St_sU (St_sU hSr)))))) hn, ob_eq, vz0, sU_def, hQ]
  have h42 : mI Q 1142 (X + 226) = nI m := by rw [eI, rm_1142]
  have aQ : ∀ x, ¬ (X + 241 ≤ x ∧ x ≤ X + 247) → mA Q x = mA (rm M X b m) x := by
    intro x hx
    rw [← hQ, mA_sUx (by omega), mA_sUx (by omega), mA_sUx (by omega), mA_sUx (by omega), mA_sUx (by omega), mA_sUx (by omega), mA_sUx (by omega)]
  have hr : ∀ j, j < m → mA Q (X + 259) j = nI (b j) := by
    intro j hj
    rw [aQ _ (by omega), rm_row hj]
  generalize hS2 : sA Q (X + 240) (wr (mA Q (X + 240)) (64 * n) (bln m c) (fun k => nI (byt b m k))) = S
  have hSS : St S X := by rw [← hS2]; exact St_sA hSQ
  have iS : mI S 1116 (X + 226) = nI n := by rw [← hS2, mI_sA, eI]; exact h16
  have hlen : bln m c ≤ 60 := by
    unfold bln
    cases c with
    | false => rw [if_neg (by decide)]; omega
    | true => rw [if_pos rfl]; omega
  refine ⟨sI (sI (sU S (X + 239) n (nI (bln m c))) 1116 (X + 226) (nI (n + 1))) 1106 (X + 226) 1, ?_, ?_, ?_, ?_⟩
  · rw [e1, l74_eq hSQ h42 hr hm hn hb, hS2]
    unfold f_X11_laid_J186
    rw [r_226_1117 hSS, ob_eq, wi_239 hSS hn, ob_eq, sU_def, gi_226 (St_sU hSS), ob_eq, mI_sU, iS, nI_1, pi_226 (St_sU hSS), ob_eq, pZ_of (k_226 (St_sI (St_sU hSS))) (Or.inr rfl), ob_eq]
  · intro N n0
    refine Ag.cI (Ag.cI (Ag.cU ?_ (Or.inr (Or.inr (Or.inl (by omega))))) (Or.inr (Or.inl ⟨Or.inl rfl, rfl⟩))) (Or.inr (Or.inl ⟨Or.inr rfl, rfl⟩))
    rw [← hS2]
    refine Ag.cAw ?_ (fun j q1 q2 => Or.inr ⟨rfl, q1, by omega⟩)
    rw [← hQ]
    exact Ag.cU (Ag.cU (Ag.cU (Ag.cU (Ag.cU (Ag.cU (Ag.cU (Ag.rf.crm) (Or.inr (Or.inr (Or.inl (by omega))))) (Or.inr (Or.inr (Or.inl (by omega))))) (Or.inr (Or.inr (Or.inl (by omega))))) (Or.inr (Or.inr (Or.inl (by omega))))) (Or.inr (Or.inr (Or.inl (by omega))))) (Or.inr (Or.inr (Or.inl (by omega))))) (Or.inr (Or.inr (Or.inl (by omega))))
  · rw [← hS2, ← hQ]; rfl
  · have aS : ∀ x, ¬ x = X + 239 → ¬ x = X + 240 → mA (sI (sI (sU S (X + 239) n (nI (bln m c))) 1116 (X + 226) (nI (n + 1))) 1106 (X + 226) 1) x = mA Q x := by
      intro x q1 q2
      rw [mA_sI, mA_sI, mA_sUx q1, ← hS2, mA_sA, if_neg q2]
    refine ⟨?_, ?_, ?_, ?_, ?_, ?_, ?_, ?_, ?_, ?_, ?_⟩
    · rw [aS _ (by omega) (by omega), ← hQ, mA_sUx (by omega), mA_sUx (by omega), mA_sUx (by omega), mA_sUx (by omega), mA_sUx (by omega), mA_sUx (by omega), mA_sUi]
    · rw [aS _ (by omega) (by omega), ← hQ, mA_sUx (by omega), mA_sUx (by omega), mA_sUx (by omega), mA_sUx (by omega), mA_sUx (by omega), mA_sUi]
    · rw [aS _ (by omega) (by omega), ← hQ, mA_sUx (by omega), mA_sUx (by omega), mA_sUx (by omega), mA_sUx (by omega), mA_sUi]
    · rw [aS _ (by omega) (by omega), ← hQ, mA_sUx (by omega), mA_sUx (by omega), mA_sUx (by omega), mA_sUi]
    · rw [aS _ (by omega) (by omega), ← hQ, mA_sUx (by omega), mA_sUx (by omega), mA_sUi]
    · rw [aS _ (by omega) (by omega), ← hQ, mA_sUx (by omega), mA_sUi]
    · rw [aS _ (by omega) (by omega), ← hQ, mA_sUi]
    · rw [mA_sI, mA_sI, mA_sUi]
    · intro k2 hk2
      rw [mA_sI, mA_sI, mA_sUx (by omega), ← hS2, mA_sA, if_pos rfl]
      exact wr_in hk2
    · rw [mI_sI, if_neg (by decide), mI_sI, if_pos rfl, if_pos rfl]
    · rw [mI_sI, if_pos rfl, if_pos rfl]
end
section
/-! A letter comes: the invariant. -/
def TAL (X n : Nat) : Nat → Nat → Prop := fun a j => (X + 239 ≤ a ∧ a ≤ X + 251 ∧ a ≠ X + 240 ∧ a ≠ X + 248 ∧ a ≠ X + 249 ∧ j = n) ∨ (a = X + 240 ∧ 64 * n ≤ j ∧ j < 64 * n + 60) ∨ ((a = X + 248 ∨ a = X + 249) ∧ 8 * n ≤ j ∧ j < 8 * n + 8)
def TIa (X i : Nat) : Nat → Nat → Prop := fun num a => (num = 1010 ∧ a = X) ∨ ((num = 1116 ∨ num = 1106) ∧ a = X + 226) ∨ (901 ≤ num ∧ num ≤ 906 ∧ a = aSq X i) ∨ (num = 301 ∧ aHd X i 0 ≤ a ∧ a ≤ aHd X i 7)
def TAa (X n i : Nat) : Nat → Nat → Prop := fun a j => TAL X n a j ∨ ((a = X + 232 ∨ a = X + 233 ∨ a = X + 235 ∨ a = X + 236) ∧ j = i) ∨ (a = X + 237 ∧ 9 * i ≤ j ∧ j < 9 * i + 9)
def TBa (X i : Nat) : Nat → Nat → Prop := fun a j => (aHv X i 0 ≤ a ∧ a ≤ aHv X i 7) ∨ (a = X + 238 ∧ 72 * i ≤ j ∧ j < 72 * i + 72)
theorem IL_z {M : Mm} {X p l : Nat} {z z' : Nat → Nat} (e1 : z' l = z l) (e2 : z' (l + 1) = z (l + 1)) (h : IL M X p z l) : IL M X p z' l := by
  unfold IL ILb ILp lA lB lP lU lV at h ⊢
  rw [e1, e2]
  exact h
theorem IQ_up {M : Mm} {X p w n i : Nat} (h : IQ M X p w n i) : IQ M X p w (n + 1) i := by
  obtain ⟨k, r, hh, f0, q1, q⟩ := h
  exact ⟨k, r, hh, f0, by omega, q⟩
theorem inv_add {M M2 : Mm} {X p n w i zt : Nat} {z : Nat → Nat} (H : Inv M X p n w z) (hn : n < 200) (hi : i < 8) (A : Ag X (z n) n (TIa X i) (TAa X n i) (TBa X i) M M2) (hQi : IQ M2 X p w (n + 1) i) (t1 : z n + 2 ≤ zt) (t2 : zt ≤ mS M2) (hLn : IL M2 X p (fun l => if l ≤ n then z l else zt) n) (c1 : mI M2 1010 X = nI (n + 1)) (c2 : mI M2 1116 (X + 226) = nI (n + 1)) (c3 : mI M2 1106 (X + 226) = 1) (c4 : mA M2 (X + 246) n = 0) : Inv M2 X p (n + 1) w (fun l => if l ≤ n then z l else zt) := by
  obtain ⟨hS, hW, ⟨p8, p1, p2, p3⟩, hD, hC, hQ, hX, hZ, hL, hG, hH, hT⟩ := id H
  have hN := z_ge hZ n (Nat.le_refl _)
  refine ⟨St_Ag hN A hS, tr_W hN A hW ?_, tr_P hN A ⟨p8, p1, p2, p3⟩ ?_ ?_ ?_, tr_D hN A hD ?_ ?_, ⟨by omega, c1, c2, by rw [c3, if_neg (by omega)]⟩, fun i' hi' => ?_, fun i' hi' => ?_, ?_, fun l hl => ?_, ?_, fun s hs => ?_, ?_⟩
  · intro nu a h; unfold TIa aSq aHd at h; omega
  · intro nu a h; unfold TIa aSq aHd at h; omega
  · intro a j h; unfold TAa TAL at h; omega
  · intro a j h; unfold TBa aHv at h; omega
  · intro a j h; unfold TAa TAL at h; omega
  · intro a j h; unfold TBa aHv at h; omega
  · by_cases e : i' = i
    · subst e; exact hQi
    · refine IQ_up (tr_Q hN p8 hW.2.2.2 hi' A (hQ i' hi') ?_ ?_ ?_)
      · intro nu a h; unfold TIa aSq aHd at h; unfold aSq aHd; omega
      · intro a j h; unfold TAa TAL at h; unfold aSt; omega
      · intro a j h; unfold TBa aHv at h; unfold aHv; omega
  · obtain ⟨x1, x2⟩ := tr_X hN p8 hi' A (hX i' hi') (by intro nu a h; unfold TIa aSq aHd at h; unfold aCx aCh; omega) (by intro a j h; unfold TAa TAL at h; unfold aCs; omega) (by intro a j h; unfold TBa aHv at h; unfold aCv; omega)
    exact ⟨x1, x2.imp_right (fun ⟨g1, _, g3⟩ => ⟨g1, Nat.succ_pos _, g3⟩)⟩
  · refine ⟨(if_pos (Nat.zero_le _)).trans hZ.1, fun l hl => ?_, by show (if n + 1 ≤ n then _ else zt) ≤ _; rw [if_neg (by omega)]; exact t2⟩
    show (if l ≤ n then z l else zt) + 2 ≤ (if l + 1 ≤ n then z (l + 1) else zt)
    by_cases e : l = n
    · subst e; rw [if_pos (Nat.le_refl _), if_neg (by omega)]; exact t1
    · rw [if_pos (by omega), if_pos (by omega)]; exact hZ.2.1 l (by omega)
  · by_cases e : l = n
    · subst e; exact hLn
    · have hl' : l < n := by omega
      have zz := z_ge hZ l (by omega)
      have zm := z_mo hZ (l := l + 1) (m := n) (by omega) (Nat.le_refl _)
      refine IL_z (z := z) (if_pos (by omega)) (if_pos (by omega)) (tr_L p8 hZ hl' (Nat.le_refl _) (Nat.le_refl _) A (hL l hl') ?_ ?_)
      · intro nu a h
        unfold TIa aSq aHd at h
        omega
      · intro a j h; unfold TAa TAL at h; omega
  · obtain ⟨x1, x2⟩ := tr_G hN A hG (by intro nu a h; unfold TIa aSq aHd at h; omega) (by intro a j h; unfold TAa TAL at h; omega) (by intro a j h; unfold TBa aHv at h; omega)
    exact ⟨x1, x2.imp_right (fun ⟨_, g3⟩ => ⟨Nat.succ_pos _, g3⟩)⟩
  · exact tr_H hN hs A (hH s hs) (by intro nu a h; unfold TIa aSq aHd at h; unfold aSh; omega) (by intro a j h; unfold TAa TAL at h; omega) (by intro a j h; unfold TBa aHv at h; unfold aSr; omega)
  · have e1 : mI M2 1011 X = mI M 1011 X := A.1 _ _ (by unfold ScI; omega) (by unfold TIa; omega) (by omega)
    have e2 : lc (mA M2 (X + 246)) n = lc (mA M (X + 246)) n := lc_congr (fun l hl => A.2.1 _ _ (by unfold ScA; omega) (by unfold TAa TAL; omega) (by omega))
    show mI M2 1011 X = nI (lc (mA M2 (X + 246)) n + (if mA M2 (X + 246) n = 0 then 0 else 1))
    rw [e1, if_pos c4, Nat.add_zero, e2]
    exact hT
end
section
theorem cl_tr {M1 M2 : Mm} {X N n A B k i nb len : Nat} {num cp : Int32} {g : Nat → Int32} {pr : Option Nat} {TI TA TB : Nat → Nat → Prop} (h : cLt M1 X n A B k i nb len num g cp pr) (G : Ag X N (n + 1) TI TA TB M1 M2) (hB : X + 270 ≤ B) (hBA : B < A) (hAN : A < N) (t1 : ∀ nu a, TI nu a → a < X + 270 ∧ nu ≠ 1010) (t2 : ∀ a j, TA a j → a < X + 270) : cLt M2 X n A B k i nb len num g cp pr := by
  obtain ⟨h1, h2, h3, h4, h5, h6, h7, h8, h9, h10, h11, h12, h13, h14, h15⟩ := h
  have eI : ∀ nu, 400 ≤ nu → nu ≤ 407 → mI M2 nu A = mI M1 nu A := fun nu q1 q2 => G.1 _ _ (by unfold ScI; omega) (fun q => by have := t1 _ _ q; omega) hAN
  have eR : ∀ nu, mR M2 nu A = mR M1 nu A := fun nu => G.2.2.2.2.2.1 _ _ (by omega) hAN
  refine ⟨(G.2.2.2.2.1 _ _ (by omega) (fun _ => by omega)).trans h1, (G.2.2.2.1 _ hAN).1.trans h2, (eR _).trans h3, (G.2.2.2.1 _ (by omega)).1.trans h4, (G.2.2.2.1 _ (by omega)).2.trans h5, (funext fun j => G.2.1 _ _ (by unfold ScA; omega) (fun q => by have := t2 _ _ q; omega) (by omega)).trans h6, (eI 400 (by decide) (by decide)).trans h7, (eI 401 (by decide) (by decide)).trans h8, (eI 402 (by decide) (by decide)).trans h9, (eI 404 (by decide) (by decide)).trans h10, (eI 405 (by decide) (by decide)).trans h11, (eI 406 (by decide) (by decide)).trans h12, (eI 407 (by decide) (by decide)).trans h13, (eR _).trans h14, (G.1 _ _ (by unfold ScI; omega) (fun q => (t1 _ _ q).2 rfl) (by omega)).trans h15⟩
theorem IL_new {M2 : Mm} {X p n A B k i nb len : Nat} {num cp : Int32} {g : Nat → Int32} {f : Nat → Nat} {pr : Option Nat} {z' : Nat → Nat} (c : cLt M2 X n A B k i nb len num g cp pr) (r : rLt M2 X n k i nb len num f cp) (ez : z' (n + 1) = A + 1) (eA : A = B + 1) (hk : k ≤ 5) (hi : i < 8) (hb : nb ≤ 480) (hcp : cp = 0 ∨ cp = 1) (l1 : 3 ≤ len) (l2 : len ≤ 60) (hg : ∀ k, k < len → g k = nI (f k)) (hf : ∀ k, k < len → f k < 256)
    (hp : (k = 2 ∧ cp = 0 ∧ ILp M2 X p z' n) ∨ (¬ (k = 2 ∧ cp = 0) ∧ pr = none)) : IL M2 X p z' n := by
  obtain ⟨h1, h2, h3, h4, h5, h6, h7, h8, h9, h10, h11, h12, h13, h14, h15⟩ := c
  obtain ⟨r1, r2, r3, r4, r5, r6, r7, r8, r9, r10, r11⟩ := r
  have aA : lA z' n = A := by unfold lA; omega
  have aB : lB z' n = B := by unfold lB; omega
  unfold IL ILb
  rw [aA, aB]
  refine ⟨h1, h2, h3, h4, ⟨k, hk, h7, r1⟩, ⟨i, hi, h8, r2⟩, r3.trans h9.symm, ⟨nb, hb, h10, r4⟩, r5.trans h11.symm, r6.trans h12.symm, Or.inl h12, r7.trans h13.symm, by rw [h13]; exact hcp, ⟨len, l1, l2, h5, r8, fun q hq => ⟨f q, hf q hq, by rw [h6]; exact hg q hq, r9 q hq⟩⟩, ?_⟩
  rcases hp with ⟨p1, p2, p3⟩ | ⟨p1, p2⟩
  · exact Or.inl ⟨by rw [h7, p1]; rfl, h13.trans p2, p3⟩
  · refine Or.inr ⟨fun q => p1 ⟨?_, h13.symm.trans q.2⟩, h14.trans p2⟩
    have e : nI k = nI 2 := h7.symm.trans q.1
    exact (nI_eq (by omega) (by decide)).mp e
theorem bln_le {m : Nat} {c : Bool} (h : m ≤ 440) (h2 : 22 ≤ m) : 3 ≤ bln m c ∧ bln m c ≤ 60 := by
  unfold bln
  cases c with
  | false => rw [if_neg (by decide)]; omega
  | true => rw [if_pos rfl]; omega
/-- an answer of the opener -/
theorem answer {M : Mm} {X p n w k i u : Nat} {z : Nat → Nat} (H : Inv M X p n w z) (hn : n < 200) (hk : k = 3 ∨ k = 4 ∨ k = 5) (hi : i < 8) (hu : u < 2 ^ 31) :
    ∃ M1, f_X10_addAnswer M X (nI k) (nI i) (nI u) = some (M1, nI n) ∧ Ag X (z n) n (T10 X) T0 T0 M M1 ∧ St M1 X ∧
      ∀ R, Ag X (mS M + 2) (n + 1) T0 T0 T0 M1 R → mS R = mS M1 → ∃ M2, ((f_X11_head R (X + 226) (nI k) (nI i) (nI u)).bind fun M2 => ob2 (f_X11_laid M2 (X + 226) (nI k) (nI i) (nI u) 1) fun M4 v5 => some (M4, v5)) = some (M2, nI n) ∧ Inv M2 X p (n + 1) w (fun l => if l ≤ n then z l else mS M + 2) := by
  obtain ⟨hS, hW, hP, hD, hC, hQ, hX, hZ, hL, hG, hH, hT⟩ := id H
  have hN := z_ge hZ n (Nat.le_refl _)
  have hc : f_X10_endsInCheck (nI k) = some (if true then 1 else 0) := by
    unfold f_X10_endsInCheck
    rcases hk with rfl | rfl | rfl <;> rfl
  have hk8 : k < 8 := by omega
  obtain ⟨M1, g, a1, a2, a3, a4, a5, -⟩ := addW (X := X) (N := z n) (n := n) (m := 22) (k := k) (i := i) (u := u) (b := hd k i u) (pr := none) hN hS hZ.2.2 hC.2.1 hn (by decide) hd_b hc hu
  have S1 : St M1 X := St_Ag hN a2 hS
  have e1 : f_X10_addAnswer M X (nI k) (nI i) (nI u) = some (M1, nI n) := by
    unfold f_X10_addAnswer
    rw [if_pos (k_0 hS), r_0_1007 hS, ob_eq, begin_eq hS hk8 hi hu, ob_eq, a1, ob2_eq]
  refine ⟨M1, e1, a2, S1, fun R hR sR => ?_⟩
  have sM : X + 270 ≤ mS M := hS.2.2.2.2
  have SR : St R X := St_Ag (by omega) hR S1
  have c16 : mI R 1116 (X + 226) = nI n := by
    rw [hR.1 _ _ (by unfold ScI; omega) (fun q => q) (by omega), a2.1 _ _ (by unfold ScI; omega) (by unfold T10; omega) (by omega)]
    exact hC.2.2.1
  obtain ⟨M2, b1, b2, b3, b4⟩ := laid_eq (X := X) (n := n) (m := 22) (k := k) (i := i) (u := u) (b := hd k i u) (c := true) SR c16 hn (by decide) hd_b hu
  have b1' : f_X11_laid (rm R X (hd k i u) 22) (X + 226) (nI k) (nI i) (nI u) 1 = some (M2, nI n) := b1
  have c2 : cLt M2 X n (mS M + 1) (mS M) k i 22 (bln 22 true) (nI (u % 65536)) g 0 none := by
    refine cl_tr (N := mS M + 2) a4 ((hR.of0 (TI := TIl X) (TA := TAl X n) (TB := T0)).tr' (b2 _ _)) sM (by omega) (by omega) ?_ ?_
    · intro nu a q; unfold TIl at q; omega
    · intro a j q; unfold TAl at q; omega
  have A : Ag X (z n) n (TIa X 0) (TAa X n 0) (TBa X 0) M M2 := by
    have hz : z n ≤ mS M := hZ.2.2
    have hR' : Ag X (z n) n (TIl X) (TAl X n) T0 M1 R := by
      refine ⟨fun nu a s t l => hR.1 nu a s (fun q => q) (by omega), fun a j s t l => hR.2.1 a j s (fun q => q) (by omega), fun a j s t l => hR.2.2.1 a j s (fun q => q) (by omega), fun a l => hR.2.2.2.1 a (by omega), fun a j l q => hR.2.2.2.2.1 a j (by omega) (fun e => by have := q e; omega), fun nu a q l => hR.2.2.2.2.2.1 nu a q (by omega), hR.2.2.2.2.2.2⟩
    refine (a2.tr (hR'.tr' (b2 _ _))).wk ?_ ?_ ?_
    · intro nu a q; unfold T10 TIl at q; unfold TIa; omega
    · intro a j q
      refine Or.inl ?_
      rcases q with q | q
      · exact q.elim
      · unfold TAl at q; unfold TAL; omega
    · intro a j q; exact q.elim (fun q => q.elim) (fun q => q.elim)
  have hb := bln_le (m := 22) (c := true) (by decide) (by decide)
  refine ⟨M2, ?_, ?_⟩
  · rw [head_eq SR hk8 hi hu, ob_eq, b1', ob2_eq]
  · refine inv_add H hn (by decide) A ?_ (by have := hZ.2.2; omega) (by rw [b3, sR, a3]; exact Nat.le_refl _) (IL_new c2 b4 (if_neg (by omega)) rfl (by omega) hi (by decide) (Or.inl rfl) hb.1 hb.2 a5 (fun q hq => byt_lt hd_b) (Or.inr ⟨by omega, rfl⟩)) c2.2.2.2.2.2.2.2.2.2.2.2.2.2.2 b4.2.2.2.2.2.2.2.2.2.1 b4.2.2.2.2.2.2.2.2.2.2 b4.2.2.2.2.2.1
    have A' : Ag X (z n) n (fun num a => (num = 1010 ∧ a = X) ∨ ((num = 1116 ∨ num = 1106) ∧ a = X + 226)) (TAL X n) T0 M M2 := by
      have hz : z n ≤ mS M := hZ.2.2
      have hR' : Ag X (z n) n (TIl X) (TAl X n) T0 M1 R := by
        refine ⟨fun nu a s t l => hR.1 nu a s (fun q => q) (by omega), fun a j s t l => hR.2.1 a j s (fun q => q) (by omega), fun a j s t l => hR.2.2.1 a j s (fun q => q) (by omega), fun a l => hR.2.2.2.1 a (by omega), fun a j l q => hR.2.2.2.2.1 a j (by omega) (fun e => by have := q e; omega), fun nu a q l => hR.2.2.2.2.2.1 nu a q (by omega), hR.2.2.2.2.2.2⟩
      refine (a2.tr (hR'.tr' (b2 _ _))).wk ?_ ?_ ?_
      · intro nu a q; unfold T10 TIl at q; omega
      · intro a j q
        rcases q with q | q
        · exact q.elim
        · unfold TAl at q; unfold TAL; omega
      · intro a j q; exact q.elim (fun q => q) (fun q => q)
    refine IQ_up (tr_Q hN hP.1 hW.2.2.2 (by decide) A' (hQ 0 (by decide)) ?_ ?_ ?_)
    · intro nu a h; unfold aSq aHd; omega
    · intro a j h; unfold TAL at h; unfold aSt; omega
    · intro a j h; exact h.elim
theorem op_ack {M : Mm} {X p n w : Nat} {z : Nat → Nat} (H : Inv M X p n w z) (a : Int32) : ∃ M1 M2 r n' z', f_X10_ack M X a = some (M1, r) ∧ f_X11_ack M1 (X + 226) a = some (M2, r) ∧ Inv M2 X p n' w z' ∧ n' ≤ n + 1 := by
  obtain ⟨hS, hW, hP, hD, hC, hQ, hX, hZ, hL, hG, hH, hT⟩ := id H
  have hN := z_ge hZ n (Nat.le_refl _)
  have d10 : ¬ (1 : Int32) = 0 := by decide
  have hSt : St (sI M 1100 (X + 226) 0) X := St_sI hS
  have iT' : ∀ M nu, nu ≠ 1100 → mI (sI M 1100 (X + 226) 0) nu (X + 226) = mI M nu (X + 226) := fun M nu h => by rw [mI_sI, if_neg h]
  have iT := iT' M
  rcases ix_cases a (n := 8) (by omega) with h | ⟨i, hi, rfl⟩
  · refine ⟨M, _, -1, n, z, ?_, ?_, inv_thr (v := 0) H, by omega⟩
    · unfold f_X10_ack
      rw [if_pos (k_0 hS), (fl_out h).1, ob_eq, if_pos rfl]
    · unfold f_X11_ack
      rw [if_pos (k_226 hS), pi_226 hS, ob_eq, (fl_out h).2.1, ob_eq, if_pos rfl]
  have h200 := hC.1
  by_cases hn : n < 200
  rotate_left
  · have e : n = 200 := by omega
    refine ⟨M, _, -2, n, z, ?_, ?_, inv_thr (v := 0) H, by omega⟩
    · unfold f_X10_ack
      rw [if_pos (k_0 hS), (fl_in hi).1, ob_eq, if_neg d10, lf_in hS hC, ob_eq, if_neg hn, if_neg d10]
    · unfold f_X11_ack
      rw [if_pos (k_226 hS), pi_226 hS, ob_eq, (fl_in hi).2.1, ob_eq, if_neg d10, gi_226 hSt, ob_eq, iT 1116 (by decide), hC.2.2.1, if_pos (show nI n = 200 by rw [e]; rfl)]
  have n200 : ¬ nI n = 200 := fun q => absurd ((nI_eq (a := n) (b := 200) (by omega) (by decide)).mp q) (by omega)
  obtain ⟨x1, x2⟩ := id (hX i hi)
  have eC : f_X10_ack M X (nI i) = if mA M (X + 252) i = 0 then some (M, -3) else ob2 (f_X10_addAnswer M X 3 (nI i) (mI M 301 (aCh X i))) (fun M v => some (M, v)) := by
    unfold f_X10_ack
    rw [if_pos (k_0 hS), (fl_in hi).1, ob_eq, if_neg d10, lf_in hS hC, ob_eq, if_pos hn, if_pos rfl, r_0_1004 hS, ob_eq, q_cx hS hi, ob_eq, gi_aCx hS hi, ob_eq, x1, ob_eq, q_cx hS hi, ob_eq, r_aCx_100 hS hi, ob_eq, gi_aCh hS hi, ob_eq]
  rcases x2 with x2 | ⟨x2, x0, ⟨u, hu, u1, u2⟩, x4, x5⟩
  · refine ⟨M, _, -3, n, z, by rw [eC, if_pos x2], ?_, inv_thr (v := 0) H, by omega⟩
    unfold f_X11_ack
    rw [if_pos (k_226 hS), pi_226 hS, ob_eq, (fl_in hi).2.1, ob_eq, if_neg d10, gi_226 hSt, ob_eq, iT 1116 (by decide), hC.2.2.1, if_neg n200, r_226_1130 hSt, ob_eq, az_252 hSt hi, ob_eq, mA_sI, x2, if_pos rfl]
  obtain ⟨M1, a1, a2, a3, a4⟩ := answer (k := 3) (u := u) H hn (Or.inl rfl) hi (by omega)
  have hSt1 : St (sI M1 1100 (X + 226) 0) X := St_sI a3
  obtain ⟨M2, b1, b2⟩ := a4 (sI M1 1100 (X + 226) 0) (Ag_sI (Or.inl (by unfold ScI; omega))) rfl
  have m252 : mA M1 (X + 252) i = 1 := (a2.2.1 _ _ (by unfold ScA; omega) (fun q => q) (by omega)).trans x2
  have m253 : mA M1 (X + 253) i = nI u := (a2.2.1 _ _ (by unfold ScA; omega) (fun q => q) (by omega)).trans u2
  have m16 : mI M1 1116 (X + 226) = nI n := (a2.1 _ _ (by unfold ScI; omega) (by unfold T10; omega) (by omega)).trans hC.2.2.1
  refine ⟨M1, M2, nI n, n + 1, _, ?_, ?_, b2, Nat.le_refl _⟩
  · have a1' : f_X10_addAnswer M X 3 (nI i) (nI u) = some (M1, nI n) := a1
    rw [eC, x2, if_neg d10, u1, a1', ob2_eq]
  · unfold f_X11_ack
    rw [if_pos (k_226 a3), pi_226 a3, ob_eq, (fl_in hi).2.1, ob_eq, if_neg d10, gi_226 hSt1, ob_eq, iT' M1 1116 (by decide), m16, if_neg n200, r_226_1130 hSt1, ob_eq, az_252 hSt1 hi, ob_eq, mA_sI, m252, if_neg d10, r_226_1131 hSt1, ob_eq, ai_253 hSt1 hi, ob_eq, mA_sI, m253]
    have h1 : f_X11_head (sI M1 1100 (X + 226) 0) (X + 226) 3 (nI i) (nI u) = some (rm (sI M1 1100 (X + 226) 0) X (hd 3 i u) 22) := head_eq (k := 3) hSt1 (by decide) hi (by omega)
    have h2 : f_X11_head (sI M1 1100 (X + 226) 0) (X + 226) (nI 3) (nI i) (nI u) = some (rm (sI M1 1100 (X + 226) 0) X (hd 3 i u) 22) := h1
    rw [h2, ob_eq] at b1
    rw [h1, ob_eq, r_226_1131 (St_rm hSt1), ob_eq, ai_253 (St_rm hSt1) hi, ob_eq]
    have e3 : mA (rm (sI M1 1100 (X + 226) 0) X (hd 3 i u) 22) (X + 253) i = nI u := by unfold rm; rw [mA_sA, if_neg (by omega), mA_sI, mA_sI]; exact m253
    rw [e3]
    exact b1
theorem op_nack {M : Mm} {X p n w : Nat} {z : Nat → Nat} (H : Inv M X p n w z) (a : Int32) : ∃ M1 M2 r n' z', f_X10_nack M X a = some (M1, r) ∧ f_X11_nack M1 (X + 226) a = some (M2, r) ∧ Inv M2 X p n' w z' ∧ n' ≤ n + 1 := by
  obtain ⟨hS, hW, hP, hD, hC, hQ, hX, hZ, hL, hG, hH, hT⟩ := id H
  have hN := z_ge hZ n (Nat.le_refl _)
  have d10 : ¬ (1 : Int32) = 0 := by decide
  have hSt : St (sI M 1100 (X + 226) 0) X := St_sI hS
  have iT' : ∀ M nu, nu ≠ 1100 → mI (sI M 1100 (X + 226) 0) nu (X + 226) = mI M nu (X + 226) := fun M nu h => by rw [mI_sI, if_neg h]
  have iT := iT' M
  rcases ix_cases a (n := 8) (by omega) with h | ⟨i, hi, rfl⟩
  · refine ⟨M, _, -1, n, z, ?_, ?_, inv_thr (v := 0) H, by omega⟩
    · unfold f_X10_nack
      rw [if_pos (k_0 hS), (fl_out h).1, ob_eq, if_pos rfl]
    · unfold f_X11_nack
      rw [if_pos (k_226 hS), pi_226 hS, ob_eq, (fl_out h).2.1, ob_eq, if_pos rfl]
  have h200 := hC.1
  by_cases hn : n < 200
  rotate_left
  · have e : n = 200 := by omega
    refine ⟨M, _, -2, n, z, ?_, ?_, inv_thr (v := 0) H, by omega⟩
    · unfold f_X10_nack
      rw [if_pos (k_0 hS), (fl_in hi).1, ob_eq, if_neg d10, lf_in hS hC, ob_eq, if_neg hn, if_neg d10]
    · unfold f_X11_nack
      rw [if_pos (k_226 hS), pi_226 hS, ob_eq, (fl_in hi).2.1, ob_eq, if_neg d10, gi_226 hSt, ob_eq, iT 1116 (by decide), hC.2.2.1, if_pos (show nI n = 200 by rw [e]; rfl)]
  have n200 : ¬ nI n = 200 := fun q => absurd ((nI_eq (a := n) (b := 200) (by omega) (by decide)).mp q) (by omega)
  obtain ⟨x1, x2⟩ := id (hX i hi)
  have eC : f_X10_nack M X (nI i) = if mA M (X + 252) i = 0 then ob2 (f_X10_addAnswer M X 5 (nI i) 0) (fun M v => some (M, v)) else ob2 (f_X10_addAnswer M X 4 (nI i) (mI M 301 (aCh X i) + 1)) (fun M v => some (M, v)) := by
    unfold f_X10_nack
    rw [if_pos (k_0 hS), (fl_in hi).1, ob_eq, if_neg d10, lf_in hS hC, ob_eq, if_pos hn, if_pos rfl, r_0_1004 hS, ob_eq, q_cx hS hi, ob_eq, gi_aCx hS hi, ob_eq, x1, ob_eq, q_cx hS hi, ob_eq, r_aCx_100 hS hi, ob_eq, gi_aCh hS hi, ob_eq]
  have eM : ∀ M1, St M1 X → mI M1 1116 (X + 226) = nI n → f_X11_nack M1 (X + 226) (nI i) = if mA M1 (X + 252) i = 0 then f_X11_nack_J41 (sI M1 1100 (X + 226) 0) (X + 226) (nI i) 5 else f_X11_nack_J41 (sI M1 1100 (X + 226) 0) (X + 226) (nI i) 4 := by
    intro M1 a3 m16
    have hSt1 : St (sI M1 1100 (X + 226) 0) X := St_sI a3
    unfold f_X11_nack
    rw [if_pos (k_226 a3), pi_226 a3, ob_eq, (fl_in hi).2.1, ob_eq, if_neg d10, gi_226 hSt1, ob_eq, iT' M1 1116 (by decide), m16, if_neg n200, r_226_1130 hSt1, ob_eq, az_252 hSt1 hi, ob_eq, mA_sI]
  rcases x2 with x2 | ⟨x2, x0, ⟨u, hu, u1, u2⟩, x4, x5⟩
  · obtain ⟨M1, a1, a2, a3, a4⟩ := answer (k := 5) (u := 0) H hn (Or.inr (Or.inr rfl)) hi (by omega)
    have hSt1 : St (sI M1 1100 (X + 226) 0) X := St_sI a3
    obtain ⟨M2, b1, b2⟩ := a4 (sI M1 1100 (X + 226) 0) (Ag_sI (Or.inl (by unfold ScI; omega))) rfl
    have m252 : mA M1 (X + 252) i = 0 := (a2.2.1 _ _ (by unfold ScA; omega) (fun q => q) (by omega)).trans x2
    have m16 : mI M1 1116 (X + 226) = nI n := (a2.1 _ _ (by unfold ScI; omega) (by unfold T10; omega) (by omega)).trans hC.2.2.1
    refine ⟨M1, M2, nI n, n + 1, _, ?_, ?_, b2, Nat.le_refl _⟩
    · have a1' : f_X10_addAnswer M X 5 (nI i) 0 = some (M1, nI n) := a1
      rw [eC, if_pos x2, a1', ob2_eq]
    · rw [eM M1 a3 m16, if_pos m252]
      unfold f_X11_nack_J41
      rw [r_226_1130 hSt1, ob_eq, az_252 hSt1 hi, ob_eq, mA_sI, if_pos m252]
      exact b1
  · obtain ⟨M1, a1, a2, a3, a4⟩ := answer (k := 4) (u := u + 1) H hn (Or.inr (Or.inl rfl)) hi (by omega)
    have hSt1 : St (sI M1 1100 (X + 226) 0) X := St_sI a3
    obtain ⟨M2, b1, b2⟩ := a4 (sI M1 1100 (X + 226) 0) (Ag_sI (Or.inl (by unfold ScI; omega))) rfl
    have m252 : mA M1 (X + 252) i = 1 := (a2.2.1 _ _ (by unfold ScA; omega) (fun q => q) (by omega)).trans x2
    have m253 : mA M1 (X + 253) i = nI u := (a2.2.1 _ _ (by unfold ScA; omega) (fun q => q) (by omega)).trans u2
    have m16 : mI M1 1116 (X + 226) = nI n := (a2.1 _ _ (by unfold ScI; omega) (by unfold T10; omega) (by omega)).trans hC.2.2.1
    refine ⟨M1, M2, nI n, n + 1, _, ?_, ?_, b2, Nat.le_refl _⟩
    · have a1' : f_X10_addAnswer M X 4 (nI i) (nI (u + 1)) = some (M1, nI n) := a1
      rw [eC, x2, if_neg d10, u1, nI_1, a1', ob2_eq]
    · rw [eM M1 a3 m16, m252, if_neg d10]
      unfold f_X11_nack_J41
      rw [r_226_1130 hSt1, ob_eq, az_252 hSt1 hi, ob_eq, mA_sI, m252, if_neg d10, r_226_1131 hSt1, ob_eq, ai_253 hSt1 hi, ob_eq, mA_sI, m253, nI_1]
      exact b1
end
section
/-! twice -/
theorem tw_loop {M : Mm} {X l n len : Nat} {f : Nat → Nat} (hS : St M X) (hl : l < n) (hn : n < 200) (h6 : len ≤ 60) (h239 : mA M (X + 239) l = nI len) (hr : ∀ k, k < len → mA M (X + 240) (64 * l + k) = nI (f k)) : f_X11_twice_L116 1000 M (X + 226) (nI l) (nI n) 0 = some (sI (sA M (X + 240) (wr (mA M (X + 240)) (64 * n) len (fun k => nI (f k)))) 1116 (X + 226) (mI M 1116 (X + 226) + 1), nI n) := by
  have e := loop_run (fun fu t => f_X11_twice_L116 fu (sA M (X + 240) (wr (mA M (X + 240)) (64 * n) t (fun k => nI (f k)))) (X + 226) (nI l) (nI n) (nI t)) len (some (sI (sA M (X + 240) (wr (mA M (X + 240)) (64 * n) len (fun k => nI (f k)))) 1116 (X + 226) (mI M 1116 (X + 226) + 1), nI n))
    (fun t fu ht => by
      show f_X11_twice_L116 (fu + 1) (sA M (X + 240) (wr (mA M (X + 240)) (64 * n) t (fun k => nI (f k)))) (X + 226) (nI l) (nI n) (nI t) = f_X11_twice_L116 fu (sA M (X + 240) (wr (mA M (X + 240)) (64 * n) (t + 1) (fun k => nI (f k)))) (X + 226) (nI l) (nI n) (nI (t + 1))
      have hS1 : St (sA M (X + 240) (wr (mA M (X + 240)) (64 * n) t (fun k => nI (f k)))) X := St_sA hS
      have e3 : mA (sA M (X + 240) (wr (mA M (X + 240)) (64 * n) t (fun k => nI (f k)))) (X + 239) l = nI len := by rw [mA_sA, if_neg (by omega)]; exact h239
      have e2 : mA (sA M (X + 240) (wr (mA M (X + 240)) (64 * n) t (fun k => nI (f k)))) (X + 240) (64 * l + t) = nI (f t) := by
        rw [mA_sA, if_pos rfl, wr_out (by omega)]; exact hr t ht
      rw [f_X11_twice_L116, r_226_1117 hS1, ob_eq, ai_239 hS1 (by omega), ob_eq, e3, if_neg (nI_ge ht (by omega)), r_226_1118 hS1, ob_eq, ob_eq, m64, nI_add, ai_240 hS1 (by omega), ob_eq, e2, m64, nI_add, wi_240 hS1 (by omega), ob_eq, nI_1, sA_sA, mA_sA, if_pos rfl]
      exact congrArg (fun g => f_X11_twice_L116 fu (sA M (X + 240) g) (X + 226) (nI l) (nI n) (nI (t + 1))) (wr_s (mA M (X + 240)) (64 * n) t (fun k => nI (f k))))
    (fun fu => by
      show f_X11_twice_L116 (fu + 1) (sA M (X + 240) (wr (mA M (X + 240)) (64 * n) len (fun k => nI (f k)))) (X + 226) (nI l) (nI n) (nI len) = _
      have hS1 : St (sA M (X + 240) (wr (mA M (X + 240)) (64 * n) len (fun k => nI (f k)))) X := St_sA hS
      have e3 : mA (sA M (X + 240) (wr (mA M (X + 240)) (64 * n) len (fun k => nI (f k)))) (X + 239) l = nI len := by rw [mA_sA, if_neg (by omega)]; exact h239
      rw [f_X11_twice_L116, r_226_1117 hS1, ob_eq, ai_239 hS1 (by omega), ob_eq, e3, if_pos (nI_le (Nat.le_refl _) (by omega)), gi_226 hS1, ob_eq, mI_sA, pi_226 hS1, ob_eq]) 1000 (by omega)
  rw [wr_0, sA_self M (X + 240) (fun j => rfl)] at e
  exact e
theorem tw_eq {R : Mm} {X l n k i nb len : Nat} {num : Int32} {f : Nat → Nat} (hSr : St R X) (hl : l < n) (hn : n < 200) (h6 : len ≤ 60) (h16 : mI R 1116 (X + 226) = nI n) (h06 : mI R 1106 (X + 226) = 1) (huw : f_X11_isUnderWay (sI R 1100 (X + 226) 0) (X + 226) (nI l) = some 1) (v1 : mA R (X + 241) l = nI k) (v2 : mA R (X + 242) l = nI i) (v3 : mA R (X + 243) l = num) (v4 : mA R (X + 244) l = nI nb) (h239 : mA R (X + 239) l = nI len) (hr : ∀ k, k < len → mA R (X + 240) (64 * l + k) = nI (f k)) :
    ∃ M2, f_X11_twice R (X + 226) (nI l) = some (M2, nI n) ∧ (∀ N n0, Ag X N n0 (TIl X) (TAl X n) T0 R M2) ∧ mS M2 = mS R ∧ rLt M2 X n k i nb len num f 1 := by
  have d10 : ¬ (1 : Int32) = 0 := by decide
  have l2 : l < 200 := by omega
  have n200 : ¬ nI n = 200 := fun q => absurd ((nI_eq (a := n) (b := 200) (by omega) (by decide)).mp q) (by omega)
  generalize hT : sI R 1100 (X + 226) 0 = T at huw
  have hST : St T X := by rw [← hT]; exact St_sI hSr
  have aT : mA T = mA R := by rw [← hT, mA_sI]
  have t16 : mI T 1116 (X + 226) = nI n := by rw [← hT, mI_sI, if_neg (by decide)]; exact h16
  generalize hQ : sU (sU (sU (sU (sU (sU (sU (sU T (X + 241) n (nI k)) (X + 242) n (nI i)) (X + 243) n num) (X + 244) n (nI nb)) (X + 239) n (nI len)) (X + 245) n (-1)) (X + 246) n 0) (X + 247) n 1 = Q
  have eI : mI Q = mI T := by rw [← hQ]; rw [mI_sU, mI_sU, mI_sU, mI_sU, mI_sU, mI_sU, mI_sU, mI_sU]
  have hSQ : St Q X := by rw [← hQ]; exact St_sU (St_sU (St_sU (St_sU (St_sU (St_sU (St_sU (St_sU hST)))))))
  have ne : ¬ l = n := by omega
  have e1 : f_X11_twice R (X + 226) (nI l) = f_X11_twice_L116 1000 Q (X + 226) (nI l) (nI n) 0 := by
    have S1 : St (sU T (X + 241) n (nI k)) X := St_sU hST
    have S2 : St (sU (sU T (X + 241) n (nI k)) (X + 242) n (nI i)) X := St_sU S1
    have S3 : St (sU (sU (sU T (X + 241) n (nI k)) (X + 242) n (nI i)) (X + 243) n num) X := St_sU S2
    have S4 : St (sU (sU (sU (sU T (X + 241) n (nI k)) (X + 242) n (nI i)) (X + 243) n num) (X + 244) n (nI nb)) X := St_sU S3
    have S5 : St (sU (sU (sU (sU (sU T (X + 241) n (nI k)) (X + 242) n (nI i)) (X + 243) n num) (X + 244) n (nI nb)) (X + 239) n (nI len)) X := St_sU S4
    have S6 : St (sU (sU (sU (sU (sU (sU T (X + 241) n (nI k)) (X + 242) n (nI i)) (X + 243) n num) (X + 244) n (nI nb)) (X + 239) n (nI len)) (X + 245) n (-1)) X := St_sU S5
    have S7 : St (sU (sU (sU (sU (sU (sU (sU T (X + 241) n (nI k)) (X + 242) n (nI i)) (X + 243) n num) (X + 244) n (nI nb)) (X + 239) n (nI len)) (X + 245) n (-1)) (X + 246) n 0) X := St_sU S6
    unfold f_X11_twice
    rw [if_pos (k_226 hSr), pi_226 hSr, ob_eq, hT, huw, ob_eq, if_neg d10, gi_226 hST, ob_eq, t16, if_neg n200, ob_eq]
    rw [r_226_1119 hST, ob_eq, ob_eq, ai_241 hST l2, ob_eq, aT, v1, wi_241 hST hn, ob_eq, sU_def]
    rw [r_226_1120 S1, ob_eq, ob_eq, ai_242 S1 l2, ob_eq, mA_sUj ne, aT, v2, wi_242 S1 hn, ob_eq, sU_def]
    rw [r_226_1121 S2, ob_eq, ob_eq, ai_243 S2 l2, ob_eq, mA_sUj ne, mA_sUj ne, aT, v3, wi_243 S2 hn, ob_eq, sU_def]
    rw [r_226_1122 S3, ob_eq, ob_eq, ai_244 S3 l2, ob_eq, mA_sUj ne, mA_sUj ne, mA_sUj ne, aT, v4, wi_244 S3 hn, ob_eq, sU_def]
    rw [r_226_1117 S4, ob_eq, ob_eq, ai_239 S4 l2, ob_eq, mA_sUj ne, mA_sUj ne, mA_sUj ne, mA_sUj ne, aT, h239, wi_239 S4 hn, ob_eq, sU_def]
    rw [r_226_1123 S5, ob_eq, wi_245 S5 hn, ob_eq, sU_def]
    rw [r_226_1124 S6, ob_eq, wz_246 S6 hn, ob_eq, vz0, sU_def]
    rw [r_226_1125 S7, ob_eq, wz_247 S7 hn, ob_eq, vz1, sU_def, hQ]
  have q239 : mA Q (X + 239) l = nI len := by rw [← hQ, mA_sUj ne, mA_sUj ne, mA_sUj ne, mA_sUj ne, mA_sUj ne, mA_sUj ne, mA_sUj ne, mA_sUj ne, aT]; exact h239
  have q240 : mA Q (X + 240) = mA R (X + 240) := by rw [← hQ, mA_sUx (by omega), mA_sUx (by omega), mA_sUx (by omega), mA_sUx (by omega), mA_sUx (by omega), mA_sUx (by omega), mA_sUx (by omega), mA_sUx (by omega), aT]
  have t2 := tw_loop hSQ hl hn h6 q239 (f := f) (by intro q hq; rw [q240]; exact hr q hq)
  have q16 : mI Q 1116 (X + 226) = nI n := by rw [eI]; exact t16
  rw [q16, nI_1] at t2
  refine ⟨_, e1.trans t2, ?_, ?_, ?_⟩
  · intro N n0
    refine Ag.cI (Ag.cAw ?_ (fun j q1 q2 => Or.inr ⟨rfl, q1, by omega⟩)) (Or.inr (Or.inl ⟨Or.inl rfl, rfl⟩))
    rw [← hQ, ← hT]
    exact Ag.cU (Ag.cU (Ag.cU (Ag.cU (Ag.cU (Ag.cU (Ag.cU (Ag.cU (Ag_sI (Or.inl (by unfold ScI; omega))) (Or.inr (Or.inr (Or.inl (by omega))))) (Or.inr (Or.inr (Or.inl (by omega))))) (Or.inr (Or.inr (Or.inl (by omega))))) (Or.inr (Or.inr (Or.inl (by omega))))) (Or.inr (Or.inr (Or.inl (by omega))))) (Or.inr (Or.inr (Or.inl (by omega))))) (Or.inr (Or.inr (Or.inl (by omega))))) (Or.inr (Or.inr (Or.inl (by omega))))
  · rw [← hQ, ← hT]; rfl
  · have aS : ∀ x, ¬ x = X + 240 → mA (sI (sA Q (X + 240) (wr (mA Q (X + 240)) (64 * n) len (fun k => nI (f k)))) 1116 (X + 226) (nI (n + 1))) x = mA Q x := by
      intro x q2
      rw [mA_sI, mA_sA, if_neg q2]
    refine ⟨?_, ?_, ?_, ?_, ?_, ?_, ?_, ?_, ?_, ?_, ?_⟩
    · rw [aS _ (by omega), ← hQ, mA_sUx (by omega), mA_sUx (by omega), mA_sUx (by omega), mA_sUx (by omega), mA_sUx (by omega), mA_sUx (by omega), mA_sUx (by omega), mA_sUi]
    · rw [aS _ (by omega), ← hQ, mA_sUx (by omega), mA_sUx (by omega), mA_sUx (by omega), mA_sUx (by omega), mA_sUx (by omega), mA_sUx (by omega), mA_sUi]
    · rw [aS _ (by omega), ← hQ, mA_sUx (by omega), mA_sUx (by omega), mA_sUx (by omega), mA_sUx (by omega), mA_sUx (by omega), mA_sUi]
    · rw [aS _ (by omega), ← hQ, mA_sUx (by omega), mA_sUx (by omega), mA_sUx (by omega), mA_sUx (by omega), mA_sUi]
    · rw [aS _ (by omega), ← hQ, mA_sUx (by omega), mA_sUx (by omega), mA_sUi]
    · rw [aS _ (by omega), ← hQ, mA_sUx (by omega), mA_sUi]
    · rw [aS _ (by omega), ← hQ, mA_sUi]
    · rw [aS _ (by omega), ← hQ, mA_sUx (by omega), mA_sUx (by omega), mA_sUx (by omega), mA_sUi]
    · intro k2 hk2
      rw [mA_sI, mA_sA, if_pos rfl]
      exact wr_in hk2
    · rw [mI_sI, if_pos rfl, if_pos rfl]
    · rw [mI_sI, if_neg (by decide), mI_sA, eI, ← hT, mI_sI, if_neg (by decide)]; exact h06
theorem op_twice {M : Mm} {X p n w : Nat} {z : Nat → Nat} (H : Inv M X p n w z) (a : Int32) : ∃ M1 M2 r n' z', f_X10_twice M X a = some (M1, r) ∧ f_X11_twice M1 (X + 226) a = some (M2, r) ∧ Inv M2 X p n' w z' ∧ n' ≤ n + 1 := by
  obtain ⟨hS, hW, hP, hD, hC, hQ, hX, hZ, hL, hG, hH, hT⟩ := id H
  have hN := z_ge hZ n (Nat.le_refl _)
  have d10 : ¬ (1 : Int32) = 0 := by decide
  have hSt : St (sI M 1100 (X + 226) 0) X := St_sI hS
  have h200 := hC.1
  have Ht := inv_thr (v := 0) H
  obtain ⟨-, -, -, -, hC', -, -, -, hL', -⟩ := id Ht
  rcases ix_cases a (n := n) (by omega) with h | ⟨l, hl, rfl⟩
  · refine ⟨M, _, -1, n, z, ?_, ?_, Ht, by omega⟩
    · unfold f_X10_twice
      rw [if_pos (k_0 hS), (uw_out hS hC h).1, ob_eq, nm_none]
    · unfold f_X11_twice
      rw [if_pos (k_226 hS), pi_226 hS, ob_eq, (uw_out hSt hC' h).2, ob_eq, if_pos rfl]
  have hLl := hL l hl
  have uwl := uw hS hC hLl hl
  have uwt := uw hSt hC' (hL' l hl) hl
  by_cases q0 : mA M (X + 246) l = 0
  rotate_left
  · refine ⟨M, _, -1, n, z, ?_, ?_, Ht, by omega⟩
    · unfold f_X10_twice
      rw [if_pos (k_0 hS), uwl.1, if_neg q0, ob_eq, nm_none]
    · unfold f_X11_twice
      rw [if_pos (k_226 hS), pi_226 hS, ob_eq, uwt.2, mA_sI, if_neg q0, ob_eq, if_pos rfl]
  by_cases hn : n < 200
  rotate_left
  · have e : n = 200 := by omega
    refine ⟨M, _, -2, n, z, ?_, ?_, Ht, by omega⟩
    · unfold f_X10_twice
      rw [if_pos (k_0 hS), uwl.1, if_pos q0, ob_eq, nm_some, lf_in hS hC, ob_eq, if_neg hn, if_neg d10]
    · unfold f_X11_twice
      rw [if_pos (k_226 hS), pi_226 hS, ob_eq, uwt.2, mA_sI, if_pos q0, ob_eq, if_neg d10, gi_226 hSt, ob_eq, hC'.2.2.1, if_pos (show nI n = 200 by rw [e]; rfl)]
  obtain ⟨h1, h2, h3, h4, ⟨k, g5, h5, h5b⟩, ⟨i, g6, h6, h6b⟩, h7, ⟨nb, g8, h8, h8b⟩, h9, h10, h11, h12, h13, ⟨len, b1, b2, b3, b4, b5⟩, h15⟩ := id hLl
  have zl := hZ.2.1 l hl
  have zm := z_mo hZ (l := l + 1) (m := n) (by omega) (Nat.le_refl _)
  have zg := z_ge hZ l (by omega)
  have zS : z n ≤ mS M := hZ.2.2
  have aA : lA z l < z n ∧ X + 270 ≤ lA z l := by unfold lA; omega
  have aB : lB z l < z n ∧ X + 270 ≤ lB z l := by unfold lB; omega
  generalize hM5 : sA (nA M 20 len) (mS M) (mA M (lB z l)) = M5
  have s5 : mS M5 = mS M + 1 := by rw [← hM5]; rfl
  have A5 : Ag X (z n) n (T10 X) T0 T0 M M5 := by
    rw [← hM5]
    exact (Ag_nA zS).cA (Or.inr (Or.inl zS))
  have i5 : mI M5 = mI M := by rw [← hM5, mI_sA, mI_nA]
  have k5 : mK (nO M5 5) (lA z l) = 5 := by rw [mK_nO, if_neg (by omega), ← hM5, mK_sA, mK_nA, if_neg (by omega)]; exact h2
  have j5 : ∀ nu, mI (nO M5 5) nu (lA z l) = mI M nu (lA z l) := fun nu => by rw [mI_nO, if_neg (by omega), i5]
  have kB : mK M5 (mS M) = 20 := by rw [← hM5, mK_sA, mK_nA]; exact if_pos rfl
  have nB : mN M5 (mS M) = len := by rw [← hM5, mN_sA, mN_nA]; exact if_pos rfl
  have gB : mA M5 (mS M) = mA M (lB z l) := by rw [← hM5, mA_sA, if_pos rfl]
  obtain ⟨M1, q1, q2, q3, q4, -⟩ := mk_let2 (k := k) (i := i) (nb := nb) (num := mI M 402 (lA z l)) hN hS A5 (by omega) (by rw [i5]; exact hC.2.1) hn (by omega) kB nB gB
  rw [s5] at q4
  have S1 : St M1 X := St_Ag hN q2 hS
  have eC : f_X10_twice M X (nI l) = some (M1, nI n) := by
    unfold f_X10_twice
    rw [if_pos (k_0 hS), uwl.1, if_pos q0, ob_eq, nm_some, lf_in hS hC, ob_eq, if_pos hn, if_pos rfl, gR_of h2 h3, ob_eq, ob_eq, aL_of h4 (by decide) (by decide) b3, ob_eq, cl_eq h4 b3 b2, ob2_eq, hM5, gI_of k5, ob_eq, j5, h5, gI_of k5, ob_eq, j5, h6, gI_of k5, ob_eq, j5, gI_of k5, ob_eq, j5, h8, q1]
  have eA1 : ∀ a j, ¬ ScA X a → a < z n → mA M1 a j = mA M a j := fun a j s l => q2.2.1 a j s (fun q => q) l
  have eI1 : ∀ nu, ¬ ScI X nu (X + 226) → mI M1 nu (X + 226) = mI M nu (X + 226) := fun nu s => q2.1 nu _ s (by unfold T10; omega) (by omega)
  have f16 : mI M1 1116 (X + 226) = nI n := (eI1 1116 (by unfold ScI; omega)).trans hC.2.2.1
  have f06 : mI M1 1106 (X + 226) = 1 := (eI1 1106 (by unfold ScI; omega)).trans (by rw [hC.2.2.2, if_neg (by omega)])
  have uw1 : f_X11_isUnderWay (sI M1 1100 (X + 226) 0) (X + 226) (nI l) = some 1 := by
    have hS1 : St (sI M1 1100 (X + 226) 0) X := St_sI S1
    unfold f_X11_isUnderWay
    rw [if_pos (k_226 hS1), if_neg (nI_pos (by omega)), gi_226 hS1, ob_eq, mI_sI, if_neg (show ¬ 1116 = 1100 by decide), f16, if_neg (nI_ge hl (by omega)), r_226_1124 hS1, ob_eq, az_246 hS1 (by omega), ob_eq, mA_sI, eA1 _ _ (by unfold ScA; omega) (by omega), q0, if_pos rfl]
  obtain ⟨f, hf⟩ : ∃ f : Nat → Nat, ∀ q, q < len → f q < 256 ∧ mA M (lB z l) q = nI (f q) ∧ mA M (X + 240) (64 * l + q) = nI (f q) :=
    ⟨fun q => (mA M (lB z l) q).toNatClampNeg, fun q hq => by
      obtain ⟨b, c1, c2, c3⟩ := b5 q hq
      have e : (mA M (lB z l) q).toNatClampNeg = b := by rw [c2]; exact nI_clamp (by omega)
      dsimp only
      rw [e]
      exact ⟨c1, c2, c3⟩⟩
  have tr : ∀ o j, (o = 239 ∨ o = 240 ∨ o = 241 ∨ o = 242 ∨ o = 243 ∨ o = 244) → mA M1 (X + o) j = mA M (X + o) j := fun o j ho => eA1 _ _ (by unfold ScA; omega) (by omega)
  obtain ⟨M2, t1, t2, t3, t4⟩ := tw_eq (R := M1) (X := X) (l := l) (n := n) (k := k) (i := i) (nb := nb) (len := len) (num := mI M 402 (lA z l)) (f := f) S1 hl hn b2 f16 f06 uw1 ((tr _ _ (by decide)).trans h5b) ((tr _ _ (by decide)).trans h6b) ((tr _ _ (by decide)).trans h7) ((tr _ _ (by decide)).trans h8b) ((tr _ _ (by decide)).trans b4) (fun q hq => (tr _ _ (by decide)).trans (hf q hq).2.2)
  have sM : X + 270 ≤ mS M := hS.2.2.2.2
  have c2 : cLt M2 X n (mS M + 1) (mS M) k i nb len (mI M 402 (lA z l)) (mA M (lB z l)) 1 none := by
    refine cl_tr (N := mS M + 2) q4 (t2 _ _) sM (by omega) (by omega) ?_ ?_
    · intro nu a q; unfold TIl at q; omega
    · intro a j q; unfold TAl at q; omega
  have A' : Ag X (z n) n (fun num a => (num = 1010 ∧ a = X) ∨ ((num = 1116 ∨ num = 1106) ∧ a = X + 226)) (TAL X n) T0 M M2 := by
    refine (q2.tr (t2 _ _)).wk ?_ ?_ ?_
    · intro nu a q; unfold T10 TIl at q; omega
    · intro a j q
      rcases q with q | q
      · exact q.elim
      · unfold TAl at q; unfold TAL; omega
    · intro a j q; exact q.elim (fun q => q) (fun q => q)
  have A : Ag X (z n) n (TIa X 0) (TAa X n 0) (TBa X 0) M M2 := A'.wk (by intro nu a q; unfold TIa; omega) (by intro a j q; exact Or.inl q) (by intro a j q; exact q.elim)
  refine ⟨M1, M2, nI n, n + 1, _, eC, t1, inv_add H hn (by decide) A ?_ (zt := mS M + 2) (by omega) (by rw [t3, q3, s5]; exact Nat.le_refl _) (IL_new c2 t4 (if_neg (by omega)) rfl g5 g6 g8 (Or.inr rfl) b1 b2 (fun q hq => (hf q hq).2.1) (fun q hq => (hf q hq).1) (Or.inr ⟨fun q => absurd q.2 d10, rfl⟩)) c2.2.2.2.2.2.2.2.2.2.2.2.2.2.2 t4.2.2.2.2.2.2.2.2.2.1 t4.2.2.2.2.2.2.2.2.2.2 t4.2.2.2.2.2.1, Nat.le_refl _⟩
  refine IQ_up (tr_Q hN hP.1 hW.2.2.2 (by decide) A' (hQ 0 (by decide)) ?_ ?_ ?_)
  · intro nu a h; unfold aSq aHd; omega
  · intro a j h; unfold TAL at h; unfold aSt; omega
  · intro a j h; exact h.elim
end
section
/-! What a reference gives, what n bits find: the same at both. -/
def tN (x : Int64) : Nat := x.toBitVec.toNat
theorem lN_tN (x : Int64) : lN (tN x) = x := by
  apply Int64.toBitVec_inj.1
  show BitVec.ofNat 64 x.toBitVec.toNat = x.toBitVec
  simp
theorem tN_lt (x : Int64) : tN x < 2 ^ 64 := x.toBitVec.isLt
def VC (X k : Nat) (M M' : Mm) : Prop := St M' X ∧ (∀ num a, a < X + 212 → ¬ (num = 301 ∧ a = X + 6) → mI M' num a = mI M num a) ∧ (∀ a, a < X + 212 → mA M' a = mA M a) ∧ (∀ a, a < X + 212 → mB M' a = mB M a) ∧ mI M' 301 (X + 6) = nI k
def RV (X : Nat) (M R : Mm) : Prop := St R X ∧ (∀ o, (o = 227 ∨ o = 228 ∨ o = 229 ∨ o = 234 ∨ o = 237) → mA R (X + o) = mA M (X + o)) ∧ (∀ o, (o = 230 ∨ o = 231 ∨ o = 238) → mB R (X + o) = mB M (X + o)) ∧ mI R 1101 (X + 226) = mI M 1101 (X + 226)
def gv (M : Mm) (X i k f d : Nat) : Int64 :=
  if mA M (X + 2) f = 0 then mB M (aHv X i d) f
  else if mA M (X + 2) f = 1 then (mB M (X + 7) (ix (mA M (X + 4) f)) + (mA M (X + 5) f).toInt64) &&& mk (mA M (X + 3) f)
  else if mA M (X + 2) f = 2 then (mB M (aHv X i d) f + (nI k - mI M 301 (aHd X i d)).toInt64 * (mA M (aSt X i) f).toInt64) &&& mk (mA M (X + 3) f)
  else if mA M (X + 2) f = 3 then (mB M (aHv X i d) f + (nI k - mI M 301 (aHd X i d)).toInt64 * (mA M (aSt X i) f).toInt64 * (mA M (X + 5) f).toInt64) &&& mk (mA M (X + 3) f)
  else 0
theorem gvc {M M' : Mm} {X i k f d p : Nat} (V : VC X k M M') (hi : i < 8) (hd : d < 8) (hP : IP M X p) (hf : f < p) : f_X6_given M' (X + 1) (nI f) (aHd X i d) (aSt X i) (X + 6) = some (gv M X i k f d) := by
  obtain ⟨hS, v2, v3, v4, v5⟩ := V
  have p8 := hP.1
  have f8 : f < 8 := by omega
  obtain ⟨-, -, -, -, -, ft⟩ := hP.2.2.2 f hf
  have l1 : aHd X i d < X + 212 := by unfold aHd; omega
  have l2 : aHv X i d < X + 212 := by unfold aHv; omega
  have l3 : aSt X i < X + 212 := by unfold aSt; omega
  have n1 : ¬ (301 = 301 ∧ aHd X i d = X + 6) := by unfold aHd; omega
  unfold f_X6_given
  rw [if_pos (k_1 hS), gi_6 hS, ob_eq, v5, gi_aHd hS hi hd, ob_eq, v2 _ _ l1 n1, ai_aSt hS hi f8, ob_eq, v3 _ l3, r_1_600 hS, ob_eq, ai_2 hS f8, ob_eq, v3 _ (by omega)]
  unfold gv
  by_cases q0 : mA M (X + 2) f = 0
  · rw [if_pos q0, if_pos q0, r_aHd_300 hS hi hd, ob_eq, aj_aHv hS hi hd f8, ob_eq, v4 _ l2]
  rw [if_neg q0, if_neg q0]
  by_cases q1 : mA M (X + 2) f = 1
  · obtain ⟨-, t, ht, et⟩ := ft q1
    rw [if_pos q1, if_pos q1, r_6_300 hS, ob_eq, r_1_602 hS, ob_eq, ai_4 hS f8, ob_eq, v3 _ (by omega), et, aj_7 hS (by omega), ob_eq, v4 _ (by omega), r_1_603 hS, ob_eq, ai_5 hS f8, ob_eq, v3 _ (by omega), lb_in hS f8, ob_eq, v3 _ (by omega), ix_nI (by omega)]
  rw [if_neg q1, if_neg q1]
  by_cases q2 : mA M (X + 2) f = 2
  · rw [if_pos q2, if_pos q2, r_aHd_300 hS hi hd, ob_eq, aj_aHv hS hi hd f8, ob_eq, v4 _ l2, lb_in hS f8, ob_eq, v3 _ (by omega)]
  rw [if_neg q2, if_neg q2]
  by_cases q3 : mA M (X + 2) f = 3
  · rw [if_pos q3, if_pos q3, r_aHd_300 hS hi hd, ob_eq, aj_aHv hS hi hd f8, ob_eq, v4 _ l2, r_1_603 hS, ob_eq, ai_5 hS f8, ob_eq, v3 _ (by omega), lb_in hS f8, ob_eq, v3 _ (by omega)]
  rw [if_neg q3, if_neg q3]
theorem gvr {M R : Mm} {X i k f j p w n kk r h f0 : Nat} (V : RV X M R) (hi : i < 8) (hP : IP M X p) (hD : ID M X p) (hf : f < p) (hw : w ≤ 8) (hQ : IQ' M X p w n i kk r h f0) (hj : j < h) : f_X11_given R (X + 226) (nI i) (nI j) (nI f) (nI k) = some (gv M X i k f ((f0 + j) % 8)) := by
  obtain ⟨hS, v2, v3, v4⟩ := V
  have p8 := hP.1
  have f8 : f < 8 := by omega
  obtain ⟨k1, k2, ⟨kd, k3, ek⟩, k4, k5, ft⟩ := hP.2.2.2 f hf
  obtain ⟨q1, q2, q3, q4, q5, q6, q7, q8, q9, q10, q11, q12, q13, q14, q15⟩ := hQ
  obtain ⟨⟨u, hu, u1, u2⟩, g2⟩ := q15 j hj
  have d10 : ¬ (1 : Int32) = 0 := by decide
  have eo : ∀ (own : Int64) (b s : Int32), f_X11_onwards R (X + 226) (nI f) own b s = if mA M (X + 2) f = 4 then some 0 else if 2 ≤ mA M (X + 2) f then (if mA M (X + 2) f = 3 then some ((own + b.toInt64 * s.toInt64 * (mA M (X + 5) f).toInt64) &&& mk (mA M (X + 3) f)) else some ((own + b.toInt64 * s.toInt64 * 1) &&& mk (mA M (X + 3) f))) else some own := by
    intro own b s
    unfold f_X11_onwards f_X11_onwards_J54
    rw [if_pos (k_226 hS), r_226_1102 hS, ob_eq, ai_227 hS f8, ob_eq, v2 _ (by omega), k1]
    by_cases c4 : mA M (X + 2) f = 4
    · rw [if_pos c4, if_pos c4]
    rw [if_neg c4, if_neg c4, ob_eq, ob_eq, ai_227 hS f8, ob_eq, v2 _ (by omega), k1, ob_eq]
    by_cases c2 : 2 ≤ mA M (X + 2) f
    rotate_left
    · rw [if_neg c2, if_neg c2]
    rw [if_pos c2, if_pos c2]
    by_cases c3 : mA M (X + 2) f = 3
    · rw [if_pos c3, if_pos c3, r_226_1105 hS, ob_eq, aj_230 hS f8, ob_eq, v3 _ (by omega), k5, ct_in hS f8, ob_eq, v2 _ (by omega), k2]
    · rw [if_neg c3, if_neg c3, ct_in hS f8, ob_eq, v2 _ (by omega), k2]
  unfold f_X11_given
  rw [if_pos (k_226 hS), r_226_1102 hS, ob_eq, ai_227 hS f8, ob_eq, v2 _ (by omega), k1, r_226_1115 hS, ob_eq, m9, nI_add, m8, nI_add, aj_238 hS (by omega), ob_eq, v3 _ (by omega), g2 f hf, r_226_1114 hS, ob_eq, ai_237 hS (by omega), ob_eq, v2 _ (by omega), u1, ← u2, r_226_1111 hS, ob_eq, m8, nI_add, ai_234 hS (by omega), ob_eq, v2 _ (by omega), q14 f f8, eo]
  have hk : kd = 0 ∨ kd = 1 ∨ kd = 2 ∨ kd = 3 ∨ kd = 4 := by omega
  unfold gv
  by_cases c1 : mA M (X + 2) f = 1
  · obtain ⟨t1, t, ht, et⟩ := ft c1
    have c0 : ¬ mA M (X + 2) f = 0 := by rw [c1]; exact d10
    rw [if_pos c1, if_neg c0, if_pos c1, r_226_1108 hS, ob_eq, r_226_1104 hS, ob_eq, ai_229 hS f8, ob_eq, v2 _ (by omega), t1, et, aj_231 hS (by omega), ob_eq, v3 _ (by omega), (hD.1 t (by omega)).1, r_226_1105 hS, ob_eq, aj_230 hS f8, ob_eq, v3 _ (by omega), k5, ct_in hS f8, ob_eq, v2 _ (by omega), k2, ix_nI (by omega)]
  rw [if_neg c1]
  rcases hk with rfl | rfl | rfl | rfl | rfl
  · rw [ek, if_neg (show ¬ nI 0 = 4 by decide), if_neg (show ¬ (2 : Int32) ≤ nI 0 by decide), ob_eq, if_pos (show nI 0 = 0 from rfl)]
  · exact absurd ek c1
  · rw [ek, if_neg (show ¬ nI 2 = 4 by decide), if_pos (show (2 : Int32) ≤ nI 2 by decide), if_neg (show ¬ nI 2 = 3 by decide), ob_eq, if_neg (show ¬ nI 2 = 0 by decide), if_neg (show ¬ nI 2 = 1 by decide), if_pos (show nI 2 = 2 from rfl), Int64.mul_one]
  · rw [ek, if_neg (show ¬ nI 3 = 4 by decide), if_pos (show (2 : Int32) ≤ nI 3 by decide), if_pos (show nI 3 = 3 from rfl), ob_eq, if_neg (show ¬ nI 3 = 0 by decide), if_neg (show ¬ nI 3 = 1 by decide), if_neg (show ¬ nI 3 = 2 by decide), if_pos (show nI 3 = 3 from rfl)]
  · rw [ek, if_pos (show nI 4 = 4 from rfl), ob_eq, if_neg (show ¬ nI 4 = 0 by decide), if_neg (show ¬ nI 4 = 1 by decide), if_neg (show ¬ nI 4 = 2 by decide), if_neg (show ¬ nI 4 = 3 by decide)]
/-! found by n bits -/
def hf2 (n : Int32) : Int64 := (1 : Int64) <<< ((n - 1).toInt64 &&& 63)
def fo (wd : Int32) (g : Int64) (n : Int32) (v : Int64) : Int64 := if 1 ≤ n then ((g - hf2 n) + ((v - (g - hf2 n)) &&& mk n)) &&& mk wd else g
theorem fo_c {M : Mm} {X f : Nat} {g v : Int64} {n : Int32} (hS : St M X) (hf : f < 8) : f_X6_found M (X + 1) (nI f) g n v = some (fo (mA M (X + 3) f) g n v) := by
  unfold f_X6_found f_X10_lowest
  rw [if_pos (k_1 hS), ob_eq, lb_in hS hf, ob_eq]
  unfold fo
  by_cases q : 1 ≤ n
  · rw [if_pos q, if_pos q]; rfl
  · rw [if_neg q, if_neg q]
theorem lN_m {a b : Nat} (ha : a < 2 ^ 64) (h : lN a = lN b) : a = b % 2 ^ 64 := by
  have e := congrArg (fun x : Int64 => x.toBitVec.toNat) h
  have e1 : (lN a).toBitVec.toNat = a % 2 ^ 64 := by show (BitVec.ofNat 64 a).toNat = _; simp
  have e2 : (lN b).toBitVec.toNat = b % 2 ^ 64 := by show (BitVec.ofNat 64 b).toNat = _; simp
  rw [e1, e2, Nat.mod_eq_of_lt ha] at e
  exact e
theorem lN_wrap (a : Nat) : lN (a % 2 ^ 64) = lN a := by
  apply Int64.toBitVec_inj.1
  show BitVec.ofNat 64 (a % 2 ^ 64) = BitVec.ofNat 64 a
  apply BitVec.eq_of_toNat_eq
  simp
theorem shl1 : ∀ n, n < 33 → (1 : Int64) <<< ((nI n).toInt64 &&& 63) = lN (2 ^ n) := by decide
theorem fo_iff {wd n u : Nat} {g : Int64} (h1 : 1 ≤ n) (h2 : n ≤ wd) (h3 : wd ≤ 32) (hu : u < 2 ^ wd) : fo (nI wd) g (nI n) (lN u) = lN u ↔ ((lN u - g) + hf2 (nI n)) &&& mk (nI wd) < (1 : Int64) <<< ((nI n).toInt64 &&& 63) := by
  have q1 : (1 : Int32) ≤ nI n := nI_le (a := 1) h1 (by omega)
  have e0 : lN u - g + hf2 (nI n) = lN u - (g - hf2 (nI n)) := by
    rw [Int64.sub_eq_add_neg, Int64.sub_eq_add_neg, Int64.sub_eq_add_neg, Int64.neg_add, Int64.sub_eq_add_neg, Int64.neg_neg, Int64.add_assoc]
  unfold fo
  rw [if_pos q1, e0]
  generalize ha : g - hf2 (nI n) = a
  generalize ht : lN u - a = t
  have hv : lN u = a + t := by rw [← ht, Int64.add_comm, Int64.sub_add_cancel]
  have p64 : (2 : Nat) ^ 64 = 2 ^ wd * 2 ^ (64 - wd) := by rw [← Nat.pow_add, show wd + (64 - wd) = 64 by omega]
  have dv : 2 ^ wd ∣ 2 ^ 64 := ⟨_, p64⟩
  have pw : (2 : Nat) ^ wd ≤ 2 ^ 32 := Nat.pow_le_pow_right (by decide) h3
  have pn' : (2 : Nat) ^ n ≤ 2 ^ wd := Nat.pow_le_pow_right (by decide) h2
  have ea := lN_tN a
  have et := lN_tN t
  rw [← ea, ← et, lN_add] at hv
  have hu2 : u = (tN a + tN t) % 2 ^ wd := by
    have e := lN_m (by omega) hv
    have e2 : u % 2 ^ wd = ((tN a + tN t) % 2 ^ 64) % 2 ^ wd := by rw [← e]
    rw [Nat.mod_eq_of_lt hu, Nat.mod_mod_of_dvd _ dv] at e2
    exact e2
  have key : (tN a + tN t % 2 ^ n) % 2 ^ wd = u ↔ tN t % 2 ^ wd < 2 ^ n := by
    rw [hu2]
    have hn0 : 0 < 2 ^ n := Nat.two_pow_pos n
    have hw0 : 0 < 2 ^ wd := Nat.two_pow_pos wd
    have dn : 2 ^ n ∣ 2 ^ wd := ⟨2 ^ (wd - n), by rw [← Nat.pow_add, show n + (wd - n) = wd by omega]⟩
    have hmm : tN t % 2 ^ wd % 2 ^ n = tN t % 2 ^ n := Nat.mod_mod_of_dvd _ dn
    have hlt : tN t % 2 ^ n < 2 ^ n := Nat.mod_lt _ hn0
    constructor
    · intro h
      have h5 : tN t % 2 ^ n % 2 ^ wd = tN t % 2 ^ wd := by
        have h6 : (tN a % 2 ^ wd + tN t % 2 ^ n % 2 ^ wd) % 2 ^ wd = (tN a % 2 ^ wd + tN t % 2 ^ wd) % 2 ^ wd := by
          rw [← Nat.add_mod, ← Nat.add_mod]; exact h
        have b1 := Nat.mod_lt (tN a) hw0
        have b2 := Nat.mod_lt (tN t % 2 ^ n) hw0
        have b3 := Nat.mod_lt (tN t) hw0
        generalize tN a % 2 ^ wd = A at *
        generalize tN t % 2 ^ n % 2 ^ wd = B at *
        generalize tN t % 2 ^ wd = C at *
        generalize 2 ^ wd = W at *
        by_cases c1 : A + B < W
        · rw [Nat.mod_eq_of_lt c1] at h6
          by_cases c2 : A + C < W
          · rw [Nat.mod_eq_of_lt c2] at h6; omega
          · rw [Nat.mod_eq_sub_mod (by omega), Nat.mod_eq_of_lt (by omega)] at h6; omega
        · rw [Nat.mod_eq_sub_mod (by omega), Nat.mod_eq_of_lt (a := A + B - W) (by omega)] at h6
          by_cases c2 : A + C < W
          · rw [Nat.mod_eq_of_lt c2] at h6; omega
          · rw [Nat.mod_eq_sub_mod (a := A + C) (by omega), Nat.mod_eq_of_lt (a := A + C - W) (by omega)] at h6; omega
      rw [Nat.mod_eq_of_lt (a := tN t % 2 ^ n) (by omega)] at h5
      omega
    · intro h
      have h5 : tN t % 2 ^ n = tN t % 2 ^ wd := by rw [← hmm, Nat.mod_eq_of_lt h]
      rw [h5, Nat.add_mod_mod]
  have l1 : (a + (t &&& mk (nI n))) &&& mk (nI wd) = lN ((tN a + tN t % 2 ^ n) % 2 ^ wd) := by
    have x1 : t &&& mk (nI n) = lN (tN t % 2 ^ n) := by
      have := mk_and (u := tN t) (wd := n) (by omega)
      rw [et] at this; exact this
    have x2 : a + lN (tN t % 2 ^ n) = lN (tN a + tN t % 2 ^ n) := by
      have := lN_add (tN a) (tN t % 2 ^ n)
      rw [ea] at this; exact this
    rw [x1, x2, mk_and (by omega)]
  have l2 : t &&& mk (nI wd) = lN (tN t % 2 ^ wd) := by
    have := mk_and (u := tN t) (wd := wd) (by omega)
    rw [et] at this; exact this
  have hw0 : 0 < 2 ^ wd := Nat.two_pow_pos wd
  have b1 := Nat.mod_lt (tN a + tN t % 2 ^ n) hw0
  have b2 := Nat.mod_lt (tN t) hw0
  rw [l1, l2, shl1 n (by omega), pk_lEQ (by omega) (by omega), pk_lLT (by omega) (by omega)]
  exact key
theorem fo_r {M : Mm} {X f wd n u : Nat} {g : Int64} (hS : St M X) (hf : f < 8) (hw : mA M (X + 228) f = nI wd) (h2 : n ≤ wd) (h3 : wd ≤ 32) (hu : u < 2 ^ wd) : f_X11_finds M (X + 226) (nI f) g (lN u) (nI n) = some (if fo (nI wd) g (nI n) (lN u) = lN u then 1 else 0) := by
  unfold f_X11_finds
  rw [if_pos (k_226 hS)]
  by_cases q : n = 0
  · subst q
    have e : fo (nI wd) g (nI 0) (lN u) = g := by unfold fo; rw [if_neg (by decide)]
    rw [if_pos (show nI 0 = 0 from rfl), e]
    by_cases c : g = lN u
    · rw [if_pos c, if_pos ((lgc_eq _ _).mpr c)]
    · rw [if_neg c, if_neg (fun q => c ((lgc_eq _ _).mp q))]
  · rw [if_neg (nI_ne0 (by omega) (by omega)), ct_in hS hf, ob_eq, hw]
    have k := fo_iff (g := g) (n := n) (wd := wd) (u := u) (by omega) h2 h3 hu
    unfold hf2 at k
    by_cases c : fo (nI wd) g (nI n) (lN u) = lN u
    · rw [if_pos c, if_neg (fun q => (lgc_ge _ _).mp q (k.mp c))]
    · rw [if_neg c, if_pos ((lgc_ge _ _).mpr (fun q => c (k.mpr q)))]
end
section
/-! The oldest reference that misses; all references; the least n. -/
def SC (M : Mm) (X p n w i kk r h f0 : Nat) : Prop := i < 8 ∧ w ≤ 8 ∧ IP M X p ∧ ID M X p ∧ IQ' M X p w n i kk r h f0
def okb (M : Mm) (X i kk f0 f nn j : Nat) : Bool := decide (fo (mA M (X + 3) f) (gv M X i kk f ((f0 + j) % 8)) (nI nn) (mB M (X + 7) f) = mB M (X + 7) f)
def nmb (M : Mm) (X i f0 j : Nat) : Int32 := mI M 301 (aHd X i ((f0 + j) % 8))
def fmi (ok : Nat → Bool) (num : Nat → Int32) : Nat → Nat → Int32
  | 0, _ => -2
  | d + 1, j => if ok j then fmi ok num d (j + 1) else num j
def al (ok : Nat → Bool) : Nat → Bool
  | 0 => true
  | j + 1 => al ok j && ok j
theorem al_iff {ok : Nat → Bool} : ∀ {h : Nat}, al ok h = true ↔ ∀ j, j < h → ok j = true
  | 0 => ⟨fun _ j hj => absurd hj (Nat.not_lt_zero _), fun _ => rfl⟩
  | h + 1 => by
    show (al ok h && ok h) = true ↔ _
    rw [Bool.and_eq_true, al_iff (h := h)]
    constructor
    · intro ⟨h1, h2⟩ j hj
      by_cases e : j = h
      · subst e; exact h2
      · exact h1 j (by omega)
    · intro h1
      exact ⟨fun j hj => h1 j (by omega), h1 h (by omega)⟩
theorem fmi_m2 {ok : Nat → Bool} {num : Nat → Int32} : ∀ {d j : Nat}, (∀ q, q < j + d → ¬ num q = -2) → (fmi ok num d j = -2 ↔ ∀ q, j ≤ q → q < j + d → ok q = true)
  | 0, j, _ => ⟨fun _ q h1 h2 => absurd h2 (by omega), fun _ => rfl⟩
  | d + 1, j, hn => by
    show (if ok j then fmi ok num d (j + 1) else num j) = -2 ↔ _
    by_cases c : ok j = true
    · rw [if_pos c, fmi_m2 (d := d) (j := j + 1) (fun q hq => hn q (by omega))]
      constructor
      · intro h q h1 h2
        by_cases e : q = j
        · subst e; exact c
        · exact h q (by omega) (by omega)
      · intro h q h1 h2
        exact h q (by omega) (by omega)
    · rw [if_neg c]
      exact ⟨fun h => absurd h (hn j (by omega)), fun h => absurd (h j (Nat.le_refl _) (by omega)) c⟩
theorem fmi_al {ok : Nat → Bool} {num : Nat → Int32} {h : Nat} (hn : ∀ q, q < h → ¬ num q = -2) : fmi ok num h 0 = -2 ↔ al ok h = true := by
  rw [fmi_m2 (fun q hq => hn q (by omega)), al_iff]
  exact ⟨fun a j hj => a j (Nat.zero_le _) (by omega), fun a j _ hj => a j (by omega)⟩
section Mis
variable {M : Mm} {X p n w i kk r h f0 : Nat} (C : SC M X p n w i kk r h f0)
theorem nm_ne (C : SC M X p n w i kk r h f0) (hk : kk < 2 ^ 30) : ∀ q, q < h → ¬ nmb M X i f0 q = -2 := by
  obtain ⟨hi, hw, hP, hD, q1, q2, q3, q4, q5, q6, q7, q8, q9, q10, q11, q12, q13, q14, q15⟩ := C
  intro q hq e
  obtain ⟨⟨u, hu, u1, u2⟩, -⟩ := q15 q hq
  unfold nmb at e
  rw [u2] at e
  have e2 := congrArg Int32.toInt e
  rw [nI_toInt (by omega)] at e2
  have e3 : (-2 : Int32).toInt = -2 := by decide
  rw [e3] at e2
  omega
theorem om_c (C : SC M X p n w i kk r h f0) {M' : Mm} {f nn : Nat} (V : VC X kk M M') (hf : f < p) : f_X9_oldestMiss M' (aSq X i) (X + 1) (X + 6) (nI f) (nI nn) = some (fmi (okb M X i kk f0 f nn) (nmb M X i f0) h 0) := by
  obtain ⟨hi, hw, hP, hD, q1, q2, q3, q4, q5, q6, q7, q8, q9, q10, q11, q12, q13, q14, q15⟩ := id C
  obtain ⟨hS, v2, v3, v4, v5⟩ := id V
  have p8 := hP.1
  have f8 : f < 8 := by omega
  have s1 : aSq X i < X + 212 := by unfold aSq; omega
  have s2 : ∀ nu, 901 ≤ nu → mI M' nu (aSq X i) = mI M nu (aSq X i) := fun nu hn => v2 _ _ s1 (by omega)
  unfold f_X9_oldestMiss
  rw [if_pos (k_aSq hS hi), r_6_300 hS, ob_eq, aj_7 hS f8, ob_eq, v4 _ (by omega)]
  have main : ∀ d j fu, j + d = h → d < fu → f_X9_oldestMiss_L11 M' fu (aSq X i) (X + 1) (X + 6) (nI f) (nI nn) (mB M (X + 7) f) (nI j) = some (fmi (okb M X i kk f0 f nn) (nmb M X i f0) d j) := by
    intro d
    induction d with
    | zero =>
      intro j fu h1 h2
      obtain ⟨fu, rfl⟩ : ∃ k, fu = k + 1 := ⟨fu - 1, by omega⟩
      rw [f_X9_oldestMiss_L11, gi_aSq hS hi, ob_eq, s2 _ (by decide), q10, if_pos (nI_le (by omega) (by omega))]
      rfl
    | succ d ih =>
      intro j fu h1 h2
      obtain ⟨fu, rfl⟩ : ∃ k, fu = k + 1 := ⟨fu - 1, by omega⟩
      have hm : (f0 + j) % 8 < 8 := Nat.mod_lt _ (by decide)
      have l1 : aHd X i ((f0 + j) % 8) < X + 212 := by unfold aHd; omega
      have n1 : ¬ (301 = 301 ∧ aHd X i ((f0 + j) % 8) = X + 6) := by unfold aHd; omega
      rw [f_X9_oldestMiss_L11, gi_aSq hS hi, ob_eq, s2 _ (by decide), q10, if_neg (nI_ge (by omega) (by omega)), rf_in hS hi (by rw [s2 _ (by decide)]; exact q13) q12 (by omega), ob_eq, r_aSq_900 hS hi, ob_eq, gvc V hi hm hP hf, ob_eq, fo_c hS f8, ob_eq, v3 _ (by omega), ob_eq, gi_aHd hS hi hm, ob_eq, v2 _ _ l1 n1, nI_1, ih (j + 1) fu (by omega) (by omega)]
      show _ = some (if okb M X i kk f0 f nn j then _ else _)
      unfold okb
      by_cases c : fo (mA M (X + 3) f) (gv M X i kk f ((f0 + j) % 8)) (nI nn) (mB M (X + 7) f) = mB M (X + 7) f
      · rw [if_pos ((lgc_eq _ _).mpr c), if_pos (decide_eq_true c)]
      · rw [if_neg (fun q => c ((lgc_eq _ _).mp q)), if_neg (fun q => c (of_decide_eq_true q))]
        rfl
  exact main h 0 1000 (by omega) (by omega)
theorem igA (C : SC M X p n w i kk r h f0) (hk : kk < 2 ^ 30) {M' : Mm} {f : Nat} (V : VC X kk M M') (hf : f < p) : f_X9_isGivenByAll M' (aSq X i) (X + 1) (X + 6) (nI f) = some (if al (okb M X i kk f0 f 0) h then 1 else 0) := by
  have e : f_X9_oldestMiss M' (aSq X i) (X + 1) (X + 6) (nI f) 0 = _ := om_c (nn := 0) C V hf
  unfold f_X9_isGivenByAll
  rw [if_pos (k_aSq V.1 C.1), e, ob_eq]
  have k := fmi_al (ok := okb M X i kk f0 f 0) (nm_ne C hk)
  by_cases c : al (okb M X i kk f0 f 0) h = true
  · rw [if_pos (k.mpr c), if_pos c]
  · rw [if_neg (fun q => c (k.mp q)), if_neg c]
theorem one_r (C : SC M X p n w i kk r h f0) {R : Mm} {f nn j : Nat} (V : RV X M R) (hf : f < p) (hj : j < h) (hn : ∀ wd, mA M (X + 3) f = nI wd → wd ≤ 32 → nn ≤ wd) : f_X11_finds R (X + 226) (nI f) (gv M X i kk f ((f0 + j) % 8)) (mB M (X + 7) f) (nI nn) = some (if okb M X i kk f0 f nn j then 1 else 0) := by
  obtain ⟨hi, hw, hP, hD, hQ⟩ := id C
  have p8 := hP.1
  obtain ⟨-, wd, u, w1, w2, w3, u1, u2⟩ := hD.1 f hf
  obtain ⟨k1, k2, -⟩ := hP.2.2.2 f hf
  have e : mA R (X + 228) f = nI wd := by rw [V.2.1 228 (by omega), k2, w1]
  rw [u2, fo_r V.1 (by omega) e (hn wd w1 w3) w3 u1]
  unfold okb
  rw [w1, u2]
  by_cases c : fo (nI wd) (gv M X i kk f ((f0 + j) % 8)) (nI nn) (lN u) = lN u
  · rw [if_pos c, if_pos (decide_eq_true c)]
  · rw [if_neg c, if_neg (fun q => c (of_decide_eq_true q))]
theorem dr_r (C : SC M X p n w i kk r h f0) {R : Mm} {f : Nat} (V : RV X M R) (hf : f < p) : aJ R (X + 231) (nI f) = some (mB M (X + 7) f) := by
  obtain ⟨hi, hw, hP, hD, hQ⟩ := id C
  have p8 := hP.1
  rw [aj_231 V.1 (by omega), V.2.2.1 231 (by omega), (hD.1 f hf).1]
theorem sv_r (C : SC M X p n w i kk r h f0) {R : Mm} {f nn : Nat} (V : RV X M R) (hf : f < p) (h36 : mA R (X + 236) i = nI h) (hn : ∀ wd, mA M (X + 3) f = nI wd → wd ≤ 32 → nn ≤ wd) : f_X11_serves R (X + 226) (nI i) (nI f) (nI kk) (nI nn) = some (if al (okb M X i kk f0 f nn) h then 1 else 0) := by
  obtain ⟨hi, hw, hP, hD, hQ⟩ := id C
  have h8 : h ≤ 8 := by have := hQ.2.2.2.2.2.2.2.2.1; omega
  have p8 := hP.1
  have hS := V.1
  have d10 : ¬ (1 : Int32) = 0 := by decide
  unfold f_X11_serves
  rw [if_pos (k_226 hS)]
  exact loop_run (fun fu j => f_X11_serves_L6 R fu (X + 226) (nI i) (nI f) (nI kk) (nI nn) (if al (okb M X i kk f0 f nn) j then 1 else 0) (nI j)) h _
    (fun j fu hj => by
      show f_X11_serves_L6 R (fu + 1) (X + 226) (nI i) (nI f) (nI kk) (nI nn) (if al (okb M X i kk f0 f nn) j then 1 else 0) (nI j) = f_X11_serves_L6 R fu (X + 226) (nI i) (nI f) (nI kk) (nI nn) (if (al (okb M X i kk f0 f nn) j && okb M X i kk f0 f nn j) then 1 else 0) (nI (j + 1))
      rw [f_X11_serves_L6, r_226_1113 hS, ob_eq, ai_236 hS hi, ob_eq, h36, if_neg (nI_ge hj (by omega)), gvr V hi hP hD hf hw hQ hj, ob_eq, r_226_1108 hS, ob_eq, dr_r C V hf, ob_eq, one_r C V hf hj hn, ob_eq]
      unfold f_X11_serves_J51 f_X11_serves_J52
      rw [nI_1]
      cases al (okb M X i kk f0 f nn) j with
      | false => rfl
      | true =>
        cases okb M X i kk f0 f nn j with
        | false => rfl
        | true => rfl)
    (fun fu => by
      show f_X11_serves_L6 R (fu + 1) (X + 226) (nI i) (nI f) (nI kk) (nI nn) (if al (okb M X i kk f0 f nn) h then 1 else 0) (nI h) = _
      rw [f_X11_serves_L6, r_226_1113 hS, ob_eq, ai_236 hS hi, ob_eq, h36, if_pos (nI_le (Nat.le_refl _) (by omega))]
      cases al (okb M X i kk f0 f nn) h with
      | false => rfl
      | true => rfl) 1000 (by omega)
theorem ga_r (C : SC M X p n w i kk r h f0) {R : Mm} {f : Nat} (V : RV X M R) (hf : f < p) (h36 : mA R (X + 236) i = nI h) : f_X11_giveAll R (X + 226) (nI i) (nI f) (nI kk) = some (if al (okb M X i kk f0 f 0) h then 1 else 0) := by
  obtain ⟨hi, hw, hP, hD, hQ⟩ := id C
  have h8 : h ≤ 8 := by have := hQ.2.2.2.2.2.2.2.2.1; omega
  have p8 := hP.1
  have hS := V.1
  have d10 : ¬ (1 : Int32) = 0 := by decide
  unfold f_X11_giveAll
  rw [if_pos (k_226 hS)]
  exact loop_run (fun fu j => f_X11_giveAll_L6 R fu (X + 226) (nI i) (nI f) (nI kk) (if al (okb M X i kk f0 f 0) j then 1 else 0) (nI j)) h _
    (fun j fu hj => by
      show f_X11_giveAll_L6 R (fu + 1) (X + 226) (nI i) (nI f) (nI kk) (if al (okb M X i kk f0 f 0) j then 1 else 0) (nI j) = f_X11_giveAll_L6 R fu (X + 226) (nI i) (nI f) (nI kk) (if (al (okb M X i kk f0 f 0) j && okb M X i kk f0 f 0 j) then 1 else 0) (nI (j + 1))
      rw [f_X11_giveAll_L6, r_226_1113 hS, ob_eq, ai_236 hS hi, ob_eq, h36, if_neg (nI_ge hj (by omega)), gvr V hi hP hD hf hw hQ hj, ob_eq, r_226_1108 hS, ob_eq, dr_r C V hf, ob_eq]
      have eo : okb M X i kk f0 f 0 j = decide (gv M X i kk f ((f0 + j) % 8) = mB M (X + 7) f) := by
        unfold okb fo
        rw [if_neg (by decide)]
      rw [eo]
      unfold f_X11_giveAll_J45 f_X11_giveAll_J46
      rw [nI_1]
      cases al (okb M X i kk f0 f 0) j with
      | false => rfl
      | true =>
        rw [if_neg (show ¬ (if true = true then (1 : Int32) else 0) = 0 from d10), Bool.true_and]
        by_cases c : gv M X i kk f ((f0 + j) % 8) = mB M (X + 7) f
        · rw [if_pos ((lgc_eq _ _).mpr c), if_pos (decide_eq_true c)]
        · rw [if_neg (fun q => c ((lgc_eq _ _).mp q)), if_neg (fun q => c (of_decide_eq_true q))])
    (fun fu => by
      show f_X11_giveAll_L6 R (fu + 1) (X + 226) (nI i) (nI f) (nI kk) (if al (okb M X i kk f0 f 0) h then 1 else 0) (nI h) = _
      rw [f_X11_giveAll_L6, r_226_1113 hS, ob_eq, ai_236 hS hi, ob_eq, h36, if_pos (nI_le (Nat.le_refl _) (by omega))]
      cases al (okb M X i kk f0 f 0) h with
      | false => rfl
      | true => rfl) 1000 (by omega)
theorem fl_r (C : SC M X p n w i kk r h f0) {R : Mm} {f nn : Nat} (V : RV X M R) (hf : f < p) (h36 : mA R (X + 236) i = nI h) (hn : ∀ wd, mA M (X + 3) f = nI wd → wd ≤ 32 → nn ≤ wd) (hnn : nn < 2 ^ 30) : f_X11_fails R (X + 226) (nI i) (nI f) (nI kk) (nI nn) = some (fmi (okb M X i kk f0 f nn) (nmb M X i f0) h 0) := by
  obtain ⟨hi, hw, hP, hD, hQ⟩ := id C
  have h8 : h ≤ 8 := by have := hQ.2.2.2.2.2.2.2.2.1; omega
  have hS := V.1
  have hR := hQ.2.2.2.2.2.2.2.2.2.2.2.2.2.2
  unfold f_X11_fails
  rw [if_pos (k_226 hS), r_226_1113 hS, ob_eq, ai_236 hS hi, ob_eq, h36]
  have main : ∀ j fu, j ≤ h → j < fu → f_X11_fails_L14 R fu (X + 226) (nI i) (nI f) (nI kk) (nI nn) (fmi (okb M X i kk f0 f nn) (nmb M X i f0) (h - j) j) (nI j - 1) = some (fmi (okb M X i kk f0 f nn) (nmb M X i f0) h 0) := by
    intro j
    induction j with
    | zero =>
      intro fu h1 h2
      obtain ⟨fu, rfl⟩ : ∃ k, fu = k + 1 := ⟨fu - 1, by omega⟩
      rw [f_X11_fails_L14, if_pos (by decide)]
      rfl
    | succ j ih =>
      intro fu h1 h2
      obtain ⟨fu, rfl⟩ : ∃ k, fu = k + 1 := ⟨fu - 1, by omega⟩
      obtain ⟨⟨u, hu, u1, u2⟩, -⟩ := hR j (by omega)
      have e := ih fu (by omega) (by omega)
      rw [show h - j = h - (j + 1) + 1 by omega] at e
      have e' : f_X11_fails_L14 R fu (X + 226) (nI i) (nI f) (nI kk) (nI nn) (if okb M X i kk f0 f nn j then fmi (okb M X i kk f0 f nn) (nmb M X i f0) (h - (j + 1)) (j + 1) else nmb M X i f0 j) (nI j - 1) = some (fmi (okb M X i kk f0 f nn) (nmb M X i f0) h 0) := e
      rw [f_X11_fails_L14, m1I, if_neg (nI_pos (by omega)), if_neg (nI_pos (by omega)), gvr V hi hP hD hf hw hQ (by omega), ob_eq, r_226_1108 hS, ob_eq, dr_r C V hf, ob_eq, one_r C V hf (by omega) hn, ob_eq]
      unfold f_X11_fails_J66
      rw [r_226_1114 hS, ob_eq, m9, nI_add, ai_237 hS (by omega), ob_eq, V.2.1 237 (by omega), u1, ← u2, sub1]
      cases c : okb M X i kk f0 f nn j with
      | false =>
        rw [c] at e'
        exact e'
      | true =>
        rw [c] at e'
        exact e'
  have e := main h 1000 (Nat.le_refl _) (by omega)
  rw [Nat.sub_self] at e
  exact e
end Mis
/-! the sum of a header -/
def sm8 (v : Nat → Int64) : Nat → Nat
  | 0 => 17
  | f + 1 => (sm8 v f * 31 + tN (v f)) % 256
theorem sm8_lt {v : Nat → Int64} : ∀ f, sm8 v f < 256
  | 0 => by show 17 < 256; decide
  | f + 1 => Nat.mod_lt _ (by decide)
theorem sum_c {M : Mm} {X p H V : Nat} {v : Nat → Int64} (hS : St M X) (p1 : mI M 604 (X + 1) = nI p) (p8 : p ≤ 8) (hR : gR M 4 300 H = some V) (hv : ∀ f, f < p → aJ M V (nI f) = some (v f)) : f_X6_sumOf M (X + 1) H = some (nI (sm8 v p)) := by
  unfold f_X6_sumOf
  rw [if_pos (k_1 hS)]
  exact loop_run (fun fu f => f_X6_sumOf_L7 M fu (X + 1) H (lN (sm8 v f)) (nI f)) p _
    (fun f fu hf => by
      show f_X6_sumOf_L7 M (fu + 1) (X + 1) H (lN (sm8 v f)) (nI f) = f_X6_sumOf_L7 M fu (X + 1) H (lN ((sm8 v f * 31 + tN (v f)) % 256)) (nI (f + 1))
      have e1 : f_X10_lowest (lN (sm8 v f) * 31 + v f) 8 = some (lN ((sm8 v f * 31 + tN (v f)) % 2 ^ 8)) := by
        unfold f_X10_lowest
        have e2 : lN (sm8 v f) * 31 + v f = lN (sm8 v f * 31 + tN (v f)) := by
          have a1 : lN (sm8 v f) * 31 = lN (sm8 v f * 31) := lN_mul _ 31
          have a2 := lN_add (sm8 v f * 31) (tN (v f))
          rw [lN_tN] at a2
          rw [a1, a2]
        rw [e2]
        exact congrArg some (mk_and (wd := 8) (by decide))
      rw [f_X6_sumOf_L7, gi_1 hS, ob_eq, p1, if_neg (nI_ge hf (by omega)), hR, ob_eq, hv f hf, ob_eq, e1, ob_eq, nI_1])
    (fun fu => by
      show f_X6_sumOf_L7 M (fu + 1) (X + 1) H (lN (sm8 v p)) (nI p) = _
      rw [f_X6_sumOf_L7, gi_1 hS, ob_eq, p1, if_pos (nI_le (Nat.le_refl _) (by omega)), lN_i]) 1000 (by omega)
theorem s11 {M : Mm} {X a : Nat} {v : Int64} (hS : St M X) (ha : a < 256) : f_X11_sumOf M (X + 226) (nI a).toInt64 v = some (nI ((a * 31 + tN v) % 256)) := by
  unfold f_X11_sumOf
  have e2 : (31 : Int64) * (nI a).toInt64 + v = lN (a * 31 + tN v) := by
    have a1 : (31 : Int64) * lN a = lN (31 * a) := lN_mul 31 _
    have a2 := lN_add (31 * a) (tN v)
    rw [lN_tN] at a2
    rw [nI_l (by omega), a1, a2, Nat.mul_comm]
  have e3 : lN (a * 31 + tN v) &&& 255 = lN ((a * 31 + tN v) % 2 ^ 8) := by
    have : lN (a * 31 + tN v) &&& lN (2 ^ 8 - 1) = _ := andL _ _
    rw [Nat.and_two_pow_sub_one_eq_mod] at this
    exact this
  rw [if_pos (k_226 hS), e2, e3, lN_i]
theorem sum_r {M : Mm} {X p : Nat} {v : Nat → Int64} (hS : St M X) (p1 : mI M 1101 (X + 226) = nI p) (p8 : p ≤ 8) (hv : ∀ f, f < p → aJ M (X + 231) (nI f) = some (v f)) : f_X11_draftSum M (X + 226) = some (nI (sm8 v p)) := by
  unfold f_X11_draftSum
  rw [if_pos (k_226 hS)]
  exact loop_run (fun fu f => f_X11_draftSum_L5 M fu (X + 226) (nI (sm8 v f)) (nI f)) p _
    (fun f fu hf => by
      show f_X11_draftSum_L5 M (fu + 1) (X + 226) (nI (sm8 v f)) (nI f) = f_X11_draftSum_L5 M fu (X + 226) (nI ((sm8 v f * 31 + tN (v f)) % 256)) (nI (f + 1))
      rw [f_X11_draftSum_L5, gi_226 hS, ob_eq, p1, if_neg (nI_ge hf (by omega)), r_226_1108 hS, ob_eq, hv f hf, ob_eq, s11 hS (sm8_lt f), ob_eq, nI_1])
    (fun fu => by
      show f_X11_draftSum_L5 M (fu + 1) (X + 226) (nI (sm8 v p)) (nI p) = _
      rw [f_X11_draftSum_L5, gi_226 hS, ob_eq, p1, if_pos (nI_le (Nat.le_refl _) (by omega))]) 1000 (by omega)
end
section
/-! The least n: found by the class (findLeast), and by the reference (the loop in sendShort). -/
def lst (P : Nat → Bool) : Nat → Nat → Nat
  | 0, j => j
  | d + 1, j => if P j then j else lst P d (j + 1)
theorem lst_spec {P : Nat → Bool} : ∀ {d j : Nat}, P (j + d) = true → P (lst P d j) = true ∧ j ≤ lst P d j ∧ lst P d j ≤ j + d ∧ ∀ q, j ≤ q → q < lst P d j → ¬ P q = true
  | 0, j, h => ⟨h, Nat.le_refl _, Nat.le_refl _, fun q h1 h2 => absurd h2 (by show ¬ q < j; omega)⟩
  | d + 1, j, h => by
    by_cases c : P j = true
    · have e : lst P (d + 1) j = j := if_pos c
      rw [e]
      exact ⟨c, Nat.le_refl _, by omega, fun q h1 h2 => absurd h2 (by omega)⟩
    · have e : lst P (d + 1) j = lst P d (j + 1) := if_neg c
      rw [e]
      obtain ⟨a1, a2, a3, a4⟩ := lst_spec (P := P) (d := d) (j := j + 1) (by rw [show j + 1 + d = j + (d + 1) by omega]; exact h)
      refine ⟨a1, by omega, by omega, fun q h1 h2 => ?_⟩
      by_cases e2 : q = j
      · subst e2; exact c
      · exact a4 q (by omega) h2
theorem sA_comm (M : Mm) {a b : Nat} (g g2 : Nat → Int32) (h : ¬ a = b) : sA (sA M a g) b g2 = sA (sA M b g2) a g := by
  have e : va_up (va_up (mA M) a g) b g2 = va_up (va_up (mA M) b g2) a g := by
    funext x
    by_cases q : x = b
    · subst q; rw [vau_eq, vau_ne (fun e => h e.symm), vau_eq]
    · rw [vau_ne q]
      by_cases q2 : x = a
      · subst q2; rw [vau_eq, vau_eq]
      · rw [vau_ne q2, vau_ne q2, vau_ne q]
  show (mK M, mN M, mI M, mJ M, mR M, va_up (va_up (mA M) a g) b g2, mB M, mQ M, mS M) = _
  rw [e]; rfl
/-- two rows of the proof -/
def uv (M : Mm) (U V : Nat) (g1 g2 : Nat → Int32) : Mm := sA (sA M U g1) V g2
theorem uv_uv {M : Mm} {U V : Nat} {g1 g2 k1 k2 : Nat → Int32} (h : ¬ U = V) : uv (uv M U V g1 g2) U V k1 k2 = uv M U V k1 k2 := by
  unfold uv
  rw [sA_comm _ _ _ h, sA_sA, sA_comm _ _ _ (fun e => h e.symm), sA_sA]
theorem uv_u {M : Mm} {U V f : Nat} {a b : Int32} (h : ¬ U = V) : sU (sU M U f a) V f b = uv M U V (va_up (mA M U) f a) (va_up (mA M V) f b) := by
  show sA (sU M U f a) V (va_up (mA (sU M U f a) V) f b) = _
  rw [mA_sUx (fun e => h e.symm)]
  rfl
theorem uv_U {M : Mm} {U V : Nat} {g1 g2 : Nat → Int32} (h : ¬ U = V) : mA (uv M U V g1 g2) U = g1 := by unfold uv; rw [mA_sA, if_neg h, mA_sA, if_pos rfl]
theorem uv_V {M : Mm} {U V : Nat} {g1 g2 : Nat → Int32} : mA (uv M U V g1 g2) V = g2 := by unfold uv; rw [mA_sA, if_pos rfl]
theorem uv_o {M : Mm} {U V a : Nat} {g1 g2 : Nat → Int32} (h : ¬ a = U) (h2 : ¬ a = V) : mA (uv M U V g1 g2) a = mA M a := by unfold uv; rw [mA_sA, if_neg h2, mA_sA, if_neg h]
theorem VC_uv {M M' : Mm} {X k U V : Nat} {g1 g2 : Nat → Int32} (W : VC X k M M') (hU : X + 212 ≤ U) (hV : X + 212 ≤ V) : VC X k M (uv M' U V g1 g2) :=
  ⟨St_sA (St_sA W.1), W.2.1, fun a ha => by rw [uv_o (by omega) (by omega)]; exact W.2.2.1 a ha, W.2.2.2.1, W.2.2.2.2⟩
theorem VC_pn {M M' : Mm} {X k m : Nat} {b : Nat → Nat} (W : VC X k M M') : VC X k M (pn M' X b m) := by
  refine ⟨St_pn W.1, fun nu a ha hn => ?_, fun a ha => ?_, W.2.2.2.1, ?_⟩
  · unfold pn; rw [mI_sA, mI_sI, if_neg (by omega : ¬ a = X + 212), ite_self]; exact W.2.1 nu a ha hn
  · unfold pn; rw [mA_sA, if_neg (by omega), mA_sI]; exact W.2.2.1 a ha
  · unfold pn; rw [mI_sA, mI_sI, if_neg (by decide)]; exact W.2.2.2.2
theorem RV_rm {M R : Mm} {X m : Nat} {b : Nat → Nat} (W : RV X M R) : RV X M (rm R X b m) := by
  refine ⟨St_rm W.1, fun o ho => ?_, W.2.2.1, ?_⟩
  · unfold rm; rw [mA_sA, if_neg (by omega), mA_sI]; exact W.2.1 o ho
  · unfold rm; rw [mI_sA, mI_sI, if_neg (by decide)]; exact W.2.2.2
def msn (M : Mm) (X i kk f0 h f nn : Nat) : Int32 := if nn = 0 then -2 else fmi (okb M X i kk f0 f (nn - 1)) (nmb M X i f0) h 0
def lsn (M : Mm) (X i kk f0 h f : Nat) : Nat := lst (fun nn => al (okb M X i kk f0 f nn) h) (ix (mA M (X + 3) f)) 0
section Lst
variable {M : Mm} {X p n w i kk r h f0 : Nat}
theorem ok_w (C : SC M X p n w i kk r h f0) {f wd j : Nat} (hf : f < p) (hw : mA M (X + 3) f = nI wd) (h1 : 1 ≤ wd) (h3 : wd ≤ 32) : okb M X i kk f0 f wd j = true := by
  obtain ⟨-, -, hP, hD, -⟩ := C
  obtain ⟨-, wd', u, w1, w2, w3, u1, u2⟩ := hD.1 f hf
  have ew : wd' = wd := by
    have : nI wd' = nI wd := w1.symm.trans hw
    exact (nI_eq (by omega) (by omega)).mp this
  subst ew
  unfold okb
  rw [hw, u2]
  refine decide_eq_true ((fo_iff h1 (Nat.le_refl _) h3 u1).mpr ?_)
  have x1 := mk_and (u := tN (lN u - gv M X i kk f ((f0 + j) % 8) + hf2 (nI wd'))) (wd := wd') (by omega)
  rw [lN_tN] at x1
  have pw : (2 : Nat) ^ wd' ≤ 2 ^ 32 := Nat.pow_le_pow_right (by decide) h3
  have b := Nat.mod_lt (tN (lN u - gv M X i kk f ((f0 + j) % 8) + hf2 (nI wd'))) (Nat.two_pow_pos wd')
  rw [x1, shl1 _ (by omega), pk_lLT (by omega) (by omega)]
  exact b
theorem ls_spec (C : SC M X p n w i kk r h f0) {f wd : Nat} (hf : f < p) (hw : mA M (X + 3) f = nI wd) (h1 : 1 ≤ wd) (h3 : wd ≤ 32) : lsn M X i kk f0 h f ≤ wd ∧ al (okb M X i kk f0 f (lsn M X i kk f0 h f)) h = true ∧ ∀ q, q < lsn M X i kk f0 h f → ¬ al (okb M X i kk f0 f q) h = true := by
  have e : lsn M X i kk f0 h f = lst (fun nn => al (okb M X i kk f0 f nn) h) wd 0 := by unfold lsn; rw [hw, ix_nI (by omega)]
  have hp : (fun nn => al (okb M X i kk f0 f nn) h) (0 + wd) = true := by
    show al (okb M X i kk f0 f (0 + wd)) h = true
    rw [Nat.zero_add]
    exact al_iff.mpr (fun j _ => ok_w C hf hw h1 h3)
  obtain ⟨a1, a2, a3, a4⟩ := lst_spec (P := fun nn => al (okb M X i kk f0 f nn) h) hp
  rw [e]
  exact ⟨by omega, a1, fun q hq => a4 q (Nat.zero_le _) hq⟩
theorem fl_c (C : SC M X p n w i kk r h f0) (hk : kk < 2 ^ 30) {Q : Mm} {f P U V : Nat} (W : VC X kk M Q) (hf : f < p) (kP : mK Q P = 8) (rU : mR Q 700 P = some U) (rV : mR Q 701 P = some V) (kU : mK Q U = 20) (nU : mN Q U = 8) (kV : mK Q V = 20) (nV : mN Q V = 8) (hUV : ¬ U = V) (hU : X + 212 ≤ U) (hV : X + 212 ≤ V) :
    f_X9_findLeast Q (aSq X i) (X + 1) (X + 6) (nI f) P = some (uv Q U V (va_up (mA Q U) f (nI (lsn M X i kk f0 h f))) (va_up (mA Q V) f (msn M X i kk f0 h f (lsn M X i kk f0 h f)))) := by
  obtain ⟨hi, hw, hP, hD, hQ⟩ := id C
  have p8 := hP.1
  have f8 : f < 8 := by omega
  obtain ⟨-, -, -, ⟨wd, w1, w2, w3⟩, -⟩ := hP.2.2.2 f hf
  obtain ⟨l1, l2, l3⟩ := ls_spec C hf w3 w1 w2
  generalize hL : lsn M X i kk f0 h f = L at l1 l2 l3
  have main : ∀ d nn fu N, nn + d = L → d < fu → (∃ g1 g2, N = uv Q U V g1 g2 ∧ (∀ j, ¬ j = f → g1 j = mA Q U j ∧ g2 j = mA Q V j)) → f_X9_findLeast_L7 fu N (aSq X i) (X + 1) (X + 6) (nI f) P (msn M X i kk f0 h f nn) (nI nn) = some (uv Q U V (va_up (mA Q U) f (nI L)) (va_up (mA Q V) f (msn M X i kk f0 h f L))) := by
    intro d
    have step : ∀ nn fu N, nn ≤ L → (∃ g1 g2, N = uv Q U V g1 g2 ∧ (∀ j, ¬ j = f → g1 j = mA Q U j ∧ g2 j = mA Q V j)) → f_X9_findLeast_L7 (fu + 1) N (aSq X i) (X + 1) (X + 6) (nI f) P (msn M X i kk f0 h f nn) (nI nn) = if nn = L then some (uv Q U V (va_up (mA Q U) f (nI nn)) (va_up (mA Q V) f (msn M X i kk f0 h f nn))) else f_X9_findLeast_L7 fu (uv Q U V (va_up (mA Q U) f (nI nn)) (va_up (mA Q V) f (msn M X i kk f0 h f nn))) (aSq X i) (X + 1) (X + 6) (nI f) P (msn M X i kk f0 h f (nn + 1)) (nI (nn + 1)) := by
      intro nn fu N hnn ⟨g1, g2, eN, hg⟩
      have WN : VC X kk M N := by rw [eN]; exact VC_uv W hU hV
      have hS := WN.1
      have a3 : mA N (X + 3) f = nI wd := by rw [WN.2.2.1 _ (by omega)]; exact w3
      have kN : mK N = mK Q := by rw [eN]; rfl
      have nN : mN N = mN Q := by rw [eN]; rfl
      have rN : mR N = mR Q := by rw [eN]; rfl
      have e7 : sU (sU N U f (nI nn)) V f (msn M X i kk f0 h f nn) = uv Q U V (va_up (mA Q U) f (nI nn)) (va_up (mA Q V) f (msn M X i kk f0 h f nn)) := by
        rw [uv_u hUV, eN, uv_uv hUV, uv_U hUV, uv_V]
        have c1 : va_up g1 f (nI nn) = va_up (mA Q U) f (nI nn) := by
          funext j
          by_cases q : j = f
          · subst q; rw [vau_eq, vau_eq]
          · rw [vau_ne q, vau_ne q]; exact (hg j q).1
        have c2 : va_up g2 f (msn M X i kk f0 h f nn) = va_up (mA Q V) f (msn M X i kk f0 h f nn) := by
          funext j
          by_cases q : j = f
          · subst q; rw [vau_eq, vau_eq]
          · rw [vau_ne q, vau_ne q]; exact (hg j q).2
        rw [c1, c2]
      have W7 : VC X kk M (uv Q U V (va_up (mA Q U) f (nI nn)) (va_up (mA Q V) f (msn M X i kk f0 h f nn))) := VC_uv W hU hV
      rw [f_X9_findLeast_L7, r_1_601 hS, ob_eq, ai_3 hS f8, ob_eq, a3, if_neg (nI_nlt (by omega) (by omega)), gR_of (by rw [kN]; exact kP) (by rw [rN]; exact rU), ob_eq, wI_of (n := 8) (by rw [kN]; exact kU) (by rw [nN]; exact nU) f8 (by decide), ob_eq, sU_def, gR_of (show mK (sU N U f (nI nn)) P = 8 by show mK N P = 8; rw [kN]; exact kP) (show mR (sU N U f (nI nn)) 701 P = some V by show mR N 701 P = some V; rw [rN]; exact rV), ob_eq, wI_of (n := 8) (show mK (sU N U f (nI nn)) V = 20 by show mK N V = 20; rw [kN]; exact kV) (show mN (sU N U f (nI nn)) V = 8 by show mN N V = 8; rw [nN]; exact nV) f8 (by decide), ob_eq, sU_def, e7, om_c C W7 hf, ob_eq, nI_1]
      have k := fmi_al (ok := okb M X i kk f0 f nn) (nm_ne C hk)
      have em : msn M X i kk f0 h f (nn + 1) = fmi (okb M X i kk f0 f nn) (nmb M X i f0) h 0 := by unfold msn; rw [if_neg (by omega), Nat.add_sub_cancel]
      rw [em]
      by_cases c : nn = L
      · subst c
        rw [if_pos (k.mpr l2), if_pos rfl]
      · rw [if_neg (fun q => l3 nn (by omega) (k.mp q)), if_neg c]
    induction d with
    | zero =>
      intro nn fu N h1 h2 h3
      obtain ⟨fu, rfl⟩ : ∃ k, fu = k + 1 := ⟨fu - 1, by omega⟩
      rw [step nn fu N (by omega) h3, if_pos (by omega), show nn = L by omega]
    | succ d ih =>
      intro nn fu N h1 h2 h3
      obtain ⟨fu, rfl⟩ : ∃ k, fu = k + 1 := ⟨fu - 1, by omega⟩
      rw [step nn fu N (by omega) h3, if_neg (by omega)]
      exact ih (nn + 1) fu _ (by omega) (by omega) ⟨_, _, rfl, fun j hj => ⟨vau_ne hj, vau_ne hj⟩⟩
  unfold f_X9_findLeast
  rw [if_pos (k_aSq W.1 hi)]
  refine main L 0 1000 Q (by omega) (by omega) ⟨mA Q U, mA Q V, ?_, fun j _ => ⟨rfl, rfl⟩⟩
  unfold uv
  rw [sA_self Q U (fun j => rfl), sA_self Q V (fun j => rfl)]
/-- the reference's loop for n -/
theorem l40_r (C : SC M X p n w i kk r h f0) {R : Mm} {f : Nat} {K : Mm → Nat → Int32 → Int32 → Int32 → Option (Mm × Int32)} (V : RV X M R) (hf : f < p) (h36 : mA R (X + 236) i = nI h) : f_X11_sendShort_L40 K 1000 R (X + 226) (nI i) (nI kk) (nI f) 0 = f_X11_sendShort_L40 K (1000 - lsn M X i kk f0 h f) R (X + 226) (nI i) (nI kk) (nI f) (nI (lsn M X i kk f0 h f)) := by
  obtain ⟨hi, hw, hP, hD, hQ⟩ := id C
  obtain ⟨-, -, -, ⟨wd, w1, w2, w3⟩, -⟩ := hP.2.2.2 f hf
  obtain ⟨l1, l2, l3⟩ := ls_spec C hf w3 w1 w2
  generalize hL : lsn M X i kk f0 h f = L at l1 l2 l3
  have main : ∀ q, q ≤ L → f_X11_sendShort_L40 K 1000 R (X + 226) (nI i) (nI kk) (nI f) 0 = f_X11_sendShort_L40 K (1000 - q) R (X + 226) (nI i) (nI kk) (nI f) (nI q) := by
    intro q
    induction q with
    | zero => intro _; rfl
    | succ q ih =>
      intro hq
      have hn : ∀ wd', mA M (X + 3) f = nI wd' → wd' ≤ 32 → q ≤ wd' := by
        intro wd' e h32
        have : nI wd' = nI wd := e.symm.trans w3
        have := (nI_eq (by omega) (by omega)).mp this
        omega
      rw [ih (by omega), show 1000 - q = 1000 - (q + 1) + 1 by omega, f_X11_sendShort_L40, sv_r C V hf h36 hn, ob_eq, if_neg (l3 q (by omega)), if_pos rfl, nI_1]
  exact main L (Nat.le_refl _)
end Lst
end
