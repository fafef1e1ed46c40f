-- ===== PART A: goes FIRST, ahead of the names: the tables' words, and 'selects' of the private methods out of them =====
/-- a private method of a class that the tables say can be made, by its rows of tables_1 -/
def lw_okq (q : MethodName × Nat) : Prop := (q.1.cls ≠ "java/lang/invoke/MethodHandle" ∧ q.1.cls ≠ "java/lang/invoke/VarHandle") ∧ Cond.instantiable q.1.cls q.2 ∈ tables_1 ∧ Cond.privateMethod q.1 ∈ tables_1 ∧ Cond.instanceMethod q.1 ∈ tables_1
theorem lw_p0 : lw_okq (⟨"PushedOver", "refresh", "()V"⟩, 13) := ⟨⟨by decide +kernel, by decide +kernel⟩, List.mem_of_getElem? (i := 14) (by decide +kernel), List.mem_of_getElem? (i := 214) (by decide +kernel), List.mem_of_getElem? (i := 215) (by decide +kernel)⟩
theorem lw_p1 : lw_okq (⟨"PushedOver$Slopes", "takes", "(I)Z"⟩, 5) := ⟨⟨by decide +kernel, by decide +kernel⟩, List.mem_of_getElem? (i := 61) (by decide +kernel), List.mem_of_getElem? (i := 242) (by decide +kernel), List.mem_of_getElem? (i := 243) (by decide +kernel)⟩
theorem lw_p2 : lw_okq (⟨"PushedOver$Slopes", "bendsLast", "()Z"⟩, 5) := ⟨⟨by decide +kernel, by decide +kernel⟩, List.mem_of_getElem? (i := 61) (by decide +kernel), List.mem_of_getElem? (i := 246) (by decide +kernel), List.mem_of_getElem? (i := 247) (by decide +kernel)⟩
theorem lw_p3 : lw_okq (⟨"PushedOver$Ride", "byRule", "(LPushedOver$Dials;I[I[I)I"⟩, 5) := ⟨⟨by decide +kernel, by decide +kernel⟩, List.mem_of_getElem? (i := 119) (by decide +kernel), List.mem_of_getElem? (i := 267) (by decide +kernel), List.mem_of_getElem? (i := 268) (by decide +kernel)⟩
theorem lw_p4 : lw_okq (⟨"PushedOver", "textAt", "(I)LPushedOver$Text;"⟩, 13) := ⟨⟨by decide +kernel, by decide +kernel⟩, List.mem_of_getElem? (i := 14) (by decide +kernel), List.mem_of_getElem? (i := 323) (by decide +kernel), List.mem_of_getElem? (i := 324) (by decide +kernel)⟩
theorem lw_p5 : lw_okq (⟨"PushedOver", "engineAt", "(I)LPushedOver$Dials;"⟩, 13) := ⟨⟨by decide +kernel, by decide +kernel⟩, List.mem_of_getElem? (i := 14) (by decide +kernel), List.mem_of_getElem? (i := 397) (by decide +kernel), List.mem_of_getElem? (i := 398) (by decide +kernel)⟩
theorem lw_p6 : lw_okq (⟨"PushedOver", "squeezedOffIn", "(I)I"⟩, 13) := ⟨⟨by decide +kernel, by decide +kernel⟩, List.mem_of_getElem? (i := 14) (by decide +kernel), List.mem_of_getElem? (i := 484) (by decide +kernel), List.mem_of_getElem? (i := 485) (by decide +kernel)⟩
theorem lw_p7 : lw_okq (⟨"PushedOver", "startOf", "(II)I"⟩, 13) := ⟨⟨by decide +kernel, by decide +kernel⟩, List.mem_of_getElem? (i := 14) (by decide +kernel), List.mem_of_getElem? (i := 530) (by decide +kernel), List.mem_of_getElem? (i := 531) (by decide +kernel)⟩
theorem lw_p8 : lw_okq (⟨"PushedOver", "findBestRow", "()V"⟩, 13) := ⟨⟨by decide +kernel, by decide +kernel⟩, List.mem_of_getElem? (i := 14) (by decide +kernel), List.mem_of_getElem? (i := 542) (by decide +kernel), List.mem_of_getElem? (i := 543) (by decide +kernel)⟩
theorem lw_p9 : lw_okq (⟨"PushedOver$BestRow", "begin", "(LPushedOver$Consist;)V"⟩, 8) := ⟨⟨by decide +kernel, by decide +kernel⟩, List.mem_of_getElem? (i := 141) (by decide +kernel), List.mem_of_getElem? (i := 550) (by decide +kernel), List.mem_of_getElem? (i := 551) (by decide +kernel)⟩
theorem lw_p10 : lw_okq (⟨"PushedOver$BestRow", "weigh", "(LPushedOver$Consist;II)V"⟩, 8) := ⟨⟨by decide +kernel, by decide +kernel⟩, List.mem_of_getElem? (i := 141) (by decide +kernel), List.mem_of_getElem? (i := 556) (by decide +kernel), List.mem_of_getElem? (i := 557) (by decide +kernel)⟩
theorem lw_p11 : lw_okq (⟨"PushedOver$BestRow", "keep", "()V"⟩, 8) := ⟨⟨by decide +kernel, by decide +kernel⟩, List.mem_of_getElem? (i := 141) (by decide +kernel), List.mem_of_getElem? (i := 561) (by decide +kernel), List.mem_of_getElem? (i := 562) (by decide +kernel)⟩
theorem lw_p12 : lw_okq (⟨"PushedOver$BestRow", "stepOn", "()Z"⟩, 8) := ⟨⟨by decide +kernel, by decide +kernel⟩, List.mem_of_getElem? (i := 141) (by decide +kernel), List.mem_of_getElem? (i := 568) (by decide +kernel), List.mem_of_getElem? (i := 569) (by decide +kernel)⟩
theorem lw_p13 : lw_okq (⟨"PushedOver$BestRow", "swap", "(II)V"⟩, 8) := ⟨⟨by decide +kernel, by decide +kernel⟩, List.mem_of_getElem? (i := 141) (by decide +kernel), List.mem_of_getElem? (i := 573) (by decide +kernel), List.mem_of_getElem? (i := 574) (by decide +kernel)⟩
theorem lw_p14 : lw_okq (⟨"PushedOver", "sheetAt", "(I)LPushedOver$Sheet;"⟩, 13) := ⟨⟨by decide +kernel, by decide +kernel⟩, List.mem_of_getElem? (i := 14) (by decide +kernel), List.mem_of_getElem? (i := 625) (by decide +kernel), List.mem_of_getElem? (i := 626) (by decide +kernel)⟩
theorem lw_p15 : lw_okq (⟨"PushedOver", "found", "(I)I"⟩, 13) := ⟨⟨by decide +kernel, by decide +kernel⟩, List.mem_of_getElem? (i := 14) (by decide +kernel), List.mem_of_getElem? (i := 633) (by decide +kernel), List.mem_of_getElem? (i := 634) (by decide +kernel)⟩
def lw_privs_1 : List (MethodName × Nat) := [(⟨"PushedOver", "refresh", "()V"⟩, 13), (⟨"PushedOver$Slopes", "takes", "(I)Z"⟩, 5), (⟨"PushedOver$Slopes", "bendsLast", "()Z"⟩, 5), (⟨"PushedOver$Ride", "byRule", "(LPushedOver$Dials;I[I[I)I"⟩, 5), (⟨"PushedOver", "textAt", "(I)LPushedOver$Text;"⟩, 13), (⟨"PushedOver", "engineAt", "(I)LPushedOver$Dials;"⟩, 13), (⟨"PushedOver", "squeezedOffIn", "(I)I"⟩, 13), (⟨"PushedOver", "startOf", "(II)I"⟩, 13), (⟨"PushedOver", "findBestRow", "()V"⟩, 13), (⟨"PushedOver$BestRow", "begin", "(LPushedOver$Consist;)V"⟩, 8), (⟨"PushedOver$BestRow", "weigh", "(LPushedOver$Consist;II)V"⟩, 8), (⟨"PushedOver$BestRow", "keep", "()V"⟩, 8), (⟨"PushedOver$BestRow", "stepOn", "()Z"⟩, 8), (⟨"PushedOver$BestRow", "swap", "(II)V"⟩, 8), (⟨"PushedOver", "sheetAt", "(I)LPushedOver$Sheet;"⟩, 13), (⟨"PushedOver", "found", "(I)I"⟩, 13)]
theorem lw_r1 : ∀ q ∈ lw_privs_1, lw_okq q := List.forall_mem_cons.mpr ⟨lw_p0, List.forall_mem_cons.mpr ⟨lw_p1, List.forall_mem_cons.mpr ⟨lw_p2, List.forall_mem_cons.mpr ⟨lw_p3, List.forall_mem_cons.mpr ⟨lw_p4, List.forall_mem_cons.mpr ⟨lw_p5, List.forall_mem_cons.mpr ⟨lw_p6, List.forall_mem_cons.mpr ⟨lw_p7, List.forall_mem_cons.mpr ⟨lw_p8, List.forall_mem_cons.mpr ⟨lw_p9, List.forall_mem_cons.mpr ⟨lw_p10, List.forall_mem_cons.mpr ⟨lw_p11, List.forall_mem_cons.mpr ⟨lw_p12, List.forall_mem_cons.mpr ⟨lw_p13, List.forall_mem_cons.mpr ⟨lw_p14, List.forall_mem_cons.mpr ⟨lw_p15, fun _ h => absurd h List.not_mem_nil⟩⟩⟩⟩⟩⟩⟩⟩⟩⟩⟩⟩⟩⟩⟩⟩
theorem lw_p16 : lw_okq (⟨"PushedOver", "busyMinutes", "()I"⟩, 13) := ⟨⟨by decide +kernel, by decide +kernel⟩, List.mem_of_getElem? (i := 14) (by decide +kernel), List.mem_of_getElem? (i := 649) (by decide +kernel), List.mem_of_getElem? (i := 650) (by decide +kernel)⟩
theorem lw_p17 : lw_okq (⟨"PushedOver$Day", "sort", "()V"⟩, 6) := ⟨⟨by decide +kernel, by decide +kernel⟩, List.mem_of_getElem? (i := 172) (by decide +kernel), List.mem_of_getElem? (i := 657) (by decide +kernel), List.mem_of_getElem? (i := 658) (by decide +kernel)⟩
theorem lw_p18 : lw_okq (⟨"PushedOver$Day", "firstFree", "(I)I"⟩, 6) := ⟨⟨by decide +kernel, by decide +kernel⟩, List.mem_of_getElem? (i := 172) (by decide +kernel), List.mem_of_getElem? (i := 661) (by decide +kernel), List.mem_of_getElem? (i := 662) (by decide +kernel)⟩
theorem lw_p19 : lw_okq (⟨"PushedOver$Sheet", "cut", "(I)I"⟩, 3) := ⟨⟨by decide +kernel, by decide +kernel⟩, List.mem_of_getElem? (i := 198) (by decide +kernel), List.mem_of_getElem? (i := 731) (by decide +kernel), List.mem_of_getElem? (i := 732) (by decide +kernel)⟩
theorem lw_p20 : lw_okq (⟨"PushedOver", "mixedWagons", "(J)J"⟩, 13) := ⟨⟨by decide +kernel, by decide +kernel⟩, List.mem_of_getElem? (i := 14) (by decide +kernel), List.mem_of_getElem? (i := 778) (by decide +kernel), List.mem_of_getElem? (i := 779) (by decide +kernel)⟩
theorem lw_p21 : lw_okq (⟨"PushedOver", "mixedHill", "(J)J"⟩, 13) := ⟨⟨by decide +kernel, by decide +kernel⟩, List.mem_of_getElem? (i := 14) (by decide +kernel), List.mem_of_getElem? (i := 784) (by decide +kernel), List.mem_of_getElem? (i := 785) (by decide +kernel)⟩
theorem lw_p22 : lw_okq (⟨"PushedOver", "mixedMinutes", "(J)J"⟩, 13) := ⟨⟨by decide +kernel, by decide +kernel⟩, List.mem_of_getElem? (i := 14) (by decide +kernel), List.mem_of_getElem? (i := 789) (by decide +kernel), List.mem_of_getElem? (i := 790) (by decide +kernel)⟩
theorem lw_p23 : lw_okq (⟨"PushedOver", "mixedOutcomes", "(J)J"⟩, 13) := ⟨⟨by decide +kernel, by decide +kernel⟩, List.mem_of_getElem? (i := 14) (by decide +kernel), List.mem_of_getElem? (i := 798) (by decide +kernel), List.mem_of_getElem? (i := 799) (by decide +kernel)⟩
theorem lw_p24 : lw_okq (⟨"PushedOver", "mixedStarts", "(J)J"⟩, 13) := ⟨⟨by decide +kernel, by decide +kernel⟩, List.mem_of_getElem? (i := 14) (by decide +kernel), List.mem_of_getElem? (i := 808) (by decide +kernel), List.mem_of_getElem? (i := 809) (by decide +kernel)⟩
theorem lw_p25 : lw_okq (⟨"PushedOver", "mixedDay", "(J)J"⟩, 13) := ⟨⟨by decide +kernel, by decide +kernel⟩, List.mem_of_getElem? (i := 14) (by decide +kernel), List.mem_of_getElem? (i := 816) (by decide +kernel), List.mem_of_getElem? (i := 817) (by decide +kernel)⟩
theorem lw_p26 : lw_okq (⟨"PushedOverModel", "met", "(I)I"⟩, 29) := ⟨⟨by decide +kernel, by decide +kernel⟩, List.mem_of_getElem? (i := 824) (by decide +kernel), List.mem_of_getElem? (i := 930) (by decide +kernel), List.mem_of_getElem? (i := 931) (by decide +kernel)⟩
theorem lw_p27 : lw_okq (⟨"PushedOverModel", "lacks", "(III)I"⟩, 29) := ⟨⟨by decide +kernel, by decide +kernel⟩, List.mem_of_getElem? (i := 824) (by decide +kernel), List.mem_of_getElem? (i := 942) (by decide +kernel), List.mem_of_getElem? (i := 943) (by decide +kernel)⟩
theorem lw_p28 : lw_okq (⟨"PushedOverModel", "readsTrain", "()I"⟩, 29) := ⟨⟨by decide +kernel, by decide +kernel⟩, List.mem_of_getElem? (i := 824) (by decide +kernel), List.mem_of_getElem? (i := 978) (by decide +kernel), List.mem_of_getElem? (i := 979) (by decide +kernel)⟩
theorem lw_p29 : lw_okq (⟨"PushedOverModel", "readsHill", "()I"⟩, 29) := ⟨⟨by decide +kernel, by decide +kernel⟩, List.mem_of_getElem? (i := 824) (by decide +kernel), List.mem_of_getElem? (i := 983) (by decide +kernel), List.mem_of_getElem? (i := 984) (by decide +kernel)⟩
theorem lw_p30 : lw_okq (⟨"PushedOverModel", "reads", "()V"⟩, 29) := ⟨⟨by decide +kernel, by decide +kernel⟩, List.mem_of_getElem? (i := 824) (by decide +kernel), List.mem_of_getElem? (i := 991) (by decide +kernel), List.mem_of_getElem? (i := 992) (by decide +kernel)⟩
theorem lw_p31 : lw_okq (⟨"PushedOverModel", "lives", "()V"⟩, 29) := ⟨⟨by decide +kernel, by decide +kernel⟩, List.mem_of_getElem? (i := 824) (by decide +kernel), List.mem_of_getElem? (i := 1016) (by decide +kernel), List.mem_of_getElem? (i := 1017) (by decide +kernel)⟩
def lw_privs_2 : List (MethodName × Nat) := [(⟨"PushedOver", "busyMinutes", "()I"⟩, 13), (⟨"PushedOver$Day", "sort", "()V"⟩, 6), (⟨"PushedOver$Day", "firstFree", "(I)I"⟩, 6), (⟨"PushedOver$Sheet", "cut", "(I)I"⟩, 3), (⟨"PushedOver", "mixedWagons", "(J)J"⟩, 13), (⟨"PushedOver", "mixedHill", "(J)J"⟩, 13), (⟨"PushedOver", "mixedMinutes", "(J)J"⟩, 13), (⟨"PushedOver", "mixedOutcomes", "(J)J"⟩, 13), (⟨"PushedOver", "mixedStarts", "(J)J"⟩, 13), (⟨"PushedOver", "mixedDay", "(J)J"⟩, 13), (⟨"PushedOverModel", "met", "(I)I"⟩, 29), (⟨"PushedOverModel", "lacks", "(III)I"⟩, 29), (⟨"PushedOverModel", "readsTrain", "()I"⟩, 29), (⟨"PushedOverModel", "readsHill", "()I"⟩, 29), (⟨"PushedOverModel", "reads", "()V"⟩, 29), (⟨"PushedOverModel", "lives", "()V"⟩, 29)]
theorem lw_r2 : ∀ q ∈ lw_privs_2, lw_okq q := List.forall_mem_cons.mpr ⟨lw_p16, List.forall_mem_cons.mpr ⟨lw_p17, List.forall_mem_cons.mpr ⟨lw_p18, List.forall_mem_cons.mpr ⟨lw_p19, List.forall_mem_cons.mpr ⟨lw_p20, List.forall_mem_cons.mpr ⟨lw_p21, List.forall_mem_cons.mpr ⟨lw_p22, List.forall_mem_cons.mpr ⟨lw_p23, List.forall_mem_cons.mpr ⟨lw_p24, List.forall_mem_cons.mpr ⟨lw_p25, List.forall_mem_cons.mpr ⟨lw_p26, List.forall_mem_cons.mpr ⟨lw_p27, List.forall_mem_cons.mpr ⟨lw_p28, List.forall_mem_cons.mpr ⟨lw_p29, List.forall_mem_cons.mpr ⟨lw_p30, List.forall_mem_cons.mpr ⟨lw_p31, fun _ h => absurd h List.not_mem_nil⟩⟩⟩⟩⟩⟩⟩⟩⟩⟩⟩⟩⟩⟩⟩⟩
theorem lw_p32 : lw_okq (⟨"PushedOverModel", "givesOf", "(II)I"⟩, 29) := ⟨⟨by decide +kernel, by decide +kernel⟩, List.mem_of_getElem? (i := 824) (by decide +kernel), List.mem_of_getElem? (i := 1026) (by decide +kernel), List.mem_of_getElem? (i := 1027) (by decide +kernel)⟩
theorem lw_p33 : lw_okq (⟨"PushedOverModel", "leans", "(II)I"⟩, 29) := ⟨⟨by decide +kernel, by decide +kernel⟩, List.mem_of_getElem? (i := 824) (by decide +kernel), List.mem_of_getElem? (i := 1030) (by decide +kernel), List.mem_of_getElem? (i := 1031) (by decide +kernel)⟩
theorem lw_p34 : lw_okq (⟨"PushedOverModel", "minuteOf", "(II)I"⟩, 29) := ⟨⟨by decide +kernel, by decide +kernel⟩, List.mem_of_getElem? (i := 824) (by decide +kernel), List.mem_of_getElem? (i := 1042) (by decide +kernel), List.mem_of_getElem? (i := 1043) (by decide +kernel)⟩
theorem lw_p35 : lw_okq (⟨"PushedOverModel", "placeAt", "(I)I"⟩, 29) := ⟨⟨by decide +kernel, by decide +kernel⟩, List.mem_of_getElem? (i := 824) (by decide +kernel), List.mem_of_getElem? (i := 1046) (by decide +kernel), List.mem_of_getElem? (i := 1047) (by decide +kernel)⟩
theorem lw_p36 : lw_okq (⟨"PushedOverModel", "strainAt", "(II)I"⟩, 29) := ⟨⟨by decide +kernel, by decide +kernel⟩, List.mem_of_getElem? (i := 824) (by decide +kernel), List.mem_of_getElem? (i := 1058) (by decide +kernel), List.mem_of_getElem? (i := 1059) (by decide +kernel)⟩
theorem lw_p37 : lw_okq (⟨"PushedOverModel", "strainBy", "(III)I"⟩, 29) := ⟨⟨by decide +kernel, by decide +kernel⟩, List.mem_of_getElem? (i := 824) (by decide +kernel), List.mem_of_getElem? (i := 1062) (by decide +kernel), List.mem_of_getElem? (i := 1063) (by decide +kernel)⟩
theorem lw_p38 : lw_okq (⟨"PushedOverModel", "ahead", "(I)I"⟩, 29) := ⟨⟨by decide +kernel, by decide +kernel⟩, List.mem_of_getElem? (i := 824) (by decide +kernel), List.mem_of_getElem? (i := 1066) (by decide +kernel), List.mem_of_getElem? (i := 1067) (by decide +kernel)⟩
theorem lw_p39 : lw_okq (⟨"PushedOverModel", "slackAt", "(I)I"⟩, 29) := ⟨⟨by decide +kernel, by decide +kernel⟩, List.mem_of_getElem? (i := 824) (by decide +kernel), List.mem_of_getElem? (i := 1077) (by decide +kernel), List.mem_of_getElem? (i := 1078) (by decide +kernel)⟩
theorem lw_p40 : lw_okq (⟨"PushedOverModel", "tornNow", "()I"⟩, 29) := ⟨⟨by decide +kernel, by decide +kernel⟩, List.mem_of_getElem? (i := 824) (by decide +kernel), List.mem_of_getElem? (i := 1085) (by decide +kernel), List.mem_of_getElem? (i := 1086) (by decide +kernel)⟩
theorem lw_p41 : lw_okq (⟨"PushedOverModel", "isTorn", "(II)Z"⟩, 29) := ⟨⟨by decide +kernel, by decide +kernel⟩, List.mem_of_getElem? (i := 824) (by decide +kernel), List.mem_of_getElem? (i := 1089) (by decide +kernel), List.mem_of_getElem? (i := 1090) (by decide +kernel)⟩
theorem lw_p42 : lw_okq (⟨"PushedOverModel", "offOf", "(I)I"⟩, 29) := ⟨⟨by decide +kernel, by decide +kernel⟩, List.mem_of_getElem? (i := 824) (by decide +kernel), List.mem_of_getElem? (i := 1097) (by decide +kernel), List.mem_of_getElem? (i := 1098) (by decide +kernel)⟩
theorem lw_p43 : lw_okq (⟨"PushedOverModel", "squeezedOff", "(II)I"⟩, 29) := ⟨⟨by decide +kernel, by decide +kernel⟩, List.mem_of_getElem? (i := 824) (by decide +kernel), List.mem_of_getElem? (i := 1101) (by decide +kernel), List.mem_of_getElem? (i := 1102) (by decide +kernel)⟩
theorem lw_p44 : lw_okq (⟨"PushedOverModel", "overNow", "()I"⟩, 29) := ⟨⟨by decide +kernel, by decide +kernel⟩, List.mem_of_getElem? (i := 824) (by decide +kernel), List.mem_of_getElem? (i := 1109) (by decide +kernel), List.mem_of_getElem? (i := 1110) (by decide +kernel)⟩
theorem lw_p45 : lw_okq (⟨"PushedOverModel", "settlesNow", "()I"⟩, 29) := ⟨⟨by decide +kernel, by decide +kernel⟩, List.mem_of_getElem? (i := 824) (by decide +kernel), List.mem_of_getElem? (i := 1117) (by decide +kernel), List.mem_of_getElem? (i := 1118) (by decide +kernel)⟩
theorem lw_p46 : lw_okq (⟨"PushedOverModel", "isAlike", "(II)Z"⟩, 29) := ⟨⟨by decide +kernel, by decide +kernel⟩, List.mem_of_getElem? (i := 824) (by decide +kernel), List.mem_of_getElem? (i := 1121) (by decide +kernel), List.mem_of_getElem? (i := 1122) (by decide +kernel)⟩
theorem lw_p47 : lw_okq (⟨"PushedOverModel", "swingsNow", "()I"⟩, 29) := ⟨⟨by decide +kernel, by decide +kernel⟩, List.mem_of_getElem? (i := 824) (by decide +kernel), List.mem_of_getElem? (i := 1129) (by decide +kernel), List.mem_of_getElem? (i := 1130) (by decide +kernel)⟩
def lw_privs_3 : List (MethodName × Nat) := [(⟨"PushedOverModel", "givesOf", "(II)I"⟩, 29), (⟨"PushedOverModel", "leans", "(II)I"⟩, 29), (⟨"PushedOverModel", "minuteOf", "(II)I"⟩, 29), (⟨"PushedOverModel", "placeAt", "(I)I"⟩, 29), (⟨"PushedOverModel", "strainAt", "(II)I"⟩, 29), (⟨"PushedOverModel", "strainBy", "(III)I"⟩, 29), (⟨"PushedOverModel", "ahead", "(I)I"⟩, 29), (⟨"PushedOverModel", "slackAt", "(I)I"⟩, 29), (⟨"PushedOverModel", "tornNow", "()I"⟩, 29), (⟨"PushedOverModel", "isTorn", "(II)Z"⟩, 29), (⟨"PushedOverModel", "offOf", "(I)I"⟩, 29), (⟨"PushedOverModel", "squeezedOff", "(II)I"⟩, 29), (⟨"PushedOverModel", "overNow", "()I"⟩, 29), (⟨"PushedOverModel", "settlesNow", "()I"⟩, 29), (⟨"PushedOverModel", "isAlike", "(II)Z"⟩, 29), (⟨"PushedOverModel", "swingsNow", "()I"⟩, 29)]
theorem lw_r3 : ∀ q ∈ lw_privs_3, lw_okq q := List.forall_mem_cons.mpr ⟨lw_p32, List.forall_mem_cons.mpr ⟨lw_p33, List.forall_mem_cons.mpr ⟨lw_p34, List.forall_mem_cons.mpr ⟨lw_p35, List.forall_mem_cons.mpr ⟨lw_p36, List.forall_mem_cons.mpr ⟨lw_p37, List.forall_mem_cons.mpr ⟨lw_p38, List.forall_mem_cons.mpr ⟨lw_p39, List.forall_mem_cons.mpr ⟨lw_p40, List.forall_mem_cons.mpr ⟨lw_p41, List.forall_mem_cons.mpr ⟨lw_p42, List.forall_mem_cons.mpr ⟨lw_p43, List.forall_mem_cons.mpr ⟨lw_p44, List.forall_mem_cons.mpr ⟨lw_p45, List.forall_mem_cons.mpr ⟨lw_p46, List.forall_mem_cons.mpr ⟨lw_p47, fun _ h => absurd h List.not_mem_nil⟩⟩⟩⟩⟩⟩⟩⟩⟩⟩⟩⟩⟩⟩⟩⟩
theorem lw_p48 : lw_okq (⟨"PushedOverModel", "doesOf", "(I)I"⟩, 29) := ⟨⟨by decide +kernel, by decide +kernel⟩, List.mem_of_getElem? (i := 824) (by decide +kernel), List.mem_of_getElem? (i := 1137) (by decide +kernel), List.mem_of_getElem? (i := 1138) (by decide +kernel)⟩
theorem lw_p49 : lw_okq (⟨"PushedOverModel", "startOf", "(II)I"⟩, 29) := ⟨⟨by decide +kernel, by decide +kernel⟩, List.mem_of_getElem? (i := 824) (by decide +kernel), List.mem_of_getElem? (i := 1145) (by decide +kernel), List.mem_of_getElem? (i := 1146) (by decide +kernel)⟩
theorem lw_p50 : lw_okq (⟨"PushedOverModel", "safeOf", "(I)I"⟩, 29) := ⟨⟨by decide +kernel, by decide +kernel⟩, List.mem_of_getElem? (i := 824) (by decide +kernel), List.mem_of_getElem? (i := 1153) (by decide +kernel), List.mem_of_getElem? (i := 1154) (by decide +kernel)⟩
theorem lw_p51 : lw_okq (⟨"PushedOverModel", "findOrder", "()V"⟩, 29) := ⟨⟨by decide +kernel, by decide +kernel⟩, List.mem_of_getElem? (i := 824) (by decide +kernel), List.mem_of_getElem? (i := 1161) (by decide +kernel), List.mem_of_getElem? (i := 1162) (by decide +kernel)⟩
theorem lw_p52 : lw_okq (⟨"PushedOverModel", "unfolds", "(I)V"⟩, 29) := ⟨⟨by decide +kernel, by decide +kernel⟩, List.mem_of_getElem? (i := 824) (by decide +kernel), List.mem_of_getElem? (i := 1165) (by decide +kernel), List.mem_of_getElem? (i := 1166) (by decide +kernel)⟩
theorem lw_p53 : lw_okq (⟨"PushedOverModel", "squeezes", "()V"⟩, 29) := ⟨⟨by decide +kernel, by decide +kernel⟩, List.mem_of_getElem? (i := 824) (by decide +kernel), List.mem_of_getElem? (i := 1169) (by decide +kernel), List.mem_of_getElem? (i := 1170) (by decide +kernel)⟩
theorem lw_p54 : lw_okq (⟨"PushedOverModel", "tellsOrder", "(I)I"⟩, 29) := ⟨⟨by decide +kernel, by decide +kernel⟩, List.mem_of_getElem? (i := 824) (by decide +kernel), List.mem_of_getElem? (i := 1176) (by decide +kernel), List.mem_of_getElem? (i := 1177) (by decide +kernel)⟩
theorem lw_p55 : lw_okq (⟨"PushedOverModel", "tellsSqueeze", "(I)I"⟩, 29) := ⟨⟨by decide +kernel, by decide +kernel⟩, List.mem_of_getElem? (i := 824) (by decide +kernel), List.mem_of_getElem? (i := 1184) (by decide +kernel), List.mem_of_getElem? (i := 1185) (by decide +kernel)⟩
theorem lw_p56 : lw_okq (⟨"PushedOverModel", "lateOf", "(II)I"⟩, 29) := ⟨⟨by decide +kernel, by decide +kernel⟩, List.mem_of_getElem? (i := 824) (by decide +kernel), List.mem_of_getElem? (i := 1206) (by decide +kernel), List.mem_of_getElem? (i := 1207) (by decide +kernel)⟩
theorem lw_p57 : lw_okq (⟨"PushedOverModel", "sorts", "()V"⟩, 29) := ⟨⟨by decide +kernel, by decide +kernel⟩, List.mem_of_getElem? (i := 824) (by decide +kernel), List.mem_of_getElem? (i := 1210) (by decide +kernel), List.mem_of_getElem? (i := 1211) (by decide +kernel)⟩
theorem lw_p58 : lw_okq (⟨"PushedOverModel", "enoughOf", "(I)I"⟩, 29) := ⟨⟨by decide +kernel, by decide +kernel⟩, List.mem_of_getElem? (i := 824) (by decide +kernel), List.mem_of_getElem? (i := 1218) (by decide +kernel), List.mem_of_getElem? (i := 1219) (by decide +kernel)⟩
def lw_privs_4 : List (MethodName × Nat) := [(⟨"PushedOverModel", "doesOf", "(I)I"⟩, 29), (⟨"PushedOverModel", "startOf", "(II)I"⟩, 29), (⟨"PushedOverModel", "safeOf", "(I)I"⟩, 29), (⟨"PushedOverModel", "findOrder", "()V"⟩, 29), (⟨"PushedOverModel", "unfolds", "(I)V"⟩, 29), (⟨"PushedOverModel", "squeezes", "()V"⟩, 29), (⟨"PushedOverModel", "tellsOrder", "(I)I"⟩, 29), (⟨"PushedOverModel", "tellsSqueeze", "(I)I"⟩, 29), (⟨"PushedOverModel", "lateOf", "(II)I"⟩, 29), (⟨"PushedOverModel", "sorts", "()V"⟩, 29), (⟨"PushedOverModel", "enoughOf", "(I)I"⟩, 29)]
theorem lw_r4 : ∀ q ∈ lw_privs_4, lw_okq q := List.forall_mem_cons.mpr ⟨lw_p48, List.forall_mem_cons.mpr ⟨lw_p49, List.forall_mem_cons.mpr ⟨lw_p50, List.forall_mem_cons.mpr ⟨lw_p51, List.forall_mem_cons.mpr ⟨lw_p52, List.forall_mem_cons.mpr ⟨lw_p53, List.forall_mem_cons.mpr ⟨lw_p54, List.forall_mem_cons.mpr ⟨lw_p55, List.forall_mem_cons.mpr ⟨lw_p56, List.forall_mem_cons.mpr ⟨lw_p57, List.forall_mem_cons.mpr ⟨lw_p58, fun _ h => absurd h List.not_mem_nil⟩⟩⟩⟩⟩⟩⟩⟩⟩⟩⟩
def lw_privs : List (MethodName × Nat) := lw_privs_1 ++ (lw_privs_2 ++ (lw_privs_3 ++ (lw_privs_4)))
def lw_tbl : List Cond := k2_sels lw_privs ++ tables_1
theorem lw_privs_ok : ∀ q ∈ lw_privs, lw_okq q := by
  show ∀ q ∈ lw_privs_1 ++ (lw_privs_2 ++ (lw_privs_3 ++ (lw_privs_4))), lw_okq q
  exact List.forall_mem_append.mpr ⟨lw_r1, List.forall_mem_append.mpr ⟨lw_r2, List.forall_mem_append.mpr ⟨lw_r3, lw_r4⟩⟩⟩
def RX0 : String := "PushedOver$BestRow"
def TX0 : u_T := fun k => match k with
  | 0 => ("PushedOver$BestRow", "row", "[I", true)
  | 1 => ("PushedOver$BestRow", "best", "[I", true)
  | 2 => ("PushedOver$BestRow", "size", "I", false)
  | 3 => ("PushedOver$BestRow", "rowAbove", "I", false)
  | 4 => ("PushedOver$BestRow", "rowBelow", "I", false)
  | 5 => ("PushedOver$BestRow", "bestAbove", "I", false)
  | 6 => ("PushedOver$BestRow", "bestBelow", "I", false)
  | _ => ("PushedOver$BestRow", "whole", "I", false)
def tyX0 : Nat → FieldType := fun k => match k with
  | 0 => .array .int
  | 1 => .array .int
  | 2 => .int
  | 3 => .int
  | 4 => .int
  | 5 => .int
  | 6 => .int
  | _ => .int
theorem nmX0 : ∀ a, a < 8 → ∀ b, b < 8 → a ≠ b → (TX0 a).2.1 ≠ (TX0 b).2.1 := by decide +kernel
theorem tyX0_ok : ∀ k, k < 8 → parseFieldDescriptor (TX0 k).2.2.1 = some (tyX0 k) := by decide +kernel
abbrev cX0_init : ByteArray := prog_2_method_1_code
def yX0_init : MethodName := ⟨RX0, "<init>", "()V"⟩
abbrev cX0_find : ByteArray := prog_2_method_2_code
def yX0_find : MethodName := ⟨RX0, "find", "(LPushedOver$Consist;II)V"⟩
abbrev cX0_begin : ByteArray := prog_2_method_3_code
def yX0_begin : MethodName := ⟨RX0, "begin", "(LPushedOver$Consist;)V"⟩
abbrev cX0_weigh : ByteArray := prog_2_method_4_code
def yX0_weigh : MethodName := ⟨RX0, "weigh", "(LPushedOver$Consist;II)V"⟩
abbrev cX0_keep : ByteArray := prog_2_method_5_code
def yX0_keep : MethodName := ⟨RX0, "keep", "()V"⟩
abbrev cX0_stepOn : ByteArray := prog_2_method_6_code
def yX0_stepOn : MethodName := ⟨RX0, "stepOn", "()Z"⟩
abbrev cX0_swap : ByteArray := prog_2_method_7_code
def yX0_swap : MethodName := ⟨RX0, "swap", "(II)V"⟩
abbrev cX0_wagonAt : ByteArray := prog_2_method_8_code
def yX0_wagonAt : MethodName := ⟨RX0, "wagonAt", "(I)I"⟩
abbrev cX0_squeezeAbove : ByteArray := prog_2_method_9_code
def yX0_squeezeAbove : MethodName := ⟨RX0, "squeezeAbove", "()I"⟩
abbrev cX0_squeezeBelow : ByteArray := prog_2_method_10_code
def yX0_squeezeBelow : MethodName := ⟨RX0, "squeezeBelow", "()I"⟩
def RX1 : String := "PushedOver$Consist"
def TX1 : u_T := fun k => match k with
  | 0 => ("PushedOver$Consist", "weights", "[I", true)
  | 1 => ("PushedOver$Consist", "aheadOf", "[I", true)
  | 2 => ("PushedOver$Consist", "size", "I", false)
  | 3 => ("PushedOver$Consist", "whole", "I", false)
  | _ => ("PushedOver$Consist", "fault", "I", false)
def tyX1 : Nat → FieldType := fun k => match k with
  | 0 => .array .int
  | 1 => .array .int
  | 2 => .int
  | 3 => .int
  | _ => .int
theorem nmX1 : ∀ a, a < 5 → ∀ b, b < 5 → a ≠ b → (TX1 a).2.1 ≠ (TX1 b).2.1 := by decide +kernel
theorem tyX1_ok : ∀ k, k < 5 → parseFieldDescriptor (TX1 k).2.2.1 = some (tyX1 k) := by decide +kernel
abbrev cX1_init : ByteArray := prog_3_method_1_code
def yX1_init : MethodName := ⟨RX1, "<init>", "()V"⟩
abbrev cX1_load : ByteArray := prog_3_method_2_code
def yX1_load : MethodName := ⟨RX1, "load", "(LPushedOver$Text;)V"⟩
abbrev cX1_faultOf : ByteArray := prog_3_method_3_code
def yX1_faultOf : MethodName := ⟨RX1, "faultOf", "(LPushedOver$Text;)I"⟩
abbrev cX1_firstFault : ByteArray := prog_3_method_4_code
def yX1_firstFault : MethodName := ⟨RX1, "firstFault", "()I"⟩
abbrev cX1_size : ByteArray := prog_3_method_5_code
def yX1_size : MethodName := ⟨RX1, "size", "()I"⟩
abbrev cX1_whole : ByteArray := prog_3_method_6_code
def yX1_whole : MethodName := ⟨RX1, "whole", "()I"⟩
abbrev cX1_weightOf : ByteArray := prog_3_method_7_code
def yX1_weightOf : MethodName := ⟨RX1, "weightOf", "(I)I"⟩
abbrev cX1_strainTimesWhole : ByteArray := prog_3_method_8_code
def yX1_strainTimesWhole : MethodName := ⟨RX1, "strainTimesWhole", "(III)I"⟩
abbrev cX1_firstSlack : ByteArray := prog_3_method_9_code
def yX1_firstSlack : MethodName := ⟨RX1, "firstSlack", "(II)I"⟩
abbrev cX1_tears : ByteArray := prog_3_method_10_code
def yX1_tears : MethodName := ⟨RX1, "tears", "(III)Z"⟩
abbrev cX1_firstSqueezed : ByteArray := prog_3_method_11_code
def yX1_firstSqueezed : MethodName := ⟨RX1, "firstSqueezed", "(III)I"⟩
def RX2 : String := "PushedOver$Day"
def TX2 : u_T := fun k => match k with
  | 0 => ("PushedOver$Day", "told", "[I", true)
  | 1 => ("PushedOver$Day", "inTurn", "[I", true)
  | 2 => ("PushedOver$Day", "freeFrom", "[I", true)
  | 3 => ("PushedOver$Day", "size", "I", false)
  | 4 => ("PushedOver$Day", "together", "I", false)
  | _ => ("PushedOver$Day", "most", "I", false)
def tyX2 : Nat → FieldType := fun k => match k with
  | 0 => .array .int
  | 1 => .array .int
  | 2 => .array .int
  | 3 => .int
  | 4 => .int
  | _ => .int
theorem nmX2 : ∀ a, a < 6 → ∀ b, b < 6 → a ≠ b → (TX2 a).2.1 ≠ (TX2 b).2.1 := by decide +kernel
theorem tyX2_ok : ∀ k, k < 6 → parseFieldDescriptor (TX2 k).2.2.1 = some (tyX2 k) := by decide +kernel
abbrev cX2_init : ByteArray := prog_4_method_1_code
def yX2_init : MethodName := ⟨RX2, "<init>", "()V"⟩
abbrev cX2_size : ByteArray := prog_4_method_2_code
def yX2_size : MethodName := ⟨RX2, "size", "()I"⟩
abbrev cX2_isFull : ByteArray := prog_4_method_3_code
def yX2_isFull : MethodName := ⟨RX2, "isFull", "()Z"⟩
abbrev cX2_tell : ByteArray := prog_4_method_4_code
def yX2_tell : MethodName := ⟨RX2, "tell", "(I)V"⟩
abbrev cX2_forgetLast : ByteArray := prog_4_method_5_code
def yX2_forgetLast : MethodName := ⟨RX2, "forgetLast", "()V"⟩
abbrev cX2_pushAll : ByteArray := prog_4_method_6_code
def yX2_pushAll : MethodName := ⟨RX2, "pushAll", "(II)V"⟩
abbrev cX2_firstFree : ByteArray := prog_4_method_7_code
def yX2_firstFree : MethodName := ⟨RX2, "firstFree", "(I)I"⟩
abbrev cX2_sort : ByteArray := prog_4_method_8_code
def yX2_sort : MethodName := ⟨RX2, "sort", "()V"⟩
abbrev cX2_waitedTogether : ByteArray := prog_4_method_9_code
def yX2_waitedTogether : MethodName := ⟨RX2, "waitedTogether", "()I"⟩
abbrev cX2_waitedMost : ByteArray := prog_4_method_10_code
def yX2_waitedMost : MethodName := ⟨RX2, "waitedMost", "()I"⟩
def RX3 : String := "PushedOver$Dials"
def TX3 : u_T := fun k => match k with
  | 0 => ("PushedOver$Dials", "least", "[I", true)
  | 1 => ("PushedOver$Dials", "most", "[I", true)
  | _ => ("PushedOver$Dials", "values", "[I", true)
def tyX3 : Nat → FieldType := fun k => match k with
  | 0 => .array .int
  | 1 => .array .int
  | _ => .array .int
theorem nmX3 : ∀ a, a < 3 → ∀ b, b < 3 → a ≠ b → (TX3 a).2.1 ≠ (TX3 b).2.1 := by decide +kernel
theorem tyX3_ok : ∀ k, k < 3 → parseFieldDescriptor (TX3 k).2.2.1 = some (tyX3 k) := by decide +kernel
abbrev cX3_init : ByteArray := prog_5_method_1_code
def yX3_init : MethodName := ⟨RX3, "<init>", "([I[I[I)V"⟩
abbrev cX3_takes : ByteArray := prog_5_method_2_code
def yX3_takes : MethodName := ⟨RX3, "takes", "(II)Z"⟩
abbrev cX3_at : ByteArray := prog_5_method_3_code
def yX3_at : MethodName := ⟨RX3, "at", "(I)I"⟩
abbrev cX3_turn : ByteArray := prog_5_method_4_code
def yX3_turn : MethodName := ⟨RX3, "turn", "(II)I"⟩
def RX4 : String := "PushedOver$Ride"
def TX4 : u_T := fun k => match k with
  | 0 => ("PushedOver$Ride", "pull", "[I", true)
  | 1 => ("PushedOver$Ride", "push", "[I", true)
  | 2 => ("PushedOver$Ride", "needed", "[I", true)
  | 3 => ("PushedOver$Ride", "speed", "[I", true)
  | _ => ("PushedOver$Ride", "tenths", "[I", true)
def tyX4 : Nat → FieldType := fun k => match k with
  | 0 => .array .int
  | 1 => .array .int
  | 2 => .array .int
  | 3 => .array .int
  | _ => .array .int
theorem nmX4 : ∀ a, a < 5 → ∀ b, b < 5 → a ≠ b → (TX4 a).2.1 ≠ (TX4 b).2.1 := by decide +kernel
theorem tyX4_ok : ∀ k, k < 5 → parseFieldDescriptor (TX4 k).2.2.1 = some (tyX4 k) := by decide +kernel
abbrev cX4_init : ByteArray := prog_6_method_1_code
def yX4_init : MethodName := ⟨RX4, "<init>", "()V"⟩
abbrev cX4_run : ByteArray := prog_6_method_2_code
def yX4_run : MethodName := ⟨RX4, "run", "(ILPushedOver$Slopes;LPushedOver$Dials;LPushedOver$Dials;I)V"⟩
abbrev cX4_nextSpeed : ByteArray := prog_6_method_3_code
def yX4_nextSpeed : MethodName := ⟨RX4, "nextSpeed", "(II)I"⟩
abbrev cX4_byRule : ByteArray := prog_6_method_4_code
def yX4_byRule : MethodName := ⟨RX4, "byRule", "(LPushedOver$Dials;I[I[I)I"⟩
abbrev cX4_given : ByteArray := prog_6_method_5_code
def yX4_given : MethodName := ⟨RX4, "given", "(II)I"⟩
abbrev cX4_neededIn : ByteArray := prog_6_method_6_code
def yX4_neededIn : MethodName := ⟨RX4, "neededIn", "(I)I"⟩
abbrev cX4_speedIn : ByteArray := prog_6_method_7_code
def yX4_speedIn : MethodName := ⟨RX4, "speedIn", "(I)I"⟩
abbrev cX4_placeIn : ByteArray := prog_6_method_8_code
def yX4_placeIn : MethodName := ⟨RX4, "placeIn", "(I)I"⟩
abbrev cX4_allGiven : ByteArray := prog_6_method_9_code
def yX4_allGiven : MethodName := ⟨RX4, "allGiven", "(I)I"⟩
abbrev cX4_givesAlike : ByteArray := prog_6_method_10_code
def yX4_givesAlike : MethodName := ⟨RX4, "givesAlike", "(II)Z"⟩
abbrev cX4_comesAgain : ByteArray := prog_6_method_11_code
def yX4_comesAgain : MethodName := ⟨RX4, "comesAgain", "(I)Z"⟩
def RX5 : String := "PushedOver$Sheet"
def TX5 : u_T := fun k => match k with
  | 0 => ("PushedOver$Sheet", "items", "[I", true)
  | 1 => ("PushedOver$Sheet", "form", "I", false)
  | _ => ("PushedOver$Sheet", "size", "I", false)
def tyX5 : Nat → FieldType := fun k => match k with
  | 0 => .array .int
  | 1 => .int
  | _ => .int
theorem nmX5 : ∀ a, a < 3 → ∀ b, b < 3 → a ≠ b → (TX5 a).2.1 ≠ (TX5 b).2.1 := by decide +kernel
theorem tyX5_ok : ∀ k, k < 3 → parseFieldDescriptor (TX5 k).2.2.1 = some (tyX5 k) := by decide +kernel
abbrev cX5_init : ByteArray := prog_7_method_1_code
def yX5_init : MethodName := ⟨RX5, "<init>", "()V"⟩
abbrev cX5_isLost : ByteArray := prog_7_method_2_code
def yX5_isLost : MethodName := ⟨RX5, "isLost", "()Z"⟩
abbrev cX5_isOfForm : ByteArray := prog_7_method_3_code
def yX5_isOfForm : MethodName := ⟨RX5, "isOfForm", "(I)Z"⟩
abbrev cX5_formNumber : ByteArray := prog_7_method_4_code
def yX5_formNumber : MethodName := ⟨RX5, "formNumber", "()I"⟩
abbrev cX5_size : ByteArray := prog_7_method_5_code
def yX5_size : MethodName := ⟨RX5, "size", "()I"⟩
abbrev cX5_renew : ByteArray := prog_7_method_6_code
def yX5_renew : MethodName := ⟨RX5, "renew", "(II)V"⟩
abbrev cX5_drop : ByteArray := prog_7_method_7_code
def yX5_drop : MethodName := ⟨RX5, "drop", "()V"⟩
abbrev cX5_hasItems : ByteArray := prog_7_method_8_code
def yX5_hasItems : MethodName := ⟨RX5, "hasItems", "(II)Z"⟩
abbrev cX5_itemAt : ByteArray := prog_7_method_9_code
def yX5_itemAt : MethodName := ⟨RX5, "itemAt", "(I)I"⟩
abbrev cX5_put : ByteArray := prog_7_method_10_code
def yX5_put : MethodName := ⟨RX5, "put", "(II)V"⟩
abbrev cX5_cut : ByteArray := prog_7_method_11_code
def yX5_cut : MethodName := ⟨RX5, "cut", "(I)I"⟩
abbrev cX5_takeOver : ByteArray := prog_7_method_12_code
def yX5_takeOver : MethodName := ⟨RX5, "takeOver", "(LPushedOver$Sheet;III)V"⟩
def RX6 : String := "PushedOver$Slopes"
def TX6 : u_T := fun k => match k with
  | 0 => ("PushedOver$Slopes", "steep", "[I", true)
  | 1 => ("PushedOver$Slopes", "bend", "[Z", true)
  | 2 => ("PushedOver$Slopes", "size", "I", false)
  | 3 => ("PushedOver$Slopes", "bends", "I", false)
  | _ => ("PushedOver$Slopes", "fault", "I", false)
def tyX6 : Nat → FieldType := fun k => match k with
  | 0 => .array .int
  | 1 => .array .boolean
  | 2 => .int
  | 3 => .int
  | _ => .int
theorem nmX6 : ∀ a, a < 5 → ∀ b, b < 5 → a ≠ b → (TX6 a).2.1 ≠ (TX6 b).2.1 := by decide +kernel
theorem tyX6_ok : ∀ k, k < 5 → parseFieldDescriptor (TX6 k).2.2.1 = some (tyX6 k) := by decide +kernel
abbrev cX6_init : ByteArray := prog_8_method_1_code
def yX6_init : MethodName := ⟨RX6, "<init>", "()V"⟩
abbrev cX6_load : ByteArray := prog_8_method_2_code
def yX6_load : MethodName := ⟨RX6, "load", "(LPushedOver$Text;)V"⟩
abbrev cX6_takes : ByteArray := prog_8_method_3_code
def yX6_takes : MethodName := ⟨RX6, "takes", "(I)Z"⟩
abbrev cX6_bendsLast : ByteArray := prog_8_method_4_code
def yX6_bendsLast : MethodName := ⟨RX6, "bendsLast", "()Z"⟩
abbrev cX6_firstFault : ByteArray := prog_8_method_5_code
def yX6_firstFault : MethodName := ⟨RX6, "firstFault", "()I"⟩
abbrev cX6_size : ByteArray := prog_8_method_6_code
def yX6_size : MethodName := ⟨RX6, "size", "()I"⟩
abbrev cX6_bends : ByteArray := prog_8_method_7_code
def yX6_bends : MethodName := ⟨RX6, "bends", "()I"⟩
abbrev cX6_steepAt : ByteArray := prog_8_method_8_code
def yX6_steepAt : MethodName := ⟨RX6, "steepAt", "(I)I"⟩
abbrev cX6_bendsAt : ByteArray := prog_8_method_9_code
def yX6_bendsAt : MethodName := ⟨RX6, "bendsAt", "(I)Z"⟩
def RX7 : String := "PushedOver$Text"
def TX7 : u_T := fun k => match k with
  | 0 => ("PushedOver$Text", "bytes", "[I", true)
  | 1 => ("PushedOver$Text", "limit", "I", true)
  | _ => ("PushedOver$Text", "size", "I", false)
def tyX7 : Nat → FieldType := fun k => match k with
  | 0 => .array .int
  | 1 => .int
  | _ => .int
theorem nmX7 : ∀ a, a < 3 → ∀ b, b < 3 → a ≠ b → (TX7 a).2.1 ≠ (TX7 b).2.1 := by decide +kernel
theorem tyX7_ok : ∀ k, k < 3 → parseFieldDescriptor (TX7 k).2.2.1 = some (tyX7 k) := by decide +kernel
abbrev cX7_init : ByteArray := prog_9_method_1_code
def yX7_init : MethodName := ⟨RX7, "<init>", "(I)V"⟩
abbrev cX7_size : ByteArray := prog_9_method_2_code
def yX7_size : MethodName := ⟨RX7, "size", "()I"⟩
abbrev cX7_isFull : ByteArray := prog_9_method_3_code
def yX7_isFull : MethodName := ⟨RX7, "isFull", "()Z"⟩
abbrev cX7_byteAt : ByteArray := prog_9_method_4_code
def yX7_byteAt : MethodName := ⟨RX7, "byteAt", "(I)I"⟩
abbrev cX7_append : ByteArray := prog_9_method_5_code
def yX7_append : MethodName := ⟨RX7, "append", "(I)V"⟩
abbrev cX7_shorten : ByteArray := prog_9_method_6_code
def yX7_shorten : MethodName := ⟨RX7, "shorten", "(I)V"⟩
def RX8 : String := "PushedOver"
def TX8 : u_T := fun k => match k with
  | 0 => ("PushedOver", "trainText", "LPushedOver$Text;", true)
  | 1 => ("PushedOver", "hillText", "LPushedOver$Text;", true)
  | 2 => ("PushedOver", "consist", "LPushedOver$Consist;", true)
  | 3 => ("PushedOver", "slopes", "LPushedOver$Slopes;", true)
  | 4 => ("PushedOver", "front", "LPushedOver$Dials;", true)
  | 5 => ("PushedOver", "behind", "LPushedOver$Dials;", true)
  | 6 => ("PushedOver", "settings", "LPushedOver$Dials;", true)
  | 7 => ("PushedOver", "ride", "LPushedOver$Ride;", true)
  | 8 => ("PushedOver", "bestRow", "LPushedOver$BestRow;", true)
  | 9 => ("PushedOver", "day", "LPushedOver$Day;", true)
  | 10 => ("PushedOver", "sheets", "[LPushedOver$Sheet;", true)
  | 11 => ("PushedOver", "bestRowStands", "Z", false)
  | _ => ("PushedOver", "latestFinding", "I", false)
def tyX8 : Nat → FieldType := fun k => match k with
  | 0 => .object "PushedOver$Text"
  | 1 => .object "PushedOver$Text"
  | 2 => .object "PushedOver$Consist"
  | 3 => .object "PushedOver$Slopes"
  | 4 => .object "PushedOver$Dials"
  | 5 => .object "PushedOver$Dials"
  | 6 => .object "PushedOver$Dials"
  | 7 => .object "PushedOver$Ride"
  | 8 => .object "PushedOver$BestRow"
  | 9 => .object "PushedOver$Day"
  | 10 => .array (.object "PushedOver$Sheet")
  | 11 => .boolean
  | _ => .int
theorem nmX8 : ∀ a, a < 13 → ∀ b, b < 13 → a ≠ b → (TX8 a).2.1 ≠ (TX8 b).2.1 := by decide +kernel
theorem tyX8_ok : ∀ k, k < 13 → parseFieldDescriptor (TX8 k).2.2.1 = some (tyX8 k) := by decide +kernel
abbrev cX8_init : ByteArray := prog_1_method_1_code
def yX8_init : MethodName := ⟨RX8, "<init>", "()V"⟩
abbrev cX8_type : ByteArray := prog_1_method_2_code
def yX8_type : MethodName := ⟨RX8, "type", "(II)I"⟩
abbrev cX8_wipe : ByteArray := prog_1_method_3_code
def yX8_wipe : MethodName := ⟨RX8, "wipe", "(I)I"⟩
abbrev cX8_undo : ByteArray := prog_1_method_4_code
def yX8_undo : MethodName := ⟨RX8, "undo", "(I)I"⟩
abbrev cX8_fault : ByteArray := prog_1_method_5_code
def yX8_fault : MethodName := ⟨RX8, "fault", "(I)I"⟩
abbrev cX8_wagon : ByteArray := prog_1_method_6_code
def yX8_wagon : MethodName := ⟨RX8, "wagon", "(I)I"⟩
abbrev cX8_hill : ByteArray := prog_1_method_7_code
def yX8_hill : MethodName := ⟨RX8, "hill", "(II)I"⟩
abbrev cX8_engine : ByteArray := prog_1_method_8_code
def yX8_engine : MethodName := ⟨RX8, "engine", "(III)I"⟩
abbrev cX8_set : ByteArray := prog_1_method_9_code
def yX8_set : MethodName := ⟨RX8, "set", "(II)I"⟩
abbrev cX8_gives : ByteArray := prog_1_method_10_code
def yX8_gives : MethodName := ⟨RX8, "gives", "(II)I"⟩
abbrev cX8_minute : ByteArray := prog_1_method_11_code
def yX8_minute : MethodName := ⟨RX8, "minute", "(II)I"⟩
abbrev cX8_strain : ByteArray := prog_1_method_12_code
def yX8_strain : MethodName := ⟨RX8, "strain", "(III)J"⟩
abbrev cX8_slack : ByteArray := prog_1_method_13_code
def yX8_slack : MethodName := ⟨RX8, "slack", "(I)I"⟩
abbrev cX8_torn : ByteArray := prog_1_method_14_code
def yX8_torn : MethodName := ⟨RX8, "torn", "()I"⟩
abbrev cX8_off : ByteArray := prog_1_method_15_code
def yX8_off : MethodName := ⟨RX8, "off", "(I)I"⟩
abbrev cX8_over : ByteArray := prog_1_method_16_code
def yX8_over : MethodName := ⟨RX8, "over", "()I"⟩
abbrev cX8_settles : ByteArray := prog_1_method_17_code
def yX8_settles : MethodName := ⟨RX8, "settles", "()I"⟩
abbrev cX8_swings : ByteArray := prog_1_method_18_code
def yX8_swings : MethodName := ⟨RX8, "swings", "()I"⟩
abbrev cX8_does : ByteArray := prog_1_method_19_code
def yX8_does : MethodName := ⟨RX8, "does", "(I)I"⟩
abbrev cX8_start : ByteArray := prog_1_method_20_code
def yX8_start : MethodName := ⟨RX8, "start", "(II)I"⟩
abbrev cX8_safe : ByteArray := prog_1_method_21_code
def yX8_safe : MethodName := ⟨RX8, "safe", "(I)I"⟩
abbrev cX8_order : ByteArray := prog_1_method_22_code
def yX8_order : MethodName := ⟨RX8, "order", "(I)I"⟩
abbrev cX8_squeeze : ByteArray := prog_1_method_23_code
def yX8_squeeze : MethodName := ⟨RX8, "squeeze", "(I)I"⟩
abbrev cX8_train : ByteArray := prog_1_method_24_code
def yX8_train : MethodName := ⟨RX8, "train", "(I)I"⟩
abbrev cX8_back : ByteArray := prog_1_method_25_code
def yX8_back : MethodName := ⟨RX8, "back", "()I"⟩
abbrev cX8_read : ByteArray := prog_1_method_26_code
def yX8_read : MethodName := ⟨RX8, "read", "(I)I"⟩
abbrev cX8_late : ByteArray := prog_1_method_27_code
def yX8_late : MethodName := ⟨RX8, "late", "(II)I"⟩
abbrev cX8_enough : ByteArray := prog_1_method_28_code
def yX8_enough : MethodName := ⟨RX8, "enough", "(I)I"⟩
abbrev cX8_whistles : ByteArray := prog_1_method_29_code
def yX8_whistles : MethodName := ⟨RX8, "whistles", "(IIII)J"⟩
abbrev cX8_words : ByteArray := prog_1_method_30_code
def yX8_words : MethodName := ⟨RX8, "words", "(I)I"⟩
abbrev cX8_sheet : ByteArray := prog_1_method_31_code
def yX8_sheet : MethodName := ⟨RX8, "sheet", "(III)I"⟩
abbrev cX8_lose : ByteArray := prog_1_method_32_code
def yX8_lose : MethodName := ⟨RX8, "lose", "(I)I"⟩
abbrev cX8_lay : ByteArray := prog_1_method_33_code
def yX8_lay : MethodName := ⟨RX8, "lay", "(IIII)I"⟩
abbrev cX8_get : ByteArray := prog_1_method_34_code
def yX8_get : MethodName := ⟨RX8, "get", "(III)I"⟩
abbrev cX8_copy : ByteArray := prog_1_method_35_code
def yX8_copy : MethodName := ⟨RX8, "copy", "(IIIII)I"⟩
abbrev cX8_write : ByteArray := prog_1_method_36_code
def yX8_write : MethodName := ⟨RX8, "write", "(II)I"⟩
abbrev cX8_count : ByteArray := prog_1_method_37_code
def yX8_count : MethodName := ⟨RX8, "count", "(I)I"⟩
abbrev cX8_digest : ByteArray := prog_1_method_38_code
def yX8_digest : MethodName := ⟨RX8, "digest", "()J"⟩
abbrev cX8_mixedWagons : ByteArray := prog_1_method_39_code
def yX8_mixedWagons : MethodName := ⟨RX8, "mixedWagons", "(J)J"⟩
abbrev cX8_mixedHill : ByteArray := prog_1_method_40_code
def yX8_mixedHill : MethodName := ⟨RX8, "mixedHill", "(J)J"⟩
abbrev cX8_mixedMinutes : ByteArray := prog_1_method_41_code
def yX8_mixedMinutes : MethodName := ⟨RX8, "mixedMinutes", "(J)J"⟩
abbrev cX8_mixedOutcomes : ByteArray := prog_1_method_42_code
def yX8_mixedOutcomes : MethodName := ⟨RX8, "mixedOutcomes", "(J)J"⟩
abbrev cX8_mixedStarts : ByteArray := prog_1_method_43_code
def yX8_mixedStarts : MethodName := ⟨RX8, "mixedStarts", "(J)J"⟩
abbrev cX8_mixedDay : ByteArray := prog_1_method_44_code
def yX8_mixedDay : MethodName := ⟨RX8, "mixedDay", "(J)J"⟩
abbrev cX8_mixed : ByteArray := prog_1_method_45_code
def yX8_mixed : MethodName := ⟨RX8, "mixed", "(JJ)J"⟩
abbrev cX8_refresh : ByteArray := prog_1_method_46_code
def yX8_refresh : MethodName := ⟨RX8, "refresh", "()V"⟩
abbrev cX8_findBestRow : ByteArray := prog_1_method_47_code
def yX8_findBestRow : MethodName := ⟨RX8, "findBestRow", "()V"⟩
abbrev cX8_squeezedOffIn : ByteArray := prog_1_method_48_code
def yX8_squeezedOffIn : MethodName := ⟨RX8, "squeezedOffIn", "(I)I"⟩
abbrev cX8_startOf : ByteArray := prog_1_method_49_code
def yX8_startOf : MethodName := ⟨RX8, "startOf", "(II)I"⟩
abbrev cX8_busyMinutes : ByteArray := prog_1_method_50_code
def yX8_busyMinutes : MethodName := ⟨RX8, "busyMinutes", "()I"⟩
abbrev cX8_found : ByteArray := prog_1_method_51_code
def yX8_found : MethodName := ⟨RX8, "found", "(I)I"⟩
abbrev cX8_findingOfItem : ByteArray := prog_1_method_52_code
def yX8_findingOfItem : MethodName := ⟨RX8, "findingOfItem", "(LPushedOver$Sheet;II)I"⟩
abbrev cX8_textAt : ByteArray := prog_1_method_53_code
def yX8_textAt : MethodName := ⟨RX8, "textAt", "(I)LPushedOver$Text;"⟩
abbrev cX8_engineAt : ByteArray := prog_1_method_54_code
def yX8_engineAt : MethodName := ⟨RX8, "engineAt", "(I)LPushedOver$Dials;"⟩
abbrev cX8_sheetAt : ByteArray := prog_1_method_55_code
def yX8_sheetAt : MethodName := ⟨RX8, "sheetAt", "(I)LPushedOver$Sheet;"⟩
abbrev cX8_isEngine : ByteArray := prog_1_method_56_code
def yX8_isEngine : MethodName := ⟨RX8, "isEngine", "(I)Z"⟩
abbrev cX8_isMinute : ByteArray := prog_1_method_57_code
def yX8_isMinute : MethodName := ⟨RX8, "isMinute", "(I)Z"⟩
abbrev cX8_isSecond : ByteArray := prog_1_method_58_code
def yX8_isSecond : MethodName := ⟨RX8, "isSecond", "(I)Z"⟩
abbrev cX8_isFootMinute : ByteArray := prog_1_method_59_code
def yX8_isFootMinute : MethodName := ⟨RX8, "isFootMinute", "(I)Z"⟩
abbrev cX8_isForm : ByteArray := prog_1_method_60_code
def yX8_isForm : MethodName := ⟨RX8, "isForm", "(I)Z"⟩
abbrev cX8_isZeroOrOne : ByteArray := prog_1_method_61_code
def yX8_isZeroOrOne : MethodName := ⟨RX8, "isZeroOrOne", "(I)Z"⟩
abbrev cX8_refusedAsLong : ByteArray := prog_1_method_62_code
def yX8_refusedAsLong : MethodName := ⟨RX8, "refusedAsLong", "(I)J"⟩
abbrev cX8_inLowestTerms : ByteArray := prog_1_method_63_code
def yX8_inLowestTerms : MethodName := ⟨RX8, "inLowestTerms", "(JJI)J"⟩
abbrev cX8_commonDivisor : ByteArray := prog_1_method_64_code
def yX8_commonDivisor : MethodName := ⟨RX8, "commonDivisor", "(JJ)J"⟩
abbrev cX8_power : ByteArray := prog_1_method_65_code
def yX8_power : MethodName := ⟨RX8, "power", "(II)J"⟩
abbrev cX8_choices : ByteArray := prog_1_method_66_code
def yX8_choices : MethodName := ⟨RX8, "choices", "(II)J"⟩
def RX9 : String := "PushedOverModel"
def TX9 : u_T := fun k => match k with
  | 0 => ("PushedOverModel", "forms", "[I", true)
  | 1 => ("PushedOverModel", "sizes", "[I", true)
  | 2 => ("PushedOverModel", "items", "[I", true)
  | 3 => ("PushedOverModel", "moved", "[I", true)
  | 4 => ("PushedOverModel", "latest", "I", false)
  | 5 => ("PushedOverModel", "bytes", "[I", true)
  | 6 => ("PushedOverModel", "typed", "[I", true)
  | 7 => ("PushedOverModel", "wagons", "I", false)
  | 8 => ("PushedOverModel", "heavy", "[I", true)
  | 9 => ("PushedOverModel", "whole", "I", false)
  | 10 => ("PushedOverModel", "places", "I", false)
  | 11 => ("PushedOverModel", "steep", "[I", true)
  | 12 => ("PushedOverModel", "isBent", "[Z", true)
  | 13 => ("PushedOverModel", "engine", "[I", true)
  | 14 => ("PushedOverModel", "settings", "[I", true)
  | 15 => ("PushedOverModel", "given", "[I", true)
  | 16 => ("PushedOverModel", "speed", "[I", true)
  | 17 => ("PushedOverModel", "far", "[I", true)
  | 18 => ("PushedOverModel", "needed", "[I", true)
  | 19 => ("PushedOverModel", "row", "[I", true)
  | 20 => ("PushedOverModel", "bestRow", "[I", true)
  | 21 => ("PushedOverModel", "bestAbove", "I", false)
  | 22 => ("PushedOverModel", "bestBy", "I", false)
  | 23 => ("PushedOverModel", "nowAbove", "I", false)
  | 24 => ("PushedOverModel", "nowBy", "I", false)
  | 25 => ("PushedOverModel", "trains", "I", false)
  | 26 => ("PushedOverModel", "there", "[I", true)
  | 27 => ("PushedOverModel", "sorted", "[I", true)
  | _ => ("PushedOverModel", "free", "[I", true)
def tyX9 : Nat → FieldType := fun k => match k with
  | 0 => .array .int
  | 1 => .array .int
  | 2 => .array .int
  | 3 => .array .int
  | 4 => .int
  | 5 => .array .int
  | 6 => .array .int
  | 7 => .int
  | 8 => .array .int
  | 9 => .int
  | 10 => .int
  | 11 => .array .int
  | 12 => .array .boolean
  | 13 => .array .int
  | 14 => .array .int
  | 15 => .array .int
  | 16 => .array .int
  | 17 => .array .int
  | 18 => .array .int
  | 19 => .array .int
  | 20 => .array .int
  | 21 => .int
  | 22 => .int
  | 23 => .int
  | 24 => .int
  | 25 => .int
  | 26 => .array .int
  | 27 => .array .int
  | _ => .array .int
theorem nmX9 : ∀ a, a < 29 → ∀ b, b < 29 → a ≠ b → (TX9 a).2.1 ≠ (TX9 b).2.1 := by decide +kernel
theorem tyX9_ok : ∀ k, k < 29 → parseFieldDescriptor (TX9 k).2.2.1 = some (tyX9 k) := by decide +kernel
abbrev cX9_init : ByteArray := prog_11_method_1_code
def yX9_init : MethodName := ⟨RX9, "<init>", "()V"⟩
abbrev cX9_in : ByteArray := prog_11_method_3_code
def yX9_in : MethodName := ⟨RX9, "in", "(JJJ)Z"⟩
abbrev cX9_no : ByteArray := prog_11_method_4_code
def yX9_no : MethodName := ⟨RX9, "no", "(I)J"⟩
abbrev cX9_isTwo : ByteArray := prog_11_method_5_code
def yX9_isTwo : MethodName := ⟨RX9, "isTwo", "(I)Z"⟩
abbrev cX9_lesser : ByteArray := prog_11_method_6_code
def yX9_lesser : MethodName := ⟨RX9, "lesser", "(II)I"⟩
abbrev cX9_greater : ByteArray := prog_11_method_7_code
def yX9_greater : MethodName := ⟨RX9, "greater", "(II)I"⟩
abbrev cX9_within : ByteArray := prog_11_method_8_code
def yX9_within : MethodName := ⟨RX9, "within", "(II)I"⟩
abbrev cX9_part : ByteArray := prog_11_method_9_code
def yX9_part : MethodName := ⟨RX9, "part", "(JJI)J"⟩
abbrev cX9_met : ByteArray := prog_11_method_10_code
def yX9_met : MethodName := ⟨RX9, "met", "(I)I"⟩
abbrev cX9_isSheet : ByteArray := prog_11_method_11_code
def yX9_isSheet : MethodName := ⟨RX9, "isSheet", "(I)Z"⟩
abbrev cX9_sheet : ByteArray := prog_11_method_12_code
def yX9_sheet : MethodName := ⟨RX9, "sheet", "(III)I"⟩
abbrev cX9_lose : ByteArray := prog_11_method_13_code
def yX9_lose : MethodName := ⟨RX9, "lose", "(I)I"⟩
abbrev cX9_lacks : ByteArray := prog_11_method_14_code
def yX9_lacks : MethodName := ⟨RX9, "lacks", "(III)I"⟩
abbrev cX9_cut : ByteArray := prog_11_method_15_code
def yX9_cut : MethodName := ⟨RX9, "cut", "(II)I"⟩
abbrev cX9_lay : ByteArray := prog_11_method_16_code
def yX9_lay : MethodName := ⟨RX9, "lay", "(IIII)I"⟩
abbrev cX9_get : ByteArray := prog_11_method_17_code
def yX9_get : MethodName := ⟨RX9, "get", "(III)I"⟩
abbrev cX9_copy : ByteArray := prog_11_method_18_code
def yX9_copy : MethodName := ⟨RX9, "copy", "(IIIII)I"⟩
abbrev cX9_type : ByteArray := prog_11_method_19_code
def yX9_type : MethodName := ⟨RX9, "type", "(II)I"⟩
abbrev cX9_wipe : ByteArray := prog_11_method_20_code
def yX9_wipe : MethodName := ⟨RX9, "wipe", "(I)I"⟩
abbrev cX9_undo : ByteArray := prog_11_method_21_code
def yX9_undo : MethodName := ⟨RX9, "undo", "(I)I"⟩
abbrev cX9_readsTrain : ByteArray := prog_11_method_22_code
def yX9_readsTrain : MethodName := ⟨RX9, "readsTrain", "()I"⟩
abbrev cX9_readsHill : ByteArray := prog_11_method_23_code
def yX9_readsHill : MethodName := ⟨RX9, "readsHill", "()I"⟩
abbrev cX9_reads : ByteArray := prog_11_method_24_code
def yX9_reads : MethodName := ⟨RX9, "reads", "()V"⟩
abbrev cX9_fault : ByteArray := prog_11_method_25_code
def yX9_fault : MethodName := ⟨RX9, "fault", "(I)I"⟩
abbrev cX9_wagon : ByteArray := prog_11_method_26_code
def yX9_wagon : MethodName := ⟨RX9, "wagon", "(I)I"⟩
abbrev cX9_hill : ByteArray := prog_11_method_27_code
def yX9_hill : MethodName := ⟨RX9, "hill", "(II)I"⟩
abbrev cX9_engine : ByteArray := prog_11_method_28_code
def yX9_engine : MethodName := ⟨RX9, "engine", "(III)I"⟩
abbrev cX9_set : ByteArray := prog_11_method_29_code
def yX9_set : MethodName := ⟨RX9, "set", "(II)I"⟩
abbrev cX9_leans : ByteArray := prog_11_method_30_code
def yX9_leans : MethodName := ⟨RX9, "leans", "(II)I"⟩
abbrev cX9_givesOf : ByteArray := prog_11_method_31_code
def yX9_givesOf : MethodName := ⟨RX9, "givesOf", "(II)I"⟩
abbrev cX9_lives : ByteArray := prog_11_method_32_code
def yX9_lives : MethodName := ⟨RX9, "lives", "()V"⟩
abbrev cX9_isMinute : ByteArray := prog_11_method_33_code
def yX9_isMinute : MethodName := ⟨RX9, "isMinute", "(I)Z"⟩
abbrev cX9_gives : ByteArray := prog_11_method_34_code
def yX9_gives : MethodName := ⟨RX9, "gives", "(II)I"⟩
abbrev cX9_placeAt : ByteArray := prog_11_method_35_code
def yX9_placeAt : MethodName := ⟨RX9, "placeAt", "(I)I"⟩
abbrev cX9_minuteOf : ByteArray := prog_11_method_36_code
def yX9_minuteOf : MethodName := ⟨RX9, "minuteOf", "(II)I"⟩
abbrev cX9_minute : ByteArray := prog_11_method_37_code
def yX9_minute : MethodName := ⟨RX9, "minute", "(II)I"⟩
abbrev cX9_ahead : ByteArray := prog_11_method_38_code
def yX9_ahead : MethodName := ⟨RX9, "ahead", "(I)I"⟩
abbrev cX9_strainBy : ByteArray := prog_11_method_39_code
def yX9_strainBy : MethodName := ⟨RX9, "strainBy", "(III)I"⟩
abbrev cX9_strainAt : ByteArray := prog_11_method_40_code
def yX9_strainAt : MethodName := ⟨RX9, "strainAt", "(II)I"⟩
abbrev cX9_strain : ByteArray := prog_11_method_41_code
def yX9_strain : MethodName := ⟨RX9, "strain", "(III)J"⟩
abbrev cX9_slackAt : ByteArray := prog_11_method_42_code
def yX9_slackAt : MethodName := ⟨RX9, "slackAt", "(I)I"⟩
abbrev cX9_slack : ByteArray := prog_11_method_43_code
def yX9_slack : MethodName := ⟨RX9, "slack", "(I)I"⟩
abbrev cX9_isTorn : ByteArray := prog_11_method_44_code
def yX9_isTorn : MethodName := ⟨RX9, "isTorn", "(II)Z"⟩
abbrev cX9_tornNow : ByteArray := prog_11_method_45_code
def yX9_tornNow : MethodName := ⟨RX9, "tornNow", "()I"⟩
abbrev cX9_torn : ByteArray := prog_11_method_46_code
def yX9_torn : MethodName := ⟨RX9, "torn", "()I"⟩
abbrev cX9_squeezedOff : ByteArray := prog_11_method_47_code
def yX9_squeezedOff : MethodName := ⟨RX9, "squeezedOff", "(II)I"⟩
abbrev cX9_offOf : ByteArray := prog_11_method_48_code
def yX9_offOf : MethodName := ⟨RX9, "offOf", "(I)I"⟩
abbrev cX9_off : ByteArray := prog_11_method_49_code
def yX9_off : MethodName := ⟨RX9, "off", "(I)I"⟩
abbrev cX9_overNow : ByteArray := prog_11_method_50_code
def yX9_overNow : MethodName := ⟨RX9, "overNow", "()I"⟩
abbrev cX9_over : ByteArray := prog_11_method_51_code
def yX9_over : MethodName := ⟨RX9, "over", "()I"⟩
abbrev cX9_isAlike : ByteArray := prog_11_method_52_code
def yX9_isAlike : MethodName := ⟨RX9, "isAlike", "(II)Z"⟩
abbrev cX9_settlesNow : ByteArray := prog_11_method_53_code
def yX9_settlesNow : MethodName := ⟨RX9, "settlesNow", "()I"⟩
abbrev cX9_settles : ByteArray := prog_11_method_54_code
def yX9_settles : MethodName := ⟨RX9, "settles", "()I"⟩
abbrev cX9_swingsNow : ByteArray := prog_11_method_55_code
def yX9_swingsNow : MethodName := ⟨RX9, "swingsNow", "()I"⟩
abbrev cX9_swings : ByteArray := prog_11_method_56_code
def yX9_swings : MethodName := ⟨RX9, "swings", "()I"⟩
abbrev cX9_doesOf : ByteArray := prog_11_method_57_code
def yX9_doesOf : MethodName := ⟨RX9, "doesOf", "(I)I"⟩
abbrev cX9_does : ByteArray := prog_11_method_58_code
def yX9_does : MethodName := ⟨RX9, "does", "(I)I"⟩
abbrev cX9_startOf : ByteArray := prog_11_method_59_code
def yX9_startOf : MethodName := ⟨RX9, "startOf", "(II)I"⟩
abbrev cX9_start : ByteArray := prog_11_method_60_code
def yX9_start : MethodName := ⟨RX9, "start", "(II)I"⟩
abbrev cX9_safeOf : ByteArray := prog_11_method_61_code
def yX9_safeOf : MethodName := ⟨RX9, "safeOf", "(I)I"⟩
abbrev cX9_safe : ByteArray := prog_11_method_62_code
def yX9_safe : MethodName := ⟨RX9, "safe", "(I)I"⟩
abbrev cX9_unfolds : ByteArray := prog_11_method_63_code
def yX9_unfolds : MethodName := ⟨RX9, "unfolds", "(I)V"⟩
abbrev cX9_squeezes : ByteArray := prog_11_method_64_code
def yX9_squeezes : MethodName := ⟨RX9, "squeezes", "()V"⟩
abbrev cX9_findOrder : ByteArray := prog_11_method_65_code
def yX9_findOrder : MethodName := ⟨RX9, "findOrder", "()V"⟩
abbrev cX9_tellsOrder : ByteArray := prog_11_method_66_code
def yX9_tellsOrder : MethodName := ⟨RX9, "tellsOrder", "(I)I"⟩
abbrev cX9_tellsSqueeze : ByteArray := prog_11_method_67_code
def yX9_tellsSqueeze : MethodName := ⟨RX9, "tellsSqueeze", "(I)I"⟩
abbrev cX9_order : ByteArray := prog_11_method_68_code
def yX9_order : MethodName := ⟨RX9, "order", "(I)I"⟩
abbrev cX9_squeeze : ByteArray := prog_11_method_69_code
def yX9_squeeze : MethodName := ⟨RX9, "squeeze", "(I)I"⟩
abbrev cX9_train : ByteArray := prog_11_method_70_code
def yX9_train : MethodName := ⟨RX9, "train", "(I)I"⟩
abbrev cX9_back : ByteArray := prog_11_method_71_code
def yX9_back : MethodName := ⟨RX9, "back", "()I"⟩
abbrev cX9_read : ByteArray := prog_11_method_72_code
def yX9_read : MethodName := ⟨RX9, "read", "(I)I"⟩
abbrev cX9_sorts : ByteArray := prog_11_method_73_code
def yX9_sorts : MethodName := ⟨RX9, "sorts", "()V"⟩
abbrev cX9_lateOf : ByteArray := prog_11_method_74_code
def yX9_lateOf : MethodName := ⟨RX9, "lateOf", "(II)I"⟩
abbrev cX9_late : ByteArray := prog_11_method_75_code
def yX9_late : MethodName := ⟨RX9, "late", "(II)I"⟩
abbrev cX9_enoughOf : ByteArray := prog_11_method_76_code
def yX9_enoughOf : MethodName := ⟨RX9, "enoughOf", "(I)I"⟩
abbrev cX9_enough : ByteArray := prog_11_method_77_code
def yX9_enough : MethodName := ⟨RX9, "enough", "(I)I"⟩
abbrev cX9_whistlesOf : ByteArray := prog_11_method_78_code
def yX9_whistlesOf : MethodName := ⟨RX9, "whistlesOf", "(IIII)J"⟩
abbrev cX9_whistles : ByteArray := prog_11_method_79_code
def yX9_whistles : MethodName := ⟨RX9, "whistles", "(IIII)J"⟩
abbrev cX9_words : ByteArray := prog_11_method_80_code
def yX9_words : MethodName := ⟨RX9, "words", "(I)I"⟩
abbrev cX9_write : ByteArray := prog_11_method_81_code
def yX9_write : MethodName := ⟨RX9, "write", "(II)I"⟩
abbrev cX9_count : ByteArray := prog_11_method_82_code
def yX9_count : MethodName := ⟨RX9, "count", "(I)I"⟩
abbrev cX9_digest : ByteArray := prog_11_method_83_code
def yX9_digest : MethodName := ⟨RX9, "digest", "()J"⟩
def RJx8e188 : String := "java/lang/Cloneable"
def TJx8e188 : u_T := fun k => match k with
  | _ => ("", "", "", false)
def tyJx8e188 : Nat → FieldType := fun k => match k with
  | _ => .int
def RJ9 : String := "java/lang/Math"
def TJ9 : u_T := fun k => match k with
  | _ => ("", "", "", false)
def tyJ9 : Nat → FieldType := fun k => match k with
  | _ => .int
abbrev cJ9_abs_067f4 : ByteArray := prog_13_method_61_code
def yJ9_abs_067f4 : MethodName := ⟨RJ9, "abs", "(J)J"⟩
abbrev cJ9_max_7cf53 : ByteArray := prog_13_method_65_code
def yJ9_max_7cf53 : MethodName := ⟨RJ9, "max", "(II)I"⟩
abbrev cJ9_min_7cf53 : ByteArray := prog_13_method_69_code
def yJ9_min_7cf53 : MethodName := ⟨RJ9, "min", "(II)I"⟩
def RJ10 : String := "java/lang/System"
def TJ10 : u_T := fun k => match k with
  | _ => ("", "", "", false)
def tyJ10 : Nat → FieldType := fun k => match k with
  | _ => .int
def RL : String := "PushedOverLaw"
abbrev cL_law : ByteArray := code
def yL_law : MethodName := ⟨RL, "law", "([I)Z"⟩
