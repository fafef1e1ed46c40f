section
-- ===== PART A: goes FIRST, ahead of the names: the tables' words, and 'selects' of the private methods out of them =====
/-- a private method of a class that the tables say can be made, by its rows of tables_1 -/
def lw_okq (q : MethodName × Nat) : Prop := (q.1.cls ≠ "java/lang/invoke/MethodHandle" ∧ q.1.cls ≠ "java/lang/invoke/VarHandle") ∧ Cond.instantiable q.1.cls q.2 ∈ tables_1 ∧ Cond.privateMethod q.1 ∈ tables_1 ∧ Cond.instanceMethod q.1 ∈ tables_1
theorem lw_p0 : lw_okq (⟨"PushedOver", "refresh", "()V"⟩, 13) := ⟨⟨by decide +kernel, by decide +kernel⟩, List.mem_of_getElem? (i := 14) (by decide +kernel), List.mem_of_getElem? (i := 214) (by decide +kernel), List.mem_of_getElem? (i := 215) (by decide +kernel)⟩
theorem lw_p1 : lw_okq (⟨"PushedOver$Slopes", "takes", "(I)Z"⟩, 5) := ⟨⟨by decide +kernel, by decide +kernel⟩, List.mem_of_getElem? (i := 61) (by decide +kernel), List.mem_of_getElem? (i := 242) (by decide +kernel), List.mem_of_getElem? (i := 243) (by decide +kernel)⟩
theorem lw_p2 : lw_okq (⟨"PushedOver$Slopes", "bendsLast", "()Z"⟩, 5) := ⟨⟨by decide +kernel, by decide +kernel⟩, List.mem_of_getElem? (i := 61) (by decide +kernel), List.mem_of_getElem? (i := 246) (by decide +kernel), List.mem_of_getElem? (i := 247) (by decide +kernel)⟩
theorem lw_p3 : lw_okq (⟨"PushedOver$Ride", "byRule", "(LPushedOver$Dials;I[I[I)I"⟩, 5) := ⟨⟨by decide +kernel, by decide +kernel⟩, List.mem_of_getElem? (i := 119) (by decide +kernel), List.mem_of_getElem? (i := 267) (by decide +kernel), List.mem_of_getElem? (i := 268) (by decide +kernel)⟩
theorem lw_p4 : lw_okq (⟨"PushedOver", "textAt", "(I)LPushedOver$Text;"⟩, 13) := ⟨⟨by decide +kernel, by decide +kernel⟩, List.mem_of_getElem? (i := 14) (by decide +kernel), List.mem_of_getElem? (i := 323) (by decide +kernel), List.mem_of_getElem? (i := 324) (by decide +kernel)⟩
theorem lw_p5 : lw_okq (⟨"PushedOver", "engineAt", "(I)LPushedOver$Dials;"⟩, 13) := ⟨⟨by decide +kernel, by decide +kernel⟩, List.mem_of_getElem? (i := 14) (by decide +kernel), List.mem_of_getElem? (i := 397) (by decide +kernel), List.mem_of_getElem? (i := 398) (by decide +kernel)⟩
theorem lw_p6 : lw_okq (⟨"PushedOver", "squeezedOffIn", "(I)I"⟩, 13) := ⟨⟨by decide +kernel, by decide +kernel⟩, List.mem_of_getElem? (i := 14) (by decide +kernel), List.mem_of_getElem? (i := 484) (by decide +kernel), List.mem_of_getElem? (i := 485) (by decide +kernel)⟩
theorem lw_p7 : lw_okq (⟨"PushedOver", "startOf", "(II)I"⟩, 13) := ⟨⟨by decide +kernel, by decide +kernel⟩, List.mem_of_getElem? (i := 14) (by decide +kernel), List.mem_of_getElem? (i := 530) (by decide +kernel), List.mem_of_getElem? (i := 531) (by decide +kernel)⟩
theorem lw_p8 : lw_okq (⟨"PushedOver", "findBestRow", "()V"⟩, 13) := ⟨⟨by decide +kernel, by decide +kernel⟩, List.mem_of_getElem? (i := 14) (by decide +kernel), List.mem_of_getElem? (i := 542) (by decide +kernel), List.mem_of_getElem? (i := 543) (by decide +kernel)⟩
theorem lw_p9 : lw_okq (⟨"PushedOver$BestRow", "begin", "(LPushedOver$Consist;)V"⟩, 8) := ⟨⟨by decide +kernel, by decide +kernel⟩, List.mem_of_getElem? (i := 141) (by decide +kernel), List.mem_of_getElem? (i := 550) (by decide +kernel), List.mem_of_getElem? (i := 551) (by decide +kernel)⟩
theorem lw_p10 : lw_okq (⟨"PushedOver$BestRow", "weigh", "(LPushedOver$Consist;II)V"⟩, 8) := ⟨⟨by decide +kernel, by decide +kernel⟩, List.mem_of_getElem? (i := 141) (by decide +kernel), List.mem_of_getElem? (i := 556) (by decide +kernel), List.mem_of_getElem? (i := 557) (by decide +kernel)⟩
theorem lw_p11 : lw_okq (⟨"PushedOver$BestRow", "keep", "()V"⟩, 8) := ⟨⟨by decide +kernel, by decide +kernel⟩, List.mem_of_getElem? (i := 141) (by decide +kernel), List.mem_of_getElem? (i := 561) (by decide +kernel), List.mem_of_getElem? (i := 562) (by decide +kernel)⟩
theorem lw_p12 : lw_okq (⟨"PushedOver$BestRow", "stepOn", "()Z"⟩, 8) := ⟨⟨by decide +kernel, by decide +kernel⟩, List.mem_of_getElem? (i := 141) (by decide +kernel), List.mem_of_getElem? (i := 568) (by decide +kernel), List.mem_of_getElem? (i := 569) (by decide +kernel)⟩
theorem lw_p13 : lw_okq (⟨"PushedOver$BestRow", "swap", "(II)V"⟩, 8) := ⟨⟨by decide +kernel, by decide +kernel⟩, List.mem_of_getElem? (i := 141) (by decide +kernel), List.mem_of_getElem? (i := 573) (by decide +kernel), List.mem_of_getElem? (i := 574) (by decide +kernel)⟩
theorem lw_p14 : lw_okq (⟨"PushedOver", "sheetAt", "(I)LPushedOver$Sheet;"⟩, 13) := ⟨⟨by decide +kernel, by decide +kernel⟩, List.mem_of_getElem? (i := 14) (by decide +kernel), List.mem_of_getElem? (i := 625) (by decide +kernel), List.mem_of_getElem? (i := 626) (by decide +kernel)⟩
theorem lw_p15 : lw_okq (⟨"PushedOver", "found", "(I)I"⟩, 13) := ⟨⟨by decide +kernel, by decide +kernel⟩, List.mem_of_getElem? (i := 14) (by decide +kernel), List.mem_of_getElem? (i := 633) (by decide +kernel), List.mem_of_getElem? (i := 634) (by decide +kernel)⟩
def lw_privs_1 : List (MethodName × Nat) := [(⟨"PushedOver", "refresh", "()V"⟩, 13), (⟨"PushedOver$Slopes", "takes", "(I)Z"⟩, 5), (⟨"PushedOver$Slopes", "bendsLast", "()Z"⟩, 5), (⟨"PushedOver$Ride", "byRule", "(LPushedOver$Dials;I[I[I)I"⟩, 5), (⟨"PushedOver", "textAt", "(I)LPushedOver$Text;"⟩, 13), (⟨"PushedOver", "engineAt", "(I)LPushedOver$Dials;"⟩, 13), (⟨"PushedOver", "squeezedOffIn", "(I)I"⟩, 13), (⟨"PushedOver", "startOf", "(II)I"⟩, 13), (⟨"PushedOver", "findBestRow", "()V"⟩, 13), (⟨"PushedOver$BestRow", "begin", "(LPushedOver$Consist;)V"⟩, 8), (⟨"PushedOver$BestRow", "weigh", "(LPushedOver$Consist;II)V"⟩, 8), (⟨"PushedOver$BestRow", "keep", "()V"⟩, 8), (⟨"PushedOver$BestRow", "stepOn", "()Z"⟩, 8), (⟨"PushedOver$BestRow", "swap", "(II)V"⟩, 8), (⟨"PushedOver", "sheetAt", "(I)LPushedOver$Sheet;"⟩, 13), (⟨"PushedOver", "found", "(I)I"⟩, 13)]
theorem lw_r1 : ∀ q ∈ lw_privs_1, lw_okq q := List.forall_mem_cons.mpr ⟨lw_p0, List.forall_mem_cons.mpr ⟨lw_p1, List.forall_mem_cons.mpr ⟨lw_p2, List.forall_mem_cons.mpr ⟨lw_p3, List.forall_mem_cons.mpr ⟨lw_p4, List.forall_mem_cons.mpr ⟨lw_p5, List.forall_mem_cons.mpr ⟨lw_p6, List.forall_mem_cons.mpr ⟨lw_p7, List.forall_mem_cons.mpr ⟨lw_p8, List.forall_mem_cons.mpr ⟨lw_p9, List.forall_mem_cons.mpr ⟨lw_p10, List.forall_mem_cons.mpr ⟨lw_p11, List.forall_mem_cons.mpr ⟨lw_p12, List.forall_mem_cons.mpr ⟨lw_p13, List.forall_mem_cons.mpr ⟨lw_p14, List.forall_mem_cons.mpr ⟨lw_p15, fun _ h => absurd h List.not_mem_nil⟩⟩⟩⟩⟩⟩⟩⟩⟩⟩⟩⟩⟩⟩⟩⟩
theorem lw_p16 : lw_okq (⟨"PushedOver", "busyMinutes", "()I"⟩, 13) := ⟨⟨by decide +kernel, by decide +kernel⟩, List.mem_of_getElem? (i := 14) (by decide +kernel), List.mem_of_getElem? (i := 649) (by decide +kernel), List.mem_of_getElem? (i := 650) (by decide +kernel)⟩
theorem lw_p17 : lw_okq (⟨"PushedOver$Day", "sort", "()V"⟩, 6) := ⟨⟨by decide +kernel, by decide +kernel⟩, List.mem_of_getElem? (i := 172) (by decide +kernel), List.mem_of_getElem? (i := 657) (by decide +kernel), List.mem_of_getElem? (i := 658) (by decide +kernel)⟩
theorem lw_p18 : lw_okq (⟨"PushedOver$Day", "firstFree", "(I)I"⟩, 6) := ⟨⟨by decide +kernel, by decide +kernel⟩, List.mem_of_getElem? (i := 172) (by decide +kernel), List.mem_of_getElem? (i := 661) (by decide +kernel), List.mem_of_getElem? (i := 662) (by decide +kernel)⟩
theorem lw_p19 : lw_okq (⟨"PushedOver$Sheet", "cut", "(I)I"⟩, 3) := ⟨⟨by decide +kernel, by decide +kernel⟩, List.mem_of_getElem? (i := 198) (by decide +kernel), List.mem_of_getElem? (i := 731) (by decide +kernel), List.mem_of_getElem? (i := 732) (by decide +kernel)⟩
theorem lw_p20 : lw_okq (⟨"PushedOver", "mixedWagons", "(J)J"⟩, 13) := ⟨⟨by decide +kernel, by decide +kernel⟩, List.mem_of_getElem? (i := 14) (by decide +kernel), List.mem_of_getElem? (i := 778) (by decide +kernel), List.mem_of_getElem? (i := 779) (by decide +kernel)⟩
theorem lw_p21 : lw_okq (⟨"PushedOver", "mixedHill", "(J)J"⟩, 13) := ⟨⟨by decide +kernel, by decide +kernel⟩, List.mem_of_getElem? (i := 14) (by decide +kernel), List.mem_of_getElem? (i := 784) (by decide +kernel), List.mem_of_getElem? (i := 785) (by decide +kernel)⟩
theorem lw_p22 : lw_okq (⟨"PushedOver", "mixedMinutes", "(J)J"⟩, 13) := ⟨⟨by decide +kernel, by decide +kernel⟩, List.mem_of_getElem? (i := 14) (by decide +kernel), List.mem_of_getElem? (i := 789) (by decide +kernel), List.mem_of_getElem? (i := 790) (by decide +kernel)⟩
theorem lw_p23 : lw_okq (⟨"PushedOver", "mixedOutcomes", "(J)J"⟩, 13) := ⟨⟨by decide +kernel, by decide +kernel⟩, List.mem_of_getElem? (i := 14) (by decide +kernel), List.mem_of_getElem? (i := 798) (by decide +kernel), List.mem_of_getElem? (i := 799) (by decide +kernel)⟩
theorem lw_p24 : lw_okq (⟨"PushedOver", "mixedStarts", "(J)J"⟩, 13) := ⟨⟨by decide +kernel, by decide +kernel⟩, List.mem_of_getElem? (i := 14) (by decide +kernel), List.mem_of_getElem? (i := 808) (by decide +kernel), List.mem_of_getElem? (i := 809) (by decide +kernel)⟩
theorem lw_p25 : lw_okq (⟨"PushedOver", "mixedDay", "(J)J"⟩, 13) := ⟨⟨by decide +kernel, by decide +kernel⟩, List.mem_of_getElem? (i := 14) (by decide +kernel), List.mem_of_getElem? (i := 816) (by decide +kernel), List.mem_of_getElem? (i := 817) (by decide +kernel)⟩
theorem lw_p26 : lw_okq (⟨"PushedOverModel", "met", "(I)I"⟩, 29) := ⟨⟨by decide +kernel, by decide +kernel⟩, List.mem_of_getElem? (i := 824) (by decide +kernel), List.mem_of_getElem? (i := 930) (by decide +kernel), List.mem_of_getElem? (i := 931) (by decide +kernel)⟩
theorem lw_p27 : lw_okq (⟨"PushedOverModel", "lacks", "(III)I"⟩, 29) := ⟨⟨by decide +kernel, by decide +kernel⟩, List.mem_of_getElem? (i := 824) (by decide +kernel), List.mem_of_getElem? (i := 942) (by decide +kernel), List.mem_of_getElem? (i := 943) (by decide +kernel)⟩
theorem lw_p28 : lw_okq (⟨"PushedOverModel", "readsTrain", "()I"⟩, 29) := ⟨⟨by decide +kernel, by decide +kernel⟩, List.mem_of_getElem? (i := 824) (by decide +kernel), List.mem_of_getElem? (i := 978) (by decide +kernel), List.mem_of_getElem? (i := 979) (by decide +kernel)⟩
theorem lw_p29 : lw_okq (⟨"PushedOverModel", "readsHill", "()I"⟩, 29) := ⟨⟨by decide +kernel, by decide +kernel⟩, List.mem_of_getElem? (i := 824) (by decide +kernel), List.mem_of_getElem? (i := 983) (by decide +kernel), List.mem_of_getElem? (i := 984) (by decide +kernel)⟩
theorem lw_p30 : lw_okq (⟨"PushedOverModel", "reads", "()V"⟩, 29) := ⟨⟨by decide +kernel, by decide +kernel⟩, List.mem_of_getElem? (i := 824) (by decide +kernel), List.mem_of_getElem? (i := 991) (by decide +kernel), List.mem_of_getElem? (i := 992) (by decide +kernel)⟩
theorem lw_p31 : lw_okq (⟨"PushedOverModel", "lives", "()V"⟩, 29) := ⟨⟨by decide +kernel, by decide +kernel⟩, List.mem_of_getElem? (i := 824) (by decide +kernel), List.mem_of_getElem? (i := 1016) (by decide +kernel), List.mem_of_getElem? (i := 1017) (by decide +kernel)⟩
def lw_privs_2 : List (MethodName × Nat) := [(⟨"PushedOver", "busyMinutes", "()I"⟩, 13), (⟨"PushedOver$Day", "sort", "()V"⟩, 6), (⟨"PushedOver$Day", "firstFree", "(I)I"⟩, 6), (⟨"PushedOver$Sheet", "cut", "(I)I"⟩, 3), (⟨"PushedOver", "mixedWagons", "(J)J"⟩, 13), (⟨"PushedOver", "mixedHill", "(J)J"⟩, 13), (⟨"PushedOver", "mixedMinutes", "(J)J"⟩, 13), (⟨"PushedOver", "mixedOutcomes", "(J)J"⟩, 13), (⟨"PushedOver", "mixedStarts", "(J)J"⟩, 13), (⟨"PushedOver", "mixedDay", "(J)J"⟩, 13), (⟨"PushedOverModel", "met", "(I)I"⟩, 29), (⟨"PushedOverModel", "lacks", "(III)I"⟩, 29), (⟨"PushedOverModel", "readsTrain", "()I"⟩, 29), (⟨"PushedOverModel", "readsHill", "()I"⟩, 29), (⟨"PushedOverModel", "reads", "()V"⟩, 29), (⟨"PushedOverModel", "lives", "()V"⟩, 29)]
theorem lw_r2 : ∀ q ∈ lw_privs_2, lw_okq q := List.forall_mem_cons.mpr ⟨lw_p16, List.forall_mem_cons.mpr ⟨lw_p17, List.forall_mem_cons.mpr ⟨lw_p18, List.forall_mem_cons.mpr ⟨lw_p19, List.forall_mem_cons.mpr ⟨lw_p20, List.forall_mem_cons.mpr ⟨lw_p21, List.forall_mem_cons.mpr ⟨lw_p22, List.forall_mem_cons.mpr ⟨lw_p23, List.forall_mem_cons.mpr ⟨lw_p24, List.forall_mem_cons.mpr ⟨lw_p25, List.forall_mem_cons.mpr ⟨lw_p26, List.forall_mem_cons.mpr ⟨lw_p27, List.forall_mem_cons.mpr ⟨lw_p28, List.forall_mem_cons.mpr ⟨lw_p29, List.forall_mem_cons.mpr ⟨lw_p30, List.forall_mem_cons.mpr ⟨lw_p31, fun _ h => absurd h List.not_mem_nil⟩⟩⟩⟩⟩⟩⟩⟩⟩⟩⟩⟩⟩⟩⟩⟩
theorem lw_p32 : lw_okq (⟨"PushedOverModel", "givesOf", "(II)I"⟩, 29) := ⟨⟨by decide +kernel, by decide +kernel⟩, List.mem_of_getElem? (i := 824) (by decide +kernel), List.mem_of_getElem? (i := 1026) (by decide +kernel), List.mem_of_getElem? (i := 1027) (by decide +kernel)⟩
theorem lw_p33 : lw_okq (⟨"PushedOverModel", "leans", "(II)I"⟩, 29) := ⟨⟨by decide +kernel, by decide +kernel⟩, List.mem_of_getElem? (i := 824) (by decide +kernel), List.mem_of_getElem? (i := 1030) (by decide +kernel), List.mem_of_getElem? (i := 1031) (by decide +kernel)⟩
theorem lw_p34 : lw_okq (⟨"PushedOverModel", "minuteOf", "(II)I"⟩, 29) := ⟨⟨by decide +kernel, by decide +kernel⟩, List.mem_of_getElem? (i := 824) (by decide +kernel), List.mem_of_getElem? (i := 1042) (by decide +kernel), List.mem_of_getElem? (i := 1043) (by decide +kernel)⟩
theorem lw_p35 : lw_okq (⟨"PushedOverModel", "placeAt", "(I)I"⟩, 29) := ⟨⟨by decide +kernel, by decide +kernel⟩, List.mem_of_getElem? (i := 824) (by decide +kernel), List.mem_of_getElem? (i := 1046) (by decide +kernel), List.mem_of_getElem? (i := 1047) (by decide +kernel)⟩
theorem lw_p36 : lw_okq (⟨"PushedOverModel", "strainAt", "(II)I"⟩, 29) := ⟨⟨by decide +kernel, by decide +kernel⟩, List.mem_of_getElem? (i := 824) (by decide +kernel), List.mem_of_getElem? (i := 1058) (by decide +kernel), List.mem_of_getElem? (i := 1059) (by decide +kernel)⟩
theorem lw_p37 : lw_okq (⟨"PushedOverModel", "strainBy", "(III)I"⟩, 29) := ⟨⟨by decide +kernel, by decide +kernel⟩, List.mem_of_getElem? (i := 824) (by decide +kernel), List.mem_of_getElem? (i := 1062) (by decide +kernel), List.mem_of_getElem? (i := 1063) (by decide +kernel)⟩
theorem lw_p38 : lw_okq (⟨"PushedOverModel", "ahead", "(I)I"⟩, 29) := ⟨⟨by decide +kernel, by decide +kernel⟩, List.mem_of_getElem? (i := 824) (by decide +kernel), List.mem_of_getElem? (i := 1066) (by decide +kernel), List.mem_of_getElem? (i := 1067) (by decide +kernel)⟩
theorem lw_p39 : lw_okq (⟨"PushedOverModel", "slackAt", "(I)I"⟩, 29) := ⟨⟨by decide +kernel, by decide +kernel⟩, List.mem_of_getElem? (i := 824) (by decide +kernel), List.mem_of_getElem? (i := 1077) (by decide +kernel), List.mem_of_getElem? (i := 1078) (by decide +kernel)⟩
theorem lw_p40 : lw_okq (⟨"PushedOverModel", "tornNow", "()I"⟩, 29) := ⟨⟨by decide +kernel, by decide +kernel⟩, List.mem_of_getElem? (i := 824) (by decide +kernel), List.mem_of_getElem? (i := 1085) (by decide +kernel), List.mem_of_getElem? (i := 1086) (by decide +kernel)⟩
theorem lw_p41 : lw_okq (⟨"PushedOverModel", "isTorn", "(II)Z"⟩, 29) := ⟨⟨by decide +kernel, by decide +kernel⟩, List.mem_of_getElem? (i := 824) (by decide +kernel), List.mem_of_getElem? (i := 1089) (by decide +kernel), List.mem_of_getElem? (i := 1090) (by decide +kernel)⟩
theorem lw_p42 : lw_okq (⟨"PushedOverModel", "offOf", "(I)I"⟩, 29) := ⟨⟨by decide +kernel, by decide +kernel⟩, List.mem_of_getElem? (i := 824) (by decide +kernel), List.mem_of_getElem? (i := 1097) (by decide +kernel), List.mem_of_getElem? (i := 1098) (by decide +kernel)⟩
theorem lw_p43 : lw_okq (⟨"PushedOverModel", "squeezedOff", "(II)I"⟩, 29) := ⟨⟨by decide +kernel, by decide +kernel⟩, List.mem_of_getElem? (i := 824) (by decide +kernel), List.mem_of_getElem? (i := 1101) (by decide +kernel), List.mem_of_getElem? (i := 1102) (by decide +kernel)⟩
theorem lw_p44 : lw_okq (⟨"PushedOverModel", "overNow", "()I"⟩, 29) := ⟨⟨by decide +kernel, by decide +kernel⟩, List.mem_of_getElem? (i := 824) (by decide +kernel), List.mem_of_getElem? (i := 1109) (by decide +kernel), List.mem_of_getElem? (i := 1110) (by decide +kernel)⟩
theorem lw_p45 : lw_okq (⟨"PushedOverModel", "settlesNow", "()I"⟩, 29) := ⟨⟨by decide +kernel, by decide +kernel⟩, List.mem_of_getElem? (i := 824) (by decide +kernel), List.mem_of_getElem? (i := 1117) (by decide +kernel), List.mem_of_getElem? (i := 1118) (by decide +kernel)⟩
theorem lw_p46 : lw_okq (⟨"PushedOverModel", "isAlike", "(II)Z"⟩, 29) := ⟨⟨by decide +kernel, by decide +kernel⟩, List.mem_of_getElem? (i := 824) (by decide +kernel), List.mem_of_getElem? (i := 1121) (by decide +kernel), List.mem_of_getElem? (i := 1122) (by decide +kernel)⟩
theorem lw_p47 : lw_okq (⟨"PushedOverModel", "swingsNow", "()I"⟩, 29) := ⟨⟨by decide +kernel, by decide +kernel⟩, List.mem_of_getElem? (i := 824) (by decide +kernel), List.mem_of_getElem? (i := 1129) (by decide +kernel), List.mem_of_getElem? (i := 1130) (by decide +kernel)⟩
def lw_privs_3 : List (MethodName × Nat) := [(⟨"PushedOverModel", "givesOf", "(II)I"⟩, 29), (⟨"PushedOverModel", "leans", "(II)I"⟩, 29), (⟨"PushedOverModel", "minuteOf", "(II)I"⟩, 29), (⟨"PushedOverModel", "placeAt", "(I)I"⟩, 29), (⟨"PushedOverModel", "strainAt", "(II)I"⟩, 29), (⟨"PushedOverModel", "strainBy", "(III)I"⟩, 29), (⟨"PushedOverModel", "ahead", "(I)I"⟩, 29), (⟨"PushedOverModel", "slackAt", "(I)I"⟩, 29), (⟨"PushedOverModel", "tornNow", "()I"⟩, 29), (⟨"PushedOverModel", "isTorn", "(II)Z"⟩, 29), (⟨"PushedOverModel", "offOf", "(I)I"⟩, 29), (⟨"PushedOverModel", "squeezedOff", "(II)I"⟩, 29), (⟨"PushedOverModel", "overNow", "()I"⟩, 29), (⟨"PushedOverModel", "settlesNow", "()I"⟩, 29), (⟨"PushedOverModel", "isAlike", "(II)Z"⟩, 29), (⟨"PushedOverModel", "swingsNow", "()I"⟩, 29)]
theorem lw_r3 : ∀ q ∈ lw_privs_3, lw_okq q := List.forall_mem_cons.mpr ⟨lw_p32, List.forall_mem_cons.mpr ⟨lw_p33, List.forall_mem_cons.mpr ⟨lw_p34, List.forall_mem_cons.mpr ⟨lw_p35, List.forall_mem_cons.mpr ⟨lw_p36, List.forall_mem_cons.mpr ⟨lw_p37, List.forall_mem_cons.mpr ⟨lw_p38, List.forall_mem_cons.mpr ⟨lw_p39, List.forall_mem_cons.mpr ⟨lw_p40, List.forall_mem_cons.mpr ⟨lw_p41, List.forall_mem_cons.mpr ⟨lw_p42, List.forall_mem_cons.mpr ⟨lw_p43, List.forall_mem_cons.mpr ⟨lw_p44, List.forall_mem_cons.mpr ⟨lw_p45, List.forall_mem_cons.mpr ⟨lw_p46, List.forall_mem_cons.mpr ⟨lw_p47, fun _ h => absurd h List.not_mem_nil⟩⟩⟩⟩⟩⟩⟩⟩⟩⟩⟩⟩⟩⟩⟩⟩
theorem lw_p48 : lw_okq (⟨"PushedOverModel", "doesOf", "(I)I"⟩, 29) := ⟨⟨by decide +kernel, by decide +kernel⟩, List.mem_of_getElem? (i := 824) (by decide +kernel), List.mem_of_getElem? (i := 1137) (by decide +kernel), List.mem_of_getElem? (i := 1138) (by decide +kernel)⟩
theorem lw_p49 : lw_okq (⟨"PushedOverModel", "startOf", "(II)I"⟩, 29) := ⟨⟨by decide +kernel, by decide +kernel⟩, List.mem_of_getElem? (i := 824) (by decide +kernel), List.mem_of_getElem? (i := 1145) (by decide +kernel), List.mem_of_getElem? (i := 1146) (by decide +kernel)⟩
theorem lw_p50 : lw_okq (⟨"PushedOverModel", "safeOf", "(I)I"⟩, 29) := ⟨⟨by decide +kernel, by decide +kernel⟩, List.mem_of_getElem? (i := 824) (by decide +kernel), List.mem_of_getElem? (i := 1153) (by decide +kernel), List.mem_of_getElem? (i := 1154) (by decide +kernel)⟩
theorem lw_p51 : lw_okq (⟨"PushedOverModel", "findOrder", "()V"⟩, 29) := ⟨⟨by decide +kernel, by decide +kernel⟩, List.mem_of_getElem? (i := 824) (by decide +kernel), List.mem_of_getElem? (i := 1161) (by decide +kernel), List.mem_of_getElem? (i := 1162) (by decide +kernel)⟩
theorem lw_p52 : lw_okq (⟨"PushedOverModel", "unfolds", "(I)V"⟩, 29) := ⟨⟨by decide +kernel, by decide +kernel⟩, List.mem_of_getElem? (i := 824) (by decide +kernel), List.mem_of_getElem? (i := 1165) (by decide +kernel), List.mem_of_getElem? (i := 1166) (by decide +kernel)⟩
theorem lw_p53 : lw_okq (⟨"PushedOverModel", "squeezes", "()V"⟩, 29) := ⟨⟨by decide +kernel, by decide +kernel⟩, List.mem_of_getElem? (i := 824) (by decide +kernel), List.mem_of_getElem? (i := 1169) (by decide +kernel), List.mem_of_getElem? (i := 1170) (by decide +kernel)⟩
theorem lw_p54 : lw_okq (⟨"PushedOverModel", "tellsOrder", "(I)I"⟩, 29) := ⟨⟨by decide +kernel, by decide +kernel⟩, List.mem_of_getElem? (i := 824) (by decide +kernel), List.mem_of_getElem? (i := 1176) (by decide +kernel), List.mem_of_getElem? (i := 1177) (by decide +kernel)⟩
theorem lw_p55 : lw_okq (⟨"PushedOverModel", "tellsSqueeze", "(I)I"⟩, 29) := ⟨⟨by decide +kernel, by decide +kernel⟩, List.mem_of_getElem? (i := 824) (by decide +kernel), List.mem_of_getElem? (i := 1184) (by decide +kernel), List.mem_of_getElem? (i := 1185) (by decide +kernel)⟩
theorem lw_p56 : lw_okq (⟨"PushedOverModel", "lateOf", "(II)I"⟩, 29) := ⟨⟨by decide +kernel, by decide +kernel⟩, List.mem_of_getElem? (i := 824) (by decide +kernel), List.mem_of_getElem? (i := 1206) (by decide +kernel), List.mem_of_getElem? (i := 1207) (by decide +kernel)⟩
theorem lw_p57 : lw_okq (⟨"PushedOverModel", "sorts", "()V"⟩, 29) := ⟨⟨by decide +kernel, by decide +kernel⟩, List.mem_of_getElem? (i := 824) (by decide +kernel), List.mem_of_getElem? (i := 1210) (by decide +kernel), List.mem_of_getElem? (i := 1211) (by decide +kernel)⟩
theorem lw_p58 : lw_okq (⟨"PushedOverModel", "enoughOf", "(I)I"⟩, 29) := ⟨⟨by decide +kernel, by decide +kernel⟩, List.mem_of_getElem? (i := 824) (by decide +kernel), List.mem_of_getElem? (i := 1218) (by decide +kernel), List.mem_of_getElem? (i := 1219) (by decide +kernel)⟩
def lw_privs_4 : List (MethodName × Nat) := [(⟨"PushedOverModel", "doesOf", "(I)I"⟩, 29), (⟨"PushedOverModel", "startOf", "(II)I"⟩, 29), (⟨"PushedOverModel", "safeOf", "(I)I"⟩, 29), (⟨"PushedOverModel", "findOrder", "()V"⟩, 29), (⟨"PushedOverModel", "unfolds", "(I)V"⟩, 29), (⟨"PushedOverModel", "squeezes", "()V"⟩, 29), (⟨"PushedOverModel", "tellsOrder", "(I)I"⟩, 29), (⟨"PushedOverModel", "tellsSqueeze", "(I)I"⟩, 29), (⟨"PushedOverModel", "lateOf", "(II)I"⟩, 29), (⟨"PushedOverModel", "sorts", "()V"⟩, 29), (⟨"PushedOverModel", "enoughOf", "(I)I"⟩, 29)]
theorem lw_r4 : ∀ q ∈ lw_privs_4, lw_okq q := List.forall_mem_cons.mpr ⟨lw_p48, List.forall_mem_cons.mpr ⟨lw_p49, List.forall_mem_cons.mpr ⟨lw_p50, List.forall_mem_cons.mpr ⟨lw_p51, List.forall_mem_cons.mpr ⟨lw_p52, List.forall_mem_cons.mpr ⟨lw_p53, List.forall_mem_cons.mpr ⟨lw_p54, List.forall_mem_cons.mpr ⟨lw_p55, List.forall_mem_cons.mpr ⟨lw_p56, List.forall_mem_cons.mpr ⟨lw_p57, List.forall_mem_cons.mpr ⟨lw_p58, fun _ h => absurd h List.not_mem_nil⟩⟩⟩⟩⟩⟩⟩⟩⟩⟩⟩
def lw_privs : List (MethodName × Nat) := lw_privs_1 ++ (lw_privs_2 ++ (lw_privs_3 ++ (lw_privs_4)))
def lw_tbl : List Cond := k2_sels lw_privs ++ tables_1
theorem lw_privs_ok : ∀ q ∈ lw_privs, lw_okq q := by
  show ∀ q ∈ lw_privs_1 ++ (lw_privs_2 ++ (lw_privs_3 ++ (lw_privs_4))), lw_okq q
  exact List.forall_mem_append.mpr ⟨lw_r1, List.forall_mem_append.mpr ⟨lw_r2, List.forall_mem_append.mpr ⟨lw_r3, lw_r4⟩⟩⟩
def RX0 : String := "PushedOver$BestRow"
def TX0 : u_T := fun k => match k with
  | 0 => ("PushedOver$BestRow", "row", "[I", true)
  | 1 => ("PushedOver$BestRow", "best", "[I", true)
  | 2 => ("PushedOver$BestRow", "size", "I", false)
  | 3 => ("PushedOver$BestRow", "rowAbove", "I", false)
  | 4 => ("PushedOver$BestRow", "rowBelow", "I", false)
  | 5 => ("PushedOver$BestRow", "bestAbove", "I", false)
  | 6 => ("PushedOver$BestRow", "bestBelow", "I", false)
  | _ => ("PushedOver$BestRow", "whole", "I", false)
def tyX0 : Nat → FieldType := fun k => match k with
  | 0 => .array .int
  | 1 => .array .int
  | 2 => .int
  | 3 => .int
  | 4 => .int
  | 5 => .int
  | 6 => .int
  | _ => .int
theorem nmX0 : ∀ a, a < 8 → ∀ b, b < 8 → a ≠ b → (TX0 a).2.1 ≠ (TX0 b).2.1 := by decide +kernel
theorem tyX0_ok : ∀ k, k < 8 → parseFieldDescriptor (TX0 k).2.2.1 = some (tyX0 k) := by decide +kernel
abbrev cX0_init : ByteArray := prog_2_method_1_code
def yX0_init : MethodName := ⟨RX0, "<init>", "()V"⟩
abbrev cX0_find : ByteArray := prog_2_method_2_code
def yX0_find : MethodName := ⟨RX0, "find", "(LPushedOver$Consist;II)V"⟩
abbrev cX0_begin : ByteArray := prog_2_method_3_code
def yX0_begin : MethodName := ⟨RX0, "begin", "(LPushedOver$Consist;)V"⟩
abbrev cX0_weigh : ByteArray := prog_2_method_4_code
def yX0_weigh : MethodName := ⟨RX0, "weigh", "(LPushedOver$Consist;II)V"⟩
abbrev cX0_keep : ByteArray := prog_2_method_5_code
def yX0_keep : MethodName := ⟨RX0, "keep", "()V"⟩
abbrev cX0_stepOn : ByteArray := prog_2_method_6_code
def yX0_stepOn : MethodName := ⟨RX0, "stepOn", "()Z"⟩
abbrev cX0_swap : ByteArray := prog_2_method_7_code
def yX0_swap : MethodName := ⟨RX0, "swap", "(II)V"⟩
abbrev cX0_wagonAt : ByteArray := prog_2_method_8_code
def yX0_wagonAt : MethodName := ⟨RX0, "wagonAt", "(I)I"⟩
abbrev cX0_squeezeAbove : ByteArray := prog_2_method_9_code
def yX0_squeezeAbove : MethodName := ⟨RX0, "squeezeAbove", "()I"⟩
abbrev cX0_squeezeBelow : ByteArray := prog_2_method_10_code
def yX0_squeezeBelow : MethodName := ⟨RX0, "squeezeBelow", "()I"⟩
def RX1 : String := "PushedOver$Consist"
def TX1 : u_T := fun k => match k with
  | 0 => ("PushedOver$Consist", "weights", "[I", true)
  | 1 => ("PushedOver$Consist", "aheadOf", "[I", true)
  | 2 => ("PushedOver$Consist", "size", "I", false)
  | 3 => ("PushedOver$Consist", "whole", "I", false)
  | _ => ("PushedOver$Consist", "fault", "I", false)
def tyX1 : Nat → FieldType := fun k => match k with
  | 0 => .array .int
  | 1 => .array .int
  | 2 => .int
  | 3 => .int
  | _ => .int
theorem nmX1 : ∀ a, a < 5 → ∀ b, b < 5 → a ≠ b → (TX1 a).2.1 ≠ (TX1 b).2.1 := by decide +kernel
theorem tyX1_ok : ∀ k, k < 5 → parseFieldDescriptor (TX1 k).2.2.1 = some (tyX1 k) := by decide +kernel
abbrev cX1_init : ByteArray := prog_3_method_1_code
def yX1_init : MethodName := ⟨RX1, "<init>", "()V"⟩
abbrev cX1_load : ByteArray := prog_3_method_2_code
def yX1_load : MethodName := ⟨RX1, "load", "(LPushedOver$Text;)V"⟩
abbrev cX1_faultOf : ByteArray := prog_3_method_3_code
def yX1_faultOf : MethodName := ⟨RX1, "faultOf", "(LPushedOver$Text;)I"⟩
abbrev cX1_firstFault : ByteArray := prog_3_method_4_code
def yX1_firstFault : MethodName := ⟨RX1, "firstFault", "()I"⟩
abbrev cX1_size : ByteArray := prog_3_method_5_code
def yX1_size : MethodName := ⟨RX1, "size", "()I"⟩
abbrev cX1_whole : ByteArray := prog_3_method_6_code
def yX1_whole : MethodName := ⟨RX1, "whole", "()I"⟩
abbrev cX1_weightOf : ByteArray := prog_3_method_7_code
def yX1_weightOf : MethodName := ⟨RX1, "weightOf", "(I)I"⟩
abbrev cX1_strainTimesWhole : ByteArray := prog_3_method_8_code
def yX1_strainTimesWhole : MethodName := ⟨RX1, "strainTimesWhole", "(III)I"⟩
abbrev cX1_firstSlack : ByteArray := prog_3_method_9_code
def yX1_firstSlack : MethodName := ⟨RX1, "firstSlack", "(II)I"⟩
abbrev cX1_tears : ByteArray := prog_3_method_10_code
def yX1_tears : MethodName := ⟨RX1, "tears", "(III)Z"⟩
abbrev cX1_firstSqueezed : ByteArray := prog_3_method_11_code
def yX1_firstSqueezed : MethodName := ⟨RX1, "firstSqueezed", "(III)I"⟩
def RX2 : String := "PushedOver$Day"
def TX2 : u_T := fun k => match k with
  | 0 => ("PushedOver$Day", "told", "[I", true)
  | 1 => ("PushedOver$Day", "inTurn", "[I", true)
  | 2 => ("PushedOver$Day", "freeFrom", "[I", true)
  | 3 => ("PushedOver$Day", "size", "I", false)
  | 4 => ("PushedOver$Day", "together", "I", false)
  | _ => ("PushedOver$Day", "most", "I", false)
def tyX2 : Nat → FieldType := fun k => match k with
  | 0 => .array .int
  | 1 => .array .int
  | 2 => .array .int
  | 3 => .int
  | 4 => .int
  | _ => .int
theorem nmX2 : ∀ a, a < 6 → ∀ b, b < 6 → a ≠ b → (TX2 a).2.1 ≠ (TX2 b).2.1 := by decide +kernel
theorem tyX2_ok : ∀ k, k < 6 → parseFieldDescriptor (TX2 k).2.2.1 = some (tyX2 k) := by decide +kernel
abbrev cX2_init : ByteArray := prog_4_method_1_code
def yX2_init : MethodName := ⟨RX2, "<init>", "()V"⟩
abbrev cX2_size : ByteArray := prog_4_method_2_code
def yX2_size : MethodName := ⟨RX2, "size", "()I"⟩
abbrev cX2_isFull : ByteArray := prog_4_method_3_code
def yX2_isFull : MethodName := ⟨RX2, "isFull", "()Z"⟩
abbrev cX2_tell : ByteArray := prog_4_method_4_code
def yX2_tell : MethodName := ⟨RX2, "tell", "(I)V"⟩
abbrev cX2_forgetLast : ByteArray := prog_4_method_5_code
def yX2_forgetLast : MethodName := ⟨RX2, "forgetLast", "()V"⟩
abbrev cX2_pushAll : ByteArray := prog_4_method_6_code
def yX2_pushAll : MethodName := ⟨RX2, "pushAll", "(II)V"⟩
abbrev cX2_firstFree : ByteArray := prog_4_method_7_code
def yX2_firstFree : MethodName := ⟨RX2, "firstFree", "(I)I"⟩
abbrev cX2_sort : ByteArray := prog_4_method_8_code
def yX2_sort : MethodName := ⟨RX2, "sort", "()V"⟩
abbrev cX2_waitedTogether : ByteArray := prog_4_method_9_code
def yX2_waitedTogether : MethodName := ⟨RX2, "waitedTogether", "()I"⟩
abbrev cX2_waitedMost : ByteArray := prog_4_method_10_code
def yX2_waitedMost : MethodName := ⟨RX2, "waitedMost", "()I"⟩
def RX3 : String := "PushedOver$Dials"
def TX3 : u_T := fun k => match k with
  | 0 => ("PushedOver$Dials", "least", "[I", true)
  | 1 => ("PushedOver$Dials", "most", "[I", true)
  | _ => ("PushedOver$Dials", "values", "[I", true)
def tyX3 : Nat → FieldType := fun k => match k with
  | 0 => .array .int
  | 1 => .array .int
  | _ => .array .int
theorem nmX3 : ∀ a, a < 3 → ∀ b, b < 3 → a ≠ b → (TX3 a).2.1 ≠ (TX3 b).2.1 := by decide +kernel
theorem tyX3_ok : ∀ k, k < 3 → parseFieldDescriptor (TX3 k).2.2.1 = some (tyX3 k) := by decide +kernel
abbrev cX3_init : ByteArray := prog_5_method_1_code
def yX3_init : MethodName := ⟨RX3, "<init>", "([I[I[I)V"⟩
abbrev cX3_takes : ByteArray := prog_5_method_2_code
def yX3_takes : MethodName := ⟨RX3, "takes", "(II)Z"⟩
abbrev cX3_at : ByteArray := prog_5_method_3_code
def yX3_at : MethodName := ⟨RX3, "at", "(I)I"⟩
abbrev cX3_turn : ByteArray := prog_5_method_4_code
def yX3_turn : MethodName := ⟨RX3, "turn", "(II)I"⟩
def RX4 : String := "PushedOver$Ride"
def TX4 : u_T := fun k => match k with
  | 0 => ("PushedOver$Ride", "pull", "[I", true)
  | 1 => ("PushedOver$Ride", "push", "[I", true)
  | 2 => ("PushedOver$Ride", "needed", "[I", true)
  | 3 => ("PushedOver$Ride", "speed", "[I", true)
  | _ => ("PushedOver$Ride", "tenths", "[I", true)
def tyX4 : Nat → FieldType := fun k => match k with
  | 0 => .array .int
  | 1 => .array .int
  | 2 => .array .int
  | 3 => .array .int
  | _ => .array .int
theorem nmX4 : ∀ a, a < 5 → ∀ b, b < 5 → a ≠ b → (TX4 a).2.1 ≠ (TX4 b).2.1 := by decide +kernel
theorem tyX4_ok : ∀ k, k < 5 → parseFieldDescriptor (TX4 k).2.2.1 = some (tyX4 k) := by decide +kernel
abbrev cX4_init : ByteArray := prog_6_method_1_code
def yX4_init : MethodName := ⟨RX4, "<init>", "()V"⟩
abbrev cX4_run : ByteArray := prog_6_method_2_code
def yX4_run : MethodName := ⟨RX4, "run", "(ILPushedOver$Slopes;LPushedOver$Dials;LPushedOver$Dials;I)V"⟩
abbrev cX4_nextSpeed : ByteArray := prog_6_method_3_code
def yX4_nextSpeed : MethodName := ⟨RX4, "nextSpeed", "(II)I"⟩
abbrev cX4_byRule : ByteArray := prog_6_method_4_code
def yX4_byRule : MethodName := ⟨RX4, "byRule", "(LPushedOver$Dials;I[I[I)I"⟩
abbrev cX4_given : ByteArray := prog_6_method_5_code
def yX4_given : MethodName := ⟨RX4, "given", "(II)I"⟩
abbrev cX4_neededIn : ByteArray := prog_6_method_6_code
def yX4_neededIn : MethodName := ⟨RX4, "neededIn", "(I)I"⟩
abbrev cX4_speedIn : ByteArray := prog_6_method_7_code
def yX4_speedIn : MethodName := ⟨RX4, "speedIn", "(I)I"⟩
abbrev cX4_placeIn : ByteArray := prog_6_method_8_code
def yX4_placeIn : MethodName := ⟨RX4, "placeIn", "(I)I"⟩
abbrev cX4_allGiven : ByteArray := prog_6_method_9_code
def yX4_allGiven : MethodName := ⟨RX4, "allGiven", "(I)I"⟩
abbrev cX4_givesAlike : ByteArray := prog_6_method_10_code
def yX4_givesAlike : MethodName := ⟨RX4, "givesAlike", "(II)Z"⟩
abbrev cX4_comesAgain : ByteArray := prog_6_method_11_code
def yX4_comesAgain : MethodName := ⟨RX4, "comesAgain", "(I)Z"⟩
def RX5 : String := "PushedOver$Sheet"
def TX5 : u_T := fun k => match k with
  | 0 => ("PushedOver$Sheet", "items", "[I", true)
  | 1 => ("PushedOver$Sheet", "form", "I", false)
  | _ => ("PushedOver$Sheet", "size", "I", false)
def tyX5 : Nat → FieldType := fun k => match k with
  | 0 => .array .int
  | 1 => .int
  | _ => .int
theorem nmX5 : ∀ a, a < 3 → ∀ b, b < 3 → a ≠ b → (TX5 a).2.1 ≠ (TX5 b).2.1 := by decide +kernel
theorem tyX5_ok : ∀ k, k < 3 → parseFieldDescriptor (TX5 k).2.2.1 = some (tyX5 k) := by decide +kernel
abbrev cX5_init : ByteArray := prog_7_method_1_code
def yX5_init : MethodName := ⟨RX5, "<init>", "()V"⟩
abbrev cX5_isLost : ByteArray := prog_7_method_2_code
def yX5_isLost : MethodName := ⟨RX5, "isLost", "()Z"⟩
abbrev cX5_isOfForm : ByteArray := prog_7_method_3_code
def yX5_isOfForm : MethodName := ⟨RX5, "isOfForm", "(I)Z"⟩
abbrev cX5_formNumber : ByteArray := prog_7_method_4_code
def yX5_formNumber : MethodName := ⟨RX5, "formNumber", "()I"⟩
abbrev cX5_size : ByteArray := prog_7_method_5_code
def yX5_size : MethodName := ⟨RX5, "size", "()I"⟩
abbrev cX5_renew : ByteArray := prog_7_method_6_code
def yX5_renew : MethodName := ⟨RX5, "renew", "(II)V"⟩
abbrev cX5_drop : ByteArray := prog_7_method_7_code
def yX5_drop : MethodName := ⟨RX5, "drop", "()V"⟩
abbrev cX5_hasItems : ByteArray := prog_7_method_8_code
def yX5_hasItems : MethodName := ⟨RX5, "hasItems", "(II)Z"⟩
abbrev cX5_itemAt : ByteArray := prog_7_method_9_code
def yX5_itemAt : MethodName := ⟨RX5, "itemAt", "(I)I"⟩
abbrev cX5_put : ByteArray := prog_7_method_10_code
def yX5_put : MethodName := ⟨RX5, "put", "(II)V"⟩
abbrev cX5_cut : ByteArray := prog_7_method_11_code
def yX5_cut : MethodName := ⟨RX5, "cut", "(I)I"⟩
abbrev cX5_takeOver : ByteArray := prog_7_method_12_code
def yX5_takeOver : MethodName := ⟨RX5, "takeOver", "(LPushedOver$Sheet;III)V"⟩
def RX6 : String := "PushedOver$Slopes"
def TX6 : u_T := fun k => match k with
  | 0 => ("PushedOver$Slopes", "steep", "[I", true)
  | 1 => ("PushedOver$Slopes", "bend", "[Z", true)
  | 2 => ("PushedOver$Slopes", "size", "I", false)
  | 3 => ("PushedOver$Slopes", "bends", "I", false)
  | _ => ("PushedOver$Slopes", "fault", "I", false)
def tyX6 : Nat → FieldType := fun k => match k with
  | 0 => .array .int
  | 1 => .array .boolean
  | 2 => .int
  | 3 => .int
  | _ => .int
theorem nmX6 : ∀ a, a < 5 → ∀ b, b < 5 → a ≠ b → (TX6 a).2.1 ≠ (TX6 b).2.1 := by decide +kernel
theorem tyX6_ok : ∀ k, k < 5 → parseFieldDescriptor (TX6 k).2.2.1 = some (tyX6 k) := by decide +kernel
abbrev cX6_init : ByteArray := prog_8_method_1_code
def yX6_init : MethodName := ⟨RX6, "<init>", "()V"⟩
abbrev cX6_load : ByteArray := prog_8_method_2_code
def yX6_load : MethodName := ⟨RX6, "load", "(LPushedOver$Text;)V"⟩
abbrev cX6_takes : ByteArray := prog_8_method_3_code
def yX6_takes : MethodName := ⟨RX6, "takes", "(I)Z"⟩
abbrev cX6_bendsLast : ByteArray := prog_8_method_4_code
def yX6_bendsLast : MethodName := ⟨RX6, "bendsLast", "()Z"⟩
abbrev cX6_firstFault : ByteArray := prog_8_method_5_code
def yX6_firstFault : MethodName := ⟨RX6, "firstFault", "()I"⟩
abbrev cX6_size : ByteArray := prog_8_method_6_code
def yX6_size : MethodName := ⟨RX6, "size", "()I"⟩
abbrev cX6_bends : ByteArray := prog_8_method_7_code
def yX6_bends : MethodName := ⟨RX6, "bends", "()I"⟩
abbrev cX6_steepAt : ByteArray := prog_8_method_8_code
def yX6_steepAt : MethodName := ⟨RX6, "steepAt", "(I)I"⟩
abbrev cX6_bendsAt : ByteArray := prog_8_method_9_code
def yX6_bendsAt : MethodName := ⟨RX6, "bendsAt", "(I)Z"⟩
def RX7 : String := "PushedOver$Text"
def TX7 : u_T := fun k => match k with
  | 0 => ("PushedOver$Text", "bytes", "[I", true)
  | 1 => ("PushedOver$Text", "limit", "I", true)
  | _ => ("PushedOver$Text", "size", "I", false)
def tyX7 : Nat → FieldType := fun k => match k with
  | 0 => .array .int
  | 1 => .int
  | _ => .int
theorem nmX7 : ∀ a, a < 3 → ∀ b, b < 3 → a ≠ b → (TX7 a).2.1 ≠ (TX7 b).2.1 := by decide +kernel
theorem tyX7_ok : ∀ k, k < 3 → parseFieldDescriptor (TX7 k).2.2.1 = some (tyX7 k) := by decide +kernel
abbrev cX7_init : ByteArray := prog_9_method_1_code
def yX7_init : MethodName := ⟨RX7, "<init>", "(I)V"⟩
abbrev cX7_size : ByteArray := prog_9_method_2_code
def yX7_size : MethodName := ⟨RX7, "size", "()I"⟩
abbrev cX7_isFull : ByteArray := prog_9_method_3_code
def yX7_isFull : MethodName := ⟨RX7, "isFull", "()Z"⟩
abbrev cX7_byteAt : ByteArray := prog_9_method_4_code
def yX7_byteAt : MethodName := ⟨RX7, "byteAt", "(I)I"⟩
abbrev cX7_append : ByteArray := prog_9_method_5_code
def yX7_append : MethodName := ⟨RX7, "append", "(I)V"⟩
abbrev cX7_shorten : ByteArray := prog_9_method_6_code
def yX7_shorten : MethodName := ⟨RX7, "shorten", "(I)V"⟩
def RX8 : String := "PushedOver"
def TX8 : u_T := fun k => match k with
  | 0 => ("PushedOver", "trainText", "LPushedOver$Text;", true)
  | 1 => ("PushedOver", "hillText", "LPushedOver$Text;", true)
  | 2 => ("PushedOver", "consist", "LPushedOver$Consist;", true)
  | 3 => ("PushedOver", "slopes", "LPushedOver$Slopes;", true)
  | 4 => ("PushedOver", "front", "LPushedOver$Dials;", true)
  | 5 => ("PushedOver", "behind", "LPushedOver$Dials;", true)
  | 6 => ("PushedOver", "settings", "LPushedOver$Dials;", true)
  | 7 => ("PushedOver", "ride", "LPushedOver$Ride;", true)
  | 8 => ("PushedOver", "bestRow", "LPushedOver$BestRow;", true)
  | 9 => ("PushedOver", "day", "LPushedOver$Day;", true)
  | 10 => ("PushedOver", "sheets", "[LPushedOver$Sheet;", true)
  | 11 => ("PushedOver", "bestRowStands", "Z", false)
  | _ => ("PushedOver", "latestFinding", "I", false)
def tyX8 : Nat → FieldType := fun k => match k with
  | 0 => .object "PushedOver$Text"
  | 1 => .object "PushedOver$Text"
  | 2 => .object "PushedOver$Consist"
  | 3 => .object "PushedOver$Slopes"
  | 4 => .object "PushedOver$Dials"
  | 5 => .object "PushedOver$Dials"
  | 6 => .object "PushedOver$Dials"
  | 7 => .object "PushedOver$Ride"
  | 8 => .object "PushedOver$BestRow"
  | 9 => .object "PushedOver$Day"
  | 10 => .array (.object "PushedOver$Sheet")
  | 11 => .boolean
  | _ => .int
theorem nmX8 : ∀ a, a < 13 → ∀ b, b < 13 → a ≠ b → (TX8 a).2.1 ≠ (TX8 b).2.1 := by decide +kernel
theorem tyX8_ok : ∀ k, k < 13 → parseFieldDescriptor (TX8 k).2.2.1 = some (tyX8 k) := by decide +kernel
abbrev cX8_init : ByteArray := prog_1_method_1_code
def yX8_init : MethodName := ⟨RX8, "<init>", "()V"⟩
abbrev cX8_type : ByteArray := prog_1_method_2_code
def yX8_type : MethodName := ⟨RX8, "type", "(II)I"⟩
abbrev cX8_wipe : ByteArray := prog_1_method_3_code
def yX8_wipe : MethodName := ⟨RX8, "wipe", "(I)I"⟩
abbrev cX8_undo : ByteArray := prog_1_method_4_code
def yX8_undo : MethodName := ⟨RX8, "undo", "(I)I"⟩
abbrev cX8_fault : ByteArray := prog_1_method_5_code
def yX8_fault : MethodName := ⟨RX8, "fault", "(I)I"⟩
abbrev cX8_wagon : ByteArray := prog_1_method_6_code
def yX8_wagon : MethodName := ⟨RX8, "wagon", "(I)I"⟩
abbrev cX8_hill : ByteArray := prog_1_method_7_code
def yX8_hill : MethodName := ⟨RX8, "hill", "(II)I"⟩
abbrev cX8_engine : ByteArray := prog_1_method_8_code
def yX8_engine : MethodName := ⟨RX8, "engine", "(III)I"⟩
abbrev cX8_set : ByteArray := prog_1_method_9_code
def yX8_set : MethodName := ⟨RX8, "set", "(II)I"⟩
abbrev cX8_gives : ByteArray := prog_1_method_10_code
def yX8_gives : MethodName := ⟨RX8, "gives", "(II)I"⟩
abbrev cX8_minute : ByteArray := prog_1_method_11_code
def yX8_minute : MethodName := ⟨RX8, "minute", "(II)I"⟩
abbrev cX8_strain : ByteArray := prog_1_method_12_code
def yX8_strain : MethodName := ⟨RX8, "strain", "(III)J"⟩
abbrev cX8_slack : ByteArray := prog_1_method_13_code
def yX8_slack : MethodName := ⟨RX8, "slack", "(I)I"⟩
abbrev cX8_torn : ByteArray := prog_1_method_14_code
def yX8_torn : MethodName := ⟨RX8, "torn", "()I"⟩
abbrev cX8_off : ByteArray := prog_1_method_15_code
def yX8_off : MethodName := ⟨RX8, "off", "(I)I"⟩
abbrev cX8_over : ByteArray := prog_1_method_16_code
def yX8_over : MethodName := ⟨RX8, "over", "()I"⟩
abbrev cX8_settles : ByteArray := prog_1_method_17_code
def yX8_settles : MethodName := ⟨RX8, "settles", "()I"⟩
abbrev cX8_swings : ByteArray := prog_1_method_18_code
def yX8_swings : MethodName := ⟨RX8, "swings", "()I"⟩
abbrev cX8_does : ByteArray := prog_1_method_19_code
def yX8_does : MethodName := ⟨RX8, "does", "(I)I"⟩
abbrev cX8_start : ByteArray := prog_1_method_20_code
def yX8_start : MethodName := ⟨RX8, "start", "(II)I"⟩
abbrev cX8_safe : ByteArray := prog_1_method_21_code
def yX8_safe : MethodName := ⟨RX8, "safe", "(I)I"⟩
abbrev cX8_order : ByteArray := prog_1_method_22_code
def yX8_order : MethodName := ⟨RX8, "order", "(I)I"⟩
abbrev cX8_squeeze : ByteArray := prog_1_method_23_code
def yX8_squeeze : MethodName := ⟨RX8, "squeeze", "(I)I"⟩
abbrev cX8_train : ByteArray := prog_1_method_24_code
def yX8_train : MethodName := ⟨RX8, "train", "(I)I"⟩
abbrev cX8_back : ByteArray := prog_1_method_25_code
def yX8_back : MethodName := ⟨RX8, "back", "()I"⟩
abbrev cX8_read : ByteArray := prog_1_method_26_code
def yX8_read : MethodName := ⟨RX8, "read", "(I)I"⟩
abbrev cX8_late : ByteArray := prog_1_method_27_code
def yX8_late : MethodName := ⟨RX8, "late", "(II)I"⟩
abbrev cX8_enough : ByteArray := prog_1_method_28_code
def yX8_enough : MethodName := ⟨RX8, "enough", "(I)I"⟩
abbrev cX8_whistles : ByteArray := prog_1_method_29_code
def yX8_whistles : MethodName := ⟨RX8, "whistles", "(IIII)J"⟩
abbrev cX8_words : ByteArray := prog_1_method_30_code
def yX8_words : MethodName := ⟨RX8, "words", "(I)I"⟩
abbrev cX8_sheet : ByteArray := prog_1_method_31_code
def yX8_sheet : MethodName := ⟨RX8, "sheet", "(III)I"⟩
abbrev cX8_lose : ByteArray := prog_1_method_32_code
def yX8_lose : MethodName := ⟨RX8, "lose", "(I)I"⟩
abbrev cX8_lay : ByteArray := prog_1_method_33_code
def yX8_lay : MethodName := ⟨RX8, "lay", "(IIII)I"⟩
abbrev cX8_get : ByteArray := prog_1_method_34_code
def yX8_get : MethodName := ⟨RX8, "get", "(III)I"⟩
abbrev cX8_copy : ByteArray := prog_1_method_35_code
def yX8_copy : MethodName := ⟨RX8, "copy", "(IIIII)I"⟩
abbrev cX8_write : ByteArray := prog_1_method_36_code
def yX8_write : MethodName := ⟨RX8, "write", "(II)I"⟩
abbrev cX8_count : ByteArray := prog_1_method_37_code
def yX8_count : MethodName := ⟨RX8, "count", "(I)I"⟩
abbrev cX8_digest : ByteArray := prog_1_method_38_code
def yX8_digest : MethodName := ⟨RX8, "digest", "()J"⟩
abbrev cX8_mixedWagons : ByteArray := prog_1_method_39_code
def yX8_mixedWagons : MethodName := ⟨RX8, "mixedWagons", "(J)J"⟩
abbrev cX8_mixedHill : ByteArray := prog_1_method_40_code
def yX8_mixedHill : MethodName := ⟨RX8, "mixedHill", "(J)J"⟩
abbrev cX8_mixedMinutes : ByteArray := prog_1_method_41_code
def yX8_mixedMinutes : MethodName := ⟨RX8, "mixedMinutes", "(J)J"⟩
abbrev cX8_mixedOutcomes : ByteArray := prog_1_method_42_code
def yX8_mixedOutcomes : MethodName := ⟨RX8, "mixedOutcomes", "(J)J"⟩
abbrev cX8_mixedStarts : ByteArray := prog_1_method_43_code
def yX8_mixedStarts : MethodName := ⟨RX8, "mixedStarts", "(J)J"⟩
abbrev cX8_mixedDay : ByteArray := prog_1_method_44_code
def yX8_mixedDay : MethodName := ⟨RX8, "mixedDay", "(J)J"⟩
abbrev cX8_mixed : ByteArray := prog_1_method_45_code
def yX8_mixed : MethodName := ⟨RX8, "mixed", "(JJ)J"⟩
abbrev cX8_refresh : ByteArray := prog_1_method_46_code
def yX8_refresh : MethodName := ⟨RX8, "refresh", "()V"⟩
abbrev cX8_findBestRow : ByteArray := prog_1_method_47_code
def yX8_findBestRow : MethodName := ⟨RX8, "findBestRow", "()V"⟩
abbrev cX8_squeezedOffIn : ByteArray := prog_1_method_48_code
def yX8_squeezedOffIn : MethodName := ⟨RX8, "squeezedOffIn", "(I)I"⟩
abbrev cX8_startOf : ByteArray := prog_1_method_49_code
def yX8_startOf : MethodName := ⟨RX8, "startOf", "(II)I"⟩
abbrev cX8_busyMinutes : ByteArray := prog_1_method_50_code
def yX8_busyMinutes : MethodName := ⟨RX8, "busyMinutes", "()I"⟩
abbrev cX8_found : ByteArray := prog_1_method_51_code
def yX8_found : MethodName := ⟨RX8, "found", "(I)I"⟩
abbrev cX8_findingOfItem : ByteArray := prog_1_method_52_code
def yX8_findingOfItem : MethodName := ⟨RX8, "findingOfItem", "(LPushedOver$Sheet;II)I"⟩
abbrev cX8_textAt : ByteArray := prog_1_method_53_code
def yX8_textAt : MethodName := ⟨RX8, "textAt", "(I)LPushedOver$Text;"⟩
abbrev cX8_engineAt : ByteArray := prog_1_method_54_code
def yX8_engineAt : MethodName := ⟨RX8, "engineAt", "(I)LPushedOver$Dials;"⟩
abbrev cX8_sheetAt : ByteArray := prog_1_method_55_code
def yX8_sheetAt : MethodName := ⟨RX8, "sheetAt", "(I)LPushedOver$Sheet;"⟩
abbrev cX8_isEngine : ByteArray := prog_1_method_56_code
def yX8_isEngine : MethodName := ⟨RX8, "isEngine", "(I)Z"⟩
abbrev cX8_isMinute : ByteArray := prog_1_method_57_code
def yX8_isMinute : MethodName := ⟨RX8, "isMinute", "(I)Z"⟩
abbrev cX8_isSecond : ByteArray := prog_1_method_58_code
def yX8_isSecond : MethodName := ⟨RX8, "isSecond", "(I)Z"⟩
abbrev cX8_isFootMinute : ByteArray := prog_1_method_59_code
def yX8_isFootMinute : MethodName := ⟨RX8, "isFootMinute", "(I)Z"⟩
abbrev cX8_isForm : ByteArray := prog_1_method_60_code
def yX8_isForm : MethodName := ⟨RX8, "isForm", "(I)Z"⟩
abbrev cX8_isZeroOrOne : ByteArray := prog_1_method_61_code
def yX8_isZeroOrOne : MethodName := ⟨RX8, "isZeroOrOne", "(I)Z"⟩
abbrev cX8_refusedAsLong : ByteArray := prog_1_method_62_code
def yX8_refusedAsLong : MethodName := ⟨RX8, "refusedAsLong", "(I)J"⟩
abbrev cX8_inLowestTerms : ByteArray := prog_1_method_63_code
def yX8_inLowestTerms : MethodName := ⟨RX8, "inLowestTerms", "(JJI)J"⟩
abbrev cX8_commonDivisor : ByteArray := prog_1_method_64_code
def yX8_commonDivisor : MethodName := ⟨RX8, "commonDivisor", "(JJ)J"⟩
abbrev cX8_power : ByteArray := prog_1_method_65_code
def yX8_power : MethodName := ⟨RX8, "power", "(II)J"⟩
abbrev cX8_choices : ByteArray := prog_1_method_66_code
def yX8_choices : MethodName := ⟨RX8, "choices", "(II)J"⟩
def RX9 : String := "PushedOverModel"
def TX9 : u_T := fun k => match k with
  | 0 => ("PushedOverModel", "forms", "[I", true)
  | 1 => ("PushedOverModel", "sizes", "[I", true)
  | 2 => ("PushedOverModel", "items", "[I", true)
  | 3 => ("PushedOverModel", "moved", "[I", true)
  | 4 => ("PushedOverModel", "latest", "I", false)
  | 5 => ("PushedOverModel", "bytes", "[I", true)
  | 6 => ("PushedOverModel", "typed", "[I", true)
  | 7 => ("PushedOverModel", "wagons", "I", false)
  | 8 => ("PushedOverModel", "heavy", "[I", true)
  | 9 => ("PushedOverModel", "whole", "I", false)
  | 10 => ("PushedOverModel", "places", "I", false)
  | 11 => ("PushedOverModel", "steep", "[I", true)
  | 12 => ("PushedOverModel", "isBent", "[Z", true)
  | 13 => ("PushedOverModel", "engine", "[I", true)
  | 14 => ("PushedOverModel", "settings", "[I", true)
  | 15 => ("PushedOverModel", "given", "[I", true)
  | 16 => ("PushedOverModel", "speed", "[I", true)
  | 17 => ("PushedOverModel", "far", "[I", true)
  | 18 => ("PushedOverModel", "needed", "[I", true)
  | 19 => ("PushedOverModel", "row", "[I", true)
  | 20 => ("PushedOverModel", "bestRow", "[I", true)
  | 21 => ("PushedOverModel", "bestAbove", "I", false)
  | 22 => ("PushedOverModel", "bestBy", "I", false)
  | 23 => ("PushedOverModel", "nowAbove", "I", false)
  | 24 => ("PushedOverModel", "nowBy", "I", false)
  | 25 => ("PushedOverModel", "trains", "I", false)
  | 26 => ("PushedOverModel", "there", "[I", true)
  | 27 => ("PushedOverModel", "sorted", "[I", true)
  | _ => ("PushedOverModel", "free", "[I", true)
def tyX9 : Nat → FieldType := fun k => match k with
  | 0 => .array .int
  | 1 => .array .int
  | 2 => .array .int
  | 3 => .array .int
  | 4 => .int
  | 5 => .array .int
  | 6 => .array .int
  | 7 => .int
  | 8 => .array .int
  | 9 => .int
  | 10 => .int
  | 11 => .array .int
  | 12 => .array .boolean
  | 13 => .array .int
  | 14 => .array .int
  | 15 => .array .int
  | 16 => .array .int
  | 17 => .array .int
  | 18 => .array .int
  | 19 => .array .int
  | 20 => .array .int
  | 21 => .int
  | 22 => .int
  | 23 => .int
  | 24 => .int
  | 25 => .int
  | 26 => .array .int
  | 27 => .array .int
  | _ => .array .int
theorem nmX9 : ∀ a, a < 29 → ∀ b, b < 29 → a ≠ b → (TX9 a).2.1 ≠ (TX9 b).2.1 := by decide +kernel
theorem tyX9_ok : ∀ k, k < 29 → parseFieldDescriptor (TX9 k).2.2.1 = some (tyX9 k) := by decide +kernel
abbrev cX9_init : ByteArray := prog_11_method_1_code
def yX9_init : MethodName := ⟨RX9, "<init>", "()V"⟩
abbrev cX9_in : ByteArray := prog_11_method_3_code
def yX9_in : MethodName := ⟨RX9, "in", "(JJJ)Z"⟩
abbrev cX9_no : ByteArray := prog_11_method_4_code
def yX9_no : MethodName := ⟨RX9, "no", "(I)J"⟩
abbrev cX9_isTwo : ByteArray := prog_11_method_5_code
def yX9_isTwo : MethodName := ⟨RX9, "isTwo", "(I)Z"⟩
abbrev cX9_lesser : ByteArray := prog_11_method_6_code
def yX9_lesser : MethodName := ⟨RX9, "lesser", "(II)I"⟩
abbrev cX9_greater : ByteArray := prog_11_method_7_code
def yX9_greater : MethodName := ⟨RX9, "greater", "(II)I"⟩
abbrev cX9_within : ByteArray := prog_11_method_8_code
def yX9_within : MethodName := ⟨RX9, "within", "(II)I"⟩
abbrev cX9_part : ByteArray := prog_11_method_9_code
def yX9_part : MethodName := ⟨RX9, "part", "(JJI)J"⟩
abbrev cX9_met : ByteArray := prog_11_method_10_code
def yX9_met : MethodName := ⟨RX9, "met", "(I)I"⟩
abbrev cX9_isSheet : ByteArray := prog_11_method_11_code
def yX9_isSheet : MethodName := ⟨RX9, "isSheet", "(I)Z"⟩
abbrev cX9_sheet : ByteArray := prog_11_method_12_code
def yX9_sheet : MethodName := ⟨RX9, "sheet", "(III)I"⟩
abbrev cX9_lose : ByteArray := prog_11_method_13_code
def yX9_lose : MethodName := ⟨RX9, "lose", "(I)I"⟩
abbrev cX9_lacks : ByteArray := prog_11_method_14_code
def yX9_lacks : MethodName := ⟨RX9, "lacks", "(III)I"⟩
abbrev cX9_cut : ByteArray := prog_11_method_15_code
def yX9_cut : MethodName := ⟨RX9, "cut", "(II)I"⟩
abbrev cX9_lay : ByteArray := prog_11_method_16_code
def yX9_lay : MethodName := ⟨RX9, "lay", "(IIII)I"⟩
abbrev cX9_get : ByteArray := prog_11_method_17_code
def yX9_get : MethodName := ⟨RX9, "get", "(III)I"⟩
abbrev cX9_copy : ByteArray := prog_11_method_18_code
def yX9_copy : MethodName := ⟨RX9, "copy", "(IIIII)I"⟩
abbrev cX9_type : ByteArray := prog_11_method_19_code
def yX9_type : MethodName := ⟨RX9, "type", "(II)I"⟩
abbrev cX9_wipe : ByteArray := prog_11_method_20_code
def yX9_wipe : MethodName := ⟨RX9, "wipe", "(I)I"⟩
abbrev cX9_undo : ByteArray := prog_11_method_21_code
def yX9_undo : MethodName := ⟨RX9, "undo", "(I)I"⟩
abbrev cX9_readsTrain : ByteArray := prog_11_method_22_code
def yX9_readsTrain : MethodName := ⟨RX9, "readsTrain", "()I"⟩
abbrev cX9_readsHill : ByteArray := prog_11_method_23_code
def yX9_readsHill : MethodName := ⟨RX9, "readsHill", "()I"⟩
abbrev cX9_reads : ByteArray := prog_11_method_24_code
def yX9_reads : MethodName := ⟨RX9, "reads", "()V"⟩
abbrev cX9_fault : ByteArray := prog_11_method_25_code
def yX9_fault : MethodName := ⟨RX9, "fault", "(I)I"⟩
abbrev cX9_wagon : ByteArray := prog_11_method_26_code
def yX9_wagon : MethodName := ⟨RX9, "wagon", "(I)I"⟩
abbrev cX9_hill : ByteArray := prog_11_method_27_code
def yX9_hill : MethodName := ⟨RX9, "hill", "(II)I"⟩
abbrev cX9_engine : ByteArray := prog_11_method_28_code
def yX9_engine : MethodName := ⟨RX9, "engine", "(III)I"⟩
abbrev cX9_set : ByteArray := prog_11_method_29_code
def yX9_set : MethodName := ⟨RX9, "set", "(II)I"⟩
abbrev cX9_leans : ByteArray := prog_11_method_30_code
def yX9_leans : MethodName := ⟨RX9, "leans", "(II)I"⟩
abbrev cX9_givesOf : ByteArray := prog_11_method_31_code
def yX9_givesOf : MethodName := ⟨RX9, "givesOf", "(II)I"⟩
abbrev cX9_lives : ByteArray := prog_11_method_32_code
def yX9_lives : MethodName := ⟨RX9, "lives", "()V"⟩
abbrev cX9_isMinute : ByteArray := prog_11_method_33_code
def yX9_isMinute : MethodName := ⟨RX9, "isMinute", "(I)Z"⟩
abbrev cX9_gives : ByteArray := prog_11_method_34_code
def yX9_gives : MethodName := ⟨RX9, "gives", "(II)I"⟩
abbrev cX9_placeAt : ByteArray := prog_11_method_35_code
def yX9_placeAt : MethodName := ⟨RX9, "placeAt", "(I)I"⟩
abbrev cX9_minuteOf : ByteArray := prog_11_method_36_code
def yX9_minuteOf : MethodName := ⟨RX9, "minuteOf", "(II)I"⟩
abbrev cX9_minute : ByteArray := prog_11_method_37_code
def yX9_minute : MethodName := ⟨RX9, "minute", "(II)I"⟩
abbrev cX9_ahead : ByteArray := prog_11_method_38_code
def yX9_ahead : MethodName := ⟨RX9, "ahead", "(I)I"⟩
abbrev cX9_strainBy : ByteArray := prog_11_method_39_code
def yX9_strainBy : MethodName := ⟨RX9, "strainBy", "(III)I"⟩
abbrev cX9_strainAt : ByteArray := prog_11_method_40_code
def yX9_strainAt : MethodName := ⟨RX9, "strainAt", "(II)I"⟩
abbrev cX9_strain : ByteArray := prog_11_method_41_code
def yX9_strain : MethodName := ⟨RX9, "strain", "(III)J"⟩
abbrev cX9_slackAt : ByteArray := prog_11_method_42_code
def yX9_slackAt : MethodName := ⟨RX9, "slackAt", "(I)I"⟩
abbrev cX9_slack : ByteArray := prog_11_method_43_code
def yX9_slack : MethodName := ⟨RX9, "slack", "(I)I"⟩
abbrev cX9_isTorn : ByteArray := prog_11_method_44_code
def yX9_isTorn : MethodName := ⟨RX9, "isTorn", "(II)Z"⟩
abbrev cX9_tornNow : ByteArray := prog_11_method_45_code
def yX9_tornNow : MethodName := ⟨RX9, "tornNow", "()I"⟩
abbrev cX9_torn : ByteArray := prog_11_method_46_code
def yX9_torn : MethodName := ⟨RX9, "torn", "()I"⟩
abbrev cX9_squeezedOff : ByteArray := prog_11_method_47_code
def yX9_squeezedOff : MethodName := ⟨RX9, "squeezedOff", "(II)I"⟩
abbrev cX9_offOf : ByteArray := prog_11_method_48_code
def yX9_offOf : MethodName := ⟨RX9, "offOf", "(I)I"⟩
abbrev cX9_off : ByteArray := prog_11_method_49_code
def yX9_off : MethodName := ⟨RX9, "off", "(I)I"⟩
abbrev cX9_overNow : ByteArray := prog_11_method_50_code
def yX9_overNow : MethodName := ⟨RX9, "overNow", "()I"⟩
abbrev cX9_over : ByteArray := prog_11_method_51_code
def yX9_over : MethodName := ⟨RX9, "over", "()I"⟩
abbrev cX9_isAlike : ByteArray := prog_11_method_52_code
def yX9_isAlike : MethodName := ⟨RX9, "isAlike", "(II)Z"⟩
abbrev cX9_settlesNow : ByteArray := prog_11_method_53_code
def yX9_settlesNow : MethodName := ⟨RX9, "settlesNow", "()I"⟩
abbrev cX9_settles : ByteArray := prog_11_method_54_code
def yX9_settles : MethodName := ⟨RX9, "settles", "()I"⟩
abbrev cX9_swingsNow : ByteArray := prog_11_method_55_code
def yX9_swingsNow : MethodName := ⟨RX9, "swingsNow", "()I"⟩
abbrev cX9_swings : ByteArray := prog_11_method_56_code
def yX9_swings : MethodName := ⟨RX9, "swings", "()I"⟩
abbrev cX9_doesOf : ByteArray := prog_11_method_57_code
def yX9_doesOf : MethodName := ⟨RX9, "doesOf", "(I)I"⟩
abbrev cX9_does : ByteArray := prog_11_method_58_code
def yX9_does : MethodName := ⟨RX9, "does", "(I)I"⟩
abbrev cX9_startOf : ByteArray := prog_11_method_59_code
def yX9_startOf : MethodName := ⟨RX9, "startOf", "(II)I"⟩
abbrev cX9_start : ByteArray := prog_11_method_60_code
def yX9_start : MethodName := ⟨RX9, "start", "(II)I"⟩
abbrev cX9_safeOf : ByteArray := prog_11_method_61_code
def yX9_safeOf : MethodName := ⟨RX9, "safeOf", "(I)I"⟩
abbrev cX9_safe : ByteArray := prog_11_method_62_code
def yX9_safe : MethodName := ⟨RX9, "safe", "(I)I"⟩
abbrev cX9_unfolds : ByteArray := prog_11_method_63_code
def yX9_unfolds : MethodName := ⟨RX9, "unfolds", "(I)V"⟩
abbrev cX9_squeezes : ByteArray := prog_11_method_64_code
def yX9_squeezes : MethodName := ⟨RX9, "squeezes", "()V"⟩
abbrev cX9_findOrder : ByteArray := prog_11_method_65_code
def yX9_findOrder : MethodName := ⟨RX9, "findOrder", "()V"⟩
abbrev cX9_tellsOrder : ByteArray := prog_11_method_66_code
def yX9_tellsOrder : MethodName := ⟨RX9, "tellsOrder", "(I)I"⟩
abbrev cX9_tellsSqueeze : ByteArray := prog_11_method_67_code
def yX9_tellsSqueeze : MethodName := ⟨RX9, "tellsSqueeze", "(I)I"⟩
abbrev cX9_order : ByteArray := prog_11_method_68_code
def yX9_order : MethodName := ⟨RX9, "order", "(I)I"⟩
abbrev cX9_squeeze : ByteArray := prog_11_method_69_code
def yX9_squeeze : MethodName := ⟨RX9, "squeeze", "(I)I"⟩
abbrev cX9_train : ByteArray := prog_11_method_70_code
def yX9_train : MethodName := ⟨RX9, "train", "(I)I"⟩
abbrev cX9_back : ByteArray := prog_11_method_71_code
def yX9_back : MethodName := ⟨RX9, "back", "()I"⟩
abbrev cX9_read : ByteArray := prog_11_method_72_code
def yX9_read : MethodName := ⟨RX9, "read", "(I)I"⟩
abbrev cX9_sorts : ByteArray := prog_11_method_73_code
def yX9_sorts : MethodName := ⟨RX9, "sorts", "()V"⟩
abbrev cX9_lateOf : ByteArray := prog_11_method_74_code
def yX9_lateOf : MethodName := ⟨RX9, "lateOf", "(II)I"⟩
abbrev cX9_late : ByteArray := prog_11_method_75_code
def yX9_late : MethodName := ⟨RX9, "late", "(II)I"⟩
abbrev cX9_enoughOf : ByteArray := prog_11_method_76_code
def yX9_enoughOf : MethodName := ⟨RX9, "enoughOf", "(I)I"⟩
abbrev cX9_enough : ByteArray := prog_11_method_77_code
def yX9_enough : MethodName := ⟨RX9, "enough", "(I)I"⟩
abbrev cX9_whistlesOf : ByteArray := prog_11_method_78_code
def yX9_whistlesOf : MethodName := ⟨RX9, "whistlesOf", "(IIII)J"⟩
abbrev cX9_whistles : ByteArray := prog_11_method_79_code
def yX9_whistles : MethodName := ⟨RX9, "whistles", "(IIII)J"⟩
abbrev cX9_words : ByteArray := prog_11_method_80_code
def yX9_words : MethodName := ⟨RX9, "words", "(I)I"⟩
abbrev cX9_write : ByteArray := prog_11_method_81_code
def yX9_write : MethodName := ⟨RX9, "write", "(II)I"⟩
abbrev cX9_count : ByteArray := prog_11_method_82_code
def yX9_count : MethodName := ⟨RX9, "count", "(I)I"⟩
abbrev cX9_digest : ByteArray := prog_11_method_83_code
def yX9_digest : MethodName := ⟨RX9, "digest", "()J"⟩
def RJx8e188 : String := "java/lang/Cloneable"
def TJx8e188 : u_T := fun k => match k with
  | _ => ("", "", "", false)
def tyJx8e188 : Nat → FieldType := fun k => match k with
  | _ => .int
def RJ9 : String := "java/lang/Math"
def TJ9 : u_T := fun k => match k with
  | _ => ("", "", "", false)
def tyJ9 : Nat → FieldType := fun k => match k with
  | _ => .int
abbrev cJ9_abs_067f4 : ByteArray := prog_13_method_61_code
def yJ9_abs_067f4 : MethodName := ⟨RJ9, "abs", "(J)J"⟩
abbrev cJ9_max_7cf53 : ByteArray := prog_13_method_65_code
def yJ9_max_7cf53 : MethodName := ⟨RJ9, "max", "(II)I"⟩
abbrev cJ9_min_7cf53 : ByteArray := prog_13_method_69_code
def yJ9_min_7cf53 : MethodName := ⟨RJ9, "min", "(II)I"⟩
def RJ10 : String := "java/lang/System"
def TJ10 : u_T := fun k => match k with
  | _ => ("", "", "", false)
def tyJ10 : Nat → FieldType := fun k => match k with
  | _ => .int
def RL : String := "PushedOverLaw"
abbrev cL_law : ByteArray := code
def yL_law : MethodName := ⟨RL, "law", "([I)Z"⟩
end
section
theorem dX0_init_0 : decode cX0_init 0 = .ok (.aload_n 0, 1) := by decide +kernel
theorem dX0_init_1 : decode cX0_init 1 = .ok (.invokespecial 3, 3) := by decide +kernel
theorem dX0_init_4 : decode cX0_init 4 = .ok (.aload_n 0, 1) := by decide +kernel
theorem dX0_init_5 : decode cX0_init 5 = .ok (.bipush 6, 2) := by decide +kernel
theorem dX0_init_7 : decode cX0_init 7 = .ok (.newarray .int, 2) := by decide +kernel
theorem dX0_init_9 : decode cX0_init 9 = .ok (.putfield 9, 3) := by decide +kernel
theorem dX0_init_12 : decode cX0_init 12 = .ok (.aload_n 0, 1) := by decide +kernel
theorem dX0_init_13 : decode cX0_init 13 = .ok (.bipush 6, 2) := by decide +kernel
theorem dX0_init_15 : decode cX0_init 15 = .ok (.newarray .int, 2) := by decide +kernel
theorem dX0_init_17 : decode cX0_init 17 = .ok (.putfield 15, 3) := by decide +kernel
theorem dX0_init_20 : decode cX0_init 20 = .ok (.aload_n 0, 1) := by decide +kernel
theorem dX0_init_21 : decode cX0_init 21 = .ok (.iconst 0, 1) := by decide +kernel
theorem dX0_init_22 : decode cX0_init 22 = .ok (.putfield 18, 3) := by decide +kernel
theorem dX0_init_25 : decode cX0_init 25 = .ok (.aload_n 0, 1) := by decide +kernel
theorem dX0_init_26 : decode cX0_init 26 = .ok (.iconst 0, 1) := by decide +kernel
theorem dX0_init_27 : decode cX0_init 27 = .ok (.putfield 22, 3) := by decide +kernel
theorem dX0_init_30 : decode cX0_init 30 = .ok (.aload_n 0, 1) := by decide +kernel
theorem dX0_init_31 : decode cX0_init 31 = .ok (.iconst 1, 1) := by decide +kernel
theorem dX0_init_32 : decode cX0_init 32 = .ok (.putfield 25, 3) := by decide +kernel
theorem dX0_init_35 : decode cX0_init 35 = .ok (.aload_n 0, 1) := by decide +kernel
theorem dX0_init_36 : decode cX0_init 36 = .ok (.iconst 0, 1) := by decide +kernel
theorem dX0_init_37 : decode cX0_init 37 = .ok (.putfield 28, 3) := by decide +kernel
theorem dX0_init_40 : decode cX0_init 40 = .ok (.aload_n 0, 1) := by decide +kernel
theorem dX0_init_41 : decode cX0_init 41 = .ok (.iconst 1, 1) := by decide +kernel
theorem dX0_init_42 : decode cX0_init 42 = .ok (.putfield 31, 3) := by decide +kernel
theorem dX0_init_45 : decode cX0_init 45 = .ok (.aload_n 0, 1) := by decide +kernel
theorem dX0_init_46 : decode cX0_init 46 = .ok (.iconst 1, 1) := by decide +kernel
theorem dX0_init_47 : decode cX0_init 47 = .ok (.putfield 34, 3) := by decide +kernel
theorem dX0_init_50 : decode cX0_init 50 = .ok (.return_, 1) := by decide +kernel
theorem dX0_find_0 : decode cX0_find 0 = .ok (.aload_n 0, 1) := by decide +kernel
theorem dX0_find_1 : decode cX0_find 1 = .ok (.aload_n 1, 1) := by decide +kernel
theorem dX0_find_2 : decode cX0_find 2 = .ok (.invokevirtual 37, 3) := by decide +kernel
theorem dX0_find_5 : decode cX0_find 5 = .ok (.aload_n 0, 1) := by decide +kernel
theorem dX0_find_6 : decode cX0_find 6 = .ok (.getfield 18, 3) := by decide +kernel
theorem dX0_find_9 : decode cX0_find 9 = .ok (.ifCond .le 7, 3) := by decide +kernel
theorem dX0_find_12 : decode cX0_find 12 = .ok (.iconst 1, 1) := by decide +kernel
theorem dX0_find_13 : decode cX0_find 13 = .ok (.goto 4, 3) := by decide +kernel
theorem dX0_find_16 : decode cX0_find 16 = .ok (.iconst 0, 1) := by decide +kernel
theorem dX0_find_17 : decode cX0_find 17 = .ok (.istore 4, 2) := by decide +kernel
theorem dX0_find_19 : decode cX0_find 19 = .ok (.iconst 0, 1) := by decide +kernel
theorem dX0_find_20 : decode cX0_find 20 = .ok (.istore 5, 2) := by decide +kernel
theorem dX0_find_22 : decode cX0_find 22 = .ok (.iload 5, 2) := by decide +kernel
theorem dX0_find_24 : decode cX0_find 24 = .ok (.sipush 720, 3) := by decide +kernel
theorem dX0_find_27 : decode cX0_find 27 = .ok (.if_icmp .ge 57, 3) := by decide +kernel
theorem dX0_find_30 : decode cX0_find 30 = .ok (.iload 4, 2) := by decide +kernel
theorem dX0_find_32 : decode cX0_find 32 = .ok (.ifCond .eq 52, 3) := by decide +kernel
theorem dX0_find_35 : decode cX0_find 35 = .ok (.aload_n 0, 1) := by decide +kernel
theorem dX0_find_36 : decode cX0_find 36 = .ok (.aload_n 1, 1) := by decide +kernel
theorem dX0_find_37 : decode cX0_find 37 = .ok (.iload_n 2, 1) := by decide +kernel
theorem dX0_find_38 : decode cX0_find 38 = .ok (.iload_n 3, 1) := by decide +kernel
theorem dX0_find_39 : decode cX0_find 39 = .ok (.invokevirtual 41, 3) := by decide +kernel
theorem dX0_find_42 : decode cX0_find 42 = .ok (.iload 5, 2) := by decide +kernel
theorem dX0_find_44 : decode cX0_find 44 = .ok (.ifCond .eq 24, 3) := by decide +kernel
theorem dX0_find_47 : decode cX0_find 47 = .ok (.aload_n 0, 1) := by decide +kernel
theorem dX0_find_48 : decode cX0_find 48 = .ok (.getfield 22, 3) := by decide +kernel
theorem dX0_find_51 : decode cX0_find 51 = .ok (.aload_n 0, 1) := by decide +kernel
theorem dX0_find_52 : decode cX0_find 52 = .ok (.getfield 31, 3) := by decide +kernel
theorem dX0_find_55 : decode cX0_find 55 = .ok (.imul, 1) := by decide +kernel
theorem dX0_find_56 : decode cX0_find 56 = .ok (.aload_n 0, 1) := by decide +kernel
theorem dX0_find_57 : decode cX0_find 57 = .ok (.getfield 28, 3) := by decide +kernel
theorem dX0_find_60 : decode cX0_find 60 = .ok (.aload_n 0, 1) := by decide +kernel
theorem dX0_find_61 : decode cX0_find 61 = .ok (.getfield 25, 3) := by decide +kernel
theorem dX0_find_64 : decode cX0_find 64 = .ok (.imul, 1) := by decide +kernel
theorem dX0_find_65 : decode cX0_find 65 = .ok (.if_icmp .ge 7, 3) := by decide +kernel
theorem dX0_find_68 : decode cX0_find 68 = .ok (.aload_n 0, 1) := by decide +kernel
theorem dX0_find_69 : decode cX0_find 69 = .ok (.invokevirtual 45, 3) := by decide +kernel
theorem dX0_find_72 : decode cX0_find 72 = .ok (.aload_n 0, 1) := by decide +kernel
theorem dX0_find_73 : decode cX0_find 73 = .ok (.invokevirtual 48, 3) := by decide +kernel
theorem dX0_find_76 : decode cX0_find 76 = .ok (.istore 4, 2) := by decide +kernel
theorem dX0_find_78 : decode cX0_find 78 = .ok (.iinc 5 1, 3) := by decide +kernel
theorem dX0_find_81 : decode cX0_find 81 = .ok (.goto (-59), 3) := by decide +kernel
theorem dX0_find_84 : decode cX0_find 84 = .ok (.return_, 1) := by decide +kernel
theorem dX0_begin_0 : decode cX0_begin 0 = .ok (.aload_n 0, 1) := by decide +kernel
theorem dX0_begin_1 : decode cX0_begin 1 = .ok (.aload_n 1, 1) := by decide +kernel
theorem dX0_begin_2 : decode cX0_begin 2 = .ok (.invokevirtual 52, 3) := by decide +kernel
theorem dX0_begin_5 : decode cX0_begin 5 = .ok (.bipush 6, 2) := by decide +kernel
theorem dX0_begin_7 : decode cX0_begin 7 = .ok (.if_icmp .gt 10, 3) := by decide +kernel
theorem dX0_begin_10 : decode cX0_begin 10 = .ok (.aload_n 1, 1) := by decide +kernel
theorem dX0_begin_11 : decode cX0_begin 11 = .ok (.invokevirtual 52, 3) := by decide +kernel
theorem dX0_begin_14 : decode cX0_begin 14 = .ok (.goto 4, 3) := by decide +kernel
theorem dX0_begin_17 : decode cX0_begin 17 = .ok (.iconst 0, 1) := by decide +kernel
theorem dX0_begin_18 : decode cX0_begin 18 = .ok (.putfield 18, 3) := by decide +kernel
theorem dX0_begin_21 : decode cX0_begin 21 = .ok (.aload_n 0, 1) := by decide +kernel
theorem dX0_begin_22 : decode cX0_begin 22 = .ok (.aload_n 0, 1) := by decide +kernel
theorem dX0_begin_23 : decode cX0_begin 23 = .ok (.getfield 18, 3) := by decide +kernel
theorem dX0_begin_26 : decode cX0_begin 26 = .ok (.ifCond .le 10, 3) := by decide +kernel
theorem dX0_begin_29 : decode cX0_begin 29 = .ok (.aload_n 1, 1) := by decide +kernel
theorem dX0_begin_30 : decode cX0_begin 30 = .ok (.invokevirtual 57, 3) := by decide +kernel
theorem dX0_begin_33 : decode cX0_begin 33 = .ok (.goto 4, 3) := by decide +kernel
theorem dX0_begin_36 : decode cX0_begin 36 = .ok (.iconst 1, 1) := by decide +kernel
theorem dX0_begin_37 : decode cX0_begin 37 = .ok (.putfield 34, 3) := by decide +kernel
theorem dX0_begin_40 : decode cX0_begin 40 = .ok (.aload_n 0, 1) := by decide +kernel
theorem dX0_begin_41 : decode cX0_begin 41 = .ok (.iconst 0, 1) := by decide +kernel
theorem dX0_begin_42 : decode cX0_begin 42 = .ok (.putfield 28, 3) := by decide +kernel
theorem dX0_begin_45 : decode cX0_begin 45 = .ok (.aload_n 0, 1) := by decide +kernel
theorem dX0_begin_46 : decode cX0_begin 46 = .ok (.iconst 1, 1) := by decide +kernel
theorem dX0_begin_47 : decode cX0_begin 47 = .ok (.putfield 31, 3) := by decide +kernel
theorem dX0_begin_50 : decode cX0_begin 50 = .ok (.iconst 0, 1) := by decide +kernel
theorem dX0_begin_51 : decode cX0_begin 51 = .ok (.istore_n 2, 1) := by decide +kernel
theorem dX0_begin_52 : decode cX0_begin 52 = .ok (.iload_n 2, 1) := by decide +kernel
theorem dX0_begin_53 : decode cX0_begin 53 = .ok (.bipush 6, 2) := by decide +kernel
theorem dX0_begin_55 : decode cX0_begin 55 = .ok (.if_icmp .ge 16, 3) := by decide +kernel
theorem dX0_begin_58 : decode cX0_begin 58 = .ok (.aload_n 0, 1) := by decide +kernel
theorem dX0_begin_59 : decode cX0_begin 59 = .ok (.getfield 9, 3) := by decide +kernel
theorem dX0_begin_62 : decode cX0_begin 62 = .ok (.iload_n 2, 1) := by decide +kernel
theorem dX0_begin_63 : decode cX0_begin 63 = .ok (.iload_n 2, 1) := by decide +kernel
theorem dX0_begin_64 : decode cX0_begin 64 = .ok (.iastore, 1) := by decide +kernel
theorem dX0_begin_65 : decode cX0_begin 65 = .ok (.iinc 2 1, 3) := by decide +kernel
theorem dX0_begin_68 : decode cX0_begin 68 = .ok (.goto (-16), 3) := by decide +kernel
theorem dX0_begin_71 : decode cX0_begin 71 = .ok (.return_, 1) := by decide +kernel
theorem dX0_weigh_0 : decode cX0_weigh 0 = .ok (.aload_n 0, 1) := by decide +kernel
theorem dX0_weigh_1 : decode cX0_weigh 1 = .ok (.iconst 0, 1) := by decide +kernel
theorem dX0_weigh_2 : decode cX0_weigh 2 = .ok (.putfield 22, 3) := by decide +kernel
theorem dX0_weigh_5 : decode cX0_weigh 5 = .ok (.aload_n 0, 1) := by decide +kernel
theorem dX0_weigh_6 : decode cX0_weigh 6 = .ok (.iconst 1, 1) := by decide +kernel
theorem dX0_weigh_7 : decode cX0_weigh 7 = .ok (.putfield 25, 3) := by decide +kernel
theorem dX0_weigh_10 : decode cX0_weigh 10 = .ok (.iconst 0, 1) := by decide +kernel
theorem dX0_weigh_11 : decode cX0_weigh 11 = .ok (.istore 4, 2) := by decide +kernel
theorem dX0_weigh_13 : decode cX0_weigh 13 = .ok (.iconst 0, 1) := by decide +kernel
theorem dX0_weigh_14 : decode cX0_weigh 14 = .ok (.istore 5, 2) := by decide +kernel
theorem dX0_weigh_16 : decode cX0_weigh 16 = .ok (.iload 5, 2) := by decide +kernel
theorem dX0_weigh_18 : decode cX0_weigh 18 = .ok (.aload_n 0, 1) := by decide +kernel
theorem dX0_weigh_19 : decode cX0_weigh 19 = .ok (.getfield 18, 3) := by decide +kernel
theorem dX0_weigh_22 : decode cX0_weigh 22 = .ok (.if_icmp .ge 80, 3) := by decide +kernel
theorem dX0_weigh_25 : decode cX0_weigh 25 = .ok (.iload 5, 2) := by decide +kernel
theorem dX0_weigh_27 : decode cX0_weigh 27 = .ok (.bipush 6, 2) := by decide +kernel
theorem dX0_weigh_29 : decode cX0_weigh 29 = .ok (.if_icmp .ge 73, 3) := by decide +kernel
theorem dX0_weigh_32 : decode cX0_weigh 32 = .ok (.aload_n 1, 1) := by decide +kernel
theorem dX0_weigh_33 : decode cX0_weigh 33 = .ok (.aload_n 0, 1) := by decide +kernel
theorem dX0_weigh_34 : decode cX0_weigh 34 = .ok (.getfield 9, 3) := by decide +kernel
theorem dX0_weigh_37 : decode cX0_weigh 37 = .ok (.iload 5, 2) := by decide +kernel
theorem dX0_weigh_39 : decode cX0_weigh 39 = .ok (.iaload, 1) := by decide +kernel
theorem dX0_weigh_40 : decode cX0_weigh 40 = .ok (.invokevirtual 59, 3) := by decide +kernel
theorem dX0_weigh_43 : decode cX0_weigh 43 = .ok (.istore 6, 2) := by decide +kernel
theorem dX0_weigh_45 : decode cX0_weigh 45 = .ok (.iload_n 2, 1) := by decide +kernel
theorem dX0_weigh_46 : decode cX0_weigh 46 = .ok (.iload_n 3, 1) := by decide +kernel
theorem dX0_weigh_47 : decode cX0_weigh 47 = .ok (.iadd, 1) := by decide +kernel
theorem dX0_weigh_48 : decode cX0_weigh 48 = .ok (.iload 4, 2) := by decide +kernel
theorem dX0_weigh_50 : decode cX0_weigh 50 = .ok (.imul, 1) := by decide +kernel
theorem dX0_weigh_51 : decode cX0_weigh 51 = .ok (.iload_n 2, 1) := by decide +kernel
theorem dX0_weigh_52 : decode cX0_weigh 52 = .ok (.aload_n 0, 1) := by decide +kernel
theorem dX0_weigh_53 : decode cX0_weigh 53 = .ok (.getfield 34, 3) := by decide +kernel
theorem dX0_weigh_56 : decode cX0_weigh 56 = .ok (.imul, 1) := by decide +kernel
theorem dX0_weigh_57 : decode cX0_weigh 57 = .ok (.isub, 1) := by decide +kernel
theorem dX0_weigh_58 : decode cX0_weigh 58 = .ok (.istore 7, 2) := by decide +kernel
theorem dX0_weigh_60 : decode cX0_weigh 60 = .ok (.iload 7, 2) := by decide +kernel
theorem dX0_weigh_62 : decode cX0_weigh 62 = .ok (.aload_n 0, 1) := by decide +kernel
theorem dX0_weigh_63 : decode cX0_weigh 63 = .ok (.getfield 25, 3) := by decide +kernel
theorem dX0_weigh_66 : decode cX0_weigh 66 = .ok (.imul, 1) := by decide +kernel
theorem dX0_weigh_67 : decode cX0_weigh 67 = .ok (.aload_n 0, 1) := by decide +kernel
theorem dX0_weigh_68 : decode cX0_weigh 68 = .ok (.getfield 22, 3) := by decide +kernel
theorem dX0_weigh_71 : decode cX0_weigh 71 = .ok (.iload 6, 2) := by decide +kernel
theorem dX0_weigh_73 : decode cX0_weigh 73 = .ok (.imul, 1) := by decide +kernel
theorem dX0_weigh_74 : decode cX0_weigh 74 = .ok (.if_icmp .le 15, 3) := by decide +kernel
theorem dX0_weigh_77 : decode cX0_weigh 77 = .ok (.aload_n 0, 1) := by decide +kernel
theorem dX0_weigh_78 : decode cX0_weigh 78 = .ok (.iload 7, 2) := by decide +kernel
theorem dX0_weigh_80 : decode cX0_weigh 80 = .ok (.putfield 22, 3) := by decide +kernel
theorem dX0_weigh_83 : decode cX0_weigh 83 = .ok (.aload_n 0, 1) := by decide +kernel
theorem dX0_weigh_84 : decode cX0_weigh 84 = .ok (.iload 6, 2) := by decide +kernel
theorem dX0_weigh_86 : decode cX0_weigh 86 = .ok (.putfield 25, 3) := by decide +kernel
theorem dX0_weigh_89 : decode cX0_weigh 89 = .ok (.iload 4, 2) := by decide +kernel
theorem dX0_weigh_91 : decode cX0_weigh 91 = .ok (.iload 6, 2) := by decide +kernel
theorem dX0_weigh_93 : decode cX0_weigh 93 = .ok (.iadd, 1) := by decide +kernel
theorem dX0_weigh_94 : decode cX0_weigh 94 = .ok (.istore 4, 2) := by decide +kernel
theorem dX0_weigh_96 : decode cX0_weigh 96 = .ok (.iinc 5 1, 3) := by decide +kernel
theorem dX0_weigh_99 : decode cX0_weigh 99 = .ok (.goto (-83), 3) := by decide +kernel
theorem dX0_weigh_102 : decode cX0_weigh 102 = .ok (.return_, 1) := by decide +kernel
theorem dX0_keep_0 : decode cX0_keep 0 = .ok (.aload_n 0, 1) := by decide +kernel
theorem dX0_keep_1 : decode cX0_keep 1 = .ok (.getfield 9, 3) := by decide +kernel
theorem dX0_keep_4 : decode cX0_keep 4 = .ok (.iconst 0, 1) := by decide +kernel
theorem dX0_keep_5 : decode cX0_keep 5 = .ok (.aload_n 0, 1) := by decide +kernel
theorem dX0_keep_6 : decode cX0_keep 6 = .ok (.getfield 15, 3) := by decide +kernel
theorem dX0_keep_9 : decode cX0_keep 9 = .ok (.iconst 0, 1) := by decide +kernel
theorem dX0_keep_10 : decode cX0_keep 10 = .ok (.bipush 6, 2) := by decide +kernel
theorem dX0_keep_12 : decode cX0_keep 12 = .ok (.invokestatic 63, 3) := by decide +kernel
theorem dX0_keep_15 : decode cX0_keep 15 = .ok (.aload_n 0, 1) := by decide +kernel
theorem dX0_keep_16 : decode cX0_keep 16 = .ok (.aload_n 0, 1) := by decide +kernel
theorem dX0_keep_17 : decode cX0_keep 17 = .ok (.getfield 22, 3) := by decide +kernel
theorem dX0_keep_20 : decode cX0_keep 20 = .ok (.putfield 28, 3) := by decide +kernel
theorem dX0_keep_23 : decode cX0_keep 23 = .ok (.aload_n 0, 1) := by decide +kernel
theorem dX0_keep_24 : decode cX0_keep 24 = .ok (.aload_n 0, 1) := by decide +kernel
theorem dX0_keep_25 : decode cX0_keep 25 = .ok (.getfield 25, 3) := by decide +kernel
theorem dX0_keep_28 : decode cX0_keep 28 = .ok (.putfield 31, 3) := by decide +kernel
theorem dX0_keep_31 : decode cX0_keep 31 = .ok (.return_, 1) := by decide +kernel
theorem dX0_stepOn_0 : decode cX0_stepOn 0 = .ok (.aload_n 0, 1) := by decide +kernel
theorem dX0_stepOn_1 : decode cX0_stepOn 1 = .ok (.getfield 18, 3) := by decide +kernel
theorem dX0_stepOn_4 : decode cX0_stepOn 4 = .ok (.iconst 2, 1) := by decide +kernel
theorem dX0_stepOn_5 : decode cX0_stepOn 5 = .ok (.isub, 1) := by decide +kernel
theorem dX0_stepOn_6 : decode cX0_stepOn 6 = .ok (.istore_n 1, 1) := by decide +kernel
theorem dX0_stepOn_7 : decode cX0_stepOn 7 = .ok (.iload_n 1, 1) := by decide +kernel
theorem dX0_stepOn_8 : decode cX0_stepOn 8 = .ok (.ifCond .lt 34, 3) := by decide +kernel
theorem dX0_stepOn_11 : decode cX0_stepOn 11 = .ok (.iload_n 1, 1) := by decide +kernel
theorem dX0_stepOn_12 : decode cX0_stepOn 12 = .ok (.iconst 1, 1) := by decide +kernel
theorem dX0_stepOn_13 : decode cX0_stepOn 13 = .ok (.iadd, 1) := by decide +kernel
theorem dX0_stepOn_14 : decode cX0_stepOn 14 = .ok (.bipush 6, 2) := by decide +kernel
theorem dX0_stepOn_16 : decode cX0_stepOn 16 = .ok (.if_icmp .ge 26, 3) := by decide +kernel
theorem dX0_stepOn_19 : decode cX0_stepOn 19 = .ok (.aload_n 0, 1) := by decide +kernel
theorem dX0_stepOn_20 : decode cX0_stepOn 20 = .ok (.getfield 9, 3) := by decide +kernel
theorem dX0_stepOn_23 : decode cX0_stepOn 23 = .ok (.iload_n 1, 1) := by decide +kernel
theorem dX0_stepOn_24 : decode cX0_stepOn 24 = .ok (.iaload, 1) := by decide +kernel
theorem dX0_stepOn_25 : decode cX0_stepOn 25 = .ok (.aload_n 0, 1) := by decide +kernel
theorem dX0_stepOn_26 : decode cX0_stepOn 26 = .ok (.getfield 9, 3) := by decide +kernel
theorem dX0_stepOn_29 : decode cX0_stepOn 29 = .ok (.iload_n 1, 1) := by decide +kernel
theorem dX0_stepOn_30 : decode cX0_stepOn 30 = .ok (.iconst 1, 1) := by decide +kernel
theorem dX0_stepOn_31 : decode cX0_stepOn 31 = .ok (.iadd, 1) := by decide +kernel
theorem dX0_stepOn_32 : decode cX0_stepOn 32 = .ok (.iaload, 1) := by decide +kernel
theorem dX0_stepOn_33 : decode cX0_stepOn 33 = .ok (.if_icmp .le 9, 3) := by decide +kernel
theorem dX0_stepOn_36 : decode cX0_stepOn 36 = .ok (.iinc 1 (-1), 3) := by decide +kernel
theorem dX0_stepOn_39 : decode cX0_stepOn 39 = .ok (.goto (-32), 3) := by decide +kernel
theorem dX0_stepOn_42 : decode cX0_stepOn 42 = .ok (.iload_n 1, 1) := by decide +kernel
theorem dX0_stepOn_43 : decode cX0_stepOn 43 = .ok (.ifCond .ge 5, 3) := by decide +kernel
theorem dX0_stepOn_46 : decode cX0_stepOn 46 = .ok (.iconst 0, 1) := by decide +kernel
theorem dX0_stepOn_47 : decode cX0_stepOn 47 = .ok (.ireturn, 1) := by decide +kernel
theorem dX0_stepOn_48 : decode cX0_stepOn 48 = .ok (.aload_n 0, 1) := by decide +kernel
theorem dX0_stepOn_49 : decode cX0_stepOn 49 = .ok (.getfield 18, 3) := by decide +kernel
theorem dX0_stepOn_52 : decode cX0_stepOn 52 = .ok (.bipush 6, 2) := by decide +kernel
theorem dX0_stepOn_54 : decode cX0_stepOn 54 = .ok (.invokestatic 69, 3) := by decide +kernel
theorem dX0_stepOn_57 : decode cX0_stepOn 57 = .ok (.iconst 1, 1) := by decide +kernel
theorem dX0_stepOn_58 : decode cX0_stepOn 58 = .ok (.isub, 1) := by decide +kernel
theorem dX0_stepOn_59 : decode cX0_stepOn 59 = .ok (.istore_n 2, 1) := by decide +kernel
theorem dX0_stepOn_60 : decode cX0_stepOn 60 = .ok (.iload_n 2, 1) := by decide +kernel
theorem dX0_stepOn_61 : decode cX0_stepOn 61 = .ok (.iload_n 1, 1) := by decide +kernel
theorem dX0_stepOn_62 : decode cX0_stepOn 62 = .ok (.if_icmp .le 24, 3) := by decide +kernel
theorem dX0_stepOn_65 : decode cX0_stepOn 65 = .ok (.aload_n 0, 1) := by decide +kernel
theorem dX0_stepOn_66 : decode cX0_stepOn 66 = .ok (.getfield 9, 3) := by decide +kernel
theorem dX0_stepOn_69 : decode cX0_stepOn 69 = .ok (.iload_n 2, 1) := by decide +kernel
theorem dX0_stepOn_70 : decode cX0_stepOn 70 = .ok (.iaload, 1) := by decide +kernel
theorem dX0_stepOn_71 : decode cX0_stepOn 71 = .ok (.aload_n 0, 1) := by decide +kernel
theorem dX0_stepOn_72 : decode cX0_stepOn 72 = .ok (.getfield 9, 3) := by decide +kernel
theorem dX0_stepOn_75 : decode cX0_stepOn 75 = .ok (.iload_n 1, 1) := by decide +kernel
theorem dX0_stepOn_76 : decode cX0_stepOn 76 = .ok (.iaload, 1) := by decide +kernel
theorem dX0_stepOn_77 : decode cX0_stepOn 77 = .ok (.if_icmp .ge 9, 3) := by decide +kernel
theorem dX0_stepOn_80 : decode cX0_stepOn 80 = .ok (.iinc 2 (-1), 3) := by decide +kernel
theorem dX0_stepOn_83 : decode cX0_stepOn 83 = .ok (.goto (-23), 3) := by decide +kernel
theorem dX0_stepOn_86 : decode cX0_stepOn 86 = .ok (.aload_n 0, 1) := by decide +kernel
theorem dX0_stepOn_87 : decode cX0_stepOn 87 = .ok (.iload_n 1, 1) := by decide +kernel
theorem dX0_stepOn_88 : decode cX0_stepOn 88 = .ok (.iload_n 2, 1) := by decide +kernel
theorem dX0_stepOn_89 : decode cX0_stepOn 89 = .ok (.invokevirtual 75, 3) := by decide +kernel
theorem dX0_stepOn_92 : decode cX0_stepOn 92 = .ok (.iload_n 1, 1) := by decide +kernel
theorem dX0_stepOn_93 : decode cX0_stepOn 93 = .ok (.iconst 1, 1) := by decide +kernel
theorem dX0_stepOn_94 : decode cX0_stepOn 94 = .ok (.iadd, 1) := by decide +kernel
theorem dX0_stepOn_95 : decode cX0_stepOn 95 = .ok (.istore_n 3, 1) := by decide +kernel
theorem dX0_stepOn_96 : decode cX0_stepOn 96 = .ok (.aload_n 0, 1) := by decide +kernel
theorem dX0_stepOn_97 : decode cX0_stepOn 97 = .ok (.getfield 18, 3) := by decide +kernel
theorem dX0_stepOn_100 : decode cX0_stepOn 100 = .ok (.iconst 1, 1) := by decide +kernel
theorem dX0_stepOn_101 : decode cX0_stepOn 101 = .ok (.isub, 1) := by decide +kernel
theorem dX0_stepOn_102 : decode cX0_stepOn 102 = .ok (.istore 4, 2) := by decide +kernel
theorem dX0_stepOn_104 : decode cX0_stepOn 104 = .ok (.iload_n 3, 1) := by decide +kernel
theorem dX0_stepOn_105 : decode cX0_stepOn 105 = .ok (.iload 4, 2) := by decide +kernel
theorem dX0_stepOn_107 : decode cX0_stepOn 107 = .ok (.if_icmp .ge 19, 3) := by decide +kernel
theorem dX0_stepOn_110 : decode cX0_stepOn 110 = .ok (.aload_n 0, 1) := by decide +kernel
theorem dX0_stepOn_111 : decode cX0_stepOn 111 = .ok (.iload_n 3, 1) := by decide +kernel
theorem dX0_stepOn_112 : decode cX0_stepOn 112 = .ok (.iload 4, 2) := by decide +kernel
theorem dX0_stepOn_114 : decode cX0_stepOn 114 = .ok (.invokevirtual 75, 3) := by decide +kernel
theorem dX0_stepOn_117 : decode cX0_stepOn 117 = .ok (.iinc 3 1, 3) := by decide +kernel
theorem dX0_stepOn_120 : decode cX0_stepOn 120 = .ok (.iinc 4 (-1), 3) := by decide +kernel
theorem dX0_stepOn_123 : decode cX0_stepOn 123 = .ok (.goto (-19), 3) := by decide +kernel
theorem dX0_stepOn_126 : decode cX0_stepOn 126 = .ok (.iconst 1, 1) := by decide +kernel
theorem dX0_stepOn_127 : decode cX0_stepOn 127 = .ok (.ireturn, 1) := by decide +kernel
theorem dX0_swap_0 : decode cX0_swap 0 = .ok (.iload_n 1, 1) := by decide +kernel
theorem dX0_swap_1 : decode cX0_swap 1 = .ok (.ifCond .lt 45, 3) := by decide +kernel
theorem dX0_swap_4 : decode cX0_swap 4 = .ok (.iload_n 1, 1) := by decide +kernel
theorem dX0_swap_5 : decode cX0_swap 5 = .ok (.bipush 6, 2) := by decide +kernel
theorem dX0_swap_7 : decode cX0_swap 7 = .ok (.if_icmp .ge 39, 3) := by decide +kernel
theorem dX0_swap_10 : decode cX0_swap 10 = .ok (.iload_n 2, 1) := by decide +kernel
theorem dX0_swap_11 : decode cX0_swap 11 = .ok (.ifCond .lt 35, 3) := by decide +kernel
theorem dX0_swap_14 : decode cX0_swap 14 = .ok (.iload_n 2, 1) := by decide +kernel
theorem dX0_swap_15 : decode cX0_swap 15 = .ok (.bipush 6, 2) := by decide +kernel
theorem dX0_swap_17 : decode cX0_swap 17 = .ok (.if_icmp .ge 29, 3) := by decide +kernel
theorem dX0_swap_20 : decode cX0_swap 20 = .ok (.aload_n 0, 1) := by decide +kernel
theorem dX0_swap_21 : decode cX0_swap 21 = .ok (.getfield 9, 3) := by decide +kernel
theorem dX0_swap_24 : decode cX0_swap 24 = .ok (.iload_n 1, 1) := by decide +kernel
theorem dX0_swap_25 : decode cX0_swap 25 = .ok (.iaload, 1) := by decide +kernel
theorem dX0_swap_26 : decode cX0_swap 26 = .ok (.istore_n 3, 1) := by decide +kernel
theorem dX0_swap_27 : decode cX0_swap 27 = .ok (.aload_n 0, 1) := by decide +kernel
theorem dX0_swap_28 : decode cX0_swap 28 = .ok (.getfield 9, 3) := by decide +kernel
theorem dX0_swap_31 : decode cX0_swap 31 = .ok (.iload_n 1, 1) := by decide +kernel
theorem dX0_swap_32 : decode cX0_swap 32 = .ok (.aload_n 0, 1) := by decide +kernel
theorem dX0_swap_33 : decode cX0_swap 33 = .ok (.getfield 9, 3) := by decide +kernel
theorem dX0_swap_36 : decode cX0_swap 36 = .ok (.iload_n 2, 1) := by decide +kernel
theorem dX0_swap_37 : decode cX0_swap 37 = .ok (.iaload, 1) := by decide +kernel
theorem dX0_swap_38 : decode cX0_swap 38 = .ok (.iastore, 1) := by decide +kernel
theorem dX0_swap_39 : decode cX0_swap 39 = .ok (.aload_n 0, 1) := by decide +kernel
theorem dX0_swap_40 : decode cX0_swap 40 = .ok (.getfield 9, 3) := by decide +kernel
theorem dX0_swap_43 : decode cX0_swap 43 = .ok (.iload_n 2, 1) := by decide +kernel
theorem dX0_swap_44 : decode cX0_swap 44 = .ok (.iload_n 3, 1) := by decide +kernel
theorem dX0_swap_45 : decode cX0_swap 45 = .ok (.iastore, 1) := by decide +kernel
theorem dX0_swap_46 : decode cX0_swap 46 = .ok (.return_, 1) := by decide +kernel
theorem dX0_wagonAt_0 : decode cX0_wagonAt 0 = .ok (.iload_n 1, 1) := by decide +kernel
theorem dX0_wagonAt_1 : decode cX0_wagonAt 1 = .ok (.ifCond .lt 26, 3) := by decide +kernel
theorem dX0_wagonAt_4 : decode cX0_wagonAt 4 = .ok (.iload_n 1, 1) := by decide +kernel
theorem dX0_wagonAt_5 : decode cX0_wagonAt 5 = .ok (.aload_n 0, 1) := by decide +kernel
theorem dX0_wagonAt_6 : decode cX0_wagonAt 6 = .ok (.getfield 18, 3) := by decide +kernel
theorem dX0_wagonAt_9 : decode cX0_wagonAt 9 = .ok (.if_icmp .ge 18, 3) := by decide +kernel
theorem dX0_wagonAt_12 : decode cX0_wagonAt 12 = .ok (.iload_n 1, 1) := by decide +kernel
theorem dX0_wagonAt_13 : decode cX0_wagonAt 13 = .ok (.bipush 6, 2) := by decide +kernel
theorem dX0_wagonAt_15 : decode cX0_wagonAt 15 = .ok (.if_icmp .ge 12, 3) := by decide +kernel
theorem dX0_wagonAt_18 : decode cX0_wagonAt 18 = .ok (.aload_n 0, 1) := by decide +kernel
theorem dX0_wagonAt_19 : decode cX0_wagonAt 19 = .ok (.getfield 15, 3) := by decide +kernel
theorem dX0_wagonAt_22 : decode cX0_wagonAt 22 = .ok (.iload_n 1, 1) := by decide +kernel
theorem dX0_wagonAt_23 : decode cX0_wagonAt 23 = .ok (.iaload, 1) := by decide +kernel
theorem dX0_wagonAt_24 : decode cX0_wagonAt 24 = .ok (.goto 4, 3) := by decide +kernel
theorem dX0_wagonAt_27 : decode cX0_wagonAt 27 = .ok (.iconst (-1), 1) := by decide +kernel
theorem dX0_wagonAt_28 : decode cX0_wagonAt 28 = .ok (.ireturn, 1) := by decide +kernel
theorem dX0_squeezeAbove_0 : decode cX0_squeezeAbove 0 = .ok (.aload_n 0, 1) := by decide +kernel
theorem dX0_squeezeAbove_1 : decode cX0_squeezeAbove 1 = .ok (.getfield 28, 3) := by decide +kernel
theorem dX0_squeezeAbove_4 : decode cX0_squeezeAbove 4 = .ok (.ireturn, 1) := by decide +kernel
theorem dX0_squeezeBelow_0 : decode cX0_squeezeBelow 0 = .ok (.aload_n 0, 1) := by decide +kernel
theorem dX0_squeezeBelow_1 : decode cX0_squeezeBelow 1 = .ok (.getfield 31, 3) := by decide +kernel
theorem dX0_squeezeBelow_4 : decode cX0_squeezeBelow 4 = .ok (.aload_n 0, 1) := by decide +kernel
theorem dX0_squeezeBelow_5 : decode cX0_squeezeBelow 5 = .ok (.getfield 34, 3) := by decide +kernel
theorem dX0_squeezeBelow_8 : decode cX0_squeezeBelow 8 = .ok (.imul, 1) := by decide +kernel
theorem dX0_squeezeBelow_9 : decode cX0_squeezeBelow 9 = .ok (.ireturn, 1) := by decide +kernel
theorem dX1_init_0 : decode cX1_init 0 = .ok (.aload_n 0, 1) := by decide +kernel
theorem dX1_init_1 : decode cX1_init 1 = .ok (.invokespecial 3, 3) := by decide +kernel
theorem dX1_init_4 : decode cX1_init 4 = .ok (.aload_n 0, 1) := by decide +kernel
theorem dX1_init_5 : decode cX1_init 5 = .ok (.bipush 12, 2) := by decide +kernel
theorem dX1_init_7 : decode cX1_init 7 = .ok (.newarray .int, 2) := by decide +kernel
theorem dX1_init_9 : decode cX1_init 9 = .ok (.putfield 9, 3) := by decide +kernel
theorem dX1_init_12 : decode cX1_init 12 = .ok (.aload_n 0, 1) := by decide +kernel
theorem dX1_init_13 : decode cX1_init 13 = .ok (.bipush 13, 2) := by decide +kernel
theorem dX1_init_15 : decode cX1_init 15 = .ok (.newarray .int, 2) := by decide +kernel
theorem dX1_init_17 : decode cX1_init 17 = .ok (.putfield 15, 3) := by decide +kernel
theorem dX1_init_20 : decode cX1_init 20 = .ok (.aload_n 0, 1) := by decide +kernel
theorem dX1_init_21 : decode cX1_init 21 = .ok (.iconst 0, 1) := by decide +kernel
theorem dX1_init_22 : decode cX1_init 22 = .ok (.putfield 18, 3) := by decide +kernel
theorem dX1_init_25 : decode cX1_init 25 = .ok (.aload_n 0, 1) := by decide +kernel
theorem dX1_init_26 : decode cX1_init 26 = .ok (.iconst 0, 1) := by decide +kernel
theorem dX1_init_27 : decode cX1_init 27 = .ok (.putfield 22, 3) := by decide +kernel
theorem dX1_init_30 : decode cX1_init 30 = .ok (.aload_n 0, 1) := by decide +kernel
theorem dX1_init_31 : decode cX1_init 31 = .ok (.iconst (-1), 1) := by decide +kernel
theorem dX1_init_32 : decode cX1_init 32 = .ok (.putfield 25, 3) := by decide +kernel
theorem dX1_init_35 : decode cX1_init 35 = .ok (.return_, 1) := by decide +kernel
theorem dX1_load_0 : decode cX1_load 0 = .ok (.aload_n 0, 1) := by decide +kernel
theorem dX1_load_1 : decode cX1_load 1 = .ok (.aload_n 1, 1) := by decide +kernel
theorem dX1_load_2 : decode cX1_load 2 = .ok (.invokestatic 28, 3) := by decide +kernel
theorem dX1_load_5 : decode cX1_load 5 = .ok (.putfield 25, 3) := by decide +kernel
theorem dX1_load_8 : decode cX1_load 8 = .ok (.aload_n 0, 1) := by decide +kernel
theorem dX1_load_9 : decode cX1_load 9 = .ok (.aload_n 0, 1) := by decide +kernel
theorem dX1_load_10 : decode cX1_load 10 = .ok (.getfield 25, 3) := by decide +kernel
theorem dX1_load_13 : decode cX1_load 13 = .ok (.iconst (-1), 1) := by decide +kernel
theorem dX1_load_14 : decode cX1_load 14 = .ok (.if_icmp .ne 15, 3) := by decide +kernel
theorem dX1_load_17 : decode cX1_load 17 = .ok (.aload_n 1, 1) := by decide +kernel
theorem dX1_load_18 : decode cX1_load 18 = .ok (.invokevirtual 32, 3) := by decide +kernel
theorem dX1_load_21 : decode cX1_load 21 = .ok (.bipush 12, 2) := by decide +kernel
theorem dX1_load_23 : decode cX1_load 23 = .ok (.invokestatic 37, 3) := by decide +kernel
theorem dX1_load_26 : decode cX1_load 26 = .ok (.goto 4, 3) := by decide +kernel
theorem dX1_load_29 : decode cX1_load 29 = .ok (.iconst 0, 1) := by decide +kernel
theorem dX1_load_30 : decode cX1_load 30 = .ok (.putfield 18, 3) := by decide +kernel
theorem dX1_load_33 : decode cX1_load 33 = .ok (.aload_n 0, 1) := by decide +kernel
theorem dX1_load_34 : decode cX1_load 34 = .ok (.iconst 0, 1) := by decide +kernel
theorem dX1_load_35 : decode cX1_load 35 = .ok (.putfield 22, 3) := by decide +kernel
theorem dX1_load_38 : decode cX1_load 38 = .ok (.aload_n 0, 1) := by decide +kernel
theorem dX1_load_39 : decode cX1_load 39 = .ok (.getfield 15, 3) := by decide +kernel
theorem dX1_load_42 : decode cX1_load 42 = .ok (.iconst 0, 1) := by decide +kernel
theorem dX1_load_43 : decode cX1_load 43 = .ok (.iconst 0, 1) := by decide +kernel
theorem dX1_load_44 : decode cX1_load 44 = .ok (.iastore, 1) := by decide +kernel
theorem dX1_load_45 : decode cX1_load 45 = .ok (.iconst 0, 1) := by decide +kernel
theorem dX1_load_46 : decode cX1_load 46 = .ok (.istore_n 2, 1) := by decide +kernel
theorem dX1_load_47 : decode cX1_load 47 = .ok (.iload_n 2, 1) := by decide +kernel
theorem dX1_load_48 : decode cX1_load 48 = .ok (.aload_n 0, 1) := by decide +kernel
theorem dX1_load_49 : decode cX1_load 49 = .ok (.getfield 18, 3) := by decide +kernel
theorem dX1_load_52 : decode cX1_load 52 = .ok (.if_icmp .ge 56, 3) := by decide +kernel
theorem dX1_load_55 : decode cX1_load 55 = .ok (.iload_n 2, 1) := by decide +kernel
theorem dX1_load_56 : decode cX1_load 56 = .ok (.bipush 12, 2) := by decide +kernel
theorem dX1_load_58 : decode cX1_load 58 = .ok (.if_icmp .ge 50, 3) := by decide +kernel
theorem dX1_load_61 : decode cX1_load 61 = .ok (.aload_n 0, 1) := by decide +kernel
theorem dX1_load_62 : decode cX1_load 62 = .ok (.getfield 9, 3) := by decide +kernel
theorem dX1_load_65 : decode cX1_load 65 = .ok (.iload_n 2, 1) := by decide +kernel
theorem dX1_load_66 : decode cX1_load 66 = .ok (.aload_n 1, 1) := by decide +kernel
theorem dX1_load_67 : decode cX1_load 67 = .ok (.iload_n 2, 1) := by decide +kernel
theorem dX1_load_68 : decode cX1_load 68 = .ok (.invokevirtual 43, 3) := by decide +kernel
theorem dX1_load_71 : decode cX1_load 71 = .ok (.bipush 48, 2) := by decide +kernel
theorem dX1_load_73 : decode cX1_load 73 = .ok (.isub, 1) := by decide +kernel
theorem dX1_load_74 : decode cX1_load 74 = .ok (.iastore, 1) := by decide +kernel
theorem dX1_load_75 : decode cX1_load 75 = .ok (.aload_n 0, 1) := by decide +kernel
theorem dX1_load_76 : decode cX1_load 76 = .ok (.dup, 1) := by decide +kernel
theorem dX1_load_77 : decode cX1_load 77 = .ok (.getfield 22, 3) := by decide +kernel
theorem dX1_load_80 : decode cX1_load 80 = .ok (.aload_n 0, 1) := by decide +kernel
theorem dX1_load_81 : decode cX1_load 81 = .ok (.getfield 9, 3) := by decide +kernel
theorem dX1_load_84 : decode cX1_load 84 = .ok (.iload_n 2, 1) := by decide +kernel
theorem dX1_load_85 : decode cX1_load 85 = .ok (.iaload, 1) := by decide +kernel
theorem dX1_load_86 : decode cX1_load 86 = .ok (.iadd, 1) := by decide +kernel
theorem dX1_load_87 : decode cX1_load 87 = .ok (.putfield 22, 3) := by decide +kernel
theorem dX1_load_90 : decode cX1_load 90 = .ok (.aload_n 0, 1) := by decide +kernel
theorem dX1_load_91 : decode cX1_load 91 = .ok (.getfield 15, 3) := by decide +kernel
theorem dX1_load_94 : decode cX1_load 94 = .ok (.iload_n 2, 1) := by decide +kernel
theorem dX1_load_95 : decode cX1_load 95 = .ok (.iconst 1, 1) := by decide +kernel
theorem dX1_load_96 : decode cX1_load 96 = .ok (.iadd, 1) := by decide +kernel
theorem dX1_load_97 : decode cX1_load 97 = .ok (.aload_n 0, 1) := by decide +kernel
theorem dX1_load_98 : decode cX1_load 98 = .ok (.getfield 22, 3) := by decide +kernel
theorem dX1_load_101 : decode cX1_load 101 = .ok (.iastore, 1) := by decide +kernel
theorem dX1_load_102 : decode cX1_load 102 = .ok (.iinc 2 1, 3) := by decide +kernel
theorem dX1_load_105 : decode cX1_load 105 = .ok (.goto (-58), 3) := by decide +kernel
theorem dX1_load_108 : decode cX1_load 108 = .ok (.return_, 1) := by decide +kernel
theorem dX1_faultOf_0 : decode cX1_faultOf 0 = .ok (.iconst 0, 1) := by decide +kernel
theorem dX1_faultOf_1 : decode cX1_faultOf 1 = .ok (.istore_n 1, 1) := by decide +kernel
theorem dX1_faultOf_2 : decode cX1_faultOf 2 = .ok (.iload_n 1, 1) := by decide +kernel
theorem dX1_faultOf_3 : decode cX1_faultOf 3 = .ok (.aload_n 0, 1) := by decide +kernel
theorem dX1_faultOf_4 : decode cX1_faultOf 4 = .ok (.invokevirtual 32, 3) := by decide +kernel
theorem dX1_faultOf_7 : decode cX1_faultOf 7 = .ok (.if_icmp .ge 31, 3) := by decide +kernel
theorem dX1_faultOf_10 : decode cX1_faultOf 10 = .ok (.aload_n 0, 1) := by decide +kernel
theorem dX1_faultOf_11 : decode cX1_faultOf 11 = .ok (.iload_n 1, 1) := by decide +kernel
theorem dX1_faultOf_12 : decode cX1_faultOf 12 = .ok (.invokevirtual 43, 3) := by decide +kernel
theorem dX1_faultOf_15 : decode cX1_faultOf 15 = .ok (.bipush 49, 2) := by decide +kernel
theorem dX1_faultOf_17 : decode cX1_faultOf 17 = .ok (.if_icmp .lt 13, 3) := by decide +kernel
theorem dX1_faultOf_20 : decode cX1_faultOf 20 = .ok (.aload_n 0, 1) := by decide +kernel
theorem dX1_faultOf_21 : decode cX1_faultOf 21 = .ok (.iload_n 1, 1) := by decide +kernel
theorem dX1_faultOf_22 : decode cX1_faultOf 22 = .ok (.invokevirtual 43, 3) := by decide +kernel
theorem dX1_faultOf_25 : decode cX1_faultOf 25 = .ok (.bipush 57, 2) := by decide +kernel
theorem dX1_faultOf_27 : decode cX1_faultOf 27 = .ok (.if_icmp .le 5, 3) := by decide +kernel
theorem dX1_faultOf_30 : decode cX1_faultOf 30 = .ok (.iload_n 1, 1) := by decide +kernel
theorem dX1_faultOf_31 : decode cX1_faultOf 31 = .ok (.ireturn, 1) := by decide +kernel
theorem dX1_faultOf_32 : decode cX1_faultOf 32 = .ok (.iinc 1 1, 3) := by decide +kernel
theorem dX1_faultOf_35 : decode cX1_faultOf 35 = .ok (.goto (-33), 3) := by decide +kernel
theorem dX1_faultOf_38 : decode cX1_faultOf 38 = .ok (.iconst (-1), 1) := by decide +kernel
theorem dX1_faultOf_39 : decode cX1_faultOf 39 = .ok (.ireturn, 1) := by decide +kernel
theorem dX1_firstFault_0 : decode cX1_firstFault 0 = .ok (.aload_n 0, 1) := by decide +kernel
theorem dX1_firstFault_1 : decode cX1_firstFault 1 = .ok (.getfield 25, 3) := by decide +kernel
theorem dX1_firstFault_4 : decode cX1_firstFault 4 = .ok (.ireturn, 1) := by decide +kernel
theorem dX1_size_0 : decode cX1_size 0 = .ok (.aload_n 0, 1) := by decide +kernel
theorem dX1_size_1 : decode cX1_size 1 = .ok (.getfield 18, 3) := by decide +kernel
theorem dX1_size_4 : decode cX1_size 4 = .ok (.ireturn, 1) := by decide +kernel
theorem dX1_whole_0 : decode cX1_whole 0 = .ok (.aload_n 0, 1) := by decide +kernel
theorem dX1_whole_1 : decode cX1_whole 1 = .ok (.getfield 22, 3) := by decide +kernel
theorem dX1_whole_4 : decode cX1_whole 4 = .ok (.ireturn, 1) := by decide +kernel
theorem dX1_weightOf_0 : decode cX1_weightOf 0 = .ok (.iload_n 1, 1) := by decide +kernel
theorem dX1_weightOf_1 : decode cX1_weightOf 1 = .ok (.ifCond .lt 29, 3) := by decide +kernel
theorem dX1_weightOf_4 : decode cX1_weightOf 4 = .ok (.iload_n 1, 1) := by decide +kernel
theorem dX1_weightOf_5 : decode cX1_weightOf 5 = .ok (.aload_n 0, 1) := by decide +kernel
theorem dX1_weightOf_6 : decode cX1_weightOf 6 = .ok (.getfield 18, 3) := by decide +kernel
theorem dX1_weightOf_9 : decode cX1_weightOf 9 = .ok (.if_icmp .ge 21, 3) := by decide +kernel
theorem dX1_weightOf_12 : decode cX1_weightOf 12 = .ok (.iload_n 1, 1) := by decide +kernel
theorem dX1_weightOf_13 : decode cX1_weightOf 13 = .ok (.aload_n 0, 1) := by decide +kernel
theorem dX1_weightOf_14 : decode cX1_weightOf 14 = .ok (.getfield 9, 3) := by decide +kernel
theorem dX1_weightOf_17 : decode cX1_weightOf 17 = .ok (.arraylength, 1) := by decide +kernel
theorem dX1_weightOf_18 : decode cX1_weightOf 18 = .ok (.if_icmp .ge 12, 3) := by decide +kernel
theorem dX1_weightOf_21 : decode cX1_weightOf 21 = .ok (.aload_n 0, 1) := by decide +kernel
theorem dX1_weightOf_22 : decode cX1_weightOf 22 = .ok (.getfield 9, 3) := by decide +kernel
theorem dX1_weightOf_25 : decode cX1_weightOf 25 = .ok (.iload_n 1, 1) := by decide +kernel
theorem dX1_weightOf_26 : decode cX1_weightOf 26 = .ok (.iaload, 1) := by decide +kernel
theorem dX1_weightOf_27 : decode cX1_weightOf 27 = .ok (.goto 4, 3) := by decide +kernel
theorem dX1_weightOf_30 : decode cX1_weightOf 30 = .ok (.iconst 0, 1) := by decide +kernel
theorem dX1_weightOf_31 : decode cX1_weightOf 31 = .ok (.ireturn, 1) := by decide +kernel
theorem dX1_strainTimesWhole_0 : decode cX1_strainTimesWhole 0 = .ok (.iload_n 1, 1) := by decide +kernel
theorem dX1_strainTimesWhole_1 : decode cX1_strainTimesWhole 1 = .ok (.ifCond .lt 21, 3) := by decide +kernel
theorem dX1_strainTimesWhole_4 : decode cX1_strainTimesWhole 4 = .ok (.iload_n 1, 1) := by decide +kernel
theorem dX1_strainTimesWhole_5 : decode cX1_strainTimesWhole 5 = .ok (.aload_n 0, 1) := by decide +kernel
theorem dX1_strainTimesWhole_6 : decode cX1_strainTimesWhole 6 = .ok (.getfield 15, 3) := by decide +kernel
theorem dX1_strainTimesWhole_9 : decode cX1_strainTimesWhole 9 = .ok (.arraylength, 1) := by decide +kernel
theorem dX1_strainTimesWhole_10 : decode cX1_strainTimesWhole 10 = .ok (.if_icmp .ge 12, 3) := by decide +kernel
theorem dX1_strainTimesWhole_13 : decode cX1_strainTimesWhole 13 = .ok (.aload_n 0, 1) := by decide +kernel
theorem dX1_strainTimesWhole_14 : decode cX1_strainTimesWhole 14 = .ok (.getfield 15, 3) := by decide +kernel
theorem dX1_strainTimesWhole_17 : decode cX1_strainTimesWhole 17 = .ok (.iload_n 1, 1) := by decide +kernel
theorem dX1_strainTimesWhole_18 : decode cX1_strainTimesWhole 18 = .ok (.iaload, 1) := by decide +kernel
theorem dX1_strainTimesWhole_19 : decode cX1_strainTimesWhole 19 = .ok (.goto 4, 3) := by decide +kernel
theorem dX1_strainTimesWhole_22 : decode cX1_strainTimesWhole 22 = .ok (.iconst 0, 1) := by decide +kernel
theorem dX1_strainTimesWhole_23 : decode cX1_strainTimesWhole 23 = .ok (.istore 4, 2) := by decide +kernel
theorem dX1_strainTimesWhole_25 : decode cX1_strainTimesWhole 25 = .ok (.iload_n 2, 1) := by decide +kernel
theorem dX1_strainTimesWhole_26 : decode cX1_strainTimesWhole 26 = .ok (.aload_n 0, 1) := by decide +kernel
theorem dX1_strainTimesWhole_27 : decode cX1_strainTimesWhole 27 = .ok (.getfield 22, 3) := by decide +kernel
theorem dX1_strainTimesWhole_30 : decode cX1_strainTimesWhole 30 = .ok (.imul, 1) := by decide +kernel
theorem dX1_strainTimesWhole_31 : decode cX1_strainTimesWhole 31 = .ok (.iload_n 2, 1) := by decide +kernel
theorem dX1_strainTimesWhole_32 : decode cX1_strainTimesWhole 32 = .ok (.iload_n 3, 1) := by decide +kernel
theorem dX1_strainTimesWhole_33 : decode cX1_strainTimesWhole 33 = .ok (.iadd, 1) := by decide +kernel
theorem dX1_strainTimesWhole_34 : decode cX1_strainTimesWhole 34 = .ok (.iload 4, 2) := by decide +kernel
theorem dX1_strainTimesWhole_36 : decode cX1_strainTimesWhole 36 = .ok (.imul, 1) := by decide +kernel
theorem dX1_strainTimesWhole_37 : decode cX1_strainTimesWhole 37 = .ok (.isub, 1) := by decide +kernel
theorem dX1_strainTimesWhole_38 : decode cX1_strainTimesWhole 38 = .ok (.ireturn, 1) := by decide +kernel
theorem dX1_firstSlack_0 : decode cX1_firstSlack 0 = .ok (.iconst 0, 1) := by decide +kernel
theorem dX1_firstSlack_1 : decode cX1_firstSlack 1 = .ok (.istore_n 3, 1) := by decide +kernel
theorem dX1_firstSlack_2 : decode cX1_firstSlack 2 = .ok (.iload_n 3, 1) := by decide +kernel
theorem dX1_firstSlack_3 : decode cX1_firstSlack 3 = .ok (.aload_n 0, 1) := by decide +kernel
theorem dX1_firstSlack_4 : decode cX1_firstSlack 4 = .ok (.getfield 18, 3) := by decide +kernel
theorem dX1_firstSlack_7 : decode cX1_firstSlack 7 = .ok (.if_icmp .gt 21, 3) := by decide +kernel
theorem dX1_firstSlack_10 : decode cX1_firstSlack 10 = .ok (.aload_n 0, 1) := by decide +kernel
theorem dX1_firstSlack_11 : decode cX1_firstSlack 11 = .ok (.iload_n 3, 1) := by decide +kernel
theorem dX1_firstSlack_12 : decode cX1_firstSlack 12 = .ok (.iload_n 1, 1) := by decide +kernel
theorem dX1_firstSlack_13 : decode cX1_firstSlack 13 = .ok (.iload_n 2, 1) := by decide +kernel
theorem dX1_firstSlack_14 : decode cX1_firstSlack 14 = .ok (.invokevirtual 47, 3) := by decide +kernel
theorem dX1_firstSlack_17 : decode cX1_firstSlack 17 = .ok (.ifCond .gt 5, 3) := by decide +kernel
theorem dX1_firstSlack_20 : decode cX1_firstSlack 20 = .ok (.iload_n 3, 1) := by decide +kernel
theorem dX1_firstSlack_21 : decode cX1_firstSlack 21 = .ok (.ireturn, 1) := by decide +kernel
theorem dX1_firstSlack_22 : decode cX1_firstSlack 22 = .ok (.iinc 3 1, 3) := by decide +kernel
theorem dX1_firstSlack_25 : decode cX1_firstSlack 25 = .ok (.goto (-23), 3) := by decide +kernel
theorem dX1_firstSlack_28 : decode cX1_firstSlack 28 = .ok (.iconst (-1), 1) := by decide +kernel
theorem dX1_firstSlack_29 : decode cX1_firstSlack 29 = .ok (.ireturn, 1) := by decide +kernel
theorem dX1_tears_0 : decode cX1_tears 0 = .ok (.iconst 0, 1) := by decide +kernel
theorem dX1_tears_1 : decode cX1_tears 1 = .ok (.istore 4, 2) := by decide +kernel
theorem dX1_tears_3 : decode cX1_tears 3 = .ok (.iload 4, 2) := by decide +kernel
theorem dX1_tears_5 : decode cX1_tears 5 = .ok (.aload_n 0, 1) := by decide +kernel
theorem dX1_tears_6 : decode cX1_tears 6 = .ok (.getfield 18, 3) := by decide +kernel
theorem dX1_tears_9 : decode cX1_tears 9 = .ok (.if_icmp .gt 28, 3) := by decide +kernel
theorem dX1_tears_12 : decode cX1_tears 12 = .ok (.aload_n 0, 1) := by decide +kernel
theorem dX1_tears_13 : decode cX1_tears 13 = .ok (.iload 4, 2) := by decide +kernel
theorem dX1_tears_15 : decode cX1_tears 15 = .ok (.iload_n 1, 1) := by decide +kernel
theorem dX1_tears_16 : decode cX1_tears 16 = .ok (.iload_n 2, 1) := by decide +kernel
theorem dX1_tears_17 : decode cX1_tears 17 = .ok (.invokevirtual 47, 3) := by decide +kernel
theorem dX1_tears_20 : decode cX1_tears 20 = .ok (.iload_n 3, 1) := by decide +kernel
theorem dX1_tears_21 : decode cX1_tears 21 = .ok (.aload_n 0, 1) := by decide +kernel
theorem dX1_tears_22 : decode cX1_tears 22 = .ok (.getfield 22, 3) := by decide +kernel
theorem dX1_tears_25 : decode cX1_tears 25 = .ok (.imul, 1) := by decide +kernel
theorem dX1_tears_26 : decode cX1_tears 26 = .ok (.if_icmp .le 5, 3) := by decide +kernel
theorem dX1_tears_29 : decode cX1_tears 29 = .ok (.iconst 1, 1) := by decide +kernel
theorem dX1_tears_30 : decode cX1_tears 30 = .ok (.ireturn, 1) := by decide +kernel
theorem dX1_tears_31 : decode cX1_tears 31 = .ok (.iinc 4 1, 3) := by decide +kernel
theorem dX1_tears_34 : decode cX1_tears 34 = .ok (.goto (-31), 3) := by decide +kernel
theorem dX1_tears_37 : decode cX1_tears 37 = .ok (.iconst 0, 1) := by decide +kernel
theorem dX1_tears_38 : decode cX1_tears 38 = .ok (.ireturn, 1) := by decide +kernel
theorem dX1_firstSqueezed_0 : decode cX1_firstSqueezed 0 = .ok (.iconst 0, 1) := by decide +kernel
theorem dX1_firstSqueezed_1 : decode cX1_firstSqueezed 1 = .ok (.istore 4, 2) := by decide +kernel
theorem dX1_firstSqueezed_3 : decode cX1_firstSqueezed 3 = .ok (.iload 4, 2) := by decide +kernel
theorem dX1_firstSqueezed_5 : decode cX1_firstSqueezed 5 = .ok (.aload_n 0, 1) := by decide +kernel
theorem dX1_firstSqueezed_6 : decode cX1_firstSqueezed 6 = .ok (.getfield 18, 3) := by decide +kernel
theorem dX1_firstSqueezed_9 : decode cX1_firstSqueezed 9 = .ok (.if_icmp .ge 81, 3) := by decide +kernel
theorem dX1_firstSqueezed_12 : decode cX1_firstSqueezed 12 = .ok (.iload_n 3, 1) := by decide +kernel
theorem dX1_firstSqueezed_13 : decode cX1_firstSqueezed 13 = .ok (.aload_n 0, 1) := by decide +kernel
theorem dX1_firstSqueezed_14 : decode cX1_firstSqueezed 14 = .ok (.iload 4, 2) := by decide +kernel
theorem dX1_firstSqueezed_16 : decode cX1_firstSqueezed 16 = .ok (.invokevirtual 51, 3) := by decide +kernel
theorem dX1_firstSqueezed_19 : decode cX1_firstSqueezed 19 = .ok (.imul, 1) := by decide +kernel
theorem dX1_firstSqueezed_20 : decode cX1_firstSqueezed 20 = .ok (.aload_n 0, 1) := by decide +kernel
theorem dX1_firstSqueezed_21 : decode cX1_firstSqueezed 21 = .ok (.getfield 22, 3) := by decide +kernel
theorem dX1_firstSqueezed_24 : decode cX1_firstSqueezed 24 = .ok (.imul, 1) := by decide +kernel
theorem dX1_firstSqueezed_25 : decode cX1_firstSqueezed 25 = .ok (.istore 5, 2) := by decide +kernel
theorem dX1_firstSqueezed_27 : decode cX1_firstSqueezed 27 = .ok (.aload_n 0, 1) := by decide +kernel
theorem dX1_firstSqueezed_28 : decode cX1_firstSqueezed 28 = .ok (.iload 4, 2) := by decide +kernel
theorem dX1_firstSqueezed_30 : decode cX1_firstSqueezed 30 = .ok (.iload_n 1, 1) := by decide +kernel
theorem dX1_firstSqueezed_31 : decode cX1_firstSqueezed 31 = .ok (.iload_n 2, 1) := by decide +kernel
theorem dX1_firstSqueezed_32 : decode cX1_firstSqueezed 32 = .ok (.invokevirtual 47, 3) := by decide +kernel
theorem dX1_firstSqueezed_35 : decode cX1_firstSqueezed 35 = .ok (.ineg, 1) := by decide +kernel
theorem dX1_firstSqueezed_36 : decode cX1_firstSqueezed 36 = .ok (.iload 5, 2) := by decide +kernel
theorem dX1_firstSqueezed_38 : decode cX1_firstSqueezed 38 = .ok (.if_icmp .le 7, 3) := by decide +kernel
theorem dX1_firstSqueezed_41 : decode cX1_firstSqueezed 41 = .ok (.iconst 1, 1) := by decide +kernel
theorem dX1_firstSqueezed_42 : decode cX1_firstSqueezed 42 = .ok (.goto 4, 3) := by decide +kernel
theorem dX1_firstSqueezed_45 : decode cX1_firstSqueezed 45 = .ok (.iconst 0, 1) := by decide +kernel
theorem dX1_firstSqueezed_46 : decode cX1_firstSqueezed 46 = .ok (.istore 6, 2) := by decide +kernel
theorem dX1_firstSqueezed_48 : decode cX1_firstSqueezed 48 = .ok (.aload_n 0, 1) := by decide +kernel
theorem dX1_firstSqueezed_49 : decode cX1_firstSqueezed 49 = .ok (.iload 4, 2) := by decide +kernel
theorem dX1_firstSqueezed_51 : decode cX1_firstSqueezed 51 = .ok (.iconst 1, 1) := by decide +kernel
theorem dX1_firstSqueezed_52 : decode cX1_firstSqueezed 52 = .ok (.iadd, 1) := by decide +kernel
theorem dX1_firstSqueezed_53 : decode cX1_firstSqueezed 53 = .ok (.iload_n 1, 1) := by decide +kernel
theorem dX1_firstSqueezed_54 : decode cX1_firstSqueezed 54 = .ok (.iload_n 2, 1) := by decide +kernel
theorem dX1_firstSqueezed_55 : decode cX1_firstSqueezed 55 = .ok (.invokevirtual 47, 3) := by decide +kernel
theorem dX1_firstSqueezed_58 : decode cX1_firstSqueezed 58 = .ok (.ineg, 1) := by decide +kernel
theorem dX1_firstSqueezed_59 : decode cX1_firstSqueezed 59 = .ok (.iload 5, 2) := by decide +kernel
theorem dX1_firstSqueezed_61 : decode cX1_firstSqueezed 61 = .ok (.if_icmp .le 7, 3) := by decide +kernel
theorem dX1_firstSqueezed_64 : decode cX1_firstSqueezed 64 = .ok (.iconst 1, 1) := by decide +kernel
theorem dX1_firstSqueezed_65 : decode cX1_firstSqueezed 65 = .ok (.goto 4, 3) := by decide +kernel
theorem dX1_firstSqueezed_68 : decode cX1_firstSqueezed 68 = .ok (.iconst 0, 1) := by decide +kernel
theorem dX1_firstSqueezed_69 : decode cX1_firstSqueezed 69 = .ok (.istore 7, 2) := by decide +kernel
theorem dX1_firstSqueezed_71 : decode cX1_firstSqueezed 71 = .ok (.iload 6, 2) := by decide +kernel
theorem dX1_firstSqueezed_73 : decode cX1_firstSqueezed 73 = .ok (.ifCond .eq 11, 3) := by decide +kernel
theorem dX1_firstSqueezed_76 : decode cX1_firstSqueezed 76 = .ok (.iload 7, 2) := by decide +kernel
theorem dX1_firstSqueezed_78 : decode cX1_firstSqueezed 78 = .ok (.ifCond .eq 6, 3) := by decide +kernel
theorem dX1_firstSqueezed_81 : decode cX1_firstSqueezed 81 = .ok (.iload 4, 2) := by decide +kernel
theorem dX1_firstSqueezed_83 : decode cX1_firstSqueezed 83 = .ok (.ireturn, 1) := by decide +kernel
theorem dX1_firstSqueezed_84 : decode cX1_firstSqueezed 84 = .ok (.iinc 4 1, 3) := by decide +kernel
theorem dX1_firstSqueezed_87 : decode cX1_firstSqueezed 87 = .ok (.goto (-84), 3) := by decide +kernel
theorem dX1_firstSqueezed_90 : decode cX1_firstSqueezed 90 = .ok (.iconst (-1), 1) := by decide +kernel
theorem dX1_firstSqueezed_91 : decode cX1_firstSqueezed 91 = .ok (.ireturn, 1) := by decide +kernel
theorem dX2_init_0 : decode cX2_init 0 = .ok (.aload_n 0, 1) := by decide +kernel
theorem dX2_init_1 : decode cX2_init 1 = .ok (.invokespecial 3, 3) := by decide +kernel
theorem dX2_init_4 : decode cX2_init 4 = .ok (.aload_n 0, 1) := by decide +kernel
theorem dX2_init_5 : decode cX2_init 5 = .ok (.bipush 12, 2) := by decide +kernel
theorem dX2_init_7 : decode cX2_init 7 = .ok (.newarray .int, 2) := by decide +kernel
theorem dX2_init_9 : decode cX2_init 9 = .ok (.putfield 9, 3) := by decide +kernel
theorem dX2_init_12 : decode cX2_init 12 = .ok (.aload_n 0, 1) := by decide +kernel
theorem dX2_init_13 : decode cX2_init 13 = .ok (.bipush 12, 2) := by decide +kernel
theorem dX2_init_15 : decode cX2_init 15 = .ok (.newarray .int, 2) := by decide +kernel
theorem dX2_init_17 : decode cX2_init 17 = .ok (.putfield 15, 3) := by decide +kernel
theorem dX2_init_20 : decode cX2_init 20 = .ok (.aload_n 0, 1) := by decide +kernel
theorem dX2_init_21 : decode cX2_init 21 = .ok (.bipush 6, 2) := by decide +kernel
theorem dX2_init_23 : decode cX2_init 23 = .ok (.newarray .int, 2) := by decide +kernel
theorem dX2_init_25 : decode cX2_init 25 = .ok (.putfield 18, 3) := by decide +kernel
theorem dX2_init_28 : decode cX2_init 28 = .ok (.aload_n 0, 1) := by decide +kernel
theorem dX2_init_29 : decode cX2_init 29 = .ok (.iconst 0, 1) := by decide +kernel
theorem dX2_init_30 : decode cX2_init 30 = .ok (.putfield 21, 3) := by decide +kernel
theorem dX2_init_33 : decode cX2_init 33 = .ok (.aload_n 0, 1) := by decide +kernel
theorem dX2_init_34 : decode cX2_init 34 = .ok (.iconst 0, 1) := by decide +kernel
theorem dX2_init_35 : decode cX2_init 35 = .ok (.putfield 25, 3) := by decide +kernel
theorem dX2_init_38 : decode cX2_init 38 = .ok (.aload_n 0, 1) := by decide +kernel
theorem dX2_init_39 : decode cX2_init 39 = .ok (.iconst 0, 1) := by decide +kernel
theorem dX2_init_40 : decode cX2_init 40 = .ok (.putfield 28, 3) := by decide +kernel
theorem dX2_init_43 : decode cX2_init 43 = .ok (.return_, 1) := by decide +kernel
theorem dX2_size_0 : decode cX2_size 0 = .ok (.aload_n 0, 1) := by decide +kernel
theorem dX2_size_1 : decode cX2_size 1 = .ok (.getfield 21, 3) := by decide +kernel
theorem dX2_size_4 : decode cX2_size 4 = .ok (.ireturn, 1) := by decide +kernel
theorem dX2_isFull_0 : decode cX2_isFull 0 = .ok (.aload_n 0, 1) := by decide +kernel
theorem dX2_isFull_1 : decode cX2_isFull 1 = .ok (.getfield 21, 3) := by decide +kernel
theorem dX2_isFull_4 : decode cX2_isFull 4 = .ok (.bipush 12, 2) := by decide +kernel
theorem dX2_isFull_6 : decode cX2_isFull 6 = .ok (.if_icmp .lt 7, 3) := by decide +kernel
theorem dX2_isFull_9 : decode cX2_isFull 9 = .ok (.iconst 1, 1) := by decide +kernel
theorem dX2_isFull_10 : decode cX2_isFull 10 = .ok (.goto 4, 3) := by decide +kernel
theorem dX2_isFull_13 : decode cX2_isFull 13 = .ok (.iconst 0, 1) := by decide +kernel
theorem dX2_isFull_14 : decode cX2_isFull 14 = .ok (.ireturn, 1) := by decide +kernel
theorem dX2_tell_0 : decode cX2_tell 0 = .ok (.aload_n 0, 1) := by decide +kernel
theorem dX2_tell_1 : decode cX2_tell 1 = .ok (.getfield 21, 3) := by decide +kernel
theorem dX2_tell_4 : decode cX2_tell 4 = .ok (.ifCond .lt 32, 3) := by decide +kernel
theorem dX2_tell_7 : decode cX2_tell 7 = .ok (.aload_n 0, 1) := by decide +kernel
theorem dX2_tell_8 : decode cX2_tell 8 = .ok (.getfield 21, 3) := by decide +kernel
theorem dX2_tell_11 : decode cX2_tell 11 = .ok (.bipush 12, 2) := by decide +kernel
theorem dX2_tell_13 : decode cX2_tell 13 = .ok (.if_icmp .ge 23, 3) := by decide +kernel
theorem dX2_tell_16 : decode cX2_tell 16 = .ok (.aload_n 0, 1) := by decide +kernel
theorem dX2_tell_17 : decode cX2_tell 17 = .ok (.getfield 9, 3) := by decide +kernel
theorem dX2_tell_20 : decode cX2_tell 20 = .ok (.aload_n 0, 1) := by decide +kernel
theorem dX2_tell_21 : decode cX2_tell 21 = .ok (.getfield 21, 3) := by decide +kernel
theorem dX2_tell_24 : decode cX2_tell 24 = .ok (.iload_n 1, 1) := by decide +kernel
theorem dX2_tell_25 : decode cX2_tell 25 = .ok (.iastore, 1) := by decide +kernel
theorem dX2_tell_26 : decode cX2_tell 26 = .ok (.aload_n 0, 1) := by decide +kernel
theorem dX2_tell_27 : decode cX2_tell 27 = .ok (.dup, 1) := by decide +kernel
theorem dX2_tell_28 : decode cX2_tell 28 = .ok (.getfield 21, 3) := by decide +kernel
theorem dX2_tell_31 : decode cX2_tell 31 = .ok (.iconst 1, 1) := by decide +kernel
theorem dX2_tell_32 : decode cX2_tell 32 = .ok (.iadd, 1) := by decide +kernel
theorem dX2_tell_33 : decode cX2_tell 33 = .ok (.putfield 21, 3) := by decide +kernel
theorem dX2_tell_36 : decode cX2_tell 36 = .ok (.return_, 1) := by decide +kernel
theorem dX2_forgetLast_0 : decode cX2_forgetLast 0 = .ok (.aload_n 0, 1) := by decide +kernel
theorem dX2_forgetLast_1 : decode cX2_forgetLast 1 = .ok (.iconst 0, 1) := by decide +kernel
theorem dX2_forgetLast_2 : decode cX2_forgetLast 2 = .ok (.aload_n 0, 1) := by decide +kernel
theorem dX2_forgetLast_3 : decode cX2_forgetLast 3 = .ok (.getfield 21, 3) := by decide +kernel
theorem dX2_forgetLast_6 : decode cX2_forgetLast 6 = .ok (.iconst 1, 1) := by decide +kernel
theorem dX2_forgetLast_7 : decode cX2_forgetLast 7 = .ok (.isub, 1) := by decide +kernel
theorem dX2_forgetLast_8 : decode cX2_forgetLast 8 = .ok (.invokestatic 31, 3) := by decide +kernel
theorem dX2_forgetLast_11 : decode cX2_forgetLast 11 = .ok (.putfield 21, 3) := by decide +kernel
theorem dX2_forgetLast_14 : decode cX2_forgetLast 14 = .ok (.return_, 1) := by decide +kernel
theorem dX2_pushAll_0 : decode cX2_pushAll 0 = .ok (.aload_n 0, 1) := by decide +kernel
theorem dX2_pushAll_1 : decode cX2_pushAll 1 = .ok (.iconst 0, 1) := by decide +kernel
theorem dX2_pushAll_2 : decode cX2_pushAll 2 = .ok (.putfield 25, 3) := by decide +kernel
theorem dX2_pushAll_5 : decode cX2_pushAll 5 = .ok (.aload_n 0, 1) := by decide +kernel
theorem dX2_pushAll_6 : decode cX2_pushAll 6 = .ok (.iconst 0, 1) := by decide +kernel
theorem dX2_pushAll_7 : decode cX2_pushAll 7 = .ok (.putfield 28, 3) := by decide +kernel
theorem dX2_pushAll_10 : decode cX2_pushAll 10 = .ok (.aload_n 0, 1) := by decide +kernel
theorem dX2_pushAll_11 : decode cX2_pushAll 11 = .ok (.invokevirtual 37, 3) := by decide +kernel
theorem dX2_pushAll_14 : decode cX2_pushAll 14 = .ok (.iconst 0, 1) := by decide +kernel
theorem dX2_pushAll_15 : decode cX2_pushAll 15 = .ok (.istore_n 3, 1) := by decide +kernel
theorem dX2_pushAll_16 : decode cX2_pushAll 16 = .ok (.iload_n 3, 1) := by decide +kernel
theorem dX2_pushAll_17 : decode cX2_pushAll 17 = .ok (.bipush 6, 2) := by decide +kernel
theorem dX2_pushAll_19 : decode cX2_pushAll 19 = .ok (.if_icmp .ge 16, 3) := by decide +kernel
theorem dX2_pushAll_22 : decode cX2_pushAll 22 = .ok (.aload_n 0, 1) := by decide +kernel
theorem dX2_pushAll_23 : decode cX2_pushAll 23 = .ok (.getfield 18, 3) := by decide +kernel
theorem dX2_pushAll_26 : decode cX2_pushAll 26 = .ok (.iload_n 3, 1) := by decide +kernel
theorem dX2_pushAll_27 : decode cX2_pushAll 27 = .ok (.iconst 0, 1) := by decide +kernel
theorem dX2_pushAll_28 : decode cX2_pushAll 28 = .ok (.iastore, 1) := by decide +kernel
theorem dX2_pushAll_29 : decode cX2_pushAll 29 = .ok (.iinc 3 1, 3) := by decide +kernel
theorem dX2_pushAll_32 : decode cX2_pushAll 32 = .ok (.goto (-16), 3) := by decide +kernel
theorem dX2_pushAll_35 : decode cX2_pushAll 35 = .ok (.iconst 0, 1) := by decide +kernel
theorem dX2_pushAll_36 : decode cX2_pushAll 36 = .ok (.istore_n 3, 1) := by decide +kernel
theorem dX2_pushAll_37 : decode cX2_pushAll 37 = .ok (.iload_n 3, 1) := by decide +kernel
theorem dX2_pushAll_38 : decode cX2_pushAll 38 = .ok (.aload_n 0, 1) := by decide +kernel
theorem dX2_pushAll_39 : decode cX2_pushAll 39 = .ok (.getfield 21, 3) := by decide +kernel
theorem dX2_pushAll_42 : decode cX2_pushAll 42 = .ok (.if_icmp .ge 89, 3) := by decide +kernel
theorem dX2_pushAll_45 : decode cX2_pushAll 45 = .ok (.iload_n 3, 1) := by decide +kernel
theorem dX2_pushAll_46 : decode cX2_pushAll 46 = .ok (.bipush 12, 2) := by decide +kernel
theorem dX2_pushAll_48 : decode cX2_pushAll 48 = .ok (.if_icmp .ge 83, 3) := by decide +kernel
theorem dX2_pushAll_51 : decode cX2_pushAll 51 = .ok (.aload_n 0, 1) := by decide +kernel
theorem dX2_pushAll_52 : decode cX2_pushAll 52 = .ok (.iload_n 1, 1) := by decide +kernel
theorem dX2_pushAll_53 : decode cX2_pushAll 53 = .ok (.invokevirtual 40, 3) := by decide +kernel
theorem dX2_pushAll_56 : decode cX2_pushAll 56 = .ok (.istore 4, 2) := by decide +kernel
theorem dX2_pushAll_58 : decode cX2_pushAll 58 = .ok (.aload_n 0, 1) := by decide +kernel
theorem dX2_pushAll_59 : decode cX2_pushAll 59 = .ok (.getfield 15, 3) := by decide +kernel
theorem dX2_pushAll_62 : decode cX2_pushAll 62 = .ok (.iload_n 3, 1) := by decide +kernel
theorem dX2_pushAll_63 : decode cX2_pushAll 63 = .ok (.iaload, 1) := by decide +kernel
theorem dX2_pushAll_64 : decode cX2_pushAll 64 = .ok (.aload_n 0, 1) := by decide +kernel
theorem dX2_pushAll_65 : decode cX2_pushAll 65 = .ok (.getfield 18, 3) := by decide +kernel
theorem dX2_pushAll_68 : decode cX2_pushAll 68 = .ok (.iload 4, 2) := by decide +kernel
theorem dX2_pushAll_70 : decode cX2_pushAll 70 = .ok (.iaload, 1) := by decide +kernel
theorem dX2_pushAll_71 : decode cX2_pushAll 71 = .ok (.invokestatic 31, 3) := by decide +kernel
theorem dX2_pushAll_74 : decode cX2_pushAll 74 = .ok (.istore 5, 2) := by decide +kernel
theorem dX2_pushAll_76 : decode cX2_pushAll 76 = .ok (.aload_n 0, 1) := by decide +kernel
theorem dX2_pushAll_77 : decode cX2_pushAll 77 = .ok (.getfield 18, 3) := by decide +kernel
theorem dX2_pushAll_80 : decode cX2_pushAll 80 = .ok (.iload 4, 2) := by decide +kernel
theorem dX2_pushAll_82 : decode cX2_pushAll 82 = .ok (.iload 5, 2) := by decide +kernel
theorem dX2_pushAll_84 : decode cX2_pushAll 84 = .ok (.iload_n 2, 1) := by decide +kernel
theorem dX2_pushAll_85 : decode cX2_pushAll 85 = .ok (.iadd, 1) := by decide +kernel
theorem dX2_pushAll_86 : decode cX2_pushAll 86 = .ok (.iastore, 1) := by decide +kernel
theorem dX2_pushAll_87 : decode cX2_pushAll 87 = .ok (.aload_n 0, 1) := by decide +kernel
theorem dX2_pushAll_88 : decode cX2_pushAll 88 = .ok (.dup, 1) := by decide +kernel
theorem dX2_pushAll_89 : decode cX2_pushAll 89 = .ok (.getfield 25, 3) := by decide +kernel
theorem dX2_pushAll_92 : decode cX2_pushAll 92 = .ok (.iload 5, 2) := by decide +kernel
theorem dX2_pushAll_94 : decode cX2_pushAll 94 = .ok (.aload_n 0, 1) := by decide +kernel
theorem dX2_pushAll_95 : decode cX2_pushAll 95 = .ok (.getfield 15, 3) := by decide +kernel
theorem dX2_pushAll_98 : decode cX2_pushAll 98 = .ok (.iload_n 3, 1) := by decide +kernel
theorem dX2_pushAll_99 : decode cX2_pushAll 99 = .ok (.iaload, 1) := by decide +kernel
theorem dX2_pushAll_100 : decode cX2_pushAll 100 = .ok (.isub, 1) := by decide +kernel
theorem dX2_pushAll_101 : decode cX2_pushAll 101 = .ok (.iadd, 1) := by decide +kernel
theorem dX2_pushAll_102 : decode cX2_pushAll 102 = .ok (.putfield 25, 3) := by decide +kernel
theorem dX2_pushAll_105 : decode cX2_pushAll 105 = .ok (.aload_n 0, 1) := by decide +kernel
theorem dX2_pushAll_106 : decode cX2_pushAll 106 = .ok (.aload_n 0, 1) := by decide +kernel
theorem dX2_pushAll_107 : decode cX2_pushAll 107 = .ok (.getfield 28, 3) := by decide +kernel
theorem dX2_pushAll_110 : decode cX2_pushAll 110 = .ok (.iload 5, 2) := by decide +kernel
theorem dX2_pushAll_112 : decode cX2_pushAll 112 = .ok (.aload_n 0, 1) := by decide +kernel
theorem dX2_pushAll_113 : decode cX2_pushAll 113 = .ok (.getfield 15, 3) := by decide +kernel
theorem dX2_pushAll_116 : decode cX2_pushAll 116 = .ok (.iload_n 3, 1) := by decide +kernel
theorem dX2_pushAll_117 : decode cX2_pushAll 117 = .ok (.iaload, 1) := by decide +kernel
theorem dX2_pushAll_118 : decode cX2_pushAll 118 = .ok (.isub, 1) := by decide +kernel
theorem dX2_pushAll_119 : decode cX2_pushAll 119 = .ok (.invokestatic 31, 3) := by decide +kernel
theorem dX2_pushAll_122 : decode cX2_pushAll 122 = .ok (.putfield 28, 3) := by decide +kernel
theorem dX2_pushAll_125 : decode cX2_pushAll 125 = .ok (.iinc 3 1, 3) := by decide +kernel
theorem dX2_pushAll_128 : decode cX2_pushAll 128 = .ok (.goto (-91), 3) := by decide +kernel
theorem dX2_pushAll_131 : decode cX2_pushAll 131 = .ok (.return_, 1) := by decide +kernel
theorem dX2_firstFree_0 : decode cX2_firstFree 0 = .ok (.iconst 0, 1) := by decide +kernel
theorem dX2_firstFree_1 : decode cX2_firstFree 1 = .ok (.istore_n 2, 1) := by decide +kernel
theorem dX2_firstFree_2 : decode cX2_firstFree 2 = .ok (.iconst 1, 1) := by decide +kernel
theorem dX2_firstFree_3 : decode cX2_firstFree 3 = .ok (.istore_n 3, 1) := by decide +kernel
theorem dX2_firstFree_4 : decode cX2_firstFree 4 = .ok (.iload_n 3, 1) := by decide +kernel
theorem dX2_firstFree_5 : decode cX2_firstFree 5 = .ok (.iload_n 1, 1) := by decide +kernel
theorem dX2_firstFree_6 : decode cX2_firstFree 6 = .ok (.if_icmp .ge 32, 3) := by decide +kernel
theorem dX2_firstFree_9 : decode cX2_firstFree 9 = .ok (.iload_n 3, 1) := by decide +kernel
theorem dX2_firstFree_10 : decode cX2_firstFree 10 = .ok (.bipush 6, 2) := by decide +kernel
theorem dX2_firstFree_12 : decode cX2_firstFree 12 = .ok (.if_icmp .ge 26, 3) := by decide +kernel
theorem dX2_firstFree_15 : decode cX2_firstFree 15 = .ok (.aload_n 0, 1) := by decide +kernel
theorem dX2_firstFree_16 : decode cX2_firstFree 16 = .ok (.getfield 18, 3) := by decide +kernel
theorem dX2_firstFree_19 : decode cX2_firstFree 19 = .ok (.iload_n 3, 1) := by decide +kernel
theorem dX2_firstFree_20 : decode cX2_firstFree 20 = .ok (.iaload, 1) := by decide +kernel
theorem dX2_firstFree_21 : decode cX2_firstFree 21 = .ok (.aload_n 0, 1) := by decide +kernel
theorem dX2_firstFree_22 : decode cX2_firstFree 22 = .ok (.getfield 18, 3) := by decide +kernel
theorem dX2_firstFree_25 : decode cX2_firstFree 25 = .ok (.iload_n 2, 1) := by decide +kernel
theorem dX2_firstFree_26 : decode cX2_firstFree 26 = .ok (.iaload, 1) := by decide +kernel
theorem dX2_firstFree_27 : decode cX2_firstFree 27 = .ok (.if_icmp .ge 5, 3) := by decide +kernel
theorem dX2_firstFree_30 : decode cX2_firstFree 30 = .ok (.iload_n 3, 1) := by decide +kernel
theorem dX2_firstFree_31 : decode cX2_firstFree 31 = .ok (.istore_n 2, 1) := by decide +kernel
theorem dX2_firstFree_32 : decode cX2_firstFree 32 = .ok (.iinc 3 1, 3) := by decide +kernel
theorem dX2_firstFree_35 : decode cX2_firstFree 35 = .ok (.goto (-31), 3) := by decide +kernel
theorem dX2_firstFree_38 : decode cX2_firstFree 38 = .ok (.iload_n 2, 1) := by decide +kernel
theorem dX2_firstFree_39 : decode cX2_firstFree 39 = .ok (.ireturn, 1) := by decide +kernel
theorem dX2_sort_0 : decode cX2_sort 0 = .ok (.iconst 0, 1) := by decide +kernel
theorem dX2_sort_1 : decode cX2_sort 1 = .ok (.istore_n 1, 1) := by decide +kernel
theorem dX2_sort_2 : decode cX2_sort 2 = .ok (.iload_n 1, 1) := by decide +kernel
theorem dX2_sort_3 : decode cX2_sort 3 = .ok (.aload_n 0, 1) := by decide +kernel
theorem dX2_sort_4 : decode cX2_sort 4 = .ok (.getfield 21, 3) := by decide +kernel
theorem dX2_sort_7 : decode cX2_sort 7 = .ok (.if_icmp .ge 70, 3) := by decide +kernel
theorem dX2_sort_10 : decode cX2_sort 10 = .ok (.iload_n 1, 1) := by decide +kernel
theorem dX2_sort_11 : decode cX2_sort 11 = .ok (.bipush 12, 2) := by decide +kernel
theorem dX2_sort_13 : decode cX2_sort 13 = .ok (.if_icmp .ge 64, 3) := by decide +kernel
theorem dX2_sort_16 : decode cX2_sort 16 = .ok (.iload_n 1, 1) := by decide +kernel
theorem dX2_sort_17 : decode cX2_sort 17 = .ok (.istore_n 2, 1) := by decide +kernel
theorem dX2_sort_18 : decode cX2_sort 18 = .ok (.iload_n 2, 1) := by decide +kernel
theorem dX2_sort_19 : decode cX2_sort 19 = .ok (.ifCond .le 40, 3) := by decide +kernel
theorem dX2_sort_22 : decode cX2_sort 22 = .ok (.aload_n 0, 1) := by decide +kernel
theorem dX2_sort_23 : decode cX2_sort 23 = .ok (.getfield 15, 3) := by decide +kernel
theorem dX2_sort_26 : decode cX2_sort 26 = .ok (.iload_n 2, 1) := by decide +kernel
theorem dX2_sort_27 : decode cX2_sort 27 = .ok (.iconst 1, 1) := by decide +kernel
theorem dX2_sort_28 : decode cX2_sort 28 = .ok (.isub, 1) := by decide +kernel
theorem dX2_sort_29 : decode cX2_sort 29 = .ok (.iaload, 1) := by decide +kernel
theorem dX2_sort_30 : decode cX2_sort 30 = .ok (.aload_n 0, 1) := by decide +kernel
theorem dX2_sort_31 : decode cX2_sort 31 = .ok (.getfield 9, 3) := by decide +kernel
theorem dX2_sort_34 : decode cX2_sort 34 = .ok (.iload_n 1, 1) := by decide +kernel
theorem dX2_sort_35 : decode cX2_sort 35 = .ok (.iaload, 1) := by decide +kernel
theorem dX2_sort_36 : decode cX2_sort 36 = .ok (.if_icmp .le 23, 3) := by decide +kernel
theorem dX2_sort_39 : decode cX2_sort 39 = .ok (.aload_n 0, 1) := by decide +kernel
theorem dX2_sort_40 : decode cX2_sort 40 = .ok (.getfield 15, 3) := by decide +kernel
theorem dX2_sort_43 : decode cX2_sort 43 = .ok (.iload_n 2, 1) := by decide +kernel
theorem dX2_sort_44 : decode cX2_sort 44 = .ok (.aload_n 0, 1) := by decide +kernel
theorem dX2_sort_45 : decode cX2_sort 45 = .ok (.getfield 15, 3) := by decide +kernel
theorem dX2_sort_48 : decode cX2_sort 48 = .ok (.iload_n 2, 1) := by decide +kernel
theorem dX2_sort_49 : decode cX2_sort 49 = .ok (.iconst 1, 1) := by decide +kernel
theorem dX2_sort_50 : decode cX2_sort 50 = .ok (.isub, 1) := by decide +kernel
theorem dX2_sort_51 : decode cX2_sort 51 = .ok (.iaload, 1) := by decide +kernel
theorem dX2_sort_52 : decode cX2_sort 52 = .ok (.iastore, 1) := by decide +kernel
theorem dX2_sort_53 : decode cX2_sort 53 = .ok (.iinc 2 (-1), 3) := by decide +kernel
theorem dX2_sort_56 : decode cX2_sort 56 = .ok (.goto (-38), 3) := by decide +kernel
theorem dX2_sort_59 : decode cX2_sort 59 = .ok (.aload_n 0, 1) := by decide +kernel
theorem dX2_sort_60 : decode cX2_sort 60 = .ok (.getfield 15, 3) := by decide +kernel
theorem dX2_sort_63 : decode cX2_sort 63 = .ok (.iload_n 2, 1) := by decide +kernel
theorem dX2_sort_64 : decode cX2_sort 64 = .ok (.aload_n 0, 1) := by decide +kernel
theorem dX2_sort_65 : decode cX2_sort 65 = .ok (.getfield 9, 3) := by decide +kernel
theorem dX2_sort_68 : decode cX2_sort 68 = .ok (.iload_n 1, 1) := by decide +kernel
theorem dX2_sort_69 : decode cX2_sort 69 = .ok (.iaload, 1) := by decide +kernel
theorem dX2_sort_70 : decode cX2_sort 70 = .ok (.iastore, 1) := by decide +kernel
theorem dX2_sort_71 : decode cX2_sort 71 = .ok (.iinc 1 1, 3) := by decide +kernel
theorem dX2_sort_74 : decode cX2_sort 74 = .ok (.goto (-72), 3) := by decide +kernel
theorem dX2_sort_77 : decode cX2_sort 77 = .ok (.return_, 1) := by decide +kernel
theorem dX2_waitedTogether_0 : decode cX2_waitedTogether 0 = .ok (.aload_n 0, 1) := by decide +kernel
theorem dX2_waitedTogether_1 : decode cX2_waitedTogether 1 = .ok (.getfield 25, 3) := by decide +kernel
theorem dX2_waitedTogether_4 : decode cX2_waitedTogether 4 = .ok (.ireturn, 1) := by decide +kernel
theorem dX2_waitedMost_0 : decode cX2_waitedMost 0 = .ok (.aload_n 0, 1) := by decide +kernel
theorem dX2_waitedMost_1 : decode cX2_waitedMost 1 = .ok (.getfield 28, 3) := by decide +kernel
theorem dX2_waitedMost_4 : decode cX2_waitedMost 4 = .ok (.ireturn, 1) := by decide +kernel
theorem dX3_init_0 : decode cX3_init 0 = .ok (.aload_n 0, 1) := by decide +kernel
theorem dX3_init_1 : decode cX3_init 1 = .ok (.invokespecial 1, 3) := by decide +kernel
theorem dX3_init_4 : decode cX3_init 4 = .ok (.aload_n 0, 1) := by decide +kernel
theorem dX3_init_5 : decode cX3_init 5 = .ok (.aload_n 1, 1) := by decide +kernel
theorem dX3_init_6 : decode cX3_init 6 = .ok (.putfield 7, 3) := by decide +kernel
theorem dX3_init_9 : decode cX3_init 9 = .ok (.aload_n 0, 1) := by decide +kernel
theorem dX3_init_10 : decode cX3_init 10 = .ok (.aload_n 2, 1) := by decide +kernel
theorem dX3_init_11 : decode cX3_init 11 = .ok (.putfield 13, 3) := by decide +kernel
theorem dX3_init_14 : decode cX3_init 14 = .ok (.aload_n 0, 1) := by decide +kernel
theorem dX3_init_15 : decode cX3_init 15 = .ok (.aload_n 3, 1) := by decide +kernel
theorem dX3_init_16 : decode cX3_init 16 = .ok (.invokevirtual 16, 3) := by decide +kernel
theorem dX3_init_19 : decode cX3_init 19 = .ok (.checkcast 17, 3) := by decide +kernel
theorem dX3_init_22 : decode cX3_init 22 = .ok (.putfield 21, 3) := by decide +kernel
theorem dX3_init_25 : decode cX3_init 25 = .ok (.return_, 1) := by decide +kernel
theorem dX3_takes_0 : decode cX3_takes 0 = .ok (.iload_n 1, 1) := by decide +kernel
theorem dX3_takes_1 : decode cX3_takes 1 = .ok (.ifCond .lt 34, 3) := by decide +kernel
theorem dX3_takes_4 : decode cX3_takes 4 = .ok (.iload_n 1, 1) := by decide +kernel
theorem dX3_takes_5 : decode cX3_takes 5 = .ok (.aload_n 0, 1) := by decide +kernel
theorem dX3_takes_6 : decode cX3_takes 6 = .ok (.getfield 7, 3) := by decide +kernel
theorem dX3_takes_9 : decode cX3_takes 9 = .ok (.arraylength, 1) := by decide +kernel
theorem dX3_takes_10 : decode cX3_takes 10 = .ok (.if_icmp .ge 25, 3) := by decide +kernel
theorem dX3_takes_13 : decode cX3_takes 13 = .ok (.iload_n 1, 1) := by decide +kernel
theorem dX3_takes_14 : decode cX3_takes 14 = .ok (.aload_n 0, 1) := by decide +kernel
theorem dX3_takes_15 : decode cX3_takes 15 = .ok (.getfield 13, 3) := by decide +kernel
theorem dX3_takes_18 : decode cX3_takes 18 = .ok (.arraylength, 1) := by decide +kernel
theorem dX3_takes_19 : decode cX3_takes 19 = .ok (.if_icmp .ge 16, 3) := by decide +kernel
theorem dX3_takes_22 : decode cX3_takes 22 = .ok (.iload_n 1, 1) := by decide +kernel
theorem dX3_takes_23 : decode cX3_takes 23 = .ok (.aload_n 0, 1) := by decide +kernel
theorem dX3_takes_24 : decode cX3_takes 24 = .ok (.getfield 21, 3) := by decide +kernel
theorem dX3_takes_27 : decode cX3_takes 27 = .ok (.arraylength, 1) := by decide +kernel
theorem dX3_takes_28 : decode cX3_takes 28 = .ok (.if_icmp .ge 7, 3) := by decide +kernel
theorem dX3_takes_31 : decode cX3_takes 31 = .ok (.iconst 1, 1) := by decide +kernel
theorem dX3_takes_32 : decode cX3_takes 32 = .ok (.goto 4, 3) := by decide +kernel
theorem dX3_takes_35 : decode cX3_takes 35 = .ok (.iconst 0, 1) := by decide +kernel
theorem dX3_takes_36 : decode cX3_takes 36 = .ok (.istore_n 3, 1) := by decide +kernel
theorem dX3_takes_37 : decode cX3_takes 37 = .ok (.iload_n 3, 1) := by decide +kernel
theorem dX3_takes_38 : decode cX3_takes 38 = .ok (.ifCond .eq 27, 3) := by decide +kernel
theorem dX3_takes_41 : decode cX3_takes 41 = .ok (.iload_n 2, 1) := by decide +kernel
theorem dX3_takes_42 : decode cX3_takes 42 = .ok (.aload_n 0, 1) := by decide +kernel
theorem dX3_takes_43 : decode cX3_takes 43 = .ok (.getfield 7, 3) := by decide +kernel
theorem dX3_takes_46 : decode cX3_takes 46 = .ok (.iload_n 1, 1) := by decide +kernel
theorem dX3_takes_47 : decode cX3_takes 47 = .ok (.iaload, 1) := by decide +kernel
theorem dX3_takes_48 : decode cX3_takes 48 = .ok (.if_icmp .lt 17, 3) := by decide +kernel
theorem dX3_takes_51 : decode cX3_takes 51 = .ok (.iload_n 2, 1) := by decide +kernel
theorem dX3_takes_52 : decode cX3_takes 52 = .ok (.aload_n 0, 1) := by decide +kernel
theorem dX3_takes_53 : decode cX3_takes 53 = .ok (.getfield 13, 3) := by decide +kernel
theorem dX3_takes_56 : decode cX3_takes 56 = .ok (.iload_n 1, 1) := by decide +kernel
theorem dX3_takes_57 : decode cX3_takes 57 = .ok (.iaload, 1) := by decide +kernel
theorem dX3_takes_58 : decode cX3_takes 58 = .ok (.if_icmp .gt 7, 3) := by decide +kernel
theorem dX3_takes_61 : decode cX3_takes 61 = .ok (.iconst 1, 1) := by decide +kernel
theorem dX3_takes_62 : decode cX3_takes 62 = .ok (.goto 4, 3) := by decide +kernel
theorem dX3_takes_65 : decode cX3_takes 65 = .ok (.iconst 0, 1) := by decide +kernel
theorem dX3_takes_66 : decode cX3_takes 66 = .ok (.ireturn, 1) := by decide +kernel
theorem dX3_at_0 : decode cX3_at 0 = .ok (.iload_n 1, 1) := by decide +kernel
theorem dX3_at_1 : decode cX3_at 1 = .ok (.ifCond .lt 21, 3) := by decide +kernel
theorem dX3_at_4 : decode cX3_at 4 = .ok (.iload_n 1, 1) := by decide +kernel
theorem dX3_at_5 : decode cX3_at 5 = .ok (.aload_n 0, 1) := by decide +kernel
theorem dX3_at_6 : decode cX3_at 6 = .ok (.getfield 21, 3) := by decide +kernel
theorem dX3_at_9 : decode cX3_at 9 = .ok (.arraylength, 1) := by decide +kernel
theorem dX3_at_10 : decode cX3_at 10 = .ok (.if_icmp .ge 12, 3) := by decide +kernel
theorem dX3_at_13 : decode cX3_at 13 = .ok (.aload_n 0, 1) := by decide +kernel
theorem dX3_at_14 : decode cX3_at 14 = .ok (.getfield 21, 3) := by decide +kernel
theorem dX3_at_17 : decode cX3_at 17 = .ok (.iload_n 1, 1) := by decide +kernel
theorem dX3_at_18 : decode cX3_at 18 = .ok (.iaload, 1) := by decide +kernel
theorem dX3_at_19 : decode cX3_at 19 = .ok (.goto 4, 3) := by decide +kernel
theorem dX3_at_22 : decode cX3_at 22 = .ok (.iconst 0, 1) := by decide +kernel
theorem dX3_at_23 : decode cX3_at 23 = .ok (.ireturn, 1) := by decide +kernel
theorem dX3_turn_0 : decode cX3_turn 0 = .ok (.aload_n 0, 1) := by decide +kernel
theorem dX3_turn_1 : decode cX3_turn 1 = .ok (.iload_n 1, 1) := by decide +kernel
theorem dX3_turn_2 : decode cX3_turn 2 = .ok (.invokevirtual 24, 3) := by decide +kernel
theorem dX3_turn_5 : decode cX3_turn 5 = .ok (.istore_n 3, 1) := by decide +kernel
theorem dX3_turn_6 : decode cX3_turn 6 = .ok (.aload_n 0, 1) := by decide +kernel
theorem dX3_turn_7 : decode cX3_turn 7 = .ok (.iload_n 1, 1) := by decide +kernel
theorem dX3_turn_8 : decode cX3_turn 8 = .ok (.iload_n 2, 1) := by decide +kernel
theorem dX3_turn_9 : decode cX3_turn 9 = .ok (.invokevirtual 28, 3) := by decide +kernel
theorem dX3_turn_12 : decode cX3_turn 12 = .ok (.ifCond .eq 10, 3) := by decide +kernel
theorem dX3_turn_15 : decode cX3_turn 15 = .ok (.aload_n 0, 1) := by decide +kernel
theorem dX3_turn_16 : decode cX3_turn 16 = .ok (.getfield 21, 3) := by decide +kernel
theorem dX3_turn_19 : decode cX3_turn 19 = .ok (.iload_n 1, 1) := by decide +kernel
theorem dX3_turn_20 : decode cX3_turn 20 = .ok (.iload_n 2, 1) := by decide +kernel
theorem dX3_turn_21 : decode cX3_turn 21 = .ok (.iastore, 1) := by decide +kernel
theorem dX3_turn_22 : decode cX3_turn 22 = .ok (.iload_n 3, 1) := by decide +kernel
theorem dX3_turn_23 : decode cX3_turn 23 = .ok (.ireturn, 1) := by decide +kernel
theorem dX4_init_0 : decode cX4_init 0 = .ok (.aload_n 0, 1) := by decide +kernel
theorem dX4_init_1 : decode cX4_init 1 = .ok (.invokespecial 3, 3) := by decide +kernel
theorem dX4_init_4 : decode cX4_init 4 = .ok (.aload_n 0, 1) := by decide +kernel
theorem dX4_init_5 : decode cX4_init 5 = .ok (.bipush 40, 2) := by decide +kernel
theorem dX4_init_7 : decode cX4_init 7 = .ok (.newarray .int, 2) := by decide +kernel
theorem dX4_init_9 : decode cX4_init 9 = .ok (.putfield 9, 3) := by decide +kernel
theorem dX4_init_12 : decode cX4_init 12 = .ok (.aload_n 0, 1) := by decide +kernel
theorem dX4_init_13 : decode cX4_init 13 = .ok (.bipush 40, 2) := by decide +kernel
theorem dX4_init_15 : decode cX4_init 15 = .ok (.newarray .int, 2) := by decide +kernel
theorem dX4_init_17 : decode cX4_init 17 = .ok (.putfield 15, 3) := by decide +kernel
theorem dX4_init_20 : decode cX4_init 20 = .ok (.aload_n 0, 1) := by decide +kernel
theorem dX4_init_21 : decode cX4_init 21 = .ok (.bipush 40, 2) := by decide +kernel
theorem dX4_init_23 : decode cX4_init 23 = .ok (.newarray .int, 2) := by decide +kernel
theorem dX4_init_25 : decode cX4_init 25 = .ok (.putfield 18, 3) := by decide +kernel
theorem dX4_init_28 : decode cX4_init 28 = .ok (.aload_n 0, 1) := by decide +kernel
theorem dX4_init_29 : decode cX4_init 29 = .ok (.bipush 40, 2) := by decide +kernel
theorem dX4_init_31 : decode cX4_init 31 = .ok (.newarray .int, 2) := by decide +kernel
theorem dX4_init_33 : decode cX4_init 33 = .ok (.putfield 21, 3) := by decide +kernel
theorem dX4_init_36 : decode cX4_init 36 = .ok (.aload_n 0, 1) := by decide +kernel
theorem dX4_init_37 : decode cX4_init 37 = .ok (.bipush 40, 2) := by decide +kernel
theorem dX4_init_39 : decode cX4_init 39 = .ok (.newarray .int, 2) := by decide +kernel
theorem dX4_init_41 : decode cX4_init 41 = .ok (.putfield 24, 3) := by decide +kernel
theorem dX4_init_44 : decode cX4_init 44 = .ok (.return_, 1) := by decide +kernel
theorem dX4_run_0 : decode cX4_run 0 = .ok (.iload 5, 2) := by decide +kernel
theorem dX4_run_2 : decode cX4_run 2 = .ok (.istore 6, 2) := by decide +kernel
theorem dX4_run_4 : decode cX4_run 4 = .ok (.iconst 0, 1) := by decide +kernel
theorem dX4_run_5 : decode cX4_run 5 = .ok (.istore 7, 2) := by decide +kernel
theorem dX4_run_7 : decode cX4_run 7 = .ok (.iconst 0, 1) := by decide +kernel
theorem dX4_run_8 : decode cX4_run 8 = .ok (.istore 8, 2) := by decide +kernel
theorem dX4_run_10 : decode cX4_run 10 = .ok (.iload 8, 2) := by decide +kernel
theorem dX4_run_12 : decode cX4_run 12 = .ok (.bipush 40, 2) := by decide +kernel
theorem dX4_run_14 : decode cX4_run 14 = .ok (.if_icmp .ge 127, 3) := by decide +kernel
theorem dX4_run_17 : decode cX4_run 17 = .ok (.aload_n 0, 1) := by decide +kernel
theorem dX4_run_18 : decode cX4_run 18 = .ok (.getfield 21, 3) := by decide +kernel
theorem dX4_run_21 : decode cX4_run 21 = .ok (.iload 8, 2) := by decide +kernel
theorem dX4_run_23 : decode cX4_run 23 = .ok (.iload 6, 2) := by decide +kernel
theorem dX4_run_25 : decode cX4_run 25 = .ok (.iastore, 1) := by decide +kernel
theorem dX4_run_26 : decode cX4_run 26 = .ok (.aload_n 0, 1) := by decide +kernel
theorem dX4_run_27 : decode cX4_run 27 = .ok (.getfield 24, 3) := by decide +kernel
theorem dX4_run_30 : decode cX4_run 30 = .ok (.iload 8, 2) := by decide +kernel
theorem dX4_run_32 : decode cX4_run 32 = .ok (.iload 7, 2) := by decide +kernel
theorem dX4_run_34 : decode cX4_run 34 = .ok (.iastore, 1) := by decide +kernel
theorem dX4_run_35 : decode cX4_run 35 = .ok (.aload_n 0, 1) := by decide +kernel
theorem dX4_run_36 : decode cX4_run 36 = .ok (.getfield 18, 3) := by decide +kernel
theorem dX4_run_39 : decode cX4_run 39 = .ok (.iload 8, 2) := by decide +kernel
theorem dX4_run_41 : decode cX4_run 41 = .ok (.aload_n 2, 1) := by decide +kernel
theorem dX4_run_42 : decode cX4_run 42 = .ok (.iload 7, 2) := by decide +kernel
theorem dX4_run_44 : decode cX4_run 44 = .ok (.bipush 10, 2) := by decide +kernel
theorem dX4_run_46 : decode cX4_run 46 = .ok (.idiv, 1) := by decide +kernel
theorem dX4_run_47 : decode cX4_run 47 = .ok (.invokevirtual 27, 3) := by decide +kernel
theorem dX4_run_50 : decode cX4_run 50 = .ok (.iload_n 1, 1) := by decide +kernel
theorem dX4_run_51 : decode cX4_run 51 = .ok (.imul, 1) := by decide +kernel
theorem dX4_run_52 : decode cX4_run 52 = .ok (.iastore, 1) := by decide +kernel
theorem dX4_run_53 : decode cX4_run 53 = .ok (.aload_n 0, 1) := by decide +kernel
theorem dX4_run_54 : decode cX4_run 54 = .ok (.getfield 9, 3) := by decide +kernel
theorem dX4_run_57 : decode cX4_run 57 = .ok (.iload 8, 2) := by decide +kernel
theorem dX4_run_59 : decode cX4_run 59 = .ok (.aload_n 0, 1) := by decide +kernel
theorem dX4_run_60 : decode cX4_run 60 = .ok (.aload_n 3, 1) := by decide +kernel
theorem dX4_run_61 : decode cX4_run 61 = .ok (.iload 8, 2) := by decide +kernel
theorem dX4_run_63 : decode cX4_run 63 = .ok (.aload_n 0, 1) := by decide +kernel
theorem dX4_run_64 : decode cX4_run 64 = .ok (.getfield 9, 3) := by decide +kernel
theorem dX4_run_67 : decode cX4_run 67 = .ok (.aload_n 0, 1) := by decide +kernel
theorem dX4_run_68 : decode cX4_run 68 = .ok (.getfield 15, 3) := by decide +kernel
theorem dX4_run_71 : decode cX4_run 71 = .ok (.invokevirtual 33, 3) := by decide +kernel
theorem dX4_run_74 : decode cX4_run 74 = .ok (.iastore, 1) := by decide +kernel
theorem dX4_run_75 : decode cX4_run 75 = .ok (.aload_n 0, 1) := by decide +kernel
theorem dX4_run_76 : decode cX4_run 76 = .ok (.getfield 15, 3) := by decide +kernel
theorem dX4_run_79 : decode cX4_run 79 = .ok (.iload 8, 2) := by decide +kernel
theorem dX4_run_81 : decode cX4_run 81 = .ok (.aload_n 0, 1) := by decide +kernel
theorem dX4_run_82 : decode cX4_run 82 = .ok (.aload 4, 2) := by decide +kernel
theorem dX4_run_84 : decode cX4_run 84 = .ok (.iload 8, 2) := by decide +kernel
theorem dX4_run_86 : decode cX4_run 86 = .ok (.aload_n 0, 1) := by decide +kernel
theorem dX4_run_87 : decode cX4_run 87 = .ok (.getfield 15, 3) := by decide +kernel
theorem dX4_run_90 : decode cX4_run 90 = .ok (.aload_n 0, 1) := by decide +kernel
theorem dX4_run_91 : decode cX4_run 91 = .ok (.getfield 9, 3) := by decide +kernel
theorem dX4_run_94 : decode cX4_run 94 = .ok (.invokevirtual 33, 3) := by decide +kernel
theorem dX4_run_97 : decode cX4_run 97 = .ok (.iastore, 1) := by decide +kernel
theorem dX4_run_98 : decode cX4_run 98 = .ok (.iload 7, 2) := by decide +kernel
theorem dX4_run_100 : decode cX4_run 100 = .ok (.iload 6, 2) := by decide +kernel
theorem dX4_run_102 : decode cX4_run 102 = .ok (.iadd, 1) := by decide +kernel
theorem dX4_run_103 : decode cX4_run 103 = .ok (.istore 7, 2) := by decide +kernel
theorem dX4_run_105 : decode cX4_run 105 = .ok (.iload 6, 2) := by decide +kernel
theorem dX4_run_107 : decode cX4_run 107 = .ok (.aload_n 0, 1) := by decide +kernel
theorem dX4_run_108 : decode cX4_run 108 = .ok (.getfield 9, 3) := by decide +kernel
theorem dX4_run_111 : decode cX4_run 111 = .ok (.iload 8, 2) := by decide +kernel
theorem dX4_run_113 : decode cX4_run 113 = .ok (.iaload, 1) := by decide +kernel
theorem dX4_run_114 : decode cX4_run 114 = .ok (.aload_n 0, 1) := by decide +kernel
theorem dX4_run_115 : decode cX4_run 115 = .ok (.getfield 15, 3) := by decide +kernel
theorem dX4_run_118 : decode cX4_run 118 = .ok (.iload 8, 2) := by decide +kernel
theorem dX4_run_120 : decode cX4_run 120 = .ok (.iaload, 1) := by decide +kernel
theorem dX4_run_121 : decode cX4_run 121 = .ok (.iadd, 1) := by decide +kernel
theorem dX4_run_122 : decode cX4_run 122 = .ok (.aload_n 0, 1) := by decide +kernel
theorem dX4_run_123 : decode cX4_run 123 = .ok (.getfield 18, 3) := by decide +kernel
theorem dX4_run_126 : decode cX4_run 126 = .ok (.iload 8, 2) := by decide +kernel
theorem dX4_run_128 : decode cX4_run 128 = .ok (.iaload, 1) := by decide +kernel
theorem dX4_run_129 : decode cX4_run 129 = .ok (.isub, 1) := by decide +kernel
theorem dX4_run_130 : decode cX4_run 130 = .ok (.invokestatic 37, 3) := by decide +kernel
theorem dX4_run_133 : decode cX4_run 133 = .ok (.istore 6, 2) := by decide +kernel
theorem dX4_run_135 : decode cX4_run 135 = .ok (.iinc 8 1, 3) := by decide +kernel
theorem dX4_run_138 : decode cX4_run 138 = .ok (.goto (-128), 3) := by decide +kernel
theorem dX4_run_141 : decode cX4_run 141 = .ok (.return_, 1) := by decide +kernel
theorem dX4_nextSpeed_0 : decode cX4_nextSpeed 0 = .ok (.iload_n 1, 1) := by decide +kernel
theorem dX4_nextSpeed_1 : decode cX4_nextSpeed 1 = .ok (.ifCond .le 12, 3) := by decide +kernel
theorem dX4_nextSpeed_4 : decode cX4_nextSpeed 4 = .ok (.iload_n 0, 1) := by decide +kernel
theorem dX4_nextSpeed_5 : decode cX4_nextSpeed 5 = .ok (.iconst 1, 1) := by decide +kernel
theorem dX4_nextSpeed_6 : decode cX4_nextSpeed 6 = .ok (.iadd, 1) := by decide +kernel
theorem dX4_nextSpeed_7 : decode cX4_nextSpeed 7 = .ok (.bipush 20, 2) := by decide +kernel
theorem dX4_nextSpeed_9 : decode cX4_nextSpeed 9 = .ok (.invokestatic 41, 3) := by decide +kernel
theorem dX4_nextSpeed_12 : decode cX4_nextSpeed 12 = .ok (.ireturn, 1) := by decide +kernel
theorem dX4_nextSpeed_13 : decode cX4_nextSpeed 13 = .ok (.iload_n 1, 1) := by decide +kernel
theorem dX4_nextSpeed_14 : decode cX4_nextSpeed 14 = .ok (.ifCond .ge 13, 3) := by decide +kernel
theorem dX4_nextSpeed_17 : decode cX4_nextSpeed 17 = .ok (.iload_n 0, 1) := by decide +kernel
theorem dX4_nextSpeed_18 : decode cX4_nextSpeed 18 = .ok (.iconst 1, 1) := by decide +kernel
theorem dX4_nextSpeed_19 : decode cX4_nextSpeed 19 = .ok (.isub, 1) := by decide +kernel
theorem dX4_nextSpeed_20 : decode cX4_nextSpeed 20 = .ok (.iconst 0, 1) := by decide +kernel
theorem dX4_nextSpeed_21 : decode cX4_nextSpeed 21 = .ok (.invokestatic 46, 3) := by decide +kernel
theorem dX4_nextSpeed_24 : decode cX4_nextSpeed 24 = .ok (.goto 4, 3) := by decide +kernel
theorem dX4_nextSpeed_27 : decode cX4_nextSpeed 27 = .ok (.iload_n 0, 1) := by decide +kernel
theorem dX4_nextSpeed_28 : decode cX4_nextSpeed 28 = .ok (.ireturn, 1) := by decide +kernel
theorem dX4_byRule_0 : decode cX4_byRule 0 = .ok (.iload_n 2, 1) := by decide +kernel
theorem dX4_byRule_1 : decode cX4_byRule 1 = .ok (.aload_n 1, 1) := by decide +kernel
theorem dX4_byRule_2 : decode cX4_byRule 2 = .ok (.iconst 2, 1) := by decide +kernel
theorem dX4_byRule_3 : decode cX4_byRule 3 = .ok (.invokevirtual 49, 3) := by decide +kernel
theorem dX4_byRule_6 : decode cX4_byRule 6 = .ok (.isub, 1) := by decide +kernel
theorem dX4_byRule_7 : decode cX4_byRule 7 = .ok (.istore 5, 2) := by decide +kernel
theorem dX4_byRule_9 : decode cX4_byRule 9 = .ok (.iload 5, 2) := by decide +kernel
theorem dX4_byRule_11 : decode cX4_byRule 11 = .ok (.ifCond .lt 22, 3) := by decide +kernel
theorem dX4_byRule_14 : decode cX4_byRule 14 = .ok (.iload 5, 2) := by decide +kernel
theorem dX4_byRule_16 : decode cX4_byRule 16 = .ok (.aload 4, 2) := by decide +kernel
theorem dX4_byRule_18 : decode cX4_byRule 18 = .ok (.arraylength, 1) := by decide +kernel
theorem dX4_byRule_19 : decode cX4_byRule 19 = .ok (.if_icmp .ge 14, 3) := by decide +kernel
theorem dX4_byRule_22 : decode cX4_byRule 22 = .ok (.iload_n 2, 1) := by decide +kernel
theorem dX4_byRule_23 : decode cX4_byRule 23 = .ok (.iconst 1, 1) := by decide +kernel
theorem dX4_byRule_24 : decode cX4_byRule 24 = .ok (.if_icmp .lt 9, 3) := by decide +kernel
theorem dX4_byRule_27 : decode cX4_byRule 27 = .ok (.iload_n 2, 1) := by decide +kernel
theorem dX4_byRule_28 : decode cX4_byRule 28 = .ok (.aload_n 3, 1) := by decide +kernel
theorem dX4_byRule_29 : decode cX4_byRule 29 = .ok (.arraylength, 1) := by decide +kernel
theorem dX4_byRule_30 : decode cX4_byRule 30 = .ok (.if_icmp .lt 9, 3) := by decide +kernel
theorem dX4_byRule_33 : decode cX4_byRule 33 = .ok (.aload_n 1, 1) := by decide +kernel
theorem dX4_byRule_34 : decode cX4_byRule 34 = .ok (.iconst 0, 1) := by decide +kernel
theorem dX4_byRule_35 : decode cX4_byRule 35 = .ok (.invokevirtual 49, 3) := by decide +kernel
theorem dX4_byRule_38 : decode cX4_byRule 38 = .ok (.ireturn, 1) := by decide +kernel
theorem dX4_byRule_39 : decode cX4_byRule 39 = .ok (.iconst 0, 1) := by decide +kernel
theorem dX4_byRule_40 : decode cX4_byRule 40 = .ok (.aload_n 0, 1) := by decide +kernel
theorem dX4_byRule_41 : decode cX4_byRule 41 = .ok (.getfield 18, 3) := by decide +kernel
theorem dX4_byRule_44 : decode cX4_byRule 44 = .ok (.iload_n 2, 1) := by decide +kernel
theorem dX4_byRule_45 : decode cX4_byRule 45 = .ok (.iaload, 1) := by decide +kernel
theorem dX4_byRule_46 : decode cX4_byRule 46 = .ok (.aload 4, 2) := by decide +kernel
theorem dX4_byRule_48 : decode cX4_byRule 48 = .ok (.iload 5, 2) := by decide +kernel
theorem dX4_byRule_50 : decode cX4_byRule 50 = .ok (.iaload, 1) := by decide +kernel
theorem dX4_byRule_51 : decode cX4_byRule 51 = .ok (.isub, 1) := by decide +kernel
theorem dX4_byRule_52 : decode cX4_byRule 52 = .ok (.sipush 999, 3) := by decide +kernel
theorem dX4_byRule_55 : decode cX4_byRule 55 = .ok (.invokestatic 41, 3) := by decide +kernel
theorem dX4_byRule_58 : decode cX4_byRule 58 = .ok (.invokestatic 46, 3) := by decide +kernel
theorem dX4_byRule_61 : decode cX4_byRule 61 = .ok (.istore 6, 2) := by decide +kernel
theorem dX4_byRule_63 : decode cX4_byRule 63 = .ok (.aload_n 1, 1) := by decide +kernel
theorem dX4_byRule_64 : decode cX4_byRule 64 = .ok (.iconst 1, 1) := by decide +kernel
theorem dX4_byRule_65 : decode cX4_byRule 65 = .ok (.invokevirtual 49, 3) := by decide +kernel
theorem dX4_byRule_68 : decode cX4_byRule 68 = .ok (.tableswitch 48 1 3 #[28, 31, 37], 28) := by decide +kernel
theorem dX4_byRule_96 : decode cX4_byRule 96 = .ok (.iload 6, 2) := by decide +kernel
theorem dX4_byRule_98 : decode cX4_byRule 98 = .ok (.ireturn, 1) := by decide +kernel
theorem dX4_byRule_99 : decode cX4_byRule 99 = .ok (.aload 4, 2) := by decide +kernel
theorem dX4_byRule_101 : decode cX4_byRule 101 = .ok (.iload 5, 2) := by decide +kernel
theorem dX4_byRule_103 : decode cX4_byRule 103 = .ok (.iaload, 1) := by decide +kernel
theorem dX4_byRule_104 : decode cX4_byRule 104 = .ok (.ireturn, 1) := by decide +kernel
theorem dX4_byRule_105 : decode cX4_byRule 105 = .ok (.aload_n 3, 1) := by decide +kernel
theorem dX4_byRule_106 : decode cX4_byRule 106 = .ok (.iload_n 2, 1) := by decide +kernel
theorem dX4_byRule_107 : decode cX4_byRule 107 = .ok (.iconst 1, 1) := by decide +kernel
theorem dX4_byRule_108 : decode cX4_byRule 108 = .ok (.isub, 1) := by decide +kernel
theorem dX4_byRule_109 : decode cX4_byRule 109 = .ok (.iaload, 1) := by decide +kernel
theorem dX4_byRule_110 : decode cX4_byRule 110 = .ok (.iload 6, 2) := by decide +kernel
theorem dX4_byRule_112 : decode cX4_byRule 112 = .ok (.iadd, 1) := by decide +kernel
theorem dX4_byRule_113 : decode cX4_byRule 113 = .ok (.iconst 2, 1) := by decide +kernel
theorem dX4_byRule_114 : decode cX4_byRule 114 = .ok (.idiv, 1) := by decide +kernel
theorem dX4_byRule_115 : decode cX4_byRule 115 = .ok (.ireturn, 1) := by decide +kernel
theorem dX4_byRule_116 : decode cX4_byRule 116 = .ok (.aload_n 1, 1) := by decide +kernel
theorem dX4_byRule_117 : decode cX4_byRule 117 = .ok (.iconst 0, 1) := by decide +kernel
theorem dX4_byRule_118 : decode cX4_byRule 118 = .ok (.invokevirtual 49, 3) := by decide +kernel
theorem dX4_byRule_121 : decode cX4_byRule 121 = .ok (.ireturn, 1) := by decide +kernel
theorem dX4_given_0 : decode cX4_given 0 = .ok (.iload_n 2, 1) := by decide +kernel
theorem dX4_given_1 : decode cX4_given 1 = .ok (.ifCond .lt 9, 3) := by decide +kernel
theorem dX4_given_4 : decode cX4_given 4 = .ok (.iload_n 2, 1) := by decide +kernel
theorem dX4_given_5 : decode cX4_given 5 = .ok (.bipush 40, 2) := by decide +kernel
theorem dX4_given_7 : decode cX4_given 7 = .ok (.if_icmp .lt 5, 3) := by decide +kernel
theorem dX4_given_10 : decode cX4_given 10 = .ok (.iconst 0, 1) := by decide +kernel
theorem dX4_given_11 : decode cX4_given 11 = .ok (.ireturn, 1) := by decide +kernel
theorem dX4_given_12 : decode cX4_given 12 = .ok (.iload_n 1, 1) := by decide +kernel
theorem dX4_given_13 : decode cX4_given 13 = .ok (.ifCond .ne 12, 3) := by decide +kernel
theorem dX4_given_16 : decode cX4_given 16 = .ok (.aload_n 0, 1) := by decide +kernel
theorem dX4_given_17 : decode cX4_given 17 = .ok (.getfield 9, 3) := by decide +kernel
theorem dX4_given_20 : decode cX4_given 20 = .ok (.iload_n 2, 1) := by decide +kernel
theorem dX4_given_21 : decode cX4_given 21 = .ok (.iaload, 1) := by decide +kernel
theorem dX4_given_22 : decode cX4_given 22 = .ok (.goto 9, 3) := by decide +kernel
theorem dX4_given_25 : decode cX4_given 25 = .ok (.aload_n 0, 1) := by decide +kernel
theorem dX4_given_26 : decode cX4_given 26 = .ok (.getfield 15, 3) := by decide +kernel
theorem dX4_given_29 : decode cX4_given 29 = .ok (.iload_n 2, 1) := by decide +kernel
theorem dX4_given_30 : decode cX4_given 30 = .ok (.iaload, 1) := by decide +kernel
theorem dX4_given_31 : decode cX4_given 31 = .ok (.ireturn, 1) := by decide +kernel
theorem dX4_neededIn_0 : decode cX4_neededIn 0 = .ok (.iload_n 1, 1) := by decide +kernel
theorem dX4_neededIn_1 : decode cX4_neededIn 1 = .ok (.ifCond .lt 18, 3) := by decide +kernel
theorem dX4_neededIn_4 : decode cX4_neededIn 4 = .ok (.iload_n 1, 1) := by decide +kernel
theorem dX4_neededIn_5 : decode cX4_neededIn 5 = .ok (.bipush 40, 2) := by decide +kernel
theorem dX4_neededIn_7 : decode cX4_neededIn 7 = .ok (.if_icmp .ge 12, 3) := by decide +kernel
theorem dX4_neededIn_10 : decode cX4_neededIn 10 = .ok (.aload_n 0, 1) := by decide +kernel
theorem dX4_neededIn_11 : decode cX4_neededIn 11 = .ok (.getfield 18, 3) := by decide +kernel
theorem dX4_neededIn_14 : decode cX4_neededIn 14 = .ok (.iload_n 1, 1) := by decide +kernel
theorem dX4_neededIn_15 : decode cX4_neededIn 15 = .ok (.iaload, 1) := by decide +kernel
theorem dX4_neededIn_16 : decode cX4_neededIn 16 = .ok (.goto 4, 3) := by decide +kernel
theorem dX4_neededIn_19 : decode cX4_neededIn 19 = .ok (.iconst 0, 1) := by decide +kernel
theorem dX4_neededIn_20 : decode cX4_neededIn 20 = .ok (.ireturn, 1) := by decide +kernel
theorem dX4_speedIn_0 : decode cX4_speedIn 0 = .ok (.iload_n 1, 1) := by decide +kernel
theorem dX4_speedIn_1 : decode cX4_speedIn 1 = .ok (.ifCond .lt 18, 3) := by decide +kernel
theorem dX4_speedIn_4 : decode cX4_speedIn 4 = .ok (.iload_n 1, 1) := by decide +kernel
theorem dX4_speedIn_5 : decode cX4_speedIn 5 = .ok (.bipush 40, 2) := by decide +kernel
theorem dX4_speedIn_7 : decode cX4_speedIn 7 = .ok (.if_icmp .ge 12, 3) := by decide +kernel
theorem dX4_speedIn_10 : decode cX4_speedIn 10 = .ok (.aload_n 0, 1) := by decide +kernel
theorem dX4_speedIn_11 : decode cX4_speedIn 11 = .ok (.getfield 21, 3) := by decide +kernel
theorem dX4_speedIn_14 : decode cX4_speedIn 14 = .ok (.iload_n 1, 1) := by decide +kernel
theorem dX4_speedIn_15 : decode cX4_speedIn 15 = .ok (.iaload, 1) := by decide +kernel
theorem dX4_speedIn_16 : decode cX4_speedIn 16 = .ok (.goto 4, 3) := by decide +kernel
theorem dX4_speedIn_19 : decode cX4_speedIn 19 = .ok (.iconst 0, 1) := by decide +kernel
theorem dX4_speedIn_20 : decode cX4_speedIn 20 = .ok (.ireturn, 1) := by decide +kernel
theorem dX4_placeIn_0 : decode cX4_placeIn 0 = .ok (.iload_n 1, 1) := by decide +kernel
theorem dX4_placeIn_1 : decode cX4_placeIn 1 = .ok (.ifCond .lt 21, 3) := by decide +kernel
theorem dX4_placeIn_4 : decode cX4_placeIn 4 = .ok (.iload_n 1, 1) := by decide +kernel
theorem dX4_placeIn_5 : decode cX4_placeIn 5 = .ok (.bipush 40, 2) := by decide +kernel
theorem dX4_placeIn_7 : decode cX4_placeIn 7 = .ok (.if_icmp .ge 15, 3) := by decide +kernel
theorem dX4_placeIn_10 : decode cX4_placeIn 10 = .ok (.aload_n 0, 1) := by decide +kernel
theorem dX4_placeIn_11 : decode cX4_placeIn 11 = .ok (.getfield 24, 3) := by decide +kernel
theorem dX4_placeIn_14 : decode cX4_placeIn 14 = .ok (.iload_n 1, 1) := by decide +kernel
theorem dX4_placeIn_15 : decode cX4_placeIn 15 = .ok (.iaload, 1) := by decide +kernel
theorem dX4_placeIn_16 : decode cX4_placeIn 16 = .ok (.bipush 10, 2) := by decide +kernel
theorem dX4_placeIn_18 : decode cX4_placeIn 18 = .ok (.idiv, 1) := by decide +kernel
theorem dX4_placeIn_19 : decode cX4_placeIn 19 = .ok (.goto 4, 3) := by decide +kernel
theorem dX4_placeIn_22 : decode cX4_placeIn 22 = .ok (.iconst 0, 1) := by decide +kernel
theorem dX4_placeIn_23 : decode cX4_placeIn 23 = .ok (.ireturn, 1) := by decide +kernel
theorem dX4_allGiven_0 : decode cX4_allGiven 0 = .ok (.iconst 0, 1) := by decide +kernel
theorem dX4_allGiven_1 : decode cX4_allGiven 1 = .ok (.istore_n 2, 1) := by decide +kernel
theorem dX4_allGiven_2 : decode cX4_allGiven 2 = .ok (.iconst 0, 1) := by decide +kernel
theorem dX4_allGiven_3 : decode cX4_allGiven 3 = .ok (.istore_n 3, 1) := by decide +kernel
theorem dX4_allGiven_4 : decode cX4_allGiven 4 = .ok (.iload_n 3, 1) := by decide +kernel
theorem dX4_allGiven_5 : decode cX4_allGiven 5 = .ok (.bipush 40, 2) := by decide +kernel
theorem dX4_allGiven_7 : decode cX4_allGiven 7 = .ok (.if_icmp .ge 18, 3) := by decide +kernel
theorem dX4_allGiven_10 : decode cX4_allGiven 10 = .ok (.iload_n 2, 1) := by decide +kernel
theorem dX4_allGiven_11 : decode cX4_allGiven 11 = .ok (.aload_n 0, 1) := by decide +kernel
theorem dX4_allGiven_12 : decode cX4_allGiven 12 = .ok (.iload_n 1, 1) := by decide +kernel
theorem dX4_allGiven_13 : decode cX4_allGiven 13 = .ok (.iload_n 3, 1) := by decide +kernel
theorem dX4_allGiven_14 : decode cX4_allGiven 14 = .ok (.invokevirtual 54, 3) := by decide +kernel
theorem dX4_allGiven_17 : decode cX4_allGiven 17 = .ok (.iadd, 1) := by decide +kernel
theorem dX4_allGiven_18 : decode cX4_allGiven 18 = .ok (.istore_n 2, 1) := by decide +kernel
theorem dX4_allGiven_19 : decode cX4_allGiven 19 = .ok (.iinc 3 1, 3) := by decide +kernel
theorem dX4_allGiven_22 : decode cX4_allGiven 22 = .ok (.goto (-18), 3) := by decide +kernel
theorem dX4_allGiven_25 : decode cX4_allGiven 25 = .ok (.iload_n 2, 1) := by decide +kernel
theorem dX4_allGiven_26 : decode cX4_allGiven 26 = .ok (.ireturn, 1) := by decide +kernel
theorem dX4_givesAlike_0 : decode cX4_givesAlike 0 = .ok (.aload_n 0, 1) := by decide +kernel
theorem dX4_givesAlike_1 : decode cX4_givesAlike 1 = .ok (.iconst 0, 1) := by decide +kernel
theorem dX4_givesAlike_2 : decode cX4_givesAlike 2 = .ok (.iload_n 1, 1) := by decide +kernel
theorem dX4_givesAlike_3 : decode cX4_givesAlike 3 = .ok (.invokevirtual 54, 3) := by decide +kernel
theorem dX4_givesAlike_6 : decode cX4_givesAlike 6 = .ok (.aload_n 0, 1) := by decide +kernel
theorem dX4_givesAlike_7 : decode cX4_givesAlike 7 = .ok (.iconst 0, 1) := by decide +kernel
theorem dX4_givesAlike_8 : decode cX4_givesAlike 8 = .ok (.iload_n 2, 1) := by decide +kernel
theorem dX4_givesAlike_9 : decode cX4_givesAlike 9 = .ok (.invokevirtual 54, 3) := by decide +kernel
theorem dX4_givesAlike_12 : decode cX4_givesAlike 12 = .ok (.if_icmp .ne 22, 3) := by decide +kernel
theorem dX4_givesAlike_15 : decode cX4_givesAlike 15 = .ok (.aload_n 0, 1) := by decide +kernel
theorem dX4_givesAlike_16 : decode cX4_givesAlike 16 = .ok (.iconst 1, 1) := by decide +kernel
theorem dX4_givesAlike_17 : decode cX4_givesAlike 17 = .ok (.iload_n 1, 1) := by decide +kernel
theorem dX4_givesAlike_18 : decode cX4_givesAlike 18 = .ok (.invokevirtual 54, 3) := by decide +kernel
theorem dX4_givesAlike_21 : decode cX4_givesAlike 21 = .ok (.aload_n 0, 1) := by decide +kernel
theorem dX4_givesAlike_22 : decode cX4_givesAlike 22 = .ok (.iconst 1, 1) := by decide +kernel
theorem dX4_givesAlike_23 : decode cX4_givesAlike 23 = .ok (.iload_n 2, 1) := by decide +kernel
theorem dX4_givesAlike_24 : decode cX4_givesAlike 24 = .ok (.invokevirtual 54, 3) := by decide +kernel
theorem dX4_givesAlike_27 : decode cX4_givesAlike 27 = .ok (.if_icmp .ne 7, 3) := by decide +kernel
theorem dX4_givesAlike_30 : decode cX4_givesAlike 30 = .ok (.iconst 1, 1) := by decide +kernel
theorem dX4_givesAlike_31 : decode cX4_givesAlike 31 = .ok (.goto 4, 3) := by decide +kernel
theorem dX4_givesAlike_34 : decode cX4_givesAlike 34 = .ok (.iconst 0, 1) := by decide +kernel
theorem dX4_givesAlike_35 : decode cX4_givesAlike 35 = .ok (.ireturn, 1) := by decide +kernel
theorem dX4_comesAgain_0 : decode cX4_comesAgain 0 = .ok (.bipush 20, 2) := by decide +kernel
theorem dX4_comesAgain_2 : decode cX4_comesAgain 2 = .ok (.istore_n 2, 1) := by decide +kernel
theorem dX4_comesAgain_3 : decode cX4_comesAgain 3 = .ok (.iload_n 2, 1) := by decide +kernel
theorem dX4_comesAgain_4 : decode cX4_comesAgain 4 = .ok (.iload_n 1, 1) := by decide +kernel
theorem dX4_comesAgain_5 : decode cX4_comesAgain 5 = .ok (.iadd, 1) := by decide +kernel
theorem dX4_comesAgain_6 : decode cX4_comesAgain 6 = .ok (.bipush 40, 2) := by decide +kernel
theorem dX4_comesAgain_8 : decode cX4_comesAgain 8 = .ok (.if_icmp .ge 22, 3) := by decide +kernel
theorem dX4_comesAgain_11 : decode cX4_comesAgain 11 = .ok (.aload_n 0, 1) := by decide +kernel
theorem dX4_comesAgain_12 : decode cX4_comesAgain 12 = .ok (.iload_n 2, 1) := by decide +kernel
theorem dX4_comesAgain_13 : decode cX4_comesAgain 13 = .ok (.iload_n 2, 1) := by decide +kernel
theorem dX4_comesAgain_14 : decode cX4_comesAgain 14 = .ok (.iload_n 1, 1) := by decide +kernel
theorem dX4_comesAgain_15 : decode cX4_comesAgain 15 = .ok (.iadd, 1) := by decide +kernel
theorem dX4_comesAgain_16 : decode cX4_comesAgain 16 = .ok (.invokevirtual 57, 3) := by decide +kernel
theorem dX4_comesAgain_19 : decode cX4_comesAgain 19 = .ok (.ifCond .ne 5, 3) := by decide +kernel
theorem dX4_comesAgain_22 : decode cX4_comesAgain 22 = .ok (.iconst 0, 1) := by decide +kernel
theorem dX4_comesAgain_23 : decode cX4_comesAgain 23 = .ok (.ireturn, 1) := by decide +kernel
theorem dX4_comesAgain_24 : decode cX4_comesAgain 24 = .ok (.iinc 2 1, 3) := by decide +kernel
theorem dX4_comesAgain_27 : decode cX4_comesAgain 27 = .ok (.goto (-24), 3) := by decide +kernel
theorem dX4_comesAgain_30 : decode cX4_comesAgain 30 = .ok (.iconst 1, 1) := by decide +kernel
theorem dX4_comesAgain_31 : decode cX4_comesAgain 31 = .ok (.ireturn, 1) := by decide +kernel
theorem dX5_init_0 : decode cX5_init 0 = .ok (.aload_n 0, 1) := by decide +kernel
theorem dX5_init_1 : decode cX5_init 1 = .ok (.invokespecial 3, 3) := by decide +kernel
theorem dX5_init_4 : decode cX5_init 4 = .ok (.aload_n 0, 1) := by decide +kernel
theorem dX5_init_5 : decode cX5_init 5 = .ok (.bipush 60, 2) := by decide +kernel
theorem dX5_init_7 : decode cX5_init 7 = .ok (.newarray .int, 2) := by decide +kernel
theorem dX5_init_9 : decode cX5_init 9 = .ok (.putfield 9, 3) := by decide +kernel
theorem dX5_init_12 : decode cX5_init 12 = .ok (.aload_n 0, 1) := by decide +kernel
theorem dX5_init_13 : decode cX5_init 13 = .ok (.iconst (-1), 1) := by decide +kernel
theorem dX5_init_14 : decode cX5_init 14 = .ok (.putfield 15, 3) := by decide +kernel
theorem dX5_init_17 : decode cX5_init 17 = .ok (.aload_n 0, 1) := by decide +kernel
theorem dX5_init_18 : decode cX5_init 18 = .ok (.iconst 0, 1) := by decide +kernel
theorem dX5_init_19 : decode cX5_init 19 = .ok (.putfield 19, 3) := by decide +kernel
theorem dX5_init_22 : decode cX5_init 22 = .ok (.return_, 1) := by decide +kernel
theorem dX5_isLost_0 : decode cX5_isLost 0 = .ok (.aload_n 0, 1) := by decide +kernel
theorem dX5_isLost_1 : decode cX5_isLost 1 = .ok (.getfield 15, 3) := by decide +kernel
theorem dX5_isLost_4 : decode cX5_isLost 4 = .ok (.iconst (-1), 1) := by decide +kernel
theorem dX5_isLost_5 : decode cX5_isLost 5 = .ok (.if_icmp .ne 7, 3) := by decide +kernel
theorem dX5_isLost_8 : decode cX5_isLost 8 = .ok (.iconst 1, 1) := by decide +kernel
theorem dX5_isLost_9 : decode cX5_isLost 9 = .ok (.goto 4, 3) := by decide +kernel
theorem dX5_isLost_12 : decode cX5_isLost 12 = .ok (.iconst 0, 1) := by decide +kernel
theorem dX5_isLost_13 : decode cX5_isLost 13 = .ok (.ireturn, 1) := by decide +kernel
theorem dX5_isOfForm_0 : decode cX5_isOfForm 0 = .ok (.aload_n 0, 1) := by decide +kernel
theorem dX5_isOfForm_1 : decode cX5_isOfForm 1 = .ok (.getfield 15, 3) := by decide +kernel
theorem dX5_isOfForm_4 : decode cX5_isOfForm 4 = .ok (.iload_n 1, 1) := by decide +kernel
theorem dX5_isOfForm_5 : decode cX5_isOfForm 5 = .ok (.if_icmp .ne 7, 3) := by decide +kernel
theorem dX5_isOfForm_8 : decode cX5_isOfForm 8 = .ok (.iconst 1, 1) := by decide +kernel
theorem dX5_isOfForm_9 : decode cX5_isOfForm 9 = .ok (.goto 4, 3) := by decide +kernel
theorem dX5_isOfForm_12 : decode cX5_isOfForm 12 = .ok (.iconst 0, 1) := by decide +kernel
theorem dX5_isOfForm_13 : decode cX5_isOfForm 13 = .ok (.ireturn, 1) := by decide +kernel
theorem dX5_formNumber_0 : decode cX5_formNumber 0 = .ok (.aload_n 0, 1) := by decide +kernel
theorem dX5_formNumber_1 : decode cX5_formNumber 1 = .ok (.getfield 15, 3) := by decide +kernel
theorem dX5_formNumber_4 : decode cX5_formNumber 4 = .ok (.ireturn, 1) := by decide +kernel
theorem dX5_size_0 : decode cX5_size 0 = .ok (.aload_n 0, 1) := by decide +kernel
theorem dX5_size_1 : decode cX5_size 1 = .ok (.getfield 19, 3) := by decide +kernel
theorem dX5_size_4 : decode cX5_size 4 = .ok (.ireturn, 1) := by decide +kernel
theorem dX5_renew_0 : decode cX5_renew 0 = .ok (.aload_n 0, 1) := by decide +kernel
theorem dX5_renew_1 : decode cX5_renew 1 = .ok (.iload_n 1, 1) := by decide +kernel
theorem dX5_renew_2 : decode cX5_renew 2 = .ok (.putfield 15, 3) := by decide +kernel
theorem dX5_renew_5 : decode cX5_renew 5 = .ok (.aload_n 0, 1) := by decide +kernel
theorem dX5_renew_6 : decode cX5_renew 6 = .ok (.iconst 0, 1) := by decide +kernel
theorem dX5_renew_7 : decode cX5_renew 7 = .ok (.iload_n 2, 1) := by decide +kernel
theorem dX5_renew_8 : decode cX5_renew 8 = .ok (.bipush 60, 2) := by decide +kernel
theorem dX5_renew_10 : decode cX5_renew 10 = .ok (.invokestatic 22, 3) := by decide +kernel
theorem dX5_renew_13 : decode cX5_renew 13 = .ok (.invokestatic 28, 3) := by decide +kernel
theorem dX5_renew_16 : decode cX5_renew 16 = .ok (.putfield 19, 3) := by decide +kernel
theorem dX5_renew_19 : decode cX5_renew 19 = .ok (.iconst 0, 1) := by decide +kernel
theorem dX5_renew_20 : decode cX5_renew 20 = .ok (.istore_n 3, 1) := by decide +kernel
theorem dX5_renew_21 : decode cX5_renew 21 = .ok (.iload_n 3, 1) := by decide +kernel
theorem dX5_renew_22 : decode cX5_renew 22 = .ok (.bipush 60, 2) := by decide +kernel
theorem dX5_renew_24 : decode cX5_renew 24 = .ok (.if_icmp .ge 16, 3) := by decide +kernel
theorem dX5_renew_27 : decode cX5_renew 27 = .ok (.aload_n 0, 1) := by decide +kernel
theorem dX5_renew_28 : decode cX5_renew 28 = .ok (.getfield 9, 3) := by decide +kernel
theorem dX5_renew_31 : decode cX5_renew 31 = .ok (.iload_n 3, 1) := by decide +kernel
theorem dX5_renew_32 : decode cX5_renew 32 = .ok (.iconst 0, 1) := by decide +kernel
theorem dX5_renew_33 : decode cX5_renew 33 = .ok (.iastore, 1) := by decide +kernel
theorem dX5_renew_34 : decode cX5_renew 34 = .ok (.iinc 3 1, 3) := by decide +kernel
theorem dX5_renew_37 : decode cX5_renew 37 = .ok (.goto (-16), 3) := by decide +kernel
theorem dX5_renew_40 : decode cX5_renew 40 = .ok (.return_, 1) := by decide +kernel
theorem dX5_drop_0 : decode cX5_drop 0 = .ok (.aload_n 0, 1) := by decide +kernel
theorem dX5_drop_1 : decode cX5_drop 1 = .ok (.iconst (-1), 1) := by decide +kernel
theorem dX5_drop_2 : decode cX5_drop 2 = .ok (.putfield 15, 3) := by decide +kernel
theorem dX5_drop_5 : decode cX5_drop 5 = .ok (.aload_n 0, 1) := by decide +kernel
theorem dX5_drop_6 : decode cX5_drop 6 = .ok (.iconst 0, 1) := by decide +kernel
theorem dX5_drop_7 : decode cX5_drop 7 = .ok (.putfield 19, 3) := by decide +kernel
theorem dX5_drop_10 : decode cX5_drop 10 = .ok (.return_, 1) := by decide +kernel
theorem dX5_hasItems_0 : decode cX5_hasItems 0 = .ok (.iload_n 1, 1) := by decide +kernel
theorem dX5_hasItems_1 : decode cX5_hasItems 1 = .ok (.ifCond .lt 21, 3) := by decide +kernel
theorem dX5_hasItems_4 : decode cX5_hasItems 4 = .ok (.iload_n 2, 1) := by decide +kernel
theorem dX5_hasItems_5 : decode cX5_hasItems 5 = .ok (.ifCond .lt 17, 3) := by decide +kernel
theorem dX5_hasItems_8 : decode cX5_hasItems 8 = .ok (.iload_n 1, 1) := by decide +kernel
theorem dX5_hasItems_9 : decode cX5_hasItems 9 = .ok (.aload_n 0, 1) := by decide +kernel
theorem dX5_hasItems_10 : decode cX5_hasItems 10 = .ok (.getfield 19, 3) := by decide +kernel
theorem dX5_hasItems_13 : decode cX5_hasItems 13 = .ok (.iload_n 2, 1) := by decide +kernel
theorem dX5_hasItems_14 : decode cX5_hasItems 14 = .ok (.isub, 1) := by decide +kernel
theorem dX5_hasItems_15 : decode cX5_hasItems 15 = .ok (.if_icmp .gt 7, 3) := by decide +kernel
theorem dX5_hasItems_18 : decode cX5_hasItems 18 = .ok (.iconst 1, 1) := by decide +kernel
theorem dX5_hasItems_19 : decode cX5_hasItems 19 = .ok (.goto 4, 3) := by decide +kernel
theorem dX5_hasItems_22 : decode cX5_hasItems 22 = .ok (.iconst 0, 1) := by decide +kernel
theorem dX5_hasItems_23 : decode cX5_hasItems 23 = .ok (.ireturn, 1) := by decide +kernel
theorem dX5_itemAt_0 : decode cX5_itemAt 0 = .ok (.iload_n 1, 1) := by decide +kernel
theorem dX5_itemAt_1 : decode cX5_itemAt 1 = .ok (.ifCond .lt 29, 3) := by decide +kernel
theorem dX5_itemAt_4 : decode cX5_itemAt 4 = .ok (.iload_n 1, 1) := by decide +kernel
theorem dX5_itemAt_5 : decode cX5_itemAt 5 = .ok (.aload_n 0, 1) := by decide +kernel
theorem dX5_itemAt_6 : decode cX5_itemAt 6 = .ok (.getfield 19, 3) := by decide +kernel
theorem dX5_itemAt_9 : decode cX5_itemAt 9 = .ok (.if_icmp .ge 21, 3) := by decide +kernel
theorem dX5_itemAt_12 : decode cX5_itemAt 12 = .ok (.iload_n 1, 1) := by decide +kernel
theorem dX5_itemAt_13 : decode cX5_itemAt 13 = .ok (.aload_n 0, 1) := by decide +kernel
theorem dX5_itemAt_14 : decode cX5_itemAt 14 = .ok (.getfield 9, 3) := by decide +kernel
theorem dX5_itemAt_17 : decode cX5_itemAt 17 = .ok (.arraylength, 1) := by decide +kernel
theorem dX5_itemAt_18 : decode cX5_itemAt 18 = .ok (.if_icmp .ge 12, 3) := by decide +kernel
theorem dX5_itemAt_21 : decode cX5_itemAt 21 = .ok (.aload_n 0, 1) := by decide +kernel
theorem dX5_itemAt_22 : decode cX5_itemAt 22 = .ok (.getfield 9, 3) := by decide +kernel
theorem dX5_itemAt_25 : decode cX5_itemAt 25 = .ok (.iload_n 1, 1) := by decide +kernel
theorem dX5_itemAt_26 : decode cX5_itemAt 26 = .ok (.iaload, 1) := by decide +kernel
theorem dX5_itemAt_27 : decode cX5_itemAt 27 = .ok (.goto 4, 3) := by decide +kernel
theorem dX5_itemAt_30 : decode cX5_itemAt 30 = .ok (.iconst 0, 1) := by decide +kernel
theorem dX5_itemAt_31 : decode cX5_itemAt 31 = .ok (.ireturn, 1) := by decide +kernel
theorem dX5_put_0 : decode cX5_put 0 = .ok (.iload_n 1, 1) := by decide +kernel
theorem dX5_put_1 : decode cX5_put 1 = .ok (.ifCond .lt 31, 3) := by decide +kernel
theorem dX5_put_4 : decode cX5_put 4 = .ok (.iload_n 1, 1) := by decide +kernel
theorem dX5_put_5 : decode cX5_put 5 = .ok (.aload_n 0, 1) := by decide +kernel
theorem dX5_put_6 : decode cX5_put 6 = .ok (.getfield 19, 3) := by decide +kernel
theorem dX5_put_9 : decode cX5_put 9 = .ok (.if_icmp .ge 23, 3) := by decide +kernel
theorem dX5_put_12 : decode cX5_put 12 = .ok (.iload_n 1, 1) := by decide +kernel
theorem dX5_put_13 : decode cX5_put 13 = .ok (.aload_n 0, 1) := by decide +kernel
theorem dX5_put_14 : decode cX5_put 14 = .ok (.getfield 9, 3) := by decide +kernel
theorem dX5_put_17 : decode cX5_put 17 = .ok (.arraylength, 1) := by decide +kernel
theorem dX5_put_18 : decode cX5_put 18 = .ok (.if_icmp .ge 14, 3) := by decide +kernel
theorem dX5_put_21 : decode cX5_put 21 = .ok (.aload_n 0, 1) := by decide +kernel
theorem dX5_put_22 : decode cX5_put 22 = .ok (.getfield 9, 3) := by decide +kernel
theorem dX5_put_25 : decode cX5_put 25 = .ok (.iload_n 1, 1) := by decide +kernel
theorem dX5_put_26 : decode cX5_put 26 = .ok (.aload_n 0, 1) := by decide +kernel
theorem dX5_put_27 : decode cX5_put 27 = .ok (.iload_n 2, 1) := by decide +kernel
theorem dX5_put_28 : decode cX5_put 28 = .ok (.invokevirtual 31, 3) := by decide +kernel
theorem dX5_put_31 : decode cX5_put 31 = .ok (.iastore, 1) := by decide +kernel
theorem dX5_put_32 : decode cX5_put 32 = .ok (.return_, 1) := by decide +kernel
theorem dX5_cut_0 : decode cX5_cut 0 = .ok (.aload_n 0, 1) := by decide +kernel
theorem dX5_cut_1 : decode cX5_cut 1 = .ok (.getfield 15, 3) := by decide +kernel
theorem dX5_cut_4 : decode cX5_cut 4 = .ok (.ifCond .ne 6, 3) := by decide +kernel
theorem dX5_cut_7 : decode cX5_cut 7 = .ok (.iload_n 1, 1) := by decide +kernel
theorem dX5_cut_8 : decode cX5_cut 8 = .ok (.i2b, 1) := by decide +kernel
theorem dX5_cut_9 : decode cX5_cut 9 = .ok (.ireturn, 1) := by decide +kernel
theorem dX5_cut_10 : decode cX5_cut 10 = .ok (.aload_n 0, 1) := by decide +kernel
theorem dX5_cut_11 : decode cX5_cut 11 = .ok (.getfield 15, 3) := by decide +kernel
theorem dX5_cut_14 : decode cX5_cut 14 = .ok (.iconst 1, 1) := by decide +kernel
theorem dX5_cut_15 : decode cX5_cut 15 = .ok (.if_icmp .ne 8, 3) := by decide +kernel
theorem dX5_cut_18 : decode cX5_cut 18 = .ok (.iload_n 1, 1) := by decide +kernel
theorem dX5_cut_19 : decode cX5_cut 19 = .ok (.i2s, 1) := by decide +kernel
theorem dX5_cut_20 : decode cX5_cut 20 = .ok (.goto 4, 3) := by decide +kernel
theorem dX5_cut_23 : decode cX5_cut 23 = .ok (.iload_n 1, 1) := by decide +kernel
theorem dX5_cut_24 : decode cX5_cut 24 = .ok (.ireturn, 1) := by decide +kernel
theorem dX5_takeOver_0 : decode cX5_takeOver 0 = .ok (.aload_n 1, 1) := by decide +kernel
theorem dX5_takeOver_1 : decode cX5_takeOver 1 = .ok (.iload_n 2, 1) := by decide +kernel
theorem dX5_takeOver_2 : decode cX5_takeOver 2 = .ok (.iload 4, 2) := by decide +kernel
theorem dX5_takeOver_4 : decode cX5_takeOver 4 = .ok (.invokevirtual 35, 3) := by decide +kernel
theorem dX5_takeOver_7 : decode cX5_takeOver 7 = .ok (.ifCond .eq 28, 3) := by decide +kernel
theorem dX5_takeOver_10 : decode cX5_takeOver 10 = .ok (.aload_n 0, 1) := by decide +kernel
theorem dX5_takeOver_11 : decode cX5_takeOver 11 = .ok (.iload_n 3, 1) := by decide +kernel
theorem dX5_takeOver_12 : decode cX5_takeOver 12 = .ok (.iload 4, 2) := by decide +kernel
theorem dX5_takeOver_14 : decode cX5_takeOver 14 = .ok (.invokevirtual 35, 3) := by decide +kernel
theorem dX5_takeOver_17 : decode cX5_takeOver 17 = .ok (.ifCond .eq 18, 3) := by decide +kernel
theorem dX5_takeOver_20 : decode cX5_takeOver 20 = .ok (.aload_n 1, 1) := by decide +kernel
theorem dX5_takeOver_21 : decode cX5_takeOver 21 = .ok (.getfield 9, 3) := by decide +kernel
theorem dX5_takeOver_24 : decode cX5_takeOver 24 = .ok (.iload_n 2, 1) := by decide +kernel
theorem dX5_takeOver_25 : decode cX5_takeOver 25 = .ok (.aload_n 0, 1) := by decide +kernel
theorem dX5_takeOver_26 : decode cX5_takeOver 26 = .ok (.getfield 9, 3) := by decide +kernel
theorem dX5_takeOver_29 : decode cX5_takeOver 29 = .ok (.iload_n 3, 1) := by decide +kernel
theorem dX5_takeOver_30 : decode cX5_takeOver 30 = .ok (.iload 4, 2) := by decide +kernel
theorem dX5_takeOver_32 : decode cX5_takeOver 32 = .ok (.invokestatic 39, 3) := by decide +kernel
theorem dX5_takeOver_35 : decode cX5_takeOver 35 = .ok (.return_, 1) := by decide +kernel
theorem dX6_init_0 : decode cX6_init 0 = .ok (.aload_n 0, 1) := by decide +kernel
theorem dX6_init_1 : decode cX6_init 1 = .ok (.invokespecial 3, 3) := by decide +kernel
theorem dX6_init_4 : decode cX6_init 4 = .ok (.aload_n 0, 1) := by decide +kernel
theorem dX6_init_5 : decode cX6_init 5 = .ok (.bipush 16, 2) := by decide +kernel
theorem dX6_init_7 : decode cX6_init 7 = .ok (.newarray .int, 2) := by decide +kernel
theorem dX6_init_9 : decode cX6_init 9 = .ok (.putfield 9, 3) := by decide +kernel
theorem dX6_init_12 : decode cX6_init 12 = .ok (.aload_n 0, 1) := by decide +kernel
theorem dX6_init_13 : decode cX6_init 13 = .ok (.bipush 16, 2) := by decide +kernel
theorem dX6_init_15 : decode cX6_init 15 = .ok (.newarray .boolean, 2) := by decide +kernel
theorem dX6_init_17 : decode cX6_init 17 = .ok (.putfield 15, 3) := by decide +kernel
theorem dX6_init_20 : decode cX6_init 20 = .ok (.aload_n 0, 1) := by decide +kernel
theorem dX6_init_21 : decode cX6_init 21 = .ok (.iconst 0, 1) := by decide +kernel
theorem dX6_init_22 : decode cX6_init 22 = .ok (.putfield 19, 3) := by decide +kernel
theorem dX6_init_25 : decode cX6_init 25 = .ok (.aload_n 0, 1) := by decide +kernel
theorem dX6_init_26 : decode cX6_init 26 = .ok (.iconst 0, 1) := by decide +kernel
theorem dX6_init_27 : decode cX6_init 27 = .ok (.putfield 23, 3) := by decide +kernel
theorem dX6_init_30 : decode cX6_init 30 = .ok (.aload_n 0, 1) := by decide +kernel
theorem dX6_init_31 : decode cX6_init 31 = .ok (.iconst (-1), 1) := by decide +kernel
theorem dX6_init_32 : decode cX6_init 32 = .ok (.putfield 26, 3) := by decide +kernel
theorem dX6_init_35 : decode cX6_init 35 = .ok (.return_, 1) := by decide +kernel
theorem dX6_load_0 : decode cX6_load 0 = .ok (.aload_n 0, 1) := by decide +kernel
theorem dX6_load_1 : decode cX6_load 1 = .ok (.iconst 0, 1) := by decide +kernel
theorem dX6_load_2 : decode cX6_load 2 = .ok (.putfield 19, 3) := by decide +kernel
theorem dX6_load_5 : decode cX6_load 5 = .ok (.aload_n 0, 1) := by decide +kernel
theorem dX6_load_6 : decode cX6_load 6 = .ok (.iconst 0, 1) := by decide +kernel
theorem dX6_load_7 : decode cX6_load 7 = .ok (.putfield 23, 3) := by decide +kernel
theorem dX6_load_10 : decode cX6_load 10 = .ok (.aload_n 0, 1) := by decide +kernel
theorem dX6_load_11 : decode cX6_load 11 = .ok (.iconst (-1), 1) := by decide +kernel
theorem dX6_load_12 : decode cX6_load 12 = .ok (.putfield 26, 3) := by decide +kernel
theorem dX6_load_15 : decode cX6_load 15 = .ok (.iconst 0, 1) := by decide +kernel
theorem dX6_load_16 : decode cX6_load 16 = .ok (.istore_n 2, 1) := by decide +kernel
theorem dX6_load_17 : decode cX6_load 17 = .ok (.iload_n 2, 1) := by decide +kernel
theorem dX6_load_18 : decode cX6_load 18 = .ok (.aload_n 1, 1) := by decide +kernel
theorem dX6_load_19 : decode cX6_load 19 = .ok (.invokevirtual 29, 3) := by decide +kernel
theorem dX6_load_22 : decode cX6_load 22 = .ok (.if_icmp .ge 34, 3) := by decide +kernel
theorem dX6_load_25 : decode cX6_load 25 = .ok (.aload_n 0, 1) := by decide +kernel
theorem dX6_load_26 : decode cX6_load 26 = .ok (.getfield 26, 3) := by decide +kernel
theorem dX6_load_29 : decode cX6_load 29 = .ok (.iconst (-1), 1) := by decide +kernel
theorem dX6_load_30 : decode cX6_load 30 = .ok (.if_icmp .ne 26, 3) := by decide +kernel
theorem dX6_load_33 : decode cX6_load 33 = .ok (.aload_n 0, 1) := by decide +kernel
theorem dX6_load_34 : decode cX6_load 34 = .ok (.aload_n 1, 1) := by decide +kernel
theorem dX6_load_35 : decode cX6_load 35 = .ok (.iload_n 2, 1) := by decide +kernel
theorem dX6_load_36 : decode cX6_load 36 = .ok (.invokevirtual 34, 3) := by decide +kernel
theorem dX6_load_39 : decode cX6_load 39 = .ok (.invokevirtual 38, 3) := by decide +kernel
theorem dX6_load_42 : decode cX6_load 42 = .ok (.ifCond .ne 8, 3) := by decide +kernel
theorem dX6_load_45 : decode cX6_load 45 = .ok (.aload_n 0, 1) := by decide +kernel
theorem dX6_load_46 : decode cX6_load 46 = .ok (.iload_n 2, 1) := by decide +kernel
theorem dX6_load_47 : decode cX6_load 47 = .ok (.putfield 26, 3) := by decide +kernel
theorem dX6_load_50 : decode cX6_load 50 = .ok (.iinc 2 1, 3) := by decide +kernel
theorem dX6_load_53 : decode cX6_load 53 = .ok (.goto (-36), 3) := by decide +kernel
theorem dX6_load_56 : decode cX6_load 56 = .ok (.aload_n 0, 1) := by decide +kernel
theorem dX6_load_57 : decode cX6_load 57 = .ok (.getfield 26, 3) := by decide +kernel
theorem dX6_load_60 : decode cX6_load 60 = .ok (.iconst (-1), 1) := by decide +kernel
theorem dX6_load_61 : decode cX6_load 61 = .ok (.if_icmp .eq 13, 3) := by decide +kernel
theorem dX6_load_64 : decode cX6_load 64 = .ok (.aload_n 0, 1) := by decide +kernel
theorem dX6_load_65 : decode cX6_load 65 = .ok (.iconst 0, 1) := by decide +kernel
theorem dX6_load_66 : decode cX6_load 66 = .ok (.putfield 19, 3) := by decide +kernel
theorem dX6_load_69 : decode cX6_load 69 = .ok (.aload_n 0, 1) := by decide +kernel
theorem dX6_load_70 : decode cX6_load 70 = .ok (.iconst 0, 1) := by decide +kernel
theorem dX6_load_71 : decode cX6_load 71 = .ok (.putfield 23, 3) := by decide +kernel
theorem dX6_load_74 : decode cX6_load 74 = .ok (.return_, 1) := by decide +kernel
theorem dX6_takes_0 : decode cX6_takes 0 = .ok (.iload_n 1, 1) := by decide +kernel
theorem dX6_takes_1 : decode cX6_takes 1 = .ok (.bipush 98, 2) := by decide +kernel
theorem dX6_takes_3 : decode cX6_takes 3 = .ok (.if_icmp .ne 8, 3) := by decide +kernel
theorem dX6_takes_6 : decode cX6_takes 6 = .ok (.aload_n 0, 1) := by decide +kernel
theorem dX6_takes_7 : decode cX6_takes 7 = .ok (.invokevirtual 42, 3) := by decide +kernel
theorem dX6_takes_10 : decode cX6_takes 10 = .ok (.ireturn, 1) := by decide +kernel
theorem dX6_takes_11 : decode cX6_takes 11 = .ok (.iload_n 1, 1) := by decide +kernel
theorem dX6_takes_12 : decode cX6_takes 12 = .ok (.bipush 48, 2) := by decide +kernel
theorem dX6_takes_14 : decode cX6_takes 14 = .ok (.if_icmp .lt 25, 3) := by decide +kernel
theorem dX6_takes_17 : decode cX6_takes 17 = .ok (.iload_n 1, 1) := by decide +kernel
theorem dX6_takes_18 : decode cX6_takes 18 = .ok (.bipush 57, 2) := by decide +kernel
theorem dX6_takes_20 : decode cX6_takes 20 = .ok (.if_icmp .gt 19, 3) := by decide +kernel
theorem dX6_takes_23 : decode cX6_takes 23 = .ok (.aload_n 0, 1) := by decide +kernel
theorem dX6_takes_24 : decode cX6_takes 24 = .ok (.getfield 19, 3) := by decide +kernel
theorem dX6_takes_27 : decode cX6_takes 27 = .ok (.ifCond .lt 12, 3) := by decide +kernel
theorem dX6_takes_30 : decode cX6_takes 30 = .ok (.aload_n 0, 1) := by decide +kernel
theorem dX6_takes_31 : decode cX6_takes 31 = .ok (.getfield 19, 3) := by decide +kernel
theorem dX6_takes_34 : decode cX6_takes 34 = .ok (.bipush 16, 2) := by decide +kernel
theorem dX6_takes_36 : decode cX6_takes 36 = .ok (.if_icmp .lt 5, 3) := by decide +kernel
theorem dX6_takes_39 : decode cX6_takes 39 = .ok (.iconst 0, 1) := by decide +kernel
theorem dX6_takes_40 : decode cX6_takes 40 = .ok (.ireturn, 1) := by decide +kernel
theorem dX6_takes_41 : decode cX6_takes 41 = .ok (.aload_n 0, 1) := by decide +kernel
theorem dX6_takes_42 : decode cX6_takes 42 = .ok (.getfield 9, 3) := by decide +kernel
theorem dX6_takes_45 : decode cX6_takes 45 = .ok (.aload_n 0, 1) := by decide +kernel
theorem dX6_takes_46 : decode cX6_takes 46 = .ok (.getfield 19, 3) := by decide +kernel
theorem dX6_takes_49 : decode cX6_takes 49 = .ok (.iload_n 1, 1) := by decide +kernel
theorem dX6_takes_50 : decode cX6_takes 50 = .ok (.bipush 48, 2) := by decide +kernel
theorem dX6_takes_52 : decode cX6_takes 52 = .ok (.isub, 1) := by decide +kernel
theorem dX6_takes_53 : decode cX6_takes 53 = .ok (.iastore, 1) := by decide +kernel
theorem dX6_takes_54 : decode cX6_takes 54 = .ok (.aload_n 0, 1) := by decide +kernel
theorem dX6_takes_55 : decode cX6_takes 55 = .ok (.getfield 15, 3) := by decide +kernel
theorem dX6_takes_58 : decode cX6_takes 58 = .ok (.aload_n 0, 1) := by decide +kernel
theorem dX6_takes_59 : decode cX6_takes 59 = .ok (.getfield 19, 3) := by decide +kernel
theorem dX6_takes_62 : decode cX6_takes 62 = .ok (.iconst 0, 1) := by decide +kernel
theorem dX6_takes_63 : decode cX6_takes 63 = .ok (.bastore, 1) := by decide +kernel
theorem dX6_takes_64 : decode cX6_takes 64 = .ok (.aload_n 0, 1) := by decide +kernel
theorem dX6_takes_65 : decode cX6_takes 65 = .ok (.dup, 1) := by decide +kernel
theorem dX6_takes_66 : decode cX6_takes 66 = .ok (.getfield 19, 3) := by decide +kernel
theorem dX6_takes_69 : decode cX6_takes 69 = .ok (.iconst 1, 1) := by decide +kernel
theorem dX6_takes_70 : decode cX6_takes 70 = .ok (.iadd, 1) := by decide +kernel
theorem dX6_takes_71 : decode cX6_takes 71 = .ok (.putfield 19, 3) := by decide +kernel
theorem dX6_takes_74 : decode cX6_takes 74 = .ok (.iconst 1, 1) := by decide +kernel
theorem dX6_takes_75 : decode cX6_takes 75 = .ok (.ireturn, 1) := by decide +kernel
theorem dX6_bendsLast_0 : decode cX6_bendsLast 0 = .ok (.aload_n 0, 1) := by decide +kernel
theorem dX6_bendsLast_1 : decode cX6_bendsLast 1 = .ok (.getfield 19, 3) := by decide +kernel
theorem dX6_bendsLast_4 : decode cX6_bendsLast 4 = .ok (.iconst 1, 1) := by decide +kernel
theorem dX6_bendsLast_5 : decode cX6_bendsLast 5 = .ok (.isub, 1) := by decide +kernel
theorem dX6_bendsLast_6 : decode cX6_bendsLast 6 = .ok (.istore_n 1, 1) := by decide +kernel
theorem dX6_bendsLast_7 : decode cX6_bendsLast 7 = .ok (.iload_n 1, 1) := by decide +kernel
theorem dX6_bendsLast_8 : decode cX6_bendsLast 8 = .ok (.ifCond .lt 18, 3) := by decide +kernel
theorem dX6_bendsLast_11 : decode cX6_bendsLast 11 = .ok (.iload_n 1, 1) := by decide +kernel
theorem dX6_bendsLast_12 : decode cX6_bendsLast 12 = .ok (.bipush 16, 2) := by decide +kernel
theorem dX6_bendsLast_14 : decode cX6_bendsLast 14 = .ok (.if_icmp .ge 12, 3) := by decide +kernel
theorem dX6_bendsLast_17 : decode cX6_bendsLast 17 = .ok (.aload_n 0, 1) := by decide +kernel
theorem dX6_bendsLast_18 : decode cX6_bendsLast 18 = .ok (.getfield 15, 3) := by decide +kernel
theorem dX6_bendsLast_21 : decode cX6_bendsLast 21 = .ok (.iload_n 1, 1) := by decide +kernel
theorem dX6_bendsLast_22 : decode cX6_bendsLast 22 = .ok (.baload, 1) := by decide +kernel
theorem dX6_bendsLast_23 : decode cX6_bendsLast 23 = .ok (.ifCond .eq 5, 3) := by decide +kernel
theorem dX6_bendsLast_26 : decode cX6_bendsLast 26 = .ok (.iconst 0, 1) := by decide +kernel
theorem dX6_bendsLast_27 : decode cX6_bendsLast 27 = .ok (.ireturn, 1) := by decide +kernel
theorem dX6_bendsLast_28 : decode cX6_bendsLast 28 = .ok (.aload_n 0, 1) := by decide +kernel
theorem dX6_bendsLast_29 : decode cX6_bendsLast 29 = .ok (.getfield 15, 3) := by decide +kernel
theorem dX6_bendsLast_32 : decode cX6_bendsLast 32 = .ok (.iload_n 1, 1) := by decide +kernel
theorem dX6_bendsLast_33 : decode cX6_bendsLast 33 = .ok (.iconst 1, 1) := by decide +kernel
theorem dX6_bendsLast_34 : decode cX6_bendsLast 34 = .ok (.bastore, 1) := by decide +kernel
theorem dX6_bendsLast_35 : decode cX6_bendsLast 35 = .ok (.aload_n 0, 1) := by decide +kernel
theorem dX6_bendsLast_36 : decode cX6_bendsLast 36 = .ok (.dup, 1) := by decide +kernel
theorem dX6_bendsLast_37 : decode cX6_bendsLast 37 = .ok (.getfield 23, 3) := by decide +kernel
theorem dX6_bendsLast_40 : decode cX6_bendsLast 40 = .ok (.iconst 1, 1) := by decide +kernel
theorem dX6_bendsLast_41 : decode cX6_bendsLast 41 = .ok (.iadd, 1) := by decide +kernel
theorem dX6_bendsLast_42 : decode cX6_bendsLast 42 = .ok (.putfield 23, 3) := by decide +kernel
theorem dX6_bendsLast_45 : decode cX6_bendsLast 45 = .ok (.iconst 1, 1) := by decide +kernel
theorem dX6_bendsLast_46 : decode cX6_bendsLast 46 = .ok (.ireturn, 1) := by decide +kernel
theorem dX6_firstFault_0 : decode cX6_firstFault 0 = .ok (.aload_n 0, 1) := by decide +kernel
theorem dX6_firstFault_1 : decode cX6_firstFault 1 = .ok (.getfield 26, 3) := by decide +kernel
theorem dX6_firstFault_4 : decode cX6_firstFault 4 = .ok (.ireturn, 1) := by decide +kernel
theorem dX6_size_0 : decode cX6_size 0 = .ok (.aload_n 0, 1) := by decide +kernel
theorem dX6_size_1 : decode cX6_size 1 = .ok (.getfield 19, 3) := by decide +kernel
theorem dX6_size_4 : decode cX6_size 4 = .ok (.ireturn, 1) := by decide +kernel
theorem dX6_bends_0 : decode cX6_bends 0 = .ok (.aload_n 0, 1) := by decide +kernel
theorem dX6_bends_1 : decode cX6_bends 1 = .ok (.getfield 23, 3) := by decide +kernel
theorem dX6_bends_4 : decode cX6_bends 4 = .ok (.ireturn, 1) := by decide +kernel
theorem dX6_steepAt_0 : decode cX6_steepAt 0 = .ok (.iload_n 1, 1) := by decide +kernel
theorem dX6_steepAt_1 : decode cX6_steepAt 1 = .ok (.aload_n 0, 1) := by decide +kernel
theorem dX6_steepAt_2 : decode cX6_steepAt 2 = .ok (.getfield 19, 3) := by decide +kernel
theorem dX6_steepAt_5 : decode cX6_steepAt 5 = .ok (.iconst 1, 1) := by decide +kernel
theorem dX6_steepAt_6 : decode cX6_steepAt 6 = .ok (.isub, 1) := by decide +kernel
theorem dX6_steepAt_7 : decode cX6_steepAt 7 = .ok (.invokestatic 46, 3) := by decide +kernel
theorem dX6_steepAt_10 : decode cX6_steepAt 10 = .ok (.istore_n 2, 1) := by decide +kernel
theorem dX6_steepAt_11 : decode cX6_steepAt 11 = .ok (.iload_n 2, 1) := by decide +kernel
theorem dX6_steepAt_12 : decode cX6_steepAt 12 = .ok (.ifCond .lt 21, 3) := by decide +kernel
theorem dX6_steepAt_15 : decode cX6_steepAt 15 = .ok (.iload_n 2, 1) := by decide +kernel
theorem dX6_steepAt_16 : decode cX6_steepAt 16 = .ok (.aload_n 0, 1) := by decide +kernel
theorem dX6_steepAt_17 : decode cX6_steepAt 17 = .ok (.getfield 9, 3) := by decide +kernel
theorem dX6_steepAt_20 : decode cX6_steepAt 20 = .ok (.arraylength, 1) := by decide +kernel
theorem dX6_steepAt_21 : decode cX6_steepAt 21 = .ok (.if_icmp .ge 12, 3) := by decide +kernel
theorem dX6_steepAt_24 : decode cX6_steepAt 24 = .ok (.aload_n 0, 1) := by decide +kernel
theorem dX6_steepAt_25 : decode cX6_steepAt 25 = .ok (.getfield 9, 3) := by decide +kernel
theorem dX6_steepAt_28 : decode cX6_steepAt 28 = .ok (.iload_n 2, 1) := by decide +kernel
theorem dX6_steepAt_29 : decode cX6_steepAt 29 = .ok (.iaload, 1) := by decide +kernel
theorem dX6_steepAt_30 : decode cX6_steepAt 30 = .ok (.goto 4, 3) := by decide +kernel
theorem dX6_steepAt_33 : decode cX6_steepAt 33 = .ok (.iconst 0, 1) := by decide +kernel
theorem dX6_steepAt_34 : decode cX6_steepAt 34 = .ok (.ireturn, 1) := by decide +kernel
theorem dX6_bendsAt_0 : decode cX6_bendsAt 0 = .ok (.iload_n 1, 1) := by decide +kernel
theorem dX6_bendsAt_1 : decode cX6_bendsAt 1 = .ok (.ifCond .lt 33, 3) := by decide +kernel
theorem dX6_bendsAt_4 : decode cX6_bendsAt 4 = .ok (.iload_n 1, 1) := by decide +kernel
theorem dX6_bendsAt_5 : decode cX6_bendsAt 5 = .ok (.aload_n 0, 1) := by decide +kernel
theorem dX6_bendsAt_6 : decode cX6_bendsAt 6 = .ok (.getfield 19, 3) := by decide +kernel
theorem dX6_bendsAt_9 : decode cX6_bendsAt 9 = .ok (.if_icmp .ge 25, 3) := by decide +kernel
theorem dX6_bendsAt_12 : decode cX6_bendsAt 12 = .ok (.iload_n 1, 1) := by decide +kernel
theorem dX6_bendsAt_13 : decode cX6_bendsAt 13 = .ok (.aload_n 0, 1) := by decide +kernel
theorem dX6_bendsAt_14 : decode cX6_bendsAt 14 = .ok (.getfield 15, 3) := by decide +kernel
theorem dX6_bendsAt_17 : decode cX6_bendsAt 17 = .ok (.arraylength, 1) := by decide +kernel
theorem dX6_bendsAt_18 : decode cX6_bendsAt 18 = .ok (.if_icmp .ge 16, 3) := by decide +kernel
theorem dX6_bendsAt_21 : decode cX6_bendsAt 21 = .ok (.aload_n 0, 1) := by decide +kernel
theorem dX6_bendsAt_22 : decode cX6_bendsAt 22 = .ok (.getfield 15, 3) := by decide +kernel
theorem dX6_bendsAt_25 : decode cX6_bendsAt 25 = .ok (.iload_n 1, 1) := by decide +kernel
theorem dX6_bendsAt_26 : decode cX6_bendsAt 26 = .ok (.baload, 1) := by decide +kernel
theorem dX6_bendsAt_27 : decode cX6_bendsAt 27 = .ok (.ifCond .eq 7, 3) := by decide +kernel
theorem dX6_bendsAt_30 : decode cX6_bendsAt 30 = .ok (.iconst 1, 1) := by decide +kernel
theorem dX6_bendsAt_31 : decode cX6_bendsAt 31 = .ok (.goto 4, 3) := by decide +kernel
theorem dX6_bendsAt_34 : decode cX6_bendsAt 34 = .ok (.iconst 0, 1) := by decide +kernel
theorem dX6_bendsAt_35 : decode cX6_bendsAt 35 = .ok (.ireturn, 1) := by decide +kernel
theorem dX7_init_0 : decode cX7_init 0 = .ok (.aload_n 0, 1) := by decide +kernel
theorem dX7_init_1 : decode cX7_init 1 = .ok (.invokespecial 3, 3) := by decide +kernel
theorem dX7_init_4 : decode cX7_init 4 = .ok (.aload_n 0, 1) := by decide +kernel
theorem dX7_init_5 : decode cX7_init 5 = .ok (.bipush 32, 2) := by decide +kernel
theorem dX7_init_7 : decode cX7_init 7 = .ok (.newarray .int, 2) := by decide +kernel
theorem dX7_init_9 : decode cX7_init 9 = .ok (.putfield 9, 3) := by decide +kernel
theorem dX7_init_12 : decode cX7_init 12 = .ok (.aload_n 0, 1) := by decide +kernel
theorem dX7_init_13 : decode cX7_init 13 = .ok (.iconst 0, 1) := by decide +kernel
theorem dX7_init_14 : decode cX7_init 14 = .ok (.putfield 15, 3) := by decide +kernel
theorem dX7_init_17 : decode cX7_init 17 = .ok (.aload_n 0, 1) := by decide +kernel
theorem dX7_init_18 : decode cX7_init 18 = .ok (.iload_n 1, 1) := by decide +kernel
theorem dX7_init_19 : decode cX7_init 19 = .ok (.putfield 19, 3) := by decide +kernel
theorem dX7_init_22 : decode cX7_init 22 = .ok (.return_, 1) := by decide +kernel
theorem dX7_size_0 : decode cX7_size 0 = .ok (.aload_n 0, 1) := by decide +kernel
theorem dX7_size_1 : decode cX7_size 1 = .ok (.getfield 15, 3) := by decide +kernel
theorem dX7_size_4 : decode cX7_size 4 = .ok (.ireturn, 1) := by decide +kernel
theorem dX7_isFull_0 : decode cX7_isFull 0 = .ok (.aload_n 0, 1) := by decide +kernel
theorem dX7_isFull_1 : decode cX7_isFull 1 = .ok (.getfield 15, 3) := by decide +kernel
theorem dX7_isFull_4 : decode cX7_isFull 4 = .ok (.aload_n 0, 1) := by decide +kernel
theorem dX7_isFull_5 : decode cX7_isFull 5 = .ok (.getfield 19, 3) := by decide +kernel
theorem dX7_isFull_8 : decode cX7_isFull 8 = .ok (.if_icmp .ge 15, 3) := by decide +kernel
theorem dX7_isFull_11 : decode cX7_isFull 11 = .ok (.aload_n 0, 1) := by decide +kernel
theorem dX7_isFull_12 : decode cX7_isFull 12 = .ok (.getfield 15, 3) := by decide +kernel
theorem dX7_isFull_15 : decode cX7_isFull 15 = .ok (.aload_n 0, 1) := by decide +kernel
theorem dX7_isFull_16 : decode cX7_isFull 16 = .ok (.getfield 9, 3) := by decide +kernel
theorem dX7_isFull_19 : decode cX7_isFull 19 = .ok (.arraylength, 1) := by decide +kernel
theorem dX7_isFull_20 : decode cX7_isFull 20 = .ok (.if_icmp .lt 7, 3) := by decide +kernel
theorem dX7_isFull_23 : decode cX7_isFull 23 = .ok (.iconst 1, 1) := by decide +kernel
theorem dX7_isFull_24 : decode cX7_isFull 24 = .ok (.goto 4, 3) := by decide +kernel
theorem dX7_isFull_27 : decode cX7_isFull 27 = .ok (.iconst 0, 1) := by decide +kernel
theorem dX7_isFull_28 : decode cX7_isFull 28 = .ok (.ireturn, 1) := by decide +kernel
theorem dX7_byteAt_0 : decode cX7_byteAt 0 = .ok (.iload_n 1, 1) := by decide +kernel
theorem dX7_byteAt_1 : decode cX7_byteAt 1 = .ok (.ifCond .lt 29, 3) := by decide +kernel
theorem dX7_byteAt_4 : decode cX7_byteAt 4 = .ok (.iload_n 1, 1) := by decide +kernel
theorem dX7_byteAt_5 : decode cX7_byteAt 5 = .ok (.aload_n 0, 1) := by decide +kernel
theorem dX7_byteAt_6 : decode cX7_byteAt 6 = .ok (.getfield 15, 3) := by decide +kernel
theorem dX7_byteAt_9 : decode cX7_byteAt 9 = .ok (.if_icmp .ge 21, 3) := by decide +kernel
theorem dX7_byteAt_12 : decode cX7_byteAt 12 = .ok (.iload_n 1, 1) := by decide +kernel
theorem dX7_byteAt_13 : decode cX7_byteAt 13 = .ok (.aload_n 0, 1) := by decide +kernel
theorem dX7_byteAt_14 : decode cX7_byteAt 14 = .ok (.getfield 9, 3) := by decide +kernel
theorem dX7_byteAt_17 : decode cX7_byteAt 17 = .ok (.arraylength, 1) := by decide +kernel
theorem dX7_byteAt_18 : decode cX7_byteAt 18 = .ok (.if_icmp .ge 12, 3) := by decide +kernel
theorem dX7_byteAt_21 : decode cX7_byteAt 21 = .ok (.aload_n 0, 1) := by decide +kernel
theorem dX7_byteAt_22 : decode cX7_byteAt 22 = .ok (.getfield 9, 3) := by decide +kernel
theorem dX7_byteAt_25 : decode cX7_byteAt 25 = .ok (.iload_n 1, 1) := by decide +kernel
theorem dX7_byteAt_26 : decode cX7_byteAt 26 = .ok (.iaload, 1) := by decide +kernel
theorem dX7_byteAt_27 : decode cX7_byteAt 27 = .ok (.goto 4, 3) := by decide +kernel
theorem dX7_byteAt_30 : decode cX7_byteAt 30 = .ok (.iconst 0, 1) := by decide +kernel
theorem dX7_byteAt_31 : decode cX7_byteAt 31 = .ok (.ireturn, 1) := by decide +kernel
theorem dX7_append_0 : decode cX7_append 0 = .ok (.aload_n 0, 1) := by decide +kernel
theorem dX7_append_1 : decode cX7_append 1 = .ok (.invokevirtual 22, 3) := by decide +kernel
theorem dX7_append_4 : decode cX7_append 4 = .ok (.ifCond .ne 30, 3) := by decide +kernel
theorem dX7_append_7 : decode cX7_append 7 = .ok (.aload_n 0, 1) := by decide +kernel
theorem dX7_append_8 : decode cX7_append 8 = .ok (.getfield 15, 3) := by decide +kernel
theorem dX7_append_11 : decode cX7_append 11 = .ok (.ifCond .lt 23, 3) := by decide +kernel
theorem dX7_append_14 : decode cX7_append 14 = .ok (.aload_n 0, 1) := by decide +kernel
theorem dX7_append_15 : decode cX7_append 15 = .ok (.getfield 9, 3) := by decide +kernel
theorem dX7_append_18 : decode cX7_append 18 = .ok (.aload_n 0, 1) := by decide +kernel
theorem dX7_append_19 : decode cX7_append 19 = .ok (.getfield 15, 3) := by decide +kernel
theorem dX7_append_22 : decode cX7_append 22 = .ok (.iload_n 1, 1) := by decide +kernel
theorem dX7_append_23 : decode cX7_append 23 = .ok (.iastore, 1) := by decide +kernel
theorem dX7_append_24 : decode cX7_append 24 = .ok (.aload_n 0, 1) := by decide +kernel
theorem dX7_append_25 : decode cX7_append 25 = .ok (.dup, 1) := by decide +kernel
theorem dX7_append_26 : decode cX7_append 26 = .ok (.getfield 15, 3) := by decide +kernel
theorem dX7_append_29 : decode cX7_append 29 = .ok (.iconst 1, 1) := by decide +kernel
theorem dX7_append_30 : decode cX7_append 30 = .ok (.iadd, 1) := by decide +kernel
theorem dX7_append_31 : decode cX7_append 31 = .ok (.putfield 15, 3) := by decide +kernel
theorem dX7_append_34 : decode cX7_append 34 = .ok (.return_, 1) := by decide +kernel
theorem dX7_shorten_0 : decode cX7_shorten 0 = .ok (.aload_n 0, 1) := by decide +kernel
theorem dX7_shorten_1 : decode cX7_shorten 1 = .ok (.iconst 0, 1) := by decide +kernel
theorem dX7_shorten_2 : decode cX7_shorten 2 = .ok (.aload_n 0, 1) := by decide +kernel
theorem dX7_shorten_3 : decode cX7_shorten 3 = .ok (.getfield 15, 3) := by decide +kernel
theorem dX7_shorten_6 : decode cX7_shorten 6 = .ok (.iload_n 1, 1) := by decide +kernel
theorem dX7_shorten_7 : decode cX7_shorten 7 = .ok (.isub, 1) := by decide +kernel
theorem dX7_shorten_8 : decode cX7_shorten 8 = .ok (.invokestatic 26, 3) := by decide +kernel
theorem dX7_shorten_11 : decode cX7_shorten 11 = .ok (.putfield 15, 3) := by decide +kernel
theorem dX7_shorten_14 : decode cX7_shorten 14 = .ok (.return_, 1) := by decide +kernel
end
section
theorem dX8_init_0 : decode cX8_init 0 = .ok (.aload_n 0, 1) := by decide +kernel
theorem dX8_init_1 : decode cX8_init 1 = .ok (.invokespecial 1, 3) := by decide +kernel
theorem dX8_init_4 : decode cX8_init 4 = .ok (.aload_n 0, 1) := by decide +kernel
theorem dX8_init_5 : decode cX8_init 5 = .ok (.new 7, 3) := by decide +kernel
theorem dX8_init_8 : decode cX8_init 8 = .ok (.dup, 1) := by decide +kernel
theorem dX8_init_9 : decode cX8_init 9 = .ok (.bipush 12, 2) := by decide +kernel
theorem dX8_init_11 : decode cX8_init 11 = .ok (.invokespecial 11, 3) := by decide +kernel
theorem dX8_init_14 : decode cX8_init 14 = .ok (.putfield 14, 3) := by decide +kernel
theorem dX8_init_17 : decode cX8_init 17 = .ok (.aload_n 0, 1) := by decide +kernel
theorem dX8_init_18 : decode cX8_init 18 = .ok (.new 7, 3) := by decide +kernel
theorem dX8_init_21 : decode cX8_init 21 = .ok (.dup, 1) := by decide +kernel
theorem dX8_init_22 : decode cX8_init 22 = .ok (.bipush 32, 2) := by decide +kernel
theorem dX8_init_24 : decode cX8_init 24 = .ok (.invokespecial 11, 3) := by decide +kernel
theorem dX8_init_27 : decode cX8_init 27 = .ok (.putfield 18, 3) := by decide +kernel
theorem dX8_init_30 : decode cX8_init 30 = .ok (.aload_n 0, 1) := by decide +kernel
theorem dX8_init_31 : decode cX8_init 31 = .ok (.new 21, 3) := by decide +kernel
theorem dX8_init_34 : decode cX8_init 34 = .ok (.dup, 1) := by decide +kernel
theorem dX8_init_35 : decode cX8_init 35 = .ok (.invokespecial 23, 3) := by decide +kernel
theorem dX8_init_38 : decode cX8_init 38 = .ok (.putfield 24, 3) := by decide +kernel
theorem dX8_init_41 : decode cX8_init 41 = .ok (.aload_n 0, 1) := by decide +kernel
theorem dX8_init_42 : decode cX8_init 42 = .ok (.new 28, 3) := by decide +kernel
theorem dX8_init_45 : decode cX8_init 45 = .ok (.dup, 1) := by decide +kernel
theorem dX8_init_46 : decode cX8_init 46 = .ok (.invokespecial 30, 3) := by decide +kernel
theorem dX8_init_49 : decode cX8_init 49 = .ok (.putfield 31, 3) := by decide +kernel
theorem dX8_init_52 : decode cX8_init 52 = .ok (.aload_n 0, 1) := by decide +kernel
theorem dX8_init_53 : decode cX8_init 53 = .ok (.new 35, 3) := by decide +kernel
theorem dX8_init_56 : decode cX8_init 56 = .ok (.dup, 1) := by decide +kernel
theorem dX8_init_57 : decode cX8_init 57 = .ok (.getstatic 37, 3) := by decide +kernel
theorem dX8_init_60 : decode cX8_init 60 = .ok (.getstatic 41, 3) := by decide +kernel
theorem dX8_init_63 : decode cX8_init 63 = .ok (.getstatic 44, 3) := by decide +kernel
theorem dX8_init_66 : decode cX8_init 66 = .ok (.invokespecial 47, 3) := by decide +kernel
theorem dX8_init_69 : decode cX8_init 69 = .ok (.putfield 50, 3) := by decide +kernel
theorem dX8_init_72 : decode cX8_init 72 = .ok (.aload_n 0, 1) := by decide +kernel
theorem dX8_init_73 : decode cX8_init 73 = .ok (.new 35, 3) := by decide +kernel
theorem dX8_init_76 : decode cX8_init 76 = .ok (.dup, 1) := by decide +kernel
theorem dX8_init_77 : decode cX8_init 77 = .ok (.getstatic 37, 3) := by decide +kernel
theorem dX8_init_80 : decode cX8_init 80 = .ok (.getstatic 41, 3) := by decide +kernel
theorem dX8_init_83 : decode cX8_init 83 = .ok (.getstatic 44, 3) := by decide +kernel
theorem dX8_init_86 : decode cX8_init 86 = .ok (.invokespecial 47, 3) := by decide +kernel
theorem dX8_init_89 : decode cX8_init 89 = .ok (.putfield 54, 3) := by decide +kernel
theorem dX8_init_92 : decode cX8_init 92 = .ok (.aload_n 0, 1) := by decide +kernel
theorem dX8_init_93 : decode cX8_init 93 = .ok (.new 35, 3) := by decide +kernel
theorem dX8_init_96 : decode cX8_init 96 = .ok (.dup, 1) := by decide +kernel
theorem dX8_init_97 : decode cX8_init 97 = .ok (.getstatic 57, 3) := by decide +kernel
theorem dX8_init_100 : decode cX8_init 100 = .ok (.getstatic 60, 3) := by decide +kernel
theorem dX8_init_103 : decode cX8_init 103 = .ok (.getstatic 63, 3) := by decide +kernel
theorem dX8_init_106 : decode cX8_init 106 = .ok (.invokespecial 47, 3) := by decide +kernel
theorem dX8_init_109 : decode cX8_init 109 = .ok (.putfield 66, 3) := by decide +kernel
theorem dX8_init_112 : decode cX8_init 112 = .ok (.aload_n 0, 1) := by decide +kernel
theorem dX8_init_113 : decode cX8_init 113 = .ok (.new 69, 3) := by decide +kernel
theorem dX8_init_116 : decode cX8_init 116 = .ok (.dup, 1) := by decide +kernel
theorem dX8_init_117 : decode cX8_init 117 = .ok (.invokespecial 71, 3) := by decide +kernel
theorem dX8_init_120 : decode cX8_init 120 = .ok (.putfield 72, 3) := by decide +kernel
theorem dX8_init_123 : decode cX8_init 123 = .ok (.aload_n 0, 1) := by decide +kernel
theorem dX8_init_124 : decode cX8_init 124 = .ok (.new 76, 3) := by decide +kernel
theorem dX8_init_127 : decode cX8_init 127 = .ok (.dup, 1) := by decide +kernel
theorem dX8_init_128 : decode cX8_init 128 = .ok (.invokespecial 78, 3) := by decide +kernel
theorem dX8_init_131 : decode cX8_init 131 = .ok (.putfield 79, 3) := by decide +kernel
theorem dX8_init_134 : decode cX8_init 134 = .ok (.aload_n 0, 1) := by decide +kernel
theorem dX8_init_135 : decode cX8_init 135 = .ok (.new 83, 3) := by decide +kernel
theorem dX8_init_138 : decode cX8_init 138 = .ok (.dup, 1) := by decide +kernel
theorem dX8_init_139 : decode cX8_init 139 = .ok (.invokespecial 85, 3) := by decide +kernel
theorem dX8_init_142 : decode cX8_init 142 = .ok (.putfield 86, 3) := by decide +kernel
theorem dX8_init_145 : decode cX8_init 145 = .ok (.aload_n 0, 1) := by decide +kernel
theorem dX8_init_146 : decode cX8_init 146 = .ok (.iconst 4, 1) := by decide +kernel
theorem dX8_init_147 : decode cX8_init 147 = .ok (.anewarray 90, 3) := by decide +kernel
theorem dX8_init_150 : decode cX8_init 150 = .ok (.putfield 92, 3) := by decide +kernel
theorem dX8_init_153 : decode cX8_init 153 = .ok (.iconst 0, 1) := by decide +kernel
theorem dX8_init_154 : decode cX8_init 154 = .ok (.istore_n 1, 1) := by decide +kernel
theorem dX8_init_155 : decode cX8_init 155 = .ok (.iload_n 1, 1) := by decide +kernel
theorem dX8_init_156 : decode cX8_init 156 = .ok (.aload_n 0, 1) := by decide +kernel
theorem dX8_init_157 : decode cX8_init 157 = .ok (.getfield 92, 3) := by decide +kernel
theorem dX8_init_160 : decode cX8_init 160 = .ok (.arraylength, 1) := by decide +kernel
theorem dX8_init_161 : decode cX8_init 161 = .ok (.if_icmp .ge 22, 3) := by decide +kernel
theorem dX8_init_164 : decode cX8_init 164 = .ok (.aload_n 0, 1) := by decide +kernel
theorem dX8_init_165 : decode cX8_init 165 = .ok (.getfield 92, 3) := by decide +kernel
theorem dX8_init_168 : decode cX8_init 168 = .ok (.iload_n 1, 1) := by decide +kernel
theorem dX8_init_169 : decode cX8_init 169 = .ok (.new 90, 3) := by decide +kernel
theorem dX8_init_172 : decode cX8_init 172 = .ok (.dup, 1) := by decide +kernel
theorem dX8_init_173 : decode cX8_init 173 = .ok (.invokespecial 96, 3) := by decide +kernel
theorem dX8_init_176 : decode cX8_init 176 = .ok (.aastore, 1) := by decide +kernel
theorem dX8_init_177 : decode cX8_init 177 = .ok (.iinc 1 1, 3) := by decide +kernel
theorem dX8_init_180 : decode cX8_init 180 = .ok (.goto (-25), 3) := by decide +kernel
theorem dX8_init_183 : decode cX8_init 183 = .ok (.aload_n 0, 1) := by decide +kernel
theorem dX8_init_184 : decode cX8_init 184 = .ok (.iconst 0, 1) := by decide +kernel
theorem dX8_init_185 : decode cX8_init 185 = .ok (.putfield 97, 3) := by decide +kernel
theorem dX8_init_188 : decode cX8_init 188 = .ok (.aload_n 0, 1) := by decide +kernel
theorem dX8_init_189 : decode cX8_init 189 = .ok (.invokevirtual 101, 3) := by decide +kernel
theorem dX8_init_192 : decode cX8_init 192 = .ok (.return_, 1) := by decide +kernel
theorem dX8_type_0 : decode cX8_type 0 = .ok (.aload_n 0, 1) := by decide +kernel
theorem dX8_type_1 : decode cX8_type 1 = .ok (.iload_n 1, 1) := by decide +kernel
theorem dX8_type_2 : decode cX8_type 2 = .ok (.invokevirtual 104, 3) := by decide +kernel
theorem dX8_type_5 : decode cX8_type 5 = .ok (.astore_n 3, 1) := by decide +kernel
theorem dX8_type_6 : decode cX8_type 6 = .ok (.aload_n 3, 1) := by decide +kernel
theorem dX8_type_7 : decode cX8_type 7 = .ok (.ifnull 14, 3) := by decide +kernel
theorem dX8_type_10 : decode cX8_type 10 = .ok (.iload_n 2, 1) := by decide +kernel
theorem dX8_type_11 : decode cX8_type 11 = .ok (.ifCond .lt 10, 3) := by decide +kernel
theorem dX8_type_14 : decode cX8_type 14 = .ok (.iload_n 2, 1) := by decide +kernel
theorem dX8_type_15 : decode cX8_type 15 = .ok (.sipush 255, 3) := by decide +kernel
theorem dX8_type_18 : decode cX8_type 18 = .ok (.if_icmp .le 6, 3) := by decide +kernel
theorem dX8_type_21 : decode cX8_type 21 = .ok (.bipush (-2), 2) := by decide +kernel
theorem dX8_type_23 : decode cX8_type 23 = .ok (.ireturn, 1) := by decide +kernel
theorem dX8_type_24 : decode cX8_type 24 = .ok (.aload_n 3, 1) := by decide +kernel
theorem dX8_type_25 : decode cX8_type 25 = .ok (.invokevirtual 108, 3) := by decide +kernel
theorem dX8_type_28 : decode cX8_type 28 = .ok (.ifCond .eq 6, 3) := by decide +kernel
theorem dX8_type_31 : decode cX8_type 31 = .ok (.bipush (-4), 2) := by decide +kernel
theorem dX8_type_33 : decode cX8_type 33 = .ok (.ireturn, 1) := by decide +kernel
theorem dX8_type_34 : decode cX8_type 34 = .ok (.aload_n 3, 1) := by decide +kernel
theorem dX8_type_35 : decode cX8_type 35 = .ok (.iload_n 2, 1) := by decide +kernel
theorem dX8_type_36 : decode cX8_type 36 = .ok (.invokevirtual 112, 3) := by decide +kernel
theorem dX8_type_39 : decode cX8_type 39 = .ok (.aload_n 0, 1) := by decide +kernel
theorem dX8_type_40 : decode cX8_type 40 = .ok (.invokevirtual 101, 3) := by decide +kernel
theorem dX8_type_43 : decode cX8_type 43 = .ok (.aload_n 3, 1) := by decide +kernel
theorem dX8_type_44 : decode cX8_type 44 = .ok (.invokevirtual 115, 3) := by decide +kernel
theorem dX8_type_47 : decode cX8_type 47 = .ok (.ireturn, 1) := by decide +kernel
theorem dX8_wipe_0 : decode cX8_wipe 0 = .ok (.aload_n 0, 1) := by decide +kernel
theorem dX8_wipe_1 : decode cX8_wipe 1 = .ok (.iload_n 1, 1) := by decide +kernel
theorem dX8_wipe_2 : decode cX8_wipe 2 = .ok (.invokevirtual 104, 3) := by decide +kernel
theorem dX8_wipe_5 : decode cX8_wipe 5 = .ok (.astore_n 2, 1) := by decide +kernel
theorem dX8_wipe_6 : decode cX8_wipe 6 = .ok (.aload_n 2, 1) := by decide +kernel
theorem dX8_wipe_7 : decode cX8_wipe 7 = .ok (.ifnonnull 6, 3) := by decide +kernel
theorem dX8_wipe_10 : decode cX8_wipe 10 = .ok (.bipush (-2), 2) := by decide +kernel
theorem dX8_wipe_12 : decode cX8_wipe 12 = .ok (.ireturn, 1) := by decide +kernel
theorem dX8_wipe_13 : decode cX8_wipe 13 = .ok (.aload_n 2, 1) := by decide +kernel
theorem dX8_wipe_14 : decode cX8_wipe 14 = .ok (.invokevirtual 115, 3) := by decide +kernel
theorem dX8_wipe_17 : decode cX8_wipe 17 = .ok (.istore_n 3, 1) := by decide +kernel
theorem dX8_wipe_18 : decode cX8_wipe 18 = .ok (.aload_n 2, 1) := by decide +kernel
theorem dX8_wipe_19 : decode cX8_wipe 19 = .ok (.iload_n 3, 1) := by decide +kernel
theorem dX8_wipe_20 : decode cX8_wipe 20 = .ok (.invokevirtual 119, 3) := by decide +kernel
theorem dX8_wipe_23 : decode cX8_wipe 23 = .ok (.aload_n 0, 1) := by decide +kernel
theorem dX8_wipe_24 : decode cX8_wipe 24 = .ok (.invokevirtual 101, 3) := by decide +kernel
theorem dX8_wipe_27 : decode cX8_wipe 27 = .ok (.iload_n 3, 1) := by decide +kernel
theorem dX8_wipe_28 : decode cX8_wipe 28 = .ok (.ireturn, 1) := by decide +kernel
theorem dX8_undo_0 : decode cX8_undo 0 = .ok (.aload_n 0, 1) := by decide +kernel
theorem dX8_undo_1 : decode cX8_undo 1 = .ok (.iload_n 1, 1) := by decide +kernel
theorem dX8_undo_2 : decode cX8_undo 2 = .ok (.invokevirtual 104, 3) := by decide +kernel
theorem dX8_undo_5 : decode cX8_undo 5 = .ok (.astore_n 2, 1) := by decide +kernel
theorem dX8_undo_6 : decode cX8_undo 6 = .ok (.aload_n 2, 1) := by decide +kernel
theorem dX8_undo_7 : decode cX8_undo 7 = .ok (.ifnonnull 6, 3) := by decide +kernel
theorem dX8_undo_10 : decode cX8_undo 10 = .ok (.bipush (-2), 2) := by decide +kernel
theorem dX8_undo_12 : decode cX8_undo 12 = .ok (.ireturn, 1) := by decide +kernel
theorem dX8_undo_13 : decode cX8_undo 13 = .ok (.aload_n 2, 1) := by decide +kernel
theorem dX8_undo_14 : decode cX8_undo 14 = .ok (.invokevirtual 115, 3) := by decide +kernel
theorem dX8_undo_17 : decode cX8_undo 17 = .ok (.ifCond .ne 6, 3) := by decide +kernel
theorem dX8_undo_20 : decode cX8_undo 20 = .ok (.bipush (-3), 2) := by decide +kernel
theorem dX8_undo_22 : decode cX8_undo 22 = .ok (.ireturn, 1) := by decide +kernel
theorem dX8_undo_23 : decode cX8_undo 23 = .ok (.aload_n 2, 1) := by decide +kernel
theorem dX8_undo_24 : decode cX8_undo 24 = .ok (.iconst 1, 1) := by decide +kernel
theorem dX8_undo_25 : decode cX8_undo 25 = .ok (.invokevirtual 119, 3) := by decide +kernel
theorem dX8_undo_28 : decode cX8_undo 28 = .ok (.aload_n 0, 1) := by decide +kernel
theorem dX8_undo_29 : decode cX8_undo 29 = .ok (.invokevirtual 101, 3) := by decide +kernel
theorem dX8_undo_32 : decode cX8_undo 32 = .ok (.aload_n 2, 1) := by decide +kernel
theorem dX8_undo_33 : decode cX8_undo 33 = .ok (.invokevirtual 115, 3) := by decide +kernel
theorem dX8_undo_36 : decode cX8_undo 36 = .ok (.ireturn, 1) := by decide +kernel
theorem dX8_fault_0 : decode cX8_fault 0 = .ok (.aload_n 0, 1) := by decide +kernel
theorem dX8_fault_1 : decode cX8_fault 1 = .ok (.iload_n 1, 1) := by decide +kernel
theorem dX8_fault_2 : decode cX8_fault 2 = .ok (.invokevirtual 104, 3) := by decide +kernel
theorem dX8_fault_5 : decode cX8_fault 5 = .ok (.ifnonnull 6, 3) := by decide +kernel
theorem dX8_fault_8 : decode cX8_fault 8 = .ok (.bipush (-2), 2) := by decide +kernel
theorem dX8_fault_10 : decode cX8_fault 10 = .ok (.ireturn, 1) := by decide +kernel
theorem dX8_fault_11 : decode cX8_fault 11 = .ok (.iload_n 1, 1) := by decide +kernel
theorem dX8_fault_12 : decode cX8_fault 12 = .ok (.ifCond .ne 13, 3) := by decide +kernel
theorem dX8_fault_15 : decode cX8_fault 15 = .ok (.aload_n 0, 1) := by decide +kernel
theorem dX8_fault_16 : decode cX8_fault 16 = .ok (.getfield 24, 3) := by decide +kernel
theorem dX8_fault_19 : decode cX8_fault 19 = .ok (.invokevirtual 122, 3) := by decide +kernel
theorem dX8_fault_22 : decode cX8_fault 22 = .ok (.goto 10, 3) := by decide +kernel
theorem dX8_fault_25 : decode cX8_fault 25 = .ok (.aload_n 0, 1) := by decide +kernel
theorem dX8_fault_26 : decode cX8_fault 26 = .ok (.getfield 31, 3) := by decide +kernel
theorem dX8_fault_29 : decode cX8_fault 29 = .ok (.invokevirtual 125, 3) := by decide +kernel
theorem dX8_fault_32 : decode cX8_fault 32 = .ok (.ireturn, 1) := by decide +kernel
theorem dX8_wagon_0 : decode cX8_wagon 0 = .ok (.iload_n 1, 1) := by decide +kernel
theorem dX8_wagon_1 : decode cX8_wagon 1 = .ok (.ifCond .lt 25, 3) := by decide +kernel
theorem dX8_wagon_4 : decode cX8_wagon 4 = .ok (.iload_n 1, 1) := by decide +kernel
theorem dX8_wagon_5 : decode cX8_wagon 5 = .ok (.aload_n 0, 1) := by decide +kernel
theorem dX8_wagon_6 : decode cX8_wagon 6 = .ok (.getfield 24, 3) := by decide +kernel
theorem dX8_wagon_9 : decode cX8_wagon 9 = .ok (.invokevirtual 126, 3) := by decide +kernel
theorem dX8_wagon_12 : decode cX8_wagon 12 = .ok (.if_icmp .ge 14, 3) := by decide +kernel
theorem dX8_wagon_15 : decode cX8_wagon 15 = .ok (.aload_n 0, 1) := by decide +kernel
theorem dX8_wagon_16 : decode cX8_wagon 16 = .ok (.getfield 24, 3) := by decide +kernel
theorem dX8_wagon_19 : decode cX8_wagon 19 = .ok (.iload_n 1, 1) := by decide +kernel
theorem dX8_wagon_20 : decode cX8_wagon 20 = .ok (.invokevirtual 127, 3) := by decide +kernel
theorem dX8_wagon_23 : decode cX8_wagon 23 = .ok (.goto 5, 3) := by decide +kernel
theorem dX8_wagon_26 : decode cX8_wagon 26 = .ok (.bipush (-2), 2) := by decide +kernel
theorem dX8_wagon_28 : decode cX8_wagon 28 = .ok (.ireturn, 1) := by decide +kernel
theorem dX8_hill_0 : decode cX8_hill 0 = .ok (.iload_n 1, 1) := by decide +kernel
theorem dX8_hill_1 : decode cX8_hill 1 = .ok (.ifCond .lt 21, 3) := by decide +kernel
theorem dX8_hill_4 : decode cX8_hill 4 = .ok (.iload_n 1, 1) := by decide +kernel
theorem dX8_hill_5 : decode cX8_hill 5 = .ok (.aload_n 0, 1) := by decide +kernel
theorem dX8_hill_6 : decode cX8_hill 6 = .ok (.getfield 31, 3) := by decide +kernel
theorem dX8_hill_9 : decode cX8_hill 9 = .ok (.invokevirtual 131, 3) := by decide +kernel
theorem dX8_hill_12 : decode cX8_hill 12 = .ok (.if_icmp .ge 10, 3) := by decide +kernel
theorem dX8_hill_15 : decode cX8_hill 15 = .ok (.iload_n 2, 1) := by decide +kernel
theorem dX8_hill_16 : decode cX8_hill 16 = .ok (.invokestatic 132, 3) := by decide +kernel
theorem dX8_hill_19 : decode cX8_hill 19 = .ok (.ifCond .ne 6, 3) := by decide +kernel
theorem dX8_hill_22 : decode cX8_hill 22 = .ok (.bipush (-2), 2) := by decide +kernel
theorem dX8_hill_24 : decode cX8_hill 24 = .ok (.ireturn, 1) := by decide +kernel
theorem dX8_hill_25 : decode cX8_hill 25 = .ok (.iload_n 2, 1) := by decide +kernel
theorem dX8_hill_26 : decode cX8_hill 26 = .ok (.ifCond .ne 12, 3) := by decide +kernel
theorem dX8_hill_29 : decode cX8_hill 29 = .ok (.aload_n 0, 1) := by decide +kernel
theorem dX8_hill_30 : decode cX8_hill 30 = .ok (.getfield 31, 3) := by decide +kernel
theorem dX8_hill_33 : decode cX8_hill 33 = .ok (.iload_n 1, 1) := by decide +kernel
theorem dX8_hill_34 : decode cX8_hill 34 = .ok (.invokevirtual 136, 3) := by decide +kernel
theorem dX8_hill_37 : decode cX8_hill 37 = .ok (.ireturn, 1) := by decide +kernel
theorem dX8_hill_38 : decode cX8_hill 38 = .ok (.aload_n 0, 1) := by decide +kernel
theorem dX8_hill_39 : decode cX8_hill 39 = .ok (.getfield 31, 3) := by decide +kernel
theorem dX8_hill_42 : decode cX8_hill 42 = .ok (.iload_n 1, 1) := by decide +kernel
theorem dX8_hill_43 : decode cX8_hill 43 = .ok (.invokevirtual 139, 3) := by decide +kernel
theorem dX8_hill_46 : decode cX8_hill 46 = .ok (.ifCond .eq 7, 3) := by decide +kernel
theorem dX8_hill_49 : decode cX8_hill 49 = .ok (.iconst 1, 1) := by decide +kernel
theorem dX8_hill_50 : decode cX8_hill 50 = .ok (.goto 4, 3) := by decide +kernel
theorem dX8_hill_53 : decode cX8_hill 53 = .ok (.iconst 0, 1) := by decide +kernel
theorem dX8_hill_54 : decode cX8_hill 54 = .ok (.ireturn, 1) := by decide +kernel
theorem dX8_engine_0 : decode cX8_engine 0 = .ok (.iload_n 1, 1) := by decide +kernel
theorem dX8_engine_1 : decode cX8_engine 1 = .ok (.invokestatic 142, 3) := by decide +kernel
theorem dX8_engine_4 : decode cX8_engine 4 = .ok (.ifCond .eq 16, 3) := by decide +kernel
theorem dX8_engine_7 : decode cX8_engine 7 = .ok (.aload_n 0, 1) := by decide +kernel
theorem dX8_engine_8 : decode cX8_engine 8 = .ok (.iload_n 1, 1) := by decide +kernel
theorem dX8_engine_9 : decode cX8_engine 9 = .ok (.invokevirtual 145, 3) := by decide +kernel
theorem dX8_engine_12 : decode cX8_engine 12 = .ok (.iload_n 2, 1) := by decide +kernel
theorem dX8_engine_13 : decode cX8_engine 13 = .ok (.iload_n 3, 1) := by decide +kernel
theorem dX8_engine_14 : decode cX8_engine 14 = .ok (.invokevirtual 149, 3) := by decide +kernel
theorem dX8_engine_17 : decode cX8_engine 17 = .ok (.ifCond .ne 6, 3) := by decide +kernel
theorem dX8_engine_20 : decode cX8_engine 20 = .ok (.bipush (-2), 2) := by decide +kernel
theorem dX8_engine_22 : decode cX8_engine 22 = .ok (.ireturn, 1) := by decide +kernel
theorem dX8_engine_23 : decode cX8_engine 23 = .ok (.aload_n 0, 1) := by decide +kernel
theorem dX8_engine_24 : decode cX8_engine 24 = .ok (.iload_n 1, 1) := by decide +kernel
theorem dX8_engine_25 : decode cX8_engine 25 = .ok (.invokevirtual 145, 3) := by decide +kernel
theorem dX8_engine_28 : decode cX8_engine 28 = .ok (.iload_n 2, 1) := by decide +kernel
theorem dX8_engine_29 : decode cX8_engine 29 = .ok (.iload_n 3, 1) := by decide +kernel
theorem dX8_engine_30 : decode cX8_engine 30 = .ok (.invokevirtual 153, 3) := by decide +kernel
theorem dX8_engine_33 : decode cX8_engine 33 = .ok (.istore 4, 2) := by decide +kernel
theorem dX8_engine_35 : decode cX8_engine 35 = .ok (.aload_n 0, 1) := by decide +kernel
theorem dX8_engine_36 : decode cX8_engine 36 = .ok (.invokevirtual 101, 3) := by decide +kernel
theorem dX8_engine_39 : decode cX8_engine 39 = .ok (.iload 4, 2) := by decide +kernel
theorem dX8_engine_41 : decode cX8_engine 41 = .ok (.ireturn, 1) := by decide +kernel
theorem dX8_set_0 : decode cX8_set 0 = .ok (.aload_n 0, 1) := by decide +kernel
theorem dX8_set_1 : decode cX8_set 1 = .ok (.getfield 66, 3) := by decide +kernel
theorem dX8_set_4 : decode cX8_set 4 = .ok (.iload_n 1, 1) := by decide +kernel
theorem dX8_set_5 : decode cX8_set 5 = .ok (.iload_n 2, 1) := by decide +kernel
theorem dX8_set_6 : decode cX8_set 6 = .ok (.invokevirtual 149, 3) := by decide +kernel
theorem dX8_set_9 : decode cX8_set 9 = .ok (.ifCond .ne 6, 3) := by decide +kernel
theorem dX8_set_12 : decode cX8_set 12 = .ok (.bipush (-2), 2) := by decide +kernel
theorem dX8_set_14 : decode cX8_set 14 = .ok (.ireturn, 1) := by decide +kernel
theorem dX8_set_15 : decode cX8_set 15 = .ok (.aload_n 0, 1) := by decide +kernel
theorem dX8_set_16 : decode cX8_set 16 = .ok (.getfield 66, 3) := by decide +kernel
theorem dX8_set_19 : decode cX8_set 19 = .ok (.iload_n 1, 1) := by decide +kernel
theorem dX8_set_20 : decode cX8_set 20 = .ok (.iload_n 2, 1) := by decide +kernel
theorem dX8_set_21 : decode cX8_set 21 = .ok (.invokevirtual 153, 3) := by decide +kernel
theorem dX8_set_24 : decode cX8_set 24 = .ok (.istore_n 3, 1) := by decide +kernel
theorem dX8_set_25 : decode cX8_set 25 = .ok (.aload_n 0, 1) := by decide +kernel
theorem dX8_set_26 : decode cX8_set 26 = .ok (.invokevirtual 101, 3) := by decide +kernel
theorem dX8_set_29 : decode cX8_set 29 = .ok (.iload_n 3, 1) := by decide +kernel
theorem dX8_set_30 : decode cX8_set 30 = .ok (.ireturn, 1) := by decide +kernel
theorem dX8_gives_0 : decode cX8_gives 0 = .ok (.iload_n 1, 1) := by decide +kernel
theorem dX8_gives_1 : decode cX8_gives 1 = .ok (.invokestatic 157, 3) := by decide +kernel
theorem dX8_gives_4 : decode cX8_gives 4 = .ok (.ifCond .eq 22, 3) := by decide +kernel
theorem dX8_gives_7 : decode cX8_gives 7 = .ok (.iload_n 2, 1) := by decide +kernel
theorem dX8_gives_8 : decode cX8_gives 8 = .ok (.invokestatic 142, 3) := by decide +kernel
theorem dX8_gives_11 : decode cX8_gives 11 = .ok (.ifCond .eq 15, 3) := by decide +kernel
theorem dX8_gives_14 : decode cX8_gives 14 = .ok (.aload_n 0, 1) := by decide +kernel
theorem dX8_gives_15 : decode cX8_gives 15 = .ok (.getfield 72, 3) := by decide +kernel
theorem dX8_gives_18 : decode cX8_gives 18 = .ok (.iload_n 2, 1) := by decide +kernel
theorem dX8_gives_19 : decode cX8_gives 19 = .ok (.iload_n 1, 1) := by decide +kernel
theorem dX8_gives_20 : decode cX8_gives 20 = .ok (.invokevirtual 160, 3) := by decide +kernel
theorem dX8_gives_23 : decode cX8_gives 23 = .ok (.goto 5, 3) := by decide +kernel
theorem dX8_gives_26 : decode cX8_gives 26 = .ok (.bipush (-2), 2) := by decide +kernel
theorem dX8_gives_28 : decode cX8_gives 28 = .ok (.ireturn, 1) := by decide +kernel
theorem dX8_minute_0 : decode cX8_minute 0 = .ok (.iload_n 1, 1) := by decide +kernel
theorem dX8_minute_1 : decode cX8_minute 1 = .ok (.invokestatic 157, 3) := by decide +kernel
theorem dX8_minute_4 : decode cX8_minute 4 = .ok (.ifCond .eq 12, 3) := by decide +kernel
theorem dX8_minute_7 : decode cX8_minute 7 = .ok (.iload_n 2, 1) := by decide +kernel
theorem dX8_minute_8 : decode cX8_minute 8 = .ok (.ifCond .lt 8, 3) := by decide +kernel
theorem dX8_minute_11 : decode cX8_minute 11 = .ok (.iload_n 2, 1) := by decide +kernel
theorem dX8_minute_12 : decode cX8_minute 12 = .ok (.iconst 2, 1) := by decide +kernel
theorem dX8_minute_13 : decode cX8_minute 13 = .ok (.if_icmp .le 6, 3) := by decide +kernel
theorem dX8_minute_16 : decode cX8_minute 16 = .ok (.bipush (-2), 2) := by decide +kernel
theorem dX8_minute_18 : decode cX8_minute 18 = .ok (.ireturn, 1) := by decide +kernel
theorem dX8_minute_19 : decode cX8_minute 19 = .ok (.iload_n 2, 1) := by decide +kernel
theorem dX8_minute_20 : decode cX8_minute 20 = .ok (.ifCond .ne 12, 3) := by decide +kernel
theorem dX8_minute_23 : decode cX8_minute 23 = .ok (.aload_n 0, 1) := by decide +kernel
theorem dX8_minute_24 : decode cX8_minute 24 = .ok (.getfield 72, 3) := by decide +kernel
theorem dX8_minute_27 : decode cX8_minute 27 = .ok (.iload_n 1, 1) := by decide +kernel
theorem dX8_minute_28 : decode cX8_minute 28 = .ok (.invokevirtual 163, 3) := by decide +kernel
theorem dX8_minute_31 : decode cX8_minute 31 = .ok (.ireturn, 1) := by decide +kernel
theorem dX8_minute_32 : decode cX8_minute 32 = .ok (.iload_n 2, 1) := by decide +kernel
theorem dX8_minute_33 : decode cX8_minute 33 = .ok (.iconst 1, 1) := by decide +kernel
theorem dX8_minute_34 : decode cX8_minute 34 = .ok (.if_icmp .ne 12, 3) := by decide +kernel
theorem dX8_minute_37 : decode cX8_minute 37 = .ok (.aload_n 0, 1) := by decide +kernel
theorem dX8_minute_38 : decode cX8_minute 38 = .ok (.getfield 72, 3) := by decide +kernel
theorem dX8_minute_41 : decode cX8_minute 41 = .ok (.iload_n 1, 1) := by decide +kernel
theorem dX8_minute_42 : decode cX8_minute 42 = .ok (.invokevirtual 166, 3) := by decide +kernel
theorem dX8_minute_45 : decode cX8_minute 45 = .ok (.ireturn, 1) := by decide +kernel
theorem dX8_minute_46 : decode cX8_minute 46 = .ok (.aload_n 0, 1) := by decide +kernel
theorem dX8_minute_47 : decode cX8_minute 47 = .ok (.getfield 72, 3) := by decide +kernel
theorem dX8_minute_50 : decode cX8_minute 50 = .ok (.iload_n 1, 1) := by decide +kernel
theorem dX8_minute_51 : decode cX8_minute 51 = .ok (.invokevirtual 169, 3) := by decide +kernel
theorem dX8_minute_54 : decode cX8_minute 54 = .ok (.istore_n 3, 1) := by decide +kernel
theorem dX8_minute_55 : decode cX8_minute 55 = .ok (.iload_n 3, 1) := by decide +kernel
theorem dX8_minute_56 : decode cX8_minute 56 = .ok (.aload_n 0, 1) := by decide +kernel
theorem dX8_minute_57 : decode cX8_minute 57 = .ok (.getfield 31, 3) := by decide +kernel
theorem dX8_minute_60 : decode cX8_minute 60 = .ok (.invokevirtual 131, 3) := by decide +kernel
theorem dX8_minute_63 : decode cX8_minute 63 = .ok (.if_icmp .ge 7, 3) := by decide +kernel
theorem dX8_minute_66 : decode cX8_minute 66 = .ok (.iload_n 3, 1) := by decide +kernel
theorem dX8_minute_67 : decode cX8_minute 67 = .ok (.goto 4, 3) := by decide +kernel
theorem dX8_minute_70 : decode cX8_minute 70 = .ok (.iconst (-1), 1) := by decide +kernel
theorem dX8_minute_71 : decode cX8_minute 71 = .ok (.ireturn, 1) := by decide +kernel
theorem dX8_strain_0 : decode cX8_strain 0 = .ok (.iload_n 1, 1) := by decide +kernel
theorem dX8_strain_1 : decode cX8_strain 1 = .ok (.invokestatic 157, 3) := by decide +kernel
theorem dX8_strain_4 : decode cX8_strain 4 = .ok (.ifCond .eq 25, 3) := by decide +kernel
theorem dX8_strain_7 : decode cX8_strain 7 = .ok (.iload_n 2, 1) := by decide +kernel
theorem dX8_strain_8 : decode cX8_strain 8 = .ok (.ifCond .lt 21, 3) := by decide +kernel
theorem dX8_strain_11 : decode cX8_strain 11 = .ok (.iload_n 2, 1) := by decide +kernel
theorem dX8_strain_12 : decode cX8_strain 12 = .ok (.aload_n 0, 1) := by decide +kernel
theorem dX8_strain_13 : decode cX8_strain 13 = .ok (.getfield 24, 3) := by decide +kernel
theorem dX8_strain_16 : decode cX8_strain 16 = .ok (.invokevirtual 126, 3) := by decide +kernel
theorem dX8_strain_19 : decode cX8_strain 19 = .ok (.if_icmp .gt 10, 3) := by decide +kernel
theorem dX8_strain_22 : decode cX8_strain 22 = .ok (.iload_n 3, 1) := by decide +kernel
theorem dX8_strain_23 : decode cX8_strain 23 = .ok (.invokestatic 132, 3) := by decide +kernel
theorem dX8_strain_26 : decode cX8_strain 26 = .ok (.ifCond .ne 9, 3) := by decide +kernel
theorem dX8_strain_29 : decode cX8_strain 29 = .ok (.bipush (-2), 2) := by decide +kernel
theorem dX8_strain_31 : decode cX8_strain 31 = .ok (.invokestatic 172, 3) := by decide +kernel
theorem dX8_strain_34 : decode cX8_strain 34 = .ok (.lreturn, 1) := by decide +kernel
theorem dX8_strain_35 : decode cX8_strain 35 = .ok (.aload_n 0, 1) := by decide +kernel
theorem dX8_strain_36 : decode cX8_strain 36 = .ok (.getfield 24, 3) := by decide +kernel
theorem dX8_strain_39 : decode cX8_strain 39 = .ok (.invokevirtual 126, 3) := by decide +kernel
theorem dX8_strain_42 : decode cX8_strain 42 = .ok (.ifCond .ne 9, 3) := by decide +kernel
theorem dX8_strain_45 : decode cX8_strain 45 = .ok (.bipush (-3), 2) := by decide +kernel
theorem dX8_strain_47 : decode cX8_strain 47 = .ok (.invokestatic 172, 3) := by decide +kernel
theorem dX8_strain_50 : decode cX8_strain 50 = .ok (.lreturn, 1) := by decide +kernel
theorem dX8_strain_51 : decode cX8_strain 51 = .ok (.aload_n 0, 1) := by decide +kernel
theorem dX8_strain_52 : decode cX8_strain 52 = .ok (.getfield 24, 3) := by decide +kernel
theorem dX8_strain_55 : decode cX8_strain 55 = .ok (.iload_n 2, 1) := by decide +kernel
theorem dX8_strain_56 : decode cX8_strain 56 = .ok (.aload_n 0, 1) := by decide +kernel
theorem dX8_strain_57 : decode cX8_strain 57 = .ok (.getfield 72, 3) := by decide +kernel
theorem dX8_strain_60 : decode cX8_strain 60 = .ok (.iconst 0, 1) := by decide +kernel
theorem dX8_strain_61 : decode cX8_strain 61 = .ok (.iload_n 1, 1) := by decide +kernel
theorem dX8_strain_62 : decode cX8_strain 62 = .ok (.invokevirtual 160, 3) := by decide +kernel
theorem dX8_strain_65 : decode cX8_strain 65 = .ok (.aload_n 0, 1) := by decide +kernel
theorem dX8_strain_66 : decode cX8_strain 66 = .ok (.getfield 72, 3) := by decide +kernel
theorem dX8_strain_69 : decode cX8_strain 69 = .ok (.iconst 1, 1) := by decide +kernel
theorem dX8_strain_70 : decode cX8_strain 70 = .ok (.iload_n 1, 1) := by decide +kernel
theorem dX8_strain_71 : decode cX8_strain 71 = .ok (.invokevirtual 160, 3) := by decide +kernel
theorem dX8_strain_74 : decode cX8_strain 74 = .ok (.invokevirtual 176, 3) := by decide +kernel
theorem dX8_strain_77 : decode cX8_strain 77 = .ok (.istore 4, 2) := by decide +kernel
theorem dX8_strain_79 : decode cX8_strain 79 = .ok (.iload 4, 2) := by decide +kernel
theorem dX8_strain_81 : decode cX8_strain 81 = .ok (.i2l, 1) := by decide +kernel
theorem dX8_strain_82 : decode cX8_strain 82 = .ok (.aload_n 0, 1) := by decide +kernel
theorem dX8_strain_83 : decode cX8_strain 83 = .ok (.getfield 24, 3) := by decide +kernel
theorem dX8_strain_86 : decode cX8_strain 86 = .ok (.invokevirtual 180, 3) := by decide +kernel
theorem dX8_strain_89 : decode cX8_strain 89 = .ok (.i2l, 1) := by decide +kernel
theorem dX8_strain_90 : decode cX8_strain 90 = .ok (.iload_n 3, 1) := by decide +kernel
theorem dX8_strain_91 : decode cX8_strain 91 = .ok (.invokestatic 183, 3) := by decide +kernel
theorem dX8_strain_94 : decode cX8_strain 94 = .ok (.lreturn, 1) := by decide +kernel
theorem dX8_slack_0 : decode cX8_slack 0 = .ok (.iload_n 1, 1) := by decide +kernel
theorem dX8_slack_1 : decode cX8_slack 1 = .ok (.invokestatic 157, 3) := by decide +kernel
theorem dX8_slack_4 : decode cX8_slack 4 = .ok (.ifCond .ne 6, 3) := by decide +kernel
theorem dX8_slack_7 : decode cX8_slack 7 = .ok (.bipush (-2), 2) := by decide +kernel
theorem dX8_slack_9 : decode cX8_slack 9 = .ok (.ireturn, 1) := by decide +kernel
theorem dX8_slack_10 : decode cX8_slack 10 = .ok (.aload_n 0, 1) := by decide +kernel
theorem dX8_slack_11 : decode cX8_slack 11 = .ok (.getfield 24, 3) := by decide +kernel
theorem dX8_slack_14 : decode cX8_slack 14 = .ok (.invokevirtual 126, 3) := by decide +kernel
theorem dX8_slack_17 : decode cX8_slack 17 = .ok (.ifCond .ne 6, 3) := by decide +kernel
theorem dX8_slack_20 : decode cX8_slack 20 = .ok (.bipush (-3), 2) := by decide +kernel
theorem dX8_slack_22 : decode cX8_slack 22 = .ok (.ireturn, 1) := by decide +kernel
theorem dX8_slack_23 : decode cX8_slack 23 = .ok (.aload_n 0, 1) := by decide +kernel
theorem dX8_slack_24 : decode cX8_slack 24 = .ok (.getfield 24, 3) := by decide +kernel
theorem dX8_slack_27 : decode cX8_slack 27 = .ok (.aload_n 0, 1) := by decide +kernel
theorem dX8_slack_28 : decode cX8_slack 28 = .ok (.getfield 72, 3) := by decide +kernel
theorem dX8_slack_31 : decode cX8_slack 31 = .ok (.iconst 0, 1) := by decide +kernel
theorem dX8_slack_32 : decode cX8_slack 32 = .ok (.iload_n 1, 1) := by decide +kernel
theorem dX8_slack_33 : decode cX8_slack 33 = .ok (.invokevirtual 160, 3) := by decide +kernel
theorem dX8_slack_36 : decode cX8_slack 36 = .ok (.aload_n 0, 1) := by decide +kernel
theorem dX8_slack_37 : decode cX8_slack 37 = .ok (.getfield 72, 3) := by decide +kernel
theorem dX8_slack_40 : decode cX8_slack 40 = .ok (.iconst 1, 1) := by decide +kernel
theorem dX8_slack_41 : decode cX8_slack 41 = .ok (.iload_n 1, 1) := by decide +kernel
theorem dX8_slack_42 : decode cX8_slack 42 = .ok (.invokevirtual 160, 3) := by decide +kernel
theorem dX8_slack_45 : decode cX8_slack 45 = .ok (.invokevirtual 187, 3) := by decide +kernel
theorem dX8_slack_48 : decode cX8_slack 48 = .ok (.ireturn, 1) := by decide +kernel
theorem dX8_torn_0 : decode cX8_torn 0 = .ok (.aload_n 0, 1) := by decide +kernel
theorem dX8_torn_1 : decode cX8_torn 1 = .ok (.getfield 66, 3) := by decide +kernel
theorem dX8_torn_4 : decode cX8_torn 4 = .ok (.iconst 0, 1) := by decide +kernel
theorem dX8_torn_5 : decode cX8_torn 5 = .ok (.invokevirtual 190, 3) := by decide +kernel
theorem dX8_torn_8 : decode cX8_torn 8 = .ok (.istore_n 1, 1) := by decide +kernel
theorem dX8_torn_9 : decode cX8_torn 9 = .ok (.iconst 0, 1) := by decide +kernel
theorem dX8_torn_10 : decode cX8_torn 10 = .ok (.istore_n 2, 1) := by decide +kernel
theorem dX8_torn_11 : decode cX8_torn 11 = .ok (.iload_n 2, 1) := by decide +kernel
theorem dX8_torn_12 : decode cX8_torn 12 = .ok (.bipush 40, 2) := by decide +kernel
theorem dX8_torn_14 : decode cX8_torn 14 = .ok (.if_icmp .ge 40, 3) := by decide +kernel
theorem dX8_torn_17 : decode cX8_torn 17 = .ok (.aload_n 0, 1) := by decide +kernel
theorem dX8_torn_18 : decode cX8_torn 18 = .ok (.getfield 24, 3) := by decide +kernel
theorem dX8_torn_21 : decode cX8_torn 21 = .ok (.aload_n 0, 1) := by decide +kernel
theorem dX8_torn_22 : decode cX8_torn 22 = .ok (.getfield 72, 3) := by decide +kernel
theorem dX8_torn_25 : decode cX8_torn 25 = .ok (.iconst 0, 1) := by decide +kernel
theorem dX8_torn_26 : decode cX8_torn 26 = .ok (.iload_n 2, 1) := by decide +kernel
theorem dX8_torn_27 : decode cX8_torn 27 = .ok (.invokevirtual 160, 3) := by decide +kernel
theorem dX8_torn_30 : decode cX8_torn 30 = .ok (.aload_n 0, 1) := by decide +kernel
theorem dX8_torn_31 : decode cX8_torn 31 = .ok (.getfield 72, 3) := by decide +kernel
theorem dX8_torn_34 : decode cX8_torn 34 = .ok (.iconst 1, 1) := by decide +kernel
theorem dX8_torn_35 : decode cX8_torn 35 = .ok (.iload_n 2, 1) := by decide +kernel
theorem dX8_torn_36 : decode cX8_torn 36 = .ok (.invokevirtual 160, 3) := by decide +kernel
theorem dX8_torn_39 : decode cX8_torn 39 = .ok (.iload_n 1, 1) := by decide +kernel
theorem dX8_torn_40 : decode cX8_torn 40 = .ok (.invokevirtual 193, 3) := by decide +kernel
theorem dX8_torn_43 : decode cX8_torn 43 = .ok (.ifCond .eq 5, 3) := by decide +kernel
theorem dX8_torn_46 : decode cX8_torn 46 = .ok (.iload_n 2, 1) := by decide +kernel
theorem dX8_torn_47 : decode cX8_torn 47 = .ok (.ireturn, 1) := by decide +kernel
theorem dX8_torn_48 : decode cX8_torn 48 = .ok (.iinc 2 1, 3) := by decide +kernel
theorem dX8_torn_51 : decode cX8_torn 51 = .ok (.goto (-40), 3) := by decide +kernel
theorem dX8_torn_54 : decode cX8_torn 54 = .ok (.iconst (-1), 1) := by decide +kernel
theorem dX8_torn_55 : decode cX8_torn 55 = .ok (.ireturn, 1) := by decide +kernel
theorem dX8_off_0 : decode cX8_off 0 = .ok (.iload_n 1, 1) := by decide +kernel
theorem dX8_off_1 : decode cX8_off 1 = .ok (.invokestatic 132, 3) := by decide +kernel
theorem dX8_off_4 : decode cX8_off 4 = .ok (.ifCond .ne 6, 3) := by decide +kernel
theorem dX8_off_7 : decode cX8_off 7 = .ok (.bipush (-2), 2) := by decide +kernel
theorem dX8_off_9 : decode cX8_off 9 = .ok (.ireturn, 1) := by decide +kernel
theorem dX8_off_10 : decode cX8_off 10 = .ok (.iconst 0, 1) := by decide +kernel
theorem dX8_off_11 : decode cX8_off 11 = .ok (.istore_n 2, 1) := by decide +kernel
theorem dX8_off_12 : decode cX8_off 12 = .ok (.iload_n 2, 1) := by decide +kernel
theorem dX8_off_13 : decode cX8_off 13 = .ok (.bipush 40, 2) := by decide +kernel
theorem dX8_off_15 : decode cX8_off 15 = .ok (.if_icmp .ge 30, 3) := by decide +kernel
theorem dX8_off_18 : decode cX8_off 18 = .ok (.aload_n 0, 1) := by decide +kernel
theorem dX8_off_19 : decode cX8_off 19 = .ok (.iload_n 2, 1) := by decide +kernel
theorem dX8_off_20 : decode cX8_off 20 = .ok (.invokevirtual 197, 3) := by decide +kernel
theorem dX8_off_23 : decode cX8_off 23 = .ok (.istore_n 3, 1) := by decide +kernel
theorem dX8_off_24 : decode cX8_off 24 = .ok (.iload_n 3, 1) := by decide +kernel
theorem dX8_off_25 : decode cX8_off 25 = .ok (.iconst (-1), 1) := by decide +kernel
theorem dX8_off_26 : decode cX8_off 26 = .ok (.if_icmp .eq 13, 3) := by decide +kernel
theorem dX8_off_29 : decode cX8_off 29 = .ok (.iload_n 1, 1) := by decide +kernel
theorem dX8_off_30 : decode cX8_off 30 = .ok (.ifCond .ne 7, 3) := by decide +kernel
theorem dX8_off_33 : decode cX8_off 33 = .ok (.iload_n 2, 1) := by decide +kernel
theorem dX8_off_34 : decode cX8_off 34 = .ok (.goto 4, 3) := by decide +kernel
theorem dX8_off_37 : decode cX8_off 37 = .ok (.iload_n 3, 1) := by decide +kernel
theorem dX8_off_38 : decode cX8_off 38 = .ok (.ireturn, 1) := by decide +kernel
theorem dX8_off_39 : decode cX8_off 39 = .ok (.iinc 2 1, 3) := by decide +kernel
theorem dX8_off_42 : decode cX8_off 42 = .ok (.goto (-30), 3) := by decide +kernel
theorem dX8_off_45 : decode cX8_off 45 = .ok (.iconst (-1), 1) := by decide +kernel
theorem dX8_off_46 : decode cX8_off 46 = .ok (.ireturn, 1) := by decide +kernel
theorem dX8_over_0 : decode cX8_over 0 = .ok (.aload_n 0, 1) := by decide +kernel
theorem dX8_over_1 : decode cX8_over 1 = .ok (.getfield 31, 3) := by decide +kernel
theorem dX8_over_4 : decode cX8_over 4 = .ok (.invokevirtual 131, 3) := by decide +kernel
theorem dX8_over_7 : decode cX8_over 7 = .ok (.ifCond .ne 5, 3) := by decide +kernel
theorem dX8_over_10 : decode cX8_over 10 = .ok (.iconst (-1), 1) := by decide +kernel
theorem dX8_over_11 : decode cX8_over 11 = .ok (.ireturn, 1) := by decide +kernel
theorem dX8_over_12 : decode cX8_over 12 = .ok (.iconst 0, 1) := by decide +kernel
theorem dX8_over_13 : decode cX8_over 13 = .ok (.istore_n 1, 1) := by decide +kernel
theorem dX8_over_14 : decode cX8_over 14 = .ok (.iload_n 1, 1) := by decide +kernel
theorem dX8_over_15 : decode cX8_over 15 = .ok (.bipush 40, 2) := by decide +kernel
theorem dX8_over_17 : decode cX8_over 17 = .ok (.if_icmp .ge 29, 3) := by decide +kernel
theorem dX8_over_20 : decode cX8_over 20 = .ok (.aload_n 0, 1) := by decide +kernel
theorem dX8_over_21 : decode cX8_over 21 = .ok (.getfield 72, 3) := by decide +kernel
theorem dX8_over_24 : decode cX8_over 24 = .ok (.iload_n 1, 1) := by decide +kernel
theorem dX8_over_25 : decode cX8_over 25 = .ok (.invokevirtual 169, 3) := by decide +kernel
theorem dX8_over_28 : decode cX8_over 28 = .ok (.aload_n 0, 1) := by decide +kernel
theorem dX8_over_29 : decode cX8_over 29 = .ok (.getfield 31, 3) := by decide +kernel
theorem dX8_over_32 : decode cX8_over 32 = .ok (.invokevirtual 131, 3) := by decide +kernel
theorem dX8_over_35 : decode cX8_over 35 = .ok (.if_icmp .lt 5, 3) := by decide +kernel
theorem dX8_over_38 : decode cX8_over 38 = .ok (.iload_n 1, 1) := by decide +kernel
theorem dX8_over_39 : decode cX8_over 39 = .ok (.ireturn, 1) := by decide +kernel
theorem dX8_over_40 : decode cX8_over 40 = .ok (.iinc 1 1, 3) := by decide +kernel
theorem dX8_over_43 : decode cX8_over 43 = .ok (.goto (-29), 3) := by decide +kernel
theorem dX8_over_46 : decode cX8_over 46 = .ok (.iconst (-1), 1) := by decide +kernel
theorem dX8_over_47 : decode cX8_over 47 = .ok (.ireturn, 1) := by decide +kernel
theorem dX8_settles_0 : decode cX8_settles 0 = .ok (.iconst (-1), 1) := by decide +kernel
theorem dX8_settles_1 : decode cX8_settles 1 = .ok (.istore_n 1, 1) := by decide +kernel
theorem dX8_settles_2 : decode cX8_settles 2 = .ok (.bipush 38, 2) := by decide +kernel
theorem dX8_settles_4 : decode cX8_settles 4 = .ok (.istore_n 2, 1) := by decide +kernel
theorem dX8_settles_5 : decode cX8_settles 5 = .ok (.iload_n 2, 1) := by decide +kernel
theorem dX8_settles_6 : decode cX8_settles 6 = .ok (.ifCond .lt 24, 3) := by decide +kernel
theorem dX8_settles_9 : decode cX8_settles 9 = .ok (.aload_n 0, 1) := by decide +kernel
theorem dX8_settles_10 : decode cX8_settles 10 = .ok (.getfield 72, 3) := by decide +kernel
theorem dX8_settles_13 : decode cX8_settles 13 = .ok (.iload_n 2, 1) := by decide +kernel
theorem dX8_settles_14 : decode cX8_settles 14 = .ok (.bipush 39, 2) := by decide +kernel
theorem dX8_settles_16 : decode cX8_settles 16 = .ok (.invokevirtual 200, 3) := by decide +kernel
theorem dX8_settles_19 : decode cX8_settles 19 = .ok (.ifCond .eq 11, 3) := by decide +kernel
theorem dX8_settles_22 : decode cX8_settles 22 = .ok (.iload_n 2, 1) := by decide +kernel
theorem dX8_settles_23 : decode cX8_settles 23 = .ok (.istore_n 1, 1) := by decide +kernel
theorem dX8_settles_24 : decode cX8_settles 24 = .ok (.iinc 2 (-1), 3) := by decide +kernel
theorem dX8_settles_27 : decode cX8_settles 27 = .ok (.goto (-22), 3) := by decide +kernel
theorem dX8_settles_30 : decode cX8_settles 30 = .ok (.iload_n 1, 1) := by decide +kernel
theorem dX8_settles_31 : decode cX8_settles 31 = .ok (.ireturn, 1) := by decide +kernel
theorem dX8_swings_0 : decode cX8_swings 0 = .ok (.iconst 1, 1) := by decide +kernel
theorem dX8_swings_1 : decode cX8_swings 1 = .ok (.istore_n 1, 1) := by decide +kernel
theorem dX8_swings_2 : decode cX8_swings 2 = .ok (.iload_n 1, 1) := by decide +kernel
theorem dX8_swings_3 : decode cX8_swings 3 = .ok (.bipush 12, 2) := by decide +kernel
theorem dX8_swings_5 : decode cX8_swings 5 = .ok (.if_icmp .gt 22, 3) := by decide +kernel
theorem dX8_swings_8 : decode cX8_swings 8 = .ok (.aload_n 0, 1) := by decide +kernel
theorem dX8_swings_9 : decode cX8_swings 9 = .ok (.getfield 72, 3) := by decide +kernel
theorem dX8_swings_12 : decode cX8_swings 12 = .ok (.iload_n 1, 1) := by decide +kernel
theorem dX8_swings_13 : decode cX8_swings 13 = .ok (.invokevirtual 203, 3) := by decide +kernel
theorem dX8_swings_16 : decode cX8_swings 16 = .ok (.ifCond .eq 5, 3) := by decide +kernel
theorem dX8_swings_19 : decode cX8_swings 19 = .ok (.iload_n 1, 1) := by decide +kernel
theorem dX8_swings_20 : decode cX8_swings 20 = .ok (.ireturn, 1) := by decide +kernel
theorem dX8_swings_21 : decode cX8_swings 21 = .ok (.iinc 1 1, 3) := by decide +kernel
theorem dX8_swings_24 : decode cX8_swings 24 = .ok (.goto (-22), 3) := by decide +kernel
theorem dX8_swings_27 : decode cX8_swings 27 = .ok (.iconst (-1), 1) := by decide +kernel
theorem dX8_swings_28 : decode cX8_swings 28 = .ok (.ireturn, 1) := by decide +kernel
theorem dX8_does_0 : decode cX8_does 0 = .ok (.iload_n 1, 1) := by decide +kernel
theorem dX8_does_1 : decode cX8_does 1 = .ok (.invokestatic 132, 3) := by decide +kernel
theorem dX8_does_4 : decode cX8_does 4 = .ok (.ifCond .ne 6, 3) := by decide +kernel
theorem dX8_does_7 : decode cX8_does 7 = .ok (.bipush (-2), 2) := by decide +kernel
theorem dX8_does_9 : decode cX8_does 9 = .ok (.ireturn, 1) := by decide +kernel
theorem dX8_does_10 : decode cX8_does 10 = .ok (.aload_n 0, 1) := by decide +kernel
theorem dX8_does_11 : decode cX8_does 11 = .ok (.getfield 72, 3) := by decide +kernel
theorem dX8_does_14 : decode cX8_does 14 = .ok (.iconst 0, 1) := by decide +kernel
theorem dX8_does_15 : decode cX8_does 15 = .ok (.invokevirtual 206, 3) := by decide +kernel
theorem dX8_does_18 : decode cX8_does 18 = .ok (.istore_n 2, 1) := by decide +kernel
theorem dX8_does_19 : decode cX8_does 19 = .ok (.iload_n 2, 1) := by decide +kernel
theorem dX8_does_20 : decode cX8_does 20 = .ok (.aload_n 0, 1) := by decide +kernel
theorem dX8_does_21 : decode cX8_does 21 = .ok (.getfield 72, 3) := by decide +kernel
theorem dX8_does_24 : decode cX8_does 24 = .ok (.iconst 1, 1) := by decide +kernel
theorem dX8_does_25 : decode cX8_does 25 = .ok (.invokevirtual 206, 3) := by decide +kernel
theorem dX8_does_28 : decode cX8_does 28 = .ok (.iadd, 1) := by decide +kernel
theorem dX8_does_29 : decode cX8_does 29 = .ok (.istore_n 3, 1) := by decide +kernel
theorem dX8_does_30 : decode cX8_does 30 = .ok (.iload_n 2, 1) := by decide +kernel
theorem dX8_does_31 : decode cX8_does 31 = .ok (.i2l, 1) := by decide +kernel
theorem dX8_does_32 : decode cX8_does 32 = .ok (.iload_n 3, 1) := by decide +kernel
theorem dX8_does_33 : decode cX8_does 33 = .ok (.i2l, 1) := by decide +kernel
theorem dX8_does_34 : decode cX8_does 34 = .ok (.iload_n 1, 1) := by decide +kernel
theorem dX8_does_35 : decode cX8_does 35 = .ok (.invokestatic 183, 3) := by decide +kernel
theorem dX8_does_38 : decode cX8_does 38 = .ok (.l2i, 1) := by decide +kernel
theorem dX8_does_39 : decode cX8_does 39 = .ok (.ireturn, 1) := by decide +kernel
theorem dX8_start_0 : decode cX8_start 0 = .ok (.iload_n 1, 1) := by decide +kernel
theorem dX8_start_1 : decode cX8_start 1 = .ok (.invokestatic 209, 3) := by decide +kernel
theorem dX8_start_4 : decode cX8_start 4 = .ok (.ifCond .eq 19, 3) := by decide +kernel
theorem dX8_start_7 : decode cX8_start 7 = .ok (.iload_n 2, 1) := by decide +kernel
theorem dX8_start_8 : decode cX8_start 8 = .ok (.invokestatic 209, 3) := by decide +kernel
theorem dX8_start_11 : decode cX8_start 11 = .ok (.ifCond .eq 12, 3) := by decide +kernel
theorem dX8_start_14 : decode cX8_start 14 = .ok (.aload_n 0, 1) := by decide +kernel
theorem dX8_start_15 : decode cX8_start 15 = .ok (.iload_n 1, 1) := by decide +kernel
theorem dX8_start_16 : decode cX8_start 16 = .ok (.iload_n 2, 1) := by decide +kernel
theorem dX8_start_17 : decode cX8_start 17 = .ok (.invokevirtual 212, 3) := by decide +kernel
theorem dX8_start_20 : decode cX8_start 20 = .ok (.goto 5, 3) := by decide +kernel
theorem dX8_start_23 : decode cX8_start 23 = .ok (.bipush (-2), 2) := by decide +kernel
theorem dX8_start_25 : decode cX8_start 25 = .ok (.ireturn, 1) := by decide +kernel
theorem dX8_safe_0 : decode cX8_safe 0 = .ok (.iload_n 1, 1) := by decide +kernel
theorem dX8_safe_1 : decode cX8_safe 1 = .ok (.invokestatic 132, 3) := by decide +kernel
theorem dX8_safe_4 : decode cX8_safe 4 = .ok (.ifCond .ne 6, 3) := by decide +kernel
theorem dX8_safe_7 : decode cX8_safe 7 = .ok (.bipush (-2), 2) := by decide +kernel
theorem dX8_safe_9 : decode cX8_safe 9 = .ok (.ireturn, 1) := by decide +kernel
theorem dX8_safe_10 : decode cX8_safe 10 = .ok (.iconst 0, 1) := by decide +kernel
theorem dX8_safe_11 : decode cX8_safe 11 = .ok (.istore_n 2, 1) := by decide +kernel
theorem dX8_safe_12 : decode cX8_safe 12 = .ok (.iconst (-1), 1) := by decide +kernel
theorem dX8_safe_13 : decode cX8_safe 13 = .ok (.istore_n 3, 1) := by decide +kernel
theorem dX8_safe_14 : decode cX8_safe 14 = .ok (.iconst 0, 1) := by decide +kernel
theorem dX8_safe_15 : decode cX8_safe 15 = .ok (.istore 4, 2) := by decide +kernel
theorem dX8_safe_17 : decode cX8_safe 17 = .ok (.iload 4, 2) := by decide +kernel
theorem dX8_safe_19 : decode cX8_safe 19 = .ok (.bipush 100, 2) := by decide +kernel
theorem dX8_safe_21 : decode cX8_safe 21 = .ok (.if_icmp .ge 41, 3) := by decide +kernel
theorem dX8_safe_24 : decode cX8_safe 24 = .ok (.aload_n 0, 1) := by decide +kernel
theorem dX8_safe_25 : decode cX8_safe 25 = .ok (.iload 4, 2) := by decide +kernel
theorem dX8_safe_27 : decode cX8_safe 27 = .ok (.bipush 10, 2) := by decide +kernel
theorem dX8_safe_29 : decode cX8_safe 29 = .ok (.idiv, 1) := by decide +kernel
theorem dX8_safe_30 : decode cX8_safe 30 = .ok (.iload 4, 2) := by decide +kernel
theorem dX8_safe_32 : decode cX8_safe 32 = .ok (.bipush 10, 2) := by decide +kernel
theorem dX8_safe_34 : decode cX8_safe 34 = .ok (.irem, 1) := by decide +kernel
theorem dX8_safe_35 : decode cX8_safe 35 = .ok (.invokevirtual 212, 3) := by decide +kernel
theorem dX8_safe_38 : decode cX8_safe 38 = .ok (.ifCond .ne 18, 3) := by decide +kernel
theorem dX8_safe_41 : decode cX8_safe 41 = .ok (.iinc 2 1, 3) := by decide +kernel
theorem dX8_safe_44 : decode cX8_safe 44 = .ok (.iload_n 3, 1) := by decide +kernel
theorem dX8_safe_45 : decode cX8_safe 45 = .ok (.iconst (-1), 1) := by decide +kernel
theorem dX8_safe_46 : decode cX8_safe 46 = .ok (.if_icmp .ne 8, 3) := by decide +kernel
theorem dX8_safe_49 : decode cX8_safe 49 = .ok (.iload 4, 2) := by decide +kernel
theorem dX8_safe_51 : decode cX8_safe 51 = .ok (.goto 4, 3) := by decide +kernel
theorem dX8_safe_54 : decode cX8_safe 54 = .ok (.iload_n 3, 1) := by decide +kernel
theorem dX8_safe_55 : decode cX8_safe 55 = .ok (.istore_n 3, 1) := by decide +kernel
theorem dX8_safe_56 : decode cX8_safe 56 = .ok (.iinc 4 1, 3) := by decide +kernel
theorem dX8_safe_59 : decode cX8_safe 59 = .ok (.goto (-42), 3) := by decide +kernel
theorem dX8_safe_62 : decode cX8_safe 62 = .ok (.iload_n 1, 1) := by decide +kernel
theorem dX8_safe_63 : decode cX8_safe 63 = .ok (.ifCond .ne 7, 3) := by decide +kernel
theorem dX8_safe_66 : decode cX8_safe 66 = .ok (.iload_n 2, 1) := by decide +kernel
theorem dX8_safe_67 : decode cX8_safe 67 = .ok (.goto 4, 3) := by decide +kernel
theorem dX8_safe_70 : decode cX8_safe 70 = .ok (.iload_n 3, 1) := by decide +kernel
theorem dX8_safe_71 : decode cX8_safe 71 = .ok (.ireturn, 1) := by decide +kernel
theorem dX8_order_0 : decode cX8_order 0 = .ok (.iload_n 1, 1) := by decide +kernel
theorem dX8_order_1 : decode cX8_order 1 = .ok (.ifCond .lt 9, 3) := by decide +kernel
theorem dX8_order_4 : decode cX8_order 4 = .ok (.iload_n 1, 1) := by decide +kernel
theorem dX8_order_5 : decode cX8_order 5 = .ok (.bipush 6, 2) := by decide +kernel
theorem dX8_order_7 : decode cX8_order 7 = .ok (.if_icmp .lt 6, 3) := by decide +kernel
theorem dX8_order_10 : decode cX8_order 10 = .ok (.bipush (-2), 2) := by decide +kernel
theorem dX8_order_12 : decode cX8_order 12 = .ok (.ireturn, 1) := by decide +kernel
theorem dX8_order_13 : decode cX8_order 13 = .ok (.aload_n 0, 1) := by decide +kernel
theorem dX8_order_14 : decode cX8_order 14 = .ok (.invokevirtual 215, 3) := by decide +kernel
theorem dX8_order_17 : decode cX8_order 17 = .ok (.aload_n 0, 1) := by decide +kernel
theorem dX8_order_18 : decode cX8_order 18 = .ok (.getfield 79, 3) := by decide +kernel
theorem dX8_order_21 : decode cX8_order 21 = .ok (.iload_n 1, 1) := by decide +kernel
theorem dX8_order_22 : decode cX8_order 22 = .ok (.invokevirtual 218, 3) := by decide +kernel
theorem dX8_order_25 : decode cX8_order 25 = .ok (.ireturn, 1) := by decide +kernel
theorem dX8_squeeze_0 : decode cX8_squeeze 0 = .ok (.iload_n 1, 1) := by decide +kernel
theorem dX8_squeeze_1 : decode cX8_squeeze 1 = .ok (.invokestatic 132, 3) := by decide +kernel
theorem dX8_squeeze_4 : decode cX8_squeeze 4 = .ok (.ifCond .ne 6, 3) := by decide +kernel
theorem dX8_squeeze_7 : decode cX8_squeeze 7 = .ok (.bipush (-2), 2) := by decide +kernel
theorem dX8_squeeze_9 : decode cX8_squeeze 9 = .ok (.ireturn, 1) := by decide +kernel
theorem dX8_squeeze_10 : decode cX8_squeeze 10 = .ok (.aload_n 0, 1) := by decide +kernel
theorem dX8_squeeze_11 : decode cX8_squeeze 11 = .ok (.invokevirtual 215, 3) := by decide +kernel
theorem dX8_squeeze_14 : decode cX8_squeeze 14 = .ok (.aload_n 0, 1) := by decide +kernel
theorem dX8_squeeze_15 : decode cX8_squeeze 15 = .ok (.getfield 79, 3) := by decide +kernel
theorem dX8_squeeze_18 : decode cX8_squeeze 18 = .ok (.invokevirtual 221, 3) := by decide +kernel
theorem dX8_squeeze_21 : decode cX8_squeeze 21 = .ok (.i2l, 1) := by decide +kernel
theorem dX8_squeeze_22 : decode cX8_squeeze 22 = .ok (.aload_n 0, 1) := by decide +kernel
theorem dX8_squeeze_23 : decode cX8_squeeze 23 = .ok (.getfield 79, 3) := by decide +kernel
theorem dX8_squeeze_26 : decode cX8_squeeze 26 = .ok (.invokevirtual 224, 3) := by decide +kernel
theorem dX8_squeeze_29 : decode cX8_squeeze 29 = .ok (.i2l, 1) := by decide +kernel
theorem dX8_squeeze_30 : decode cX8_squeeze 30 = .ok (.iload_n 1, 1) := by decide +kernel
theorem dX8_squeeze_31 : decode cX8_squeeze 31 = .ok (.invokestatic 183, 3) := by decide +kernel
theorem dX8_squeeze_34 : decode cX8_squeeze 34 = .ok (.l2i, 1) := by decide +kernel
theorem dX8_squeeze_35 : decode cX8_squeeze 35 = .ok (.ireturn, 1) := by decide +kernel
theorem dX8_train_0 : decode cX8_train 0 = .ok (.iload_n 1, 1) := by decide +kernel
theorem dX8_train_1 : decode cX8_train 1 = .ok (.invokestatic 227, 3) := by decide +kernel
theorem dX8_train_4 : decode cX8_train 4 = .ok (.ifCond .ne 6, 3) := by decide +kernel
theorem dX8_train_7 : decode cX8_train 7 = .ok (.bipush (-2), 2) := by decide +kernel
theorem dX8_train_9 : decode cX8_train 9 = .ok (.ireturn, 1) := by decide +kernel
theorem dX8_train_10 : decode cX8_train 10 = .ok (.aload_n 0, 1) := by decide +kernel
theorem dX8_train_11 : decode cX8_train 11 = .ok (.getfield 86, 3) := by decide +kernel
theorem dX8_train_14 : decode cX8_train 14 = .ok (.invokevirtual 230, 3) := by decide +kernel
theorem dX8_train_17 : decode cX8_train 17 = .ok (.ifCond .eq 6, 3) := by decide +kernel
theorem dX8_train_20 : decode cX8_train 20 = .ok (.bipush (-4), 2) := by decide +kernel
theorem dX8_train_22 : decode cX8_train 22 = .ok (.ireturn, 1) := by decide +kernel
theorem dX8_train_23 : decode cX8_train 23 = .ok (.aload_n 0, 1) := by decide +kernel
theorem dX8_train_24 : decode cX8_train 24 = .ok (.getfield 86, 3) := by decide +kernel
theorem dX8_train_27 : decode cX8_train 27 = .ok (.iload_n 1, 1) := by decide +kernel
theorem dX8_train_28 : decode cX8_train 28 = .ok (.invokevirtual 231, 3) := by decide +kernel
theorem dX8_train_31 : decode cX8_train 31 = .ok (.aload_n 0, 1) := by decide +kernel
theorem dX8_train_32 : decode cX8_train 32 = .ok (.getfield 86, 3) := by decide +kernel
theorem dX8_train_35 : decode cX8_train 35 = .ok (.invokevirtual 234, 3) := by decide +kernel
theorem dX8_train_38 : decode cX8_train 38 = .ok (.ireturn, 1) := by decide +kernel
theorem dX8_back_0 : decode cX8_back 0 = .ok (.aload_n 0, 1) := by decide +kernel
theorem dX8_back_1 : decode cX8_back 1 = .ok (.getfield 86, 3) := by decide +kernel
theorem dX8_back_4 : decode cX8_back 4 = .ok (.invokevirtual 234, 3) := by decide +kernel
theorem dX8_back_7 : decode cX8_back 7 = .ok (.ifCond .ne 6, 3) := by decide +kernel
theorem dX8_back_10 : decode cX8_back 10 = .ok (.bipush (-3), 2) := by decide +kernel
theorem dX8_back_12 : decode cX8_back 12 = .ok (.ireturn, 1) := by decide +kernel
theorem dX8_back_13 : decode cX8_back 13 = .ok (.aload_n 0, 1) := by decide +kernel
theorem dX8_back_14 : decode cX8_back 14 = .ok (.getfield 86, 3) := by decide +kernel
theorem dX8_back_17 : decode cX8_back 17 = .ok (.invokevirtual 235, 3) := by decide +kernel
theorem dX8_back_20 : decode cX8_back 20 = .ok (.aload_n 0, 1) := by decide +kernel
theorem dX8_back_21 : decode cX8_back 21 = .ok (.getfield 86, 3) := by decide +kernel
theorem dX8_back_24 : decode cX8_back 24 = .ok (.invokevirtual 234, 3) := by decide +kernel
theorem dX8_back_27 : decode cX8_back 27 = .ok (.ireturn, 1) := by decide +kernel
theorem dX8_read_0 : decode cX8_read 0 = .ok (.aload_n 0, 1) := by decide +kernel
theorem dX8_read_1 : decode cX8_read 1 = .ok (.iload_n 1, 1) := by decide +kernel
theorem dX8_read_2 : decode cX8_read 2 = .ok (.invokevirtual 238, 3) := by decide +kernel
theorem dX8_read_5 : decode cX8_read 5 = .ok (.astore_n 2, 1) := by decide +kernel
theorem dX8_read_6 : decode cX8_read 6 = .ok (.aload_n 2, 1) := by decide +kernel
theorem dX8_read_7 : decode cX8_read 7 = .ok (.ifnonnull 6, 3) := by decide +kernel
theorem dX8_read_10 : decode cX8_read 10 = .ok (.bipush (-2), 2) := by decide +kernel
theorem dX8_read_12 : decode cX8_read 12 = .ok (.ireturn, 1) := by decide +kernel
theorem dX8_read_13 : decode cX8_read 13 = .ok (.aload_n 2, 1) := by decide +kernel
theorem dX8_read_14 : decode cX8_read 14 = .ok (.invokevirtual 242, 3) := by decide +kernel
theorem dX8_read_17 : decode cX8_read 17 = .ok (.ifCond .eq 9, 3) := by decide +kernel
theorem dX8_read_20 : decode cX8_read 20 = .ok (.aload_n 0, 1) := by decide +kernel
theorem dX8_read_21 : decode cX8_read 21 = .ok (.iconst 1, 1) := by decide +kernel
theorem dX8_read_22 : decode cX8_read 22 = .ok (.invokevirtual 245, 3) := by decide +kernel
theorem dX8_read_25 : decode cX8_read 25 = .ok (.ireturn, 1) := by decide +kernel
theorem dX8_read_26 : decode cX8_read 26 = .ok (.iconst 0, 1) := by decide +kernel
theorem dX8_read_27 : decode cX8_read 27 = .ok (.istore_n 3, 1) := by decide +kernel
theorem dX8_read_28 : decode cX8_read 28 = .ok (.iload_n 3, 1) := by decide +kernel
theorem dX8_read_29 : decode cX8_read 29 = .ok (.aload_n 2, 1) := by decide +kernel
theorem dX8_read_30 : decode cX8_read 30 = .ok (.invokevirtual 248, 3) := by decide +kernel
theorem dX8_read_33 : decode cX8_read 33 = .ok (.if_icmp .ge 42, 3) := by decide +kernel
theorem dX8_read_36 : decode cX8_read 36 = .ok (.aload_n 0, 1) := by decide +kernel
theorem dX8_read_37 : decode cX8_read 37 = .ok (.getfield 86, 3) := by decide +kernel
theorem dX8_read_40 : decode cX8_read 40 = .ok (.invokevirtual 230, 3) := by decide +kernel
theorem dX8_read_43 : decode cX8_read 43 = .ok (.ifCond .ne 32, 3) := by decide +kernel
theorem dX8_read_46 : decode cX8_read 46 = .ok (.aload_n 2, 1) := by decide +kernel
theorem dX8_read_47 : decode cX8_read 47 = .ok (.iload_n 3, 1) := by decide +kernel
theorem dX8_read_48 : decode cX8_read 48 = .ok (.invokevirtual 249, 3) := by decide +kernel
theorem dX8_read_51 : decode cX8_read 51 = .ok (.invokestatic 227, 3) := by decide +kernel
theorem dX8_read_54 : decode cX8_read 54 = .ok (.ifCond .eq 21, 3) := by decide +kernel
theorem dX8_read_57 : decode cX8_read 57 = .ok (.aload_n 0, 1) := by decide +kernel
theorem dX8_read_58 : decode cX8_read 58 = .ok (.getfield 86, 3) := by decide +kernel
theorem dX8_read_61 : decode cX8_read 61 = .ok (.aload_n 2, 1) := by decide +kernel
theorem dX8_read_62 : decode cX8_read 62 = .ok (.iload_n 3, 1) := by decide +kernel
theorem dX8_read_63 : decode cX8_read 63 = .ok (.invokevirtual 249, 3) := by decide +kernel
theorem dX8_read_66 : decode cX8_read 66 = .ok (.invokevirtual 231, 3) := by decide +kernel
theorem dX8_read_69 : decode cX8_read 69 = .ok (.iinc 3 1, 3) := by decide +kernel
theorem dX8_read_72 : decode cX8_read 72 = .ok (.goto (-44), 3) := by decide +kernel
theorem dX8_read_75 : decode cX8_read 75 = .ok (.iload_n 3, 1) := by decide +kernel
theorem dX8_read_76 : decode cX8_read 76 = .ok (.ireturn, 1) := by decide +kernel
theorem dX8_late_0 : decode cX8_late 0 = .ok (.iload_n 1, 1) := by decide +kernel
theorem dX8_late_1 : decode cX8_late 1 = .ok (.iconst 1, 1) := by decide +kernel
theorem dX8_late_2 : decode cX8_late 2 = .ok (.if_icmp .lt 16, 3) := by decide +kernel
theorem dX8_late_5 : decode cX8_late 5 = .ok (.iload_n 1, 1) := by decide +kernel
theorem dX8_late_6 : decode cX8_late 6 = .ok (.bipush 6, 2) := by decide +kernel
theorem dX8_late_8 : decode cX8_late 8 = .ok (.if_icmp .gt 10, 3) := by decide +kernel
theorem dX8_late_11 : decode cX8_late 11 = .ok (.iload_n 2, 1) := by decide +kernel
theorem dX8_late_12 : decode cX8_late 12 = .ok (.invokestatic 132, 3) := by decide +kernel
theorem dX8_late_15 : decode cX8_late 15 = .ok (.ifCond .ne 6, 3) := by decide +kernel
theorem dX8_late_18 : decode cX8_late 18 = .ok (.bipush (-2), 2) := by decide +kernel
theorem dX8_late_20 : decode cX8_late 20 = .ok (.ireturn, 1) := by decide +kernel
theorem dX8_late_21 : decode cX8_late 21 = .ok (.aload_n 0, 1) := by decide +kernel
theorem dX8_late_22 : decode cX8_late 22 = .ok (.getfield 86, 3) := by decide +kernel
theorem dX8_late_25 : decode cX8_late 25 = .ok (.iload_n 1, 1) := by decide +kernel
theorem dX8_late_26 : decode cX8_late 26 = .ok (.aload_n 0, 1) := by decide +kernel
theorem dX8_late_27 : decode cX8_late 27 = .ok (.invokevirtual 252, 3) := by decide +kernel
theorem dX8_late_30 : decode cX8_late 30 = .ok (.invokevirtual 255, 3) := by decide +kernel
theorem dX8_late_33 : decode cX8_late 33 = .ok (.iload_n 2, 1) := by decide +kernel
theorem dX8_late_34 : decode cX8_late 34 = .ok (.ifCond .ne 13, 3) := by decide +kernel
theorem dX8_late_37 : decode cX8_late 37 = .ok (.aload_n 0, 1) := by decide +kernel
theorem dX8_late_38 : decode cX8_late 38 = .ok (.getfield 86, 3) := by decide +kernel
theorem dX8_late_41 : decode cX8_late 41 = .ok (.invokevirtual 259, 3) := by decide +kernel
theorem dX8_late_44 : decode cX8_late 44 = .ok (.goto 10, 3) := by decide +kernel
theorem dX8_late_47 : decode cX8_late 47 = .ok (.aload_n 0, 1) := by decide +kernel
theorem dX8_late_48 : decode cX8_late 48 = .ok (.getfield 86, 3) := by decide +kernel
theorem dX8_late_51 : decode cX8_late 51 = .ok (.invokevirtual 262, 3) := by decide +kernel
theorem dX8_late_54 : decode cX8_late 54 = .ok (.ireturn, 1) := by decide +kernel
theorem dX8_enough_0 : decode cX8_enough 0 = .ok (.iload_n 1, 1) := by decide +kernel
theorem dX8_enough_1 : decode cX8_enough 1 = .ok (.ifCond .lt 10, 3) := by decide +kernel
theorem dX8_enough_4 : decode cX8_enough 4 = .ok (.iload_n 1, 1) := by decide +kernel
theorem dX8_enough_5 : decode cX8_enough 5 = .ok (.sipush 999, 3) := by decide +kernel
theorem dX8_enough_8 : decode cX8_enough 8 = .ok (.if_icmp .le 6, 3) := by decide +kernel
theorem dX8_enough_11 : decode cX8_enough 11 = .ok (.bipush (-2), 2) := by decide +kernel
theorem dX8_enough_13 : decode cX8_enough 13 = .ok (.ireturn, 1) := by decide +kernel
theorem dX8_enough_14 : decode cX8_enough 14 = .ok (.iconst 1, 1) := by decide +kernel
theorem dX8_enough_15 : decode cX8_enough 15 = .ok (.istore_n 2, 1) := by decide +kernel
theorem dX8_enough_16 : decode cX8_enough 16 = .ok (.iload_n 2, 1) := by decide +kernel
theorem dX8_enough_17 : decode cX8_enough 17 = .ok (.bipush 6, 2) := by decide +kernel
theorem dX8_enough_19 : decode cX8_enough 19 = .ok (.if_icmp .gt 34, 3) := by decide +kernel
theorem dX8_enough_22 : decode cX8_enough 22 = .ok (.aload_n 0, 1) := by decide +kernel
theorem dX8_enough_23 : decode cX8_enough 23 = .ok (.getfield 86, 3) := by decide +kernel
theorem dX8_enough_26 : decode cX8_enough 26 = .ok (.iload_n 2, 1) := by decide +kernel
theorem dX8_enough_27 : decode cX8_enough 27 = .ok (.aload_n 0, 1) := by decide +kernel
theorem dX8_enough_28 : decode cX8_enough 28 = .ok (.invokevirtual 252, 3) := by decide +kernel
theorem dX8_enough_31 : decode cX8_enough 31 = .ok (.invokevirtual 255, 3) := by decide +kernel
theorem dX8_enough_34 : decode cX8_enough 34 = .ok (.aload_n 0, 1) := by decide +kernel
theorem dX8_enough_35 : decode cX8_enough 35 = .ok (.getfield 86, 3) := by decide +kernel
theorem dX8_enough_38 : decode cX8_enough 38 = .ok (.invokevirtual 262, 3) := by decide +kernel
theorem dX8_enough_41 : decode cX8_enough 41 = .ok (.iload_n 1, 1) := by decide +kernel
theorem dX8_enough_42 : decode cX8_enough 42 = .ok (.if_icmp .gt 5, 3) := by decide +kernel
theorem dX8_enough_45 : decode cX8_enough 45 = .ok (.iload_n 2, 1) := by decide +kernel
theorem dX8_enough_46 : decode cX8_enough 46 = .ok (.ireturn, 1) := by decide +kernel
theorem dX8_enough_47 : decode cX8_enough 47 = .ok (.iinc 2 1, 3) := by decide +kernel
theorem dX8_enough_50 : decode cX8_enough 50 = .ok (.goto (-34), 3) := by decide +kernel
theorem dX8_enough_53 : decode cX8_enough 53 = .ok (.iconst (-1), 1) := by decide +kernel
theorem dX8_enough_54 : decode cX8_enough 54 = .ok (.ireturn, 1) := by decide +kernel
theorem dX8_whistles_0 : decode cX8_whistles 0 = .ok (.iload_n 1, 1) := by decide +kernel
theorem dX8_whistles_1 : decode cX8_whistles 1 = .ok (.ifCond .lt 23, 3) := by decide +kernel
theorem dX8_whistles_4 : decode cX8_whistles 4 = .ok (.iload_n 1, 1) := by decide +kernel
theorem dX8_whistles_5 : decode cX8_whistles 5 = .ok (.bipush 9, 2) := by decide +kernel
theorem dX8_whistles_7 : decode cX8_whistles 7 = .ok (.if_icmp .gt 17, 3) := by decide +kernel
theorem dX8_whistles_10 : decode cX8_whistles 10 = .ok (.iload_n 2, 1) := by decide +kernel
theorem dX8_whistles_11 : decode cX8_whistles 11 = .ok (.ifCond .lt 13, 3) := by decide +kernel
theorem dX8_whistles_14 : decode cX8_whistles 14 = .ok (.iload_n 2, 1) := by decide +kernel
theorem dX8_whistles_15 : decode cX8_whistles 15 = .ok (.bipush 16, 2) := by decide +kernel
theorem dX8_whistles_17 : decode cX8_whistles 17 = .ok (.if_icmp .gt 7, 3) := by decide +kernel
theorem dX8_whistles_20 : decode cX8_whistles 20 = .ok (.iconst 1, 1) := by decide +kernel
theorem dX8_whistles_21 : decode cX8_whistles 21 = .ok (.goto 4, 3) := by decide +kernel
theorem dX8_whistles_24 : decode cX8_whistles 24 = .ok (.iconst 0, 1) := by decide +kernel
theorem dX8_whistles_25 : decode cX8_whistles 25 = .ok (.istore 5, 2) := by decide +kernel
theorem dX8_whistles_27 : decode cX8_whistles 27 = .ok (.iload 5, 2) := by decide +kernel
theorem dX8_whistles_29 : decode cX8_whistles 29 = .ok (.ifCond .eq 20, 3) := by decide +kernel
theorem dX8_whistles_32 : decode cX8_whistles 32 = .ok (.iload_n 3, 1) := by decide +kernel
theorem dX8_whistles_33 : decode cX8_whistles 33 = .ok (.ifCond .lt 16, 3) := by decide +kernel
theorem dX8_whistles_36 : decode cX8_whistles 36 = .ok (.iload_n 3, 1) := by decide +kernel
theorem dX8_whistles_37 : decode cX8_whistles 37 = .ok (.iload_n 1, 1) := by decide +kernel
theorem dX8_whistles_38 : decode cX8_whistles 38 = .ok (.if_icmp .gt 11, 3) := by decide +kernel
theorem dX8_whistles_41 : decode cX8_whistles 41 = .ok (.iload 4, 2) := by decide +kernel
theorem dX8_whistles_43 : decode cX8_whistles 43 = .ok (.invokestatic 132, 3) := by decide +kernel
theorem dX8_whistles_46 : decode cX8_whistles 46 = .ok (.ifCond .ne 9, 3) := by decide +kernel
theorem dX8_whistles_49 : decode cX8_whistles 49 = .ok (.bipush (-2), 2) := by decide +kernel
theorem dX8_whistles_51 : decode cX8_whistles 51 = .ok (.invokestatic 172, 3) := by decide +kernel
theorem dX8_whistles_54 : decode cX8_whistles 54 = .ok (.lreturn, 1) := by decide +kernel
theorem dX8_whistles_55 : decode cX8_whistles 55 = .ok (.iload_n 2, 1) := by decide +kernel
theorem dX8_whistles_56 : decode cX8_whistles 56 = .ok (.iload_n 3, 1) := by decide +kernel
theorem dX8_whistles_57 : decode cX8_whistles 57 = .ok (.invokestatic 265, 3) := by decide +kernel
theorem dX8_whistles_60 : decode cX8_whistles 60 = .ok (.lstore 6, 2) := by decide +kernel
theorem dX8_whistles_62 : decode cX8_whistles 62 = .ok (.bipush 16, 2) := by decide +kernel
theorem dX8_whistles_64 : decode cX8_whistles 64 = .ok (.iload_n 2, 1) := by decide +kernel
theorem dX8_whistles_65 : decode cX8_whistles 65 = .ok (.isub, 1) := by decide +kernel
theorem dX8_whistles_66 : decode cX8_whistles 66 = .ok (.iload_n 1, 1) := by decide +kernel
theorem dX8_whistles_67 : decode cX8_whistles 67 = .ok (.iload_n 3, 1) := by decide +kernel
theorem dX8_whistles_68 : decode cX8_whistles 68 = .ok (.isub, 1) := by decide +kernel
theorem dX8_whistles_69 : decode cX8_whistles 69 = .ok (.invokestatic 265, 3) := by decide +kernel
theorem dX8_whistles_72 : decode cX8_whistles 72 = .ok (.lstore 8, 2) := by decide +kernel
theorem dX8_whistles_74 : decode cX8_whistles 74 = .ok (.iload_n 1, 1) := by decide +kernel
theorem dX8_whistles_75 : decode cX8_whistles 75 = .ok (.iload_n 3, 1) := by decide +kernel
theorem dX8_whistles_76 : decode cX8_whistles 76 = .ok (.invokestatic 269, 3) := by decide +kernel
theorem dX8_whistles_79 : decode cX8_whistles 79 = .ok (.lload 6, 2) := by decide +kernel
theorem dX8_whistles_81 : decode cX8_whistles 81 = .ok (.lmul, 1) := by decide +kernel
theorem dX8_whistles_82 : decode cX8_whistles 82 = .ok (.lload 8, 2) := by decide +kernel
theorem dX8_whistles_84 : decode cX8_whistles 84 = .ok (.lmul, 1) := by decide +kernel
theorem dX8_whistles_85 : decode cX8_whistles 85 = .ok (.bipush 16, 2) := by decide +kernel
theorem dX8_whistles_87 : decode cX8_whistles 87 = .ok (.iload_n 1, 1) := by decide +kernel
theorem dX8_whistles_88 : decode cX8_whistles 88 = .ok (.invokestatic 265, 3) := by decide +kernel
theorem dX8_whistles_91 : decode cX8_whistles 91 = .ok (.iload 4, 2) := by decide +kernel
theorem dX8_whistles_93 : decode cX8_whistles 93 = .ok (.invokestatic 183, 3) := by decide +kernel
theorem dX8_whistles_96 : decode cX8_whistles 96 = .ok (.lreturn, 1) := by decide +kernel
theorem dX8_words_0 : decode cX8_words 0 = .ok (.iload_n 1, 1) := by decide +kernel
theorem dX8_words_1 : decode cX8_words 1 = .ok (.ifCond .lt 9, 3) := by decide +kernel
theorem dX8_words_4 : decode cX8_words 4 = .ok (.iload_n 1, 1) := by decide +kernel
theorem dX8_words_5 : decode cX8_words 5 = .ok (.bipush 9, 2) := by decide +kernel
theorem dX8_words_7 : decode cX8_words 7 = .ok (.if_icmp .le 6, 3) := by decide +kernel
theorem dX8_words_10 : decode cX8_words 10 = .ok (.bipush (-2), 2) := by decide +kernel
theorem dX8_words_12 : decode cX8_words 12 = .ok (.ireturn, 1) := by decide +kernel
theorem dX8_words_13 : decode cX8_words 13 = .ok (.iconst 1, 1) := by decide +kernel
theorem dX8_words_14 : decode cX8_words 14 = .ok (.bipush 8, 2) := by decide +kernel
theorem dX8_words_16 : decode cX8_words 16 = .ok (.iload_n 1, 1) := by decide +kernel
theorem dX8_words_17 : decode cX8_words 17 = .ok (.iconst 1, 1) := by decide +kernel
theorem dX8_words_18 : decode cX8_words 18 = .ok (.iadd, 1) := by decide +kernel
theorem dX8_words_19 : decode cX8_words 19 = .ok (.idiv, 1) := by decide +kernel
theorem dX8_words_20 : decode cX8_words 20 = .ok (.iadd, 1) := by decide +kernel
theorem dX8_words_21 : decode cX8_words 21 = .ok (.ireturn, 1) := by decide +kernel
theorem dX8_sheet_0 : decode cX8_sheet 0 = .ok (.aload_n 0, 1) := by decide +kernel
theorem dX8_sheet_1 : decode cX8_sheet 1 = .ok (.iload_n 1, 1) := by decide +kernel
theorem dX8_sheet_2 : decode cX8_sheet 2 = .ok (.invokevirtual 238, 3) := by decide +kernel
theorem dX8_sheet_5 : decode cX8_sheet 5 = .ok (.astore 4, 2) := by decide +kernel
theorem dX8_sheet_7 : decode cX8_sheet 7 = .ok (.aload 4, 2) := by decide +kernel
theorem dX8_sheet_9 : decode cX8_sheet 9 = .ok (.ifnull 16, 3) := by decide +kernel
theorem dX8_sheet_12 : decode cX8_sheet 12 = .ok (.iload_n 2, 1) := by decide +kernel
theorem dX8_sheet_13 : decode cX8_sheet 13 = .ok (.invokestatic 272, 3) := by decide +kernel
theorem dX8_sheet_16 : decode cX8_sheet 16 = .ok (.ifCond .eq 9, 3) := by decide +kernel
theorem dX8_sheet_19 : decode cX8_sheet 19 = .ok (.iload_n 3, 1) := by decide +kernel
theorem dX8_sheet_20 : decode cX8_sheet 20 = .ok (.bipush 60, 2) := by decide +kernel
theorem dX8_sheet_22 : decode cX8_sheet 22 = .ok (.if_icmp .le 6, 3) := by decide +kernel
theorem dX8_sheet_25 : decode cX8_sheet 25 = .ok (.bipush (-2), 2) := by decide +kernel
theorem dX8_sheet_27 : decode cX8_sheet 27 = .ok (.ireturn, 1) := by decide +kernel
theorem dX8_sheet_28 : decode cX8_sheet 28 = .ok (.iload_n 3, 1) := by decide +kernel
theorem dX8_sheet_29 : decode cX8_sheet 29 = .ok (.ifCond .ge 9, 3) := by decide +kernel
theorem dX8_sheet_32 : decode cX8_sheet 32 = .ok (.aload_n 0, 1) := by decide +kernel
theorem dX8_sheet_33 : decode cX8_sheet 33 = .ok (.iconst 5, 1) := by decide +kernel
theorem dX8_sheet_34 : decode cX8_sheet 34 = .ok (.invokevirtual 245, 3) := by decide +kernel
theorem dX8_sheet_37 : decode cX8_sheet 37 = .ok (.ireturn, 1) := by decide +kernel
theorem dX8_sheet_38 : decode cX8_sheet 38 = .ok (.aload 4, 2) := by decide +kernel
theorem dX8_sheet_40 : decode cX8_sheet 40 = .ok (.iload_n 2, 1) := by decide +kernel
theorem dX8_sheet_41 : decode cX8_sheet 41 = .ok (.iload_n 3, 1) := by decide +kernel
theorem dX8_sheet_42 : decode cX8_sheet 42 = .ok (.invokevirtual 275, 3) := by decide +kernel
theorem dX8_sheet_45 : decode cX8_sheet 45 = .ok (.iload_n 3, 1) := by decide +kernel
theorem dX8_sheet_46 : decode cX8_sheet 46 = .ok (.ireturn, 1) := by decide +kernel
theorem dX8_lose_0 : decode cX8_lose 0 = .ok (.aload_n 0, 1) := by decide +kernel
theorem dX8_lose_1 : decode cX8_lose 1 = .ok (.iload_n 1, 1) := by decide +kernel
theorem dX8_lose_2 : decode cX8_lose 2 = .ok (.invokevirtual 238, 3) := by decide +kernel
theorem dX8_lose_5 : decode cX8_lose 5 = .ok (.astore_n 2, 1) := by decide +kernel
theorem dX8_lose_6 : decode cX8_lose 6 = .ok (.aload_n 2, 1) := by decide +kernel
theorem dX8_lose_7 : decode cX8_lose 7 = .ok (.ifnonnull 6, 3) := by decide +kernel
theorem dX8_lose_10 : decode cX8_lose 10 = .ok (.bipush (-2), 2) := by decide +kernel
theorem dX8_lose_12 : decode cX8_lose 12 = .ok (.ireturn, 1) := by decide +kernel
theorem dX8_lose_13 : decode cX8_lose 13 = .ok (.aload_n 2, 1) := by decide +kernel
theorem dX8_lose_14 : decode cX8_lose 14 = .ok (.invokevirtual 242, 3) := by decide +kernel
theorem dX8_lose_17 : decode cX8_lose 17 = .ok (.ifCond .eq 9, 3) := by decide +kernel
theorem dX8_lose_20 : decode cX8_lose 20 = .ok (.aload_n 0, 1) := by decide +kernel
theorem dX8_lose_21 : decode cX8_lose 21 = .ok (.iconst 1, 1) := by decide +kernel
theorem dX8_lose_22 : decode cX8_lose 22 = .ok (.invokevirtual 245, 3) := by decide +kernel
theorem dX8_lose_25 : decode cX8_lose 25 = .ok (.ireturn, 1) := by decide +kernel
theorem dX8_lose_26 : decode cX8_lose 26 = .ok (.aload_n 2, 1) := by decide +kernel
theorem dX8_lose_27 : decode cX8_lose 27 = .ok (.invokevirtual 248, 3) := by decide +kernel
theorem dX8_lose_30 : decode cX8_lose 30 = .ok (.istore_n 3, 1) := by decide +kernel
theorem dX8_lose_31 : decode cX8_lose 31 = .ok (.aload_n 2, 1) := by decide +kernel
theorem dX8_lose_32 : decode cX8_lose 32 = .ok (.invokevirtual 278, 3) := by decide +kernel
theorem dX8_lose_35 : decode cX8_lose 35 = .ok (.iload_n 3, 1) := by decide +kernel
theorem dX8_lose_36 : decode cX8_lose 36 = .ok (.ireturn, 1) := by decide +kernel
theorem dX8_lay_0 : decode cX8_lay 0 = .ok (.aload_n 0, 1) := by decide +kernel
theorem dX8_lay_1 : decode cX8_lay 1 = .ok (.iload_n 1, 1) := by decide +kernel
theorem dX8_lay_2 : decode cX8_lay 2 = .ok (.invokevirtual 238, 3) := by decide +kernel
theorem dX8_lay_5 : decode cX8_lay 5 = .ok (.astore 5, 2) := by decide +kernel
theorem dX8_lay_7 : decode cX8_lay 7 = .ok (.aload 5, 2) := by decide +kernel
theorem dX8_lay_9 : decode cX8_lay 9 = .ok (.ifnull 10, 3) := by decide +kernel
theorem dX8_lay_12 : decode cX8_lay 12 = .ok (.iload_n 2, 1) := by decide +kernel
theorem dX8_lay_13 : decode cX8_lay 13 = .ok (.invokestatic 272, 3) := by decide +kernel
theorem dX8_lay_16 : decode cX8_lay 16 = .ok (.ifCond .ne 6, 3) := by decide +kernel
theorem dX8_lay_19 : decode cX8_lay 19 = .ok (.bipush (-2), 2) := by decide +kernel
theorem dX8_lay_21 : decode cX8_lay 21 = .ok (.ireturn, 1) := by decide +kernel
theorem dX8_lay_22 : decode cX8_lay 22 = .ok (.aload 5, 2) := by decide +kernel
theorem dX8_lay_24 : decode cX8_lay 24 = .ok (.iload_n 2, 1) := by decide +kernel
theorem dX8_lay_25 : decode cX8_lay 25 = .ok (.iload_n 3, 1) := by decide +kernel
theorem dX8_lay_26 : decode cX8_lay 26 = .ok (.invokestatic 281, 3) := by decide +kernel
theorem dX8_lay_29 : decode cX8_lay 29 = .ok (.istore 6, 2) := by decide +kernel
theorem dX8_lay_31 : decode cX8_lay 31 = .ok (.iload 6, 2) := by decide +kernel
theorem dX8_lay_33 : decode cX8_lay 33 = .ok (.ifCond .eq 10, 3) := by decide +kernel
theorem dX8_lay_36 : decode cX8_lay 36 = .ok (.aload_n 0, 1) := by decide +kernel
theorem dX8_lay_37 : decode cX8_lay 37 = .ok (.iload 6, 2) := by decide +kernel
theorem dX8_lay_39 : decode cX8_lay 39 = .ok (.invokevirtual 245, 3) := by decide +kernel
theorem dX8_lay_42 : decode cX8_lay 42 = .ok (.ireturn, 1) := by decide +kernel
theorem dX8_lay_43 : decode cX8_lay 43 = .ok (.aload 5, 2) := by decide +kernel
theorem dX8_lay_45 : decode cX8_lay 45 = .ok (.iload_n 3, 1) := by decide +kernel
theorem dX8_lay_46 : decode cX8_lay 46 = .ok (.iload 4, 2) := by decide +kernel
theorem dX8_lay_48 : decode cX8_lay 48 = .ok (.invokevirtual 285, 3) := by decide +kernel
theorem dX8_lay_51 : decode cX8_lay 51 = .ok (.iconst 1, 1) := by decide +kernel
theorem dX8_lay_52 : decode cX8_lay 52 = .ok (.ireturn, 1) := by decide +kernel
theorem dX8_get_0 : decode cX8_get 0 = .ok (.aload_n 0, 1) := by decide +kernel
theorem dX8_get_1 : decode cX8_get 1 = .ok (.iload_n 1, 1) := by decide +kernel
theorem dX8_get_2 : decode cX8_get 2 = .ok (.invokevirtual 238, 3) := by decide +kernel
theorem dX8_get_5 : decode cX8_get 5 = .ok (.astore 4, 2) := by decide +kernel
theorem dX8_get_7 : decode cX8_get 7 = .ok (.aload 4, 2) := by decide +kernel
theorem dX8_get_9 : decode cX8_get 9 = .ok (.ifnull 10, 3) := by decide +kernel
theorem dX8_get_12 : decode cX8_get 12 = .ok (.iload_n 2, 1) := by decide +kernel
theorem dX8_get_13 : decode cX8_get 13 = .ok (.invokestatic 272, 3) := by decide +kernel
theorem dX8_get_16 : decode cX8_get 16 = .ok (.ifCond .ne 7, 3) := by decide +kernel
theorem dX8_get_19 : decode cX8_get 19 = .ok (.ldc_w 288, 3) := by decide +kernel
theorem dX8_get_22 : decode cX8_get 22 = .ok (.ireturn, 1) := by decide +kernel
theorem dX8_get_23 : decode cX8_get 23 = .ok (.aload 4, 2) := by decide +kernel
theorem dX8_get_25 : decode cX8_get 25 = .ok (.iload_n 2, 1) := by decide +kernel
theorem dX8_get_26 : decode cX8_get 26 = .ok (.iload_n 3, 1) := by decide +kernel
theorem dX8_get_27 : decode cX8_get 27 = .ok (.invokestatic 281, 3) := by decide +kernel
theorem dX8_get_30 : decode cX8_get 30 = .ok (.istore 5, 2) := by decide +kernel
theorem dX8_get_32 : decode cX8_get 32 = .ok (.iload 5, 2) := by decide +kernel
theorem dX8_get_34 : decode cX8_get 34 = .ok (.ifCond .eq 14, 3) := by decide +kernel
theorem dX8_get_37 : decode cX8_get 37 = .ok (.aload_n 0, 1) := by decide +kernel
theorem dX8_get_38 : decode cX8_get 38 = .ok (.iload 5, 2) := by decide +kernel
theorem dX8_get_40 : decode cX8_get 40 = .ok (.invokevirtual 245, 3) := by decide +kernel
theorem dX8_get_43 : decode cX8_get 43 = .ok (.pop, 1) := by decide +kernel
theorem dX8_get_44 : decode cX8_get 44 = .ok (.ldc_w 288, 3) := by decide +kernel
theorem dX8_get_47 : decode cX8_get 47 = .ok (.ireturn, 1) := by decide +kernel
theorem dX8_get_48 : decode cX8_get 48 = .ok (.aload 4, 2) := by decide +kernel
theorem dX8_get_50 : decode cX8_get 50 = .ok (.iload_n 3, 1) := by decide +kernel
theorem dX8_get_51 : decode cX8_get 51 = .ok (.invokevirtual 249, 3) := by decide +kernel
theorem dX8_get_54 : decode cX8_get 54 = .ok (.ireturn, 1) := by decide +kernel
theorem dX8_copy_0 : decode cX8_copy 0 = .ok (.aload_n 0, 1) := by decide +kernel
theorem dX8_copy_1 : decode cX8_copy 1 = .ok (.iload_n 1, 1) := by decide +kernel
theorem dX8_copy_2 : decode cX8_copy 2 = .ok (.invokevirtual 238, 3) := by decide +kernel
theorem dX8_copy_5 : decode cX8_copy 5 = .ok (.astore 6, 2) := by decide +kernel
theorem dX8_copy_7 : decode cX8_copy 7 = .ok (.aload_n 0, 1) := by decide +kernel
theorem dX8_copy_8 : decode cX8_copy 8 = .ok (.iload_n 3, 1) := by decide +kernel
theorem dX8_copy_9 : decode cX8_copy 9 = .ok (.invokevirtual 238, 3) := by decide +kernel
theorem dX8_copy_12 : decode cX8_copy 12 = .ok (.astore 7, 2) := by decide +kernel
theorem dX8_copy_14 : decode cX8_copy 14 = .ok (.aload 6, 2) := by decide +kernel
theorem dX8_copy_16 : decode cX8_copy 16 = .ok (.ifnull 8, 3) := by decide +kernel
theorem dX8_copy_19 : decode cX8_copy 19 = .ok (.aload 7, 2) := by decide +kernel
theorem dX8_copy_21 : decode cX8_copy 21 = .ok (.ifnonnull 6, 3) := by decide +kernel
theorem dX8_copy_24 : decode cX8_copy 24 = .ok (.bipush (-2), 2) := by decide +kernel
theorem dX8_copy_26 : decode cX8_copy 26 = .ok (.ireturn, 1) := by decide +kernel
theorem dX8_copy_27 : decode cX8_copy 27 = .ok (.aload 6, 2) := by decide +kernel
theorem dX8_copy_29 : decode cX8_copy 29 = .ok (.invokevirtual 242, 3) := by decide +kernel
theorem dX8_copy_32 : decode cX8_copy 32 = .ok (.ifCond .ne 11, 3) := by decide +kernel
theorem dX8_copy_35 : decode cX8_copy 35 = .ok (.aload 7, 2) := by decide +kernel
theorem dX8_copy_37 : decode cX8_copy 37 = .ok (.invokevirtual 242, 3) := by decide +kernel
theorem dX8_copy_40 : decode cX8_copy 40 = .ok (.ifCond .eq 9, 3) := by decide +kernel
theorem dX8_copy_43 : decode cX8_copy 43 = .ok (.aload_n 0, 1) := by decide +kernel
theorem dX8_copy_44 : decode cX8_copy 44 = .ok (.iconst 1, 1) := by decide +kernel
theorem dX8_copy_45 : decode cX8_copy 45 = .ok (.invokevirtual 245, 3) := by decide +kernel
theorem dX8_copy_48 : decode cX8_copy 48 = .ok (.ireturn, 1) := by decide +kernel
theorem dX8_copy_49 : decode cX8_copy 49 = .ok (.aload 6, 2) := by decide +kernel
theorem dX8_copy_51 : decode cX8_copy 51 = .ok (.aload 7, 2) := by decide +kernel
theorem dX8_copy_53 : decode cX8_copy 53 = .ok (.invokevirtual 289, 3) := by decide +kernel
theorem dX8_copy_56 : decode cX8_copy 56 = .ok (.invokevirtual 292, 3) := by decide +kernel
theorem dX8_copy_59 : decode cX8_copy 59 = .ok (.ifCond .ne 9, 3) := by decide +kernel
theorem dX8_copy_62 : decode cX8_copy 62 = .ok (.aload_n 0, 1) := by decide +kernel
theorem dX8_copy_63 : decode cX8_copy 63 = .ok (.iconst 4, 1) := by decide +kernel
theorem dX8_copy_64 : decode cX8_copy 64 = .ok (.invokevirtual 245, 3) := by decide +kernel
theorem dX8_copy_67 : decode cX8_copy 67 = .ok (.ireturn, 1) := by decide +kernel
theorem dX8_copy_68 : decode cX8_copy 68 = .ok (.aload 6, 2) := by decide +kernel
theorem dX8_copy_70 : decode cX8_copy 70 = .ok (.iload_n 2, 1) := by decide +kernel
theorem dX8_copy_71 : decode cX8_copy 71 = .ok (.iload 5, 2) := by decide +kernel
theorem dX8_copy_73 : decode cX8_copy 73 = .ok (.invokevirtual 295, 3) := by decide +kernel
theorem dX8_copy_76 : decode cX8_copy 76 = .ok (.ifCond .eq 15, 3) := by decide +kernel
theorem dX8_copy_79 : decode cX8_copy 79 = .ok (.aload 7, 2) := by decide +kernel
theorem dX8_copy_81 : decode cX8_copy 81 = .ok (.iload 4, 2) := by decide +kernel
theorem dX8_copy_83 : decode cX8_copy 83 = .ok (.iload 5, 2) := by decide +kernel
theorem dX8_copy_85 : decode cX8_copy 85 = .ok (.invokevirtual 295, 3) := by decide +kernel
theorem dX8_copy_88 : decode cX8_copy 88 = .ok (.ifCond .ne 9, 3) := by decide +kernel
theorem dX8_copy_91 : decode cX8_copy 91 = .ok (.aload_n 0, 1) := by decide +kernel
theorem dX8_copy_92 : decode cX8_copy 92 = .ok (.iconst 2, 1) := by decide +kernel
theorem dX8_copy_93 : decode cX8_copy 93 = .ok (.invokevirtual 245, 3) := by decide +kernel
theorem dX8_copy_96 : decode cX8_copy 96 = .ok (.ireturn, 1) := by decide +kernel
theorem dX8_copy_97 : decode cX8_copy 97 = .ok (.aload 7, 2) := by decide +kernel
theorem dX8_copy_99 : decode cX8_copy 99 = .ok (.aload 6, 2) := by decide +kernel
theorem dX8_copy_101 : decode cX8_copy 101 = .ok (.iload_n 2, 1) := by decide +kernel
theorem dX8_copy_102 : decode cX8_copy 102 = .ok (.iload 4, 2) := by decide +kernel
theorem dX8_copy_104 : decode cX8_copy 104 = .ok (.iload 5, 2) := by decide +kernel
theorem dX8_copy_106 : decode cX8_copy 106 = .ok (.invokevirtual 298, 3) := by decide +kernel
theorem dX8_copy_109 : decode cX8_copy 109 = .ok (.iconst 1, 1) := by decide +kernel
theorem dX8_copy_110 : decode cX8_copy 110 = .ok (.ireturn, 1) := by decide +kernel
theorem dX8_write_0 : decode cX8_write 0 = .ok (.aload_n 0, 1) := by decide +kernel
theorem dX8_write_1 : decode cX8_write 1 = .ok (.iload_n 2, 1) := by decide +kernel
theorem dX8_write_2 : decode cX8_write 2 = .ok (.invokevirtual 238, 3) := by decide +kernel
theorem dX8_write_5 : decode cX8_write 5 = .ok (.astore_n 3, 1) := by decide +kernel
theorem dX8_write_6 : decode cX8_write 6 = .ok (.aload_n 3, 1) := by decide +kernel
theorem dX8_write_7 : decode cX8_write 7 = .ok (.ifnull 10, 3) := by decide +kernel
theorem dX8_write_10 : decode cX8_write 10 = .ok (.iload_n 1, 1) := by decide +kernel
theorem dX8_write_11 : decode cX8_write 11 = .ok (.invokestatic 142, 3) := by decide +kernel
theorem dX8_write_14 : decode cX8_write 14 = .ok (.ifCond .ne 6, 3) := by decide +kernel
theorem dX8_write_17 : decode cX8_write 17 = .ok (.bipush (-2), 2) := by decide +kernel
theorem dX8_write_19 : decode cX8_write 19 = .ok (.ireturn, 1) := by decide +kernel
theorem dX8_write_20 : decode cX8_write 20 = .ok (.aload_n 3, 1) := by decide +kernel
theorem dX8_write_21 : decode cX8_write 21 = .ok (.invokevirtual 242, 3) := by decide +kernel
theorem dX8_write_24 : decode cX8_write 24 = .ok (.ifCond .eq 9, 3) := by decide +kernel
theorem dX8_write_27 : decode cX8_write 27 = .ok (.aload_n 0, 1) := by decide +kernel
theorem dX8_write_28 : decode cX8_write 28 = .ok (.iconst 1, 1) := by decide +kernel
theorem dX8_write_29 : decode cX8_write 29 = .ok (.invokevirtual 245, 3) := by decide +kernel
theorem dX8_write_32 : decode cX8_write 32 = .ok (.ireturn, 1) := by decide +kernel
theorem dX8_write_33 : decode cX8_write 33 = .ok (.aload_n 3, 1) := by decide +kernel
theorem dX8_write_34 : decode cX8_write 34 = .ok (.invokevirtual 248, 3) := by decide +kernel
theorem dX8_write_37 : decode cX8_write 37 = .ok (.bipush 40, 2) := by decide +kernel
theorem dX8_write_39 : decode cX8_write 39 = .ok (.invokestatic 302, 3) := by decide +kernel
theorem dX8_write_42 : decode cX8_write 42 = .ok (.istore 4, 2) := by decide +kernel
theorem dX8_write_44 : decode cX8_write 44 = .ok (.iconst 0, 1) := by decide +kernel
theorem dX8_write_45 : decode cX8_write 45 = .ok (.istore 5, 2) := by decide +kernel
theorem dX8_write_47 : decode cX8_write 47 = .ok (.iload 5, 2) := by decide +kernel
theorem dX8_write_49 : decode cX8_write 49 = .ok (.iload 4, 2) := by decide +kernel
theorem dX8_write_51 : decode cX8_write 51 = .ok (.if_icmp .ge 25, 3) := by decide +kernel
theorem dX8_write_54 : decode cX8_write 54 = .ok (.aload_n 3, 1) := by decide +kernel
theorem dX8_write_55 : decode cX8_write 55 = .ok (.iload 5, 2) := by decide +kernel
theorem dX8_write_57 : decode cX8_write 57 = .ok (.aload_n 0, 1) := by decide +kernel
theorem dX8_write_58 : decode cX8_write 58 = .ok (.getfield 72, 3) := by decide +kernel
theorem dX8_write_61 : decode cX8_write 61 = .ok (.iload_n 1, 1) := by decide +kernel
theorem dX8_write_62 : decode cX8_write 62 = .ok (.iload 5, 2) := by decide +kernel
theorem dX8_write_64 : decode cX8_write 64 = .ok (.invokevirtual 160, 3) := by decide +kernel
theorem dX8_write_67 : decode cX8_write 67 = .ok (.invokevirtual 285, 3) := by decide +kernel
theorem dX8_write_70 : decode cX8_write 70 = .ok (.iinc 5 1, 3) := by decide +kernel
theorem dX8_write_73 : decode cX8_write 73 = .ok (.goto (-26), 3) := by decide +kernel
theorem dX8_write_76 : decode cX8_write 76 = .ok (.iload 4, 2) := by decide +kernel
theorem dX8_write_78 : decode cX8_write 78 = .ok (.ireturn, 1) := by decide +kernel
theorem dX8_count_0 : decode cX8_count 0 = .ok (.iload_n 1, 1) := by decide +kernel
theorem dX8_count_1 : decode cX8_count 1 = .ok (.tableswitch 121 0 8 #[51, 59, 67, 75, 83, 91, 99, 107, 116], 51) := by decide +kernel
theorem dX8_count_52 : decode cX8_count 52 = .ok (.aload_n 0, 1) := by decide +kernel
theorem dX8_count_53 : decode cX8_count 53 = .ok (.getfield 24, 3) := by decide +kernel
theorem dX8_count_56 : decode cX8_count 56 = .ok (.invokevirtual 126, 3) := by decide +kernel
theorem dX8_count_59 : decode cX8_count 59 = .ok (.ireturn, 1) := by decide +kernel
theorem dX8_count_60 : decode cX8_count 60 = .ok (.aload_n 0, 1) := by decide +kernel
theorem dX8_count_61 : decode cX8_count 61 = .ok (.getfield 31, 3) := by decide +kernel
theorem dX8_count_64 : decode cX8_count 64 = .ok (.invokevirtual 131, 3) := by decide +kernel
theorem dX8_count_67 : decode cX8_count 67 = .ok (.ireturn, 1) := by decide +kernel
theorem dX8_count_68 : decode cX8_count 68 = .ok (.aload_n 0, 1) := by decide +kernel
theorem dX8_count_69 : decode cX8_count 69 = .ok (.getfield 14, 3) := by decide +kernel
theorem dX8_count_72 : decode cX8_count 72 = .ok (.invokevirtual 115, 3) := by decide +kernel
theorem dX8_count_75 : decode cX8_count 75 = .ok (.ireturn, 1) := by decide +kernel
theorem dX8_count_76 : decode cX8_count 76 = .ok (.aload_n 0, 1) := by decide +kernel
theorem dX8_count_77 : decode cX8_count 77 = .ok (.getfield 18, 3) := by decide +kernel
theorem dX8_count_80 : decode cX8_count 80 = .ok (.invokevirtual 115, 3) := by decide +kernel
theorem dX8_count_83 : decode cX8_count 83 = .ok (.ireturn, 1) := by decide +kernel
theorem dX8_count_84 : decode cX8_count 84 = .ok (.aload_n 0, 1) := by decide +kernel
theorem dX8_count_85 : decode cX8_count 85 = .ok (.getfield 86, 3) := by decide +kernel
theorem dX8_count_88 : decode cX8_count 88 = .ok (.invokevirtual 234, 3) := by decide +kernel
theorem dX8_count_91 : decode cX8_count 91 = .ok (.ireturn, 1) := by decide +kernel
theorem dX8_count_92 : decode cX8_count 92 = .ok (.aload_n 0, 1) := by decide +kernel
theorem dX8_count_93 : decode cX8_count 93 = .ok (.getfield 24, 3) := by decide +kernel
theorem dX8_count_96 : decode cX8_count 96 = .ok (.invokevirtual 180, 3) := by decide +kernel
theorem dX8_count_99 : decode cX8_count 99 = .ok (.ireturn, 1) := by decide +kernel
theorem dX8_count_100 : decode cX8_count 100 = .ok (.aload_n 0, 1) := by decide +kernel
theorem dX8_count_101 : decode cX8_count 101 = .ok (.getfield 31, 3) := by decide +kernel
theorem dX8_count_104 : decode cX8_count 104 = .ok (.invokevirtual 307, 3) := by decide +kernel
theorem dX8_count_107 : decode cX8_count 107 = .ok (.ireturn, 1) := by decide +kernel
theorem dX8_count_108 : decode cX8_count 108 = .ok (.aload_n 0, 1) := by decide +kernel
theorem dX8_count_109 : decode cX8_count 109 = .ok (.getfield 66, 3) := by decide +kernel
theorem dX8_count_112 : decode cX8_count 112 = .ok (.iconst 4, 1) := by decide +kernel
theorem dX8_count_113 : decode cX8_count 113 = .ok (.invokevirtual 190, 3) := by decide +kernel
theorem dX8_count_116 : decode cX8_count 116 = .ok (.ireturn, 1) := by decide +kernel
theorem dX8_count_117 : decode cX8_count 117 = .ok (.aload_n 0, 1) := by decide +kernel
theorem dX8_count_118 : decode cX8_count 118 = .ok (.getfield 97, 3) := by decide +kernel
theorem dX8_count_121 : decode cX8_count 121 = .ok (.ireturn, 1) := by decide +kernel
theorem dX8_count_122 : decode cX8_count 122 = .ok (.bipush (-2), 2) := by decide +kernel
theorem dX8_count_124 : decode cX8_count 124 = .ok (.ireturn, 1) := by decide +kernel
theorem dX8_digest_0 : decode cX8_digest 0 = .ok (.ldc2_w 310, 3) := by decide +kernel
theorem dX8_digest_3 : decode cX8_digest 3 = .ok (.lstore_n 1, 1) := by decide +kernel
theorem dX8_digest_4 : decode cX8_digest 4 = .ok (.iconst 0, 1) := by decide +kernel
theorem dX8_digest_5 : decode cX8_digest 5 = .ok (.istore_n 3, 1) := by decide +kernel
theorem dX8_digest_6 : decode cX8_digest 6 = .ok (.iload_n 3, 1) := by decide +kernel
theorem dX8_digest_7 : decode cX8_digest 7 = .ok (.bipush 7, 2) := by decide +kernel
theorem dX8_digest_9 : decode cX8_digest 9 = .ok (.if_icmp .gt 20, 3) := by decide +kernel
theorem dX8_digest_12 : decode cX8_digest 12 = .ok (.lload_n 1, 1) := by decide +kernel
theorem dX8_digest_13 : decode cX8_digest 13 = .ok (.aload_n 0, 1) := by decide +kernel
theorem dX8_digest_14 : decode cX8_digest 14 = .ok (.iload_n 3, 1) := by decide +kernel
theorem dX8_digest_15 : decode cX8_digest 15 = .ok (.invokevirtual 312, 3) := by decide +kernel
theorem dX8_digest_18 : decode cX8_digest 18 = .ok (.i2l, 1) := by decide +kernel
theorem dX8_digest_19 : decode cX8_digest 19 = .ok (.invokestatic 315, 3) := by decide +kernel
theorem dX8_digest_22 : decode cX8_digest 22 = .ok (.lstore_n 1, 1) := by decide +kernel
theorem dX8_digest_23 : decode cX8_digest 23 = .ok (.iinc 3 1, 3) := by decide +kernel
theorem dX8_digest_26 : decode cX8_digest 26 = .ok (.goto (-20), 3) := by decide +kernel
theorem dX8_digest_29 : decode cX8_digest 29 = .ok (.lload_n 1, 1) := by decide +kernel
theorem dX8_digest_30 : decode cX8_digest 30 = .ok (.aload_n 0, 1) := by decide +kernel
theorem dX8_digest_31 : decode cX8_digest 31 = .ok (.iconst 0, 1) := by decide +kernel
theorem dX8_digest_32 : decode cX8_digest 32 = .ok (.invokevirtual 319, 3) := by decide +kernel
theorem dX8_digest_35 : decode cX8_digest 35 = .ok (.i2l, 1) := by decide +kernel
theorem dX8_digest_36 : decode cX8_digest 36 = .ok (.invokestatic 315, 3) := by decide +kernel
theorem dX8_digest_39 : decode cX8_digest 39 = .ok (.aload_n 0, 1) := by decide +kernel
theorem dX8_digest_40 : decode cX8_digest 40 = .ok (.iconst 1, 1) := by decide +kernel
theorem dX8_digest_41 : decode cX8_digest 41 = .ok (.invokevirtual 319, 3) := by decide +kernel
theorem dX8_digest_44 : decode cX8_digest 44 = .ok (.i2l, 1) := by decide +kernel
theorem dX8_digest_45 : decode cX8_digest 45 = .ok (.invokestatic 315, 3) := by decide +kernel
theorem dX8_digest_48 : decode cX8_digest 48 = .ok (.lstore_n 1, 1) := by decide +kernel
theorem dX8_digest_49 : decode cX8_digest 49 = .ok (.aload_n 0, 1) := by decide +kernel
theorem dX8_digest_50 : decode cX8_digest 50 = .ok (.aload_n 0, 1) := by decide +kernel
theorem dX8_digest_51 : decode cX8_digest 51 = .ok (.aload_n 0, 1) := by decide +kernel
theorem dX8_digest_52 : decode cX8_digest 52 = .ok (.lload_n 1, 1) := by decide +kernel
theorem dX8_digest_53 : decode cX8_digest 53 = .ok (.invokevirtual 322, 3) := by decide +kernel
theorem dX8_digest_56 : decode cX8_digest 56 = .ok (.invokevirtual 326, 3) := by decide +kernel
theorem dX8_digest_59 : decode cX8_digest 59 = .ok (.invokevirtual 329, 3) := by decide +kernel
theorem dX8_digest_62 : decode cX8_digest 62 = .ok (.lstore_n 1, 1) := by decide +kernel
theorem dX8_digest_63 : decode cX8_digest 63 = .ok (.aload_n 0, 1) := by decide +kernel
theorem dX8_digest_64 : decode cX8_digest 64 = .ok (.aload_n 0, 1) := by decide +kernel
theorem dX8_digest_65 : decode cX8_digest 65 = .ok (.aload_n 0, 1) := by decide +kernel
theorem dX8_digest_66 : decode cX8_digest 66 = .ok (.lload_n 1, 1) := by decide +kernel
theorem dX8_digest_67 : decode cX8_digest 67 = .ok (.invokevirtual 332, 3) := by decide +kernel
theorem dX8_digest_70 : decode cX8_digest 70 = .ok (.invokevirtual 335, 3) := by decide +kernel
theorem dX8_digest_73 : decode cX8_digest 73 = .ok (.invokevirtual 338, 3) := by decide +kernel
theorem dX8_digest_76 : decode cX8_digest 76 = .ok (.lreturn, 1) := by decide +kernel
theorem dX8_mixedWagons_0 : decode cX8_mixedWagons 0 = .ok (.lload_n 1, 1) := by decide +kernel
theorem dX8_mixedWagons_1 : decode cX8_mixedWagons 1 = .ok (.lstore_n 3, 1) := by decide +kernel
theorem dX8_mixedWagons_2 : decode cX8_mixedWagons 2 = .ok (.iconst 0, 1) := by decide +kernel
theorem dX8_mixedWagons_3 : decode cX8_mixedWagons 3 = .ok (.istore 5, 2) := by decide +kernel
theorem dX8_mixedWagons_5 : decode cX8_mixedWagons 5 = .ok (.iload 5, 2) := by decide +kernel
theorem dX8_mixedWagons_7 : decode cX8_mixedWagons 7 = .ok (.aload_n 0, 1) := by decide +kernel
theorem dX8_mixedWagons_8 : decode cX8_mixedWagons 8 = .ok (.getfield 24, 3) := by decide +kernel
theorem dX8_mixedWagons_11 : decode cX8_mixedWagons 11 = .ok (.invokevirtual 126, 3) := by decide +kernel
theorem dX8_mixedWagons_14 : decode cX8_mixedWagons 14 = .ok (.if_icmp .ge 45, 3) := by decide +kernel
theorem dX8_mixedWagons_17 : decode cX8_mixedWagons 17 = .ok (.lload_n 3, 1) := by decide +kernel
theorem dX8_mixedWagons_18 : decode cX8_mixedWagons 18 = .ok (.aload_n 0, 1) := by decide +kernel
theorem dX8_mixedWagons_19 : decode cX8_mixedWagons 19 = .ok (.iload 5, 2) := by decide +kernel
theorem dX8_mixedWagons_21 : decode cX8_mixedWagons 21 = .ok (.invokevirtual 341, 3) := by decide +kernel
theorem dX8_mixedWagons_24 : decode cX8_mixedWagons 24 = .ok (.i2l, 1) := by decide +kernel
theorem dX8_mixedWagons_25 : decode cX8_mixedWagons 25 = .ok (.invokestatic 315, 3) := by decide +kernel
theorem dX8_mixedWagons_28 : decode cX8_mixedWagons 28 = .ok (.lstore_n 3, 1) := by decide +kernel
theorem dX8_mixedWagons_29 : decode cX8_mixedWagons 29 = .ok (.lload_n 3, 1) := by decide +kernel
theorem dX8_mixedWagons_30 : decode cX8_mixedWagons 30 = .ok (.aload_n 0, 1) := by decide +kernel
theorem dX8_mixedWagons_31 : decode cX8_mixedWagons 31 = .ok (.iconst 3, 1) := by decide +kernel
theorem dX8_mixedWagons_32 : decode cX8_mixedWagons 32 = .ok (.iload 5, 2) := by decide +kernel
theorem dX8_mixedWagons_34 : decode cX8_mixedWagons 34 = .ok (.iconst 0, 1) := by decide +kernel
theorem dX8_mixedWagons_35 : decode cX8_mixedWagons 35 = .ok (.invokevirtual 344, 3) := by decide +kernel
theorem dX8_mixedWagons_38 : decode cX8_mixedWagons 38 = .ok (.invokestatic 315, 3) := by decide +kernel
theorem dX8_mixedWagons_41 : decode cX8_mixedWagons 41 = .ok (.aload_n 0, 1) := by decide +kernel
theorem dX8_mixedWagons_42 : decode cX8_mixedWagons 42 = .ok (.iconst 3, 1) := by decide +kernel
theorem dX8_mixedWagons_43 : decode cX8_mixedWagons 43 = .ok (.iload 5, 2) := by decide +kernel
theorem dX8_mixedWagons_45 : decode cX8_mixedWagons 45 = .ok (.iconst 1, 1) := by decide +kernel
theorem dX8_mixedWagons_46 : decode cX8_mixedWagons 46 = .ok (.invokevirtual 344, 3) := by decide +kernel
theorem dX8_mixedWagons_49 : decode cX8_mixedWagons 49 = .ok (.invokestatic 315, 3) := by decide +kernel
theorem dX8_mixedWagons_52 : decode cX8_mixedWagons 52 = .ok (.lstore_n 3, 1) := by decide +kernel
theorem dX8_mixedWagons_53 : decode cX8_mixedWagons 53 = .ok (.iinc 5 1, 3) := by decide +kernel
theorem dX8_mixedWagons_56 : decode cX8_mixedWagons 56 = .ok (.goto (-51), 3) := by decide +kernel
theorem dX8_mixedWagons_59 : decode cX8_mixedWagons 59 = .ok (.lload_n 3, 1) := by decide +kernel
theorem dX8_mixedWagons_60 : decode cX8_mixedWagons 60 = .ok (.lreturn, 1) := by decide +kernel
theorem dX8_mixedHill_0 : decode cX8_mixedHill 0 = .ok (.lload_n 1, 1) := by decide +kernel
theorem dX8_mixedHill_1 : decode cX8_mixedHill 1 = .ok (.lstore_n 3, 1) := by decide +kernel
theorem dX8_mixedHill_2 : decode cX8_mixedHill 2 = .ok (.iconst 0, 1) := by decide +kernel
theorem dX8_mixedHill_3 : decode cX8_mixedHill 3 = .ok (.istore 5, 2) := by decide +kernel
theorem dX8_mixedHill_5 : decode cX8_mixedHill 5 = .ok (.iload 5, 2) := by decide +kernel
theorem dX8_mixedHill_7 : decode cX8_mixedHill 7 = .ok (.aload_n 0, 1) := by decide +kernel
theorem dX8_mixedHill_8 : decode cX8_mixedHill 8 = .ok (.getfield 31, 3) := by decide +kernel
theorem dX8_mixedHill_11 : decode cX8_mixedHill 11 = .ok (.invokevirtual 131, 3) := by decide +kernel
theorem dX8_mixedHill_14 : decode cX8_mixedHill 14 = .ok (.if_icmp .ge 33, 3) := by decide +kernel
theorem dX8_mixedHill_17 : decode cX8_mixedHill 17 = .ok (.lload_n 3, 1) := by decide +kernel
theorem dX8_mixedHill_18 : decode cX8_mixedHill 18 = .ok (.aload_n 0, 1) := by decide +kernel
theorem dX8_mixedHill_19 : decode cX8_mixedHill 19 = .ok (.iload 5, 2) := by decide +kernel
theorem dX8_mixedHill_21 : decode cX8_mixedHill 21 = .ok (.iconst 0, 1) := by decide +kernel
theorem dX8_mixedHill_22 : decode cX8_mixedHill 22 = .ok (.invokevirtual 348, 3) := by decide +kernel
theorem dX8_mixedHill_25 : decode cX8_mixedHill 25 = .ok (.i2l, 1) := by decide +kernel
theorem dX8_mixedHill_26 : decode cX8_mixedHill 26 = .ok (.invokestatic 315, 3) := by decide +kernel
theorem dX8_mixedHill_29 : decode cX8_mixedHill 29 = .ok (.aload_n 0, 1) := by decide +kernel
theorem dX8_mixedHill_30 : decode cX8_mixedHill 30 = .ok (.iload 5, 2) := by decide +kernel
theorem dX8_mixedHill_32 : decode cX8_mixedHill 32 = .ok (.iconst 1, 1) := by decide +kernel
theorem dX8_mixedHill_33 : decode cX8_mixedHill 33 = .ok (.invokevirtual 348, 3) := by decide +kernel
theorem dX8_mixedHill_36 : decode cX8_mixedHill 36 = .ok (.i2l, 1) := by decide +kernel
theorem dX8_mixedHill_37 : decode cX8_mixedHill 37 = .ok (.invokestatic 315, 3) := by decide +kernel
theorem dX8_mixedHill_40 : decode cX8_mixedHill 40 = .ok (.lstore_n 3, 1) := by decide +kernel
theorem dX8_mixedHill_41 : decode cX8_mixedHill 41 = .ok (.iinc 5 1, 3) := by decide +kernel
theorem dX8_mixedHill_44 : decode cX8_mixedHill 44 = .ok (.goto (-39), 3) := by decide +kernel
theorem dX8_mixedHill_47 : decode cX8_mixedHill 47 = .ok (.lload_n 3, 1) := by decide +kernel
theorem dX8_mixedHill_48 : decode cX8_mixedHill 48 = .ok (.lreturn, 1) := by decide +kernel
theorem dX8_mixedMinutes_0 : decode cX8_mixedMinutes 0 = .ok (.lload_n 1, 1) := by decide +kernel
theorem dX8_mixedMinutes_1 : decode cX8_mixedMinutes 1 = .ok (.lstore_n 3, 1) := by decide +kernel
theorem dX8_mixedMinutes_2 : decode cX8_mixedMinutes 2 = .ok (.getstatic 351, 3) := by decide +kernel
theorem dX8_mixedMinutes_5 : decode cX8_mixedMinutes 5 = .ok (.astore 5, 2) := by decide +kernel
theorem dX8_mixedMinutes_7 : decode cX8_mixedMinutes 7 = .ok (.aload 5, 2) := by decide +kernel
theorem dX8_mixedMinutes_9 : decode cX8_mixedMinutes 9 = .ok (.arraylength, 1) := by decide +kernel
theorem dX8_mixedMinutes_10 : decode cX8_mixedMinutes 10 = .ok (.istore 6, 2) := by decide +kernel
theorem dX8_mixedMinutes_12 : decode cX8_mixedMinutes 12 = .ok (.iconst 0, 1) := by decide +kernel
theorem dX8_mixedMinutes_13 : decode cX8_mixedMinutes 13 = .ok (.istore 7, 2) := by decide +kernel
theorem dX8_mixedMinutes_15 : decode cX8_mixedMinutes 15 = .ok (.iload 7, 2) := by decide +kernel
theorem dX8_mixedMinutes_17 : decode cX8_mixedMinutes 17 = .ok (.iload 6, 2) := by decide +kernel
theorem dX8_mixedMinutes_19 : decode cX8_mixedMinutes 19 = .ok (.if_icmp .ge 87, 3) := by decide +kernel
theorem dX8_mixedMinutes_22 : decode cX8_mixedMinutes 22 = .ok (.aload 5, 2) := by decide +kernel
theorem dX8_mixedMinutes_24 : decode cX8_mixedMinutes 24 = .ok (.iload 7, 2) := by decide +kernel
theorem dX8_mixedMinutes_26 : decode cX8_mixedMinutes 26 = .ok (.iaload, 1) := by decide +kernel
theorem dX8_mixedMinutes_27 : decode cX8_mixedMinutes 27 = .ok (.istore 8, 2) := by decide +kernel
theorem dX8_mixedMinutes_29 : decode cX8_mixedMinutes 29 = .ok (.lload_n 3, 1) := by decide +kernel
theorem dX8_mixedMinutes_30 : decode cX8_mixedMinutes 30 = .ok (.aload_n 0, 1) := by decide +kernel
theorem dX8_mixedMinutes_31 : decode cX8_mixedMinutes 31 = .ok (.iload 8, 2) := by decide +kernel
theorem dX8_mixedMinutes_33 : decode cX8_mixedMinutes 33 = .ok (.iconst 0, 1) := by decide +kernel
theorem dX8_mixedMinutes_34 : decode cX8_mixedMinutes 34 = .ok (.invokevirtual 354, 3) := by decide +kernel
theorem dX8_mixedMinutes_37 : decode cX8_mixedMinutes 37 = .ok (.i2l, 1) := by decide +kernel
theorem dX8_mixedMinutes_38 : decode cX8_mixedMinutes 38 = .ok (.invokestatic 315, 3) := by decide +kernel
theorem dX8_mixedMinutes_41 : decode cX8_mixedMinutes 41 = .ok (.aload_n 0, 1) := by decide +kernel
theorem dX8_mixedMinutes_42 : decode cX8_mixedMinutes 42 = .ok (.iload 8, 2) := by decide +kernel
theorem dX8_mixedMinutes_44 : decode cX8_mixedMinutes 44 = .ok (.iconst 1, 1) := by decide +kernel
theorem dX8_mixedMinutes_45 : decode cX8_mixedMinutes 45 = .ok (.invokevirtual 354, 3) := by decide +kernel
theorem dX8_mixedMinutes_48 : decode cX8_mixedMinutes 48 = .ok (.i2l, 1) := by decide +kernel
theorem dX8_mixedMinutes_49 : decode cX8_mixedMinutes 49 = .ok (.invokestatic 315, 3) := by decide +kernel
theorem dX8_mixedMinutes_52 : decode cX8_mixedMinutes 52 = .ok (.lstore_n 3, 1) := by decide +kernel
theorem dX8_mixedMinutes_53 : decode cX8_mixedMinutes 53 = .ok (.lload_n 3, 1) := by decide +kernel
theorem dX8_mixedMinutes_54 : decode cX8_mixedMinutes 54 = .ok (.aload_n 0, 1) := by decide +kernel
theorem dX8_mixedMinutes_55 : decode cX8_mixedMinutes 55 = .ok (.iload 8, 2) := by decide +kernel
theorem dX8_mixedMinutes_57 : decode cX8_mixedMinutes 57 = .ok (.iconst 0, 1) := by decide +kernel
theorem dX8_mixedMinutes_58 : decode cX8_mixedMinutes 58 = .ok (.invokevirtual 357, 3) := by decide +kernel
theorem dX8_mixedMinutes_61 : decode cX8_mixedMinutes 61 = .ok (.i2l, 1) := by decide +kernel
theorem dX8_mixedMinutes_62 : decode cX8_mixedMinutes 62 = .ok (.invokestatic 315, 3) := by decide +kernel
theorem dX8_mixedMinutes_65 : decode cX8_mixedMinutes 65 = .ok (.aload_n 0, 1) := by decide +kernel
theorem dX8_mixedMinutes_66 : decode cX8_mixedMinutes 66 = .ok (.iload 8, 2) := by decide +kernel
theorem dX8_mixedMinutes_68 : decode cX8_mixedMinutes 68 = .ok (.iconst 1, 1) := by decide +kernel
theorem dX8_mixedMinutes_69 : decode cX8_mixedMinutes 69 = .ok (.invokevirtual 357, 3) := by decide +kernel
theorem dX8_mixedMinutes_72 : decode cX8_mixedMinutes 72 = .ok (.i2l, 1) := by decide +kernel
theorem dX8_mixedMinutes_73 : decode cX8_mixedMinutes 73 = .ok (.invokestatic 315, 3) := by decide +kernel
theorem dX8_mixedMinutes_76 : decode cX8_mixedMinutes 76 = .ok (.aload_n 0, 1) := by decide +kernel
theorem dX8_mixedMinutes_77 : decode cX8_mixedMinutes 77 = .ok (.iload 8, 2) := by decide +kernel
theorem dX8_mixedMinutes_79 : decode cX8_mixedMinutes 79 = .ok (.iconst 2, 1) := by decide +kernel
theorem dX8_mixedMinutes_80 : decode cX8_mixedMinutes 80 = .ok (.invokevirtual 357, 3) := by decide +kernel
theorem dX8_mixedMinutes_83 : decode cX8_mixedMinutes 83 = .ok (.i2l, 1) := by decide +kernel
theorem dX8_mixedMinutes_84 : decode cX8_mixedMinutes 84 = .ok (.invokestatic 315, 3) := by decide +kernel
theorem dX8_mixedMinutes_87 : decode cX8_mixedMinutes 87 = .ok (.lstore_n 3, 1) := by decide +kernel
theorem dX8_mixedMinutes_88 : decode cX8_mixedMinutes 88 = .ok (.lload_n 3, 1) := by decide +kernel
theorem dX8_mixedMinutes_89 : decode cX8_mixedMinutes 89 = .ok (.aload_n 0, 1) := by decide +kernel
theorem dX8_mixedMinutes_90 : decode cX8_mixedMinutes 90 = .ok (.iload 8, 2) := by decide +kernel
theorem dX8_mixedMinutes_92 : decode cX8_mixedMinutes 92 = .ok (.invokevirtual 360, 3) := by decide +kernel
theorem dX8_mixedMinutes_95 : decode cX8_mixedMinutes 95 = .ok (.i2l, 1) := by decide +kernel
theorem dX8_mixedMinutes_96 : decode cX8_mixedMinutes 96 = .ok (.invokestatic 315, 3) := by decide +kernel
theorem dX8_mixedMinutes_99 : decode cX8_mixedMinutes 99 = .ok (.lstore_n 3, 1) := by decide +kernel
theorem dX8_mixedMinutes_100 : decode cX8_mixedMinutes 100 = .ok (.iinc 7 1, 3) := by decide +kernel
theorem dX8_mixedMinutes_103 : decode cX8_mixedMinutes 103 = .ok (.goto (-88), 3) := by decide +kernel
theorem dX8_mixedMinutes_106 : decode cX8_mixedMinutes 106 = .ok (.lload_n 3, 1) := by decide +kernel
theorem dX8_mixedMinutes_107 : decode cX8_mixedMinutes 107 = .ok (.lreturn, 1) := by decide +kernel
theorem dX8_mixedOutcomes_0 : decode cX8_mixedOutcomes 0 = .ok (.lload_n 1, 1) := by decide +kernel
theorem dX8_mixedOutcomes_1 : decode cX8_mixedOutcomes 1 = .ok (.aload_n 0, 1) := by decide +kernel
theorem dX8_mixedOutcomes_2 : decode cX8_mixedOutcomes 2 = .ok (.invokevirtual 363, 3) := by decide +kernel
theorem dX8_mixedOutcomes_5 : decode cX8_mixedOutcomes 5 = .ok (.i2l, 1) := by decide +kernel
theorem dX8_mixedOutcomes_6 : decode cX8_mixedOutcomes 6 = .ok (.invokestatic 315, 3) := by decide +kernel
theorem dX8_mixedOutcomes_9 : decode cX8_mixedOutcomes 9 = .ok (.lstore_n 3, 1) := by decide +kernel
theorem dX8_mixedOutcomes_10 : decode cX8_mixedOutcomes 10 = .ok (.lload_n 3, 1) := by decide +kernel
theorem dX8_mixedOutcomes_11 : decode cX8_mixedOutcomes 11 = .ok (.aload_n 0, 1) := by decide +kernel
theorem dX8_mixedOutcomes_12 : decode cX8_mixedOutcomes 12 = .ok (.iconst 0, 1) := by decide +kernel
theorem dX8_mixedOutcomes_13 : decode cX8_mixedOutcomes 13 = .ok (.invokevirtual 366, 3) := by decide +kernel
theorem dX8_mixedOutcomes_16 : decode cX8_mixedOutcomes 16 = .ok (.i2l, 1) := by decide +kernel
theorem dX8_mixedOutcomes_17 : decode cX8_mixedOutcomes 17 = .ok (.invokestatic 315, 3) := by decide +kernel
theorem dX8_mixedOutcomes_20 : decode cX8_mixedOutcomes 20 = .ok (.aload_n 0, 1) := by decide +kernel
theorem dX8_mixedOutcomes_21 : decode cX8_mixedOutcomes 21 = .ok (.iconst 1, 1) := by decide +kernel
theorem dX8_mixedOutcomes_22 : decode cX8_mixedOutcomes 22 = .ok (.invokevirtual 366, 3) := by decide +kernel
theorem dX8_mixedOutcomes_25 : decode cX8_mixedOutcomes 25 = .ok (.i2l, 1) := by decide +kernel
theorem dX8_mixedOutcomes_26 : decode cX8_mixedOutcomes 26 = .ok (.invokestatic 315, 3) := by decide +kernel
theorem dX8_mixedOutcomes_29 : decode cX8_mixedOutcomes 29 = .ok (.lstore_n 3, 1) := by decide +kernel
theorem dX8_mixedOutcomes_30 : decode cX8_mixedOutcomes 30 = .ok (.lload_n 3, 1) := by decide +kernel
theorem dX8_mixedOutcomes_31 : decode cX8_mixedOutcomes 31 = .ok (.aload_n 0, 1) := by decide +kernel
theorem dX8_mixedOutcomes_32 : decode cX8_mixedOutcomes 32 = .ok (.invokevirtual 369, 3) := by decide +kernel
theorem dX8_mixedOutcomes_35 : decode cX8_mixedOutcomes 35 = .ok (.i2l, 1) := by decide +kernel
theorem dX8_mixedOutcomes_36 : decode cX8_mixedOutcomes 36 = .ok (.invokestatic 315, 3) := by decide +kernel
theorem dX8_mixedOutcomes_39 : decode cX8_mixedOutcomes 39 = .ok (.aload_n 0, 1) := by decide +kernel
theorem dX8_mixedOutcomes_40 : decode cX8_mixedOutcomes 40 = .ok (.invokevirtual 372, 3) := by decide +kernel
theorem dX8_mixedOutcomes_43 : decode cX8_mixedOutcomes 43 = .ok (.i2l, 1) := by decide +kernel
theorem dX8_mixedOutcomes_44 : decode cX8_mixedOutcomes 44 = .ok (.invokestatic 315, 3) := by decide +kernel
theorem dX8_mixedOutcomes_47 : decode cX8_mixedOutcomes 47 = .ok (.aload_n 0, 1) := by decide +kernel
theorem dX8_mixedOutcomes_48 : decode cX8_mixedOutcomes 48 = .ok (.invokevirtual 375, 3) := by decide +kernel
theorem dX8_mixedOutcomes_51 : decode cX8_mixedOutcomes 51 = .ok (.i2l, 1) := by decide +kernel
theorem dX8_mixedOutcomes_52 : decode cX8_mixedOutcomes 52 = .ok (.invokestatic 315, 3) := by decide +kernel
theorem dX8_mixedOutcomes_55 : decode cX8_mixedOutcomes 55 = .ok (.lstore_n 3, 1) := by decide +kernel
theorem dX8_mixedOutcomes_56 : decode cX8_mixedOutcomes 56 = .ok (.lload_n 3, 1) := by decide +kernel
theorem dX8_mixedOutcomes_57 : decode cX8_mixedOutcomes 57 = .ok (.aload_n 0, 1) := by decide +kernel
theorem dX8_mixedOutcomes_58 : decode cX8_mixedOutcomes 58 = .ok (.iconst 0, 1) := by decide +kernel
theorem dX8_mixedOutcomes_59 : decode cX8_mixedOutcomes 59 = .ok (.invokevirtual 378, 3) := by decide +kernel
theorem dX8_mixedOutcomes_62 : decode cX8_mixedOutcomes 62 = .ok (.i2l, 1) := by decide +kernel
theorem dX8_mixedOutcomes_63 : decode cX8_mixedOutcomes 63 = .ok (.invokestatic 315, 3) := by decide +kernel
theorem dX8_mixedOutcomes_66 : decode cX8_mixedOutcomes 66 = .ok (.aload_n 0, 1) := by decide +kernel
theorem dX8_mixedOutcomes_67 : decode cX8_mixedOutcomes 67 = .ok (.iconst 1, 1) := by decide +kernel
theorem dX8_mixedOutcomes_68 : decode cX8_mixedOutcomes 68 = .ok (.invokevirtual 378, 3) := by decide +kernel
theorem dX8_mixedOutcomes_71 : decode cX8_mixedOutcomes 71 = .ok (.i2l, 1) := by decide +kernel
theorem dX8_mixedOutcomes_72 : decode cX8_mixedOutcomes 72 = .ok (.invokestatic 315, 3) := by decide +kernel
theorem dX8_mixedOutcomes_75 : decode cX8_mixedOutcomes 75 = .ok (.lreturn, 1) := by decide +kernel
theorem dX8_mixedStarts_0 : decode cX8_mixedStarts 0 = .ok (.lload_n 1, 1) := by decide +kernel
theorem dX8_mixedStarts_1 : decode cX8_mixedStarts 1 = .ok (.aload_n 0, 1) := by decide +kernel
theorem dX8_mixedStarts_2 : decode cX8_mixedStarts 2 = .ok (.iconst 0, 1) := by decide +kernel
theorem dX8_mixedStarts_3 : decode cX8_mixedStarts 3 = .ok (.iconst 3, 1) := by decide +kernel
theorem dX8_mixedStarts_4 : decode cX8_mixedStarts 4 = .ok (.invokevirtual 381, 3) := by decide +kernel
theorem dX8_mixedStarts_7 : decode cX8_mixedStarts 7 = .ok (.i2l, 1) := by decide +kernel
theorem dX8_mixedStarts_8 : decode cX8_mixedStarts 8 = .ok (.invokestatic 315, 3) := by decide +kernel
theorem dX8_mixedStarts_11 : decode cX8_mixedStarts 11 = .ok (.aload_n 0, 1) := by decide +kernel
theorem dX8_mixedStarts_12 : decode cX8_mixedStarts 12 = .ok (.iconst 4, 1) := by decide +kernel
theorem dX8_mixedStarts_13 : decode cX8_mixedStarts 13 = .ok (.iconst 1, 1) := by decide +kernel
theorem dX8_mixedStarts_14 : decode cX8_mixedStarts 14 = .ok (.invokevirtual 381, 3) := by decide +kernel
theorem dX8_mixedStarts_17 : decode cX8_mixedStarts 17 = .ok (.i2l, 1) := by decide +kernel
theorem dX8_mixedStarts_18 : decode cX8_mixedStarts 18 = .ok (.invokestatic 315, 3) := by decide +kernel
theorem dX8_mixedStarts_21 : decode cX8_mixedStarts 21 = .ok (.lstore_n 3, 1) := by decide +kernel
theorem dX8_mixedStarts_22 : decode cX8_mixedStarts 22 = .ok (.lload_n 3, 1) := by decide +kernel
theorem dX8_mixedStarts_23 : decode cX8_mixedStarts 23 = .ok (.aload_n 0, 1) := by decide +kernel
theorem dX8_mixedStarts_24 : decode cX8_mixedStarts 24 = .ok (.iconst 0, 1) := by decide +kernel
theorem dX8_mixedStarts_25 : decode cX8_mixedStarts 25 = .ok (.invokevirtual 384, 3) := by decide +kernel
theorem dX8_mixedStarts_28 : decode cX8_mixedStarts 28 = .ok (.i2l, 1) := by decide +kernel
theorem dX8_mixedStarts_29 : decode cX8_mixedStarts 29 = .ok (.invokestatic 315, 3) := by decide +kernel
theorem dX8_mixedStarts_32 : decode cX8_mixedStarts 32 = .ok (.aload_n 0, 1) := by decide +kernel
theorem dX8_mixedStarts_33 : decode cX8_mixedStarts 33 = .ok (.iconst 1, 1) := by decide +kernel
theorem dX8_mixedStarts_34 : decode cX8_mixedStarts 34 = .ok (.invokevirtual 384, 3) := by decide +kernel
theorem dX8_mixedStarts_37 : decode cX8_mixedStarts 37 = .ok (.i2l, 1) := by decide +kernel
theorem dX8_mixedStarts_38 : decode cX8_mixedStarts 38 = .ok (.invokestatic 315, 3) := by decide +kernel
theorem dX8_mixedStarts_41 : decode cX8_mixedStarts 41 = .ok (.lstore_n 3, 1) := by decide +kernel
theorem dX8_mixedStarts_42 : decode cX8_mixedStarts 42 = .ok (.lload_n 3, 1) := by decide +kernel
theorem dX8_mixedStarts_43 : decode cX8_mixedStarts 43 = .ok (.aload_n 0, 1) := by decide +kernel
theorem dX8_mixedStarts_44 : decode cX8_mixedStarts 44 = .ok (.iconst 0, 1) := by decide +kernel
theorem dX8_mixedStarts_45 : decode cX8_mixedStarts 45 = .ok (.invokevirtual 387, 3) := by decide +kernel
theorem dX8_mixedStarts_48 : decode cX8_mixedStarts 48 = .ok (.i2l, 1) := by decide +kernel
theorem dX8_mixedStarts_49 : decode cX8_mixedStarts 49 = .ok (.invokestatic 315, 3) := by decide +kernel
theorem dX8_mixedStarts_52 : decode cX8_mixedStarts 52 = .ok (.aload_n 0, 1) := by decide +kernel
theorem dX8_mixedStarts_53 : decode cX8_mixedStarts 53 = .ok (.iconst 1, 1) := by decide +kernel
theorem dX8_mixedStarts_54 : decode cX8_mixedStarts 54 = .ok (.invokevirtual 387, 3) := by decide +kernel
theorem dX8_mixedStarts_57 : decode cX8_mixedStarts 57 = .ok (.i2l, 1) := by decide +kernel
theorem dX8_mixedStarts_58 : decode cX8_mixedStarts 58 = .ok (.invokestatic 315, 3) := by decide +kernel
theorem dX8_mixedStarts_61 : decode cX8_mixedStarts 61 = .ok (.lstore_n 3, 1) := by decide +kernel
theorem dX8_mixedStarts_62 : decode cX8_mixedStarts 62 = .ok (.lload_n 3, 1) := by decide +kernel
theorem dX8_mixedStarts_63 : decode cX8_mixedStarts 63 = .ok (.aload_n 0, 1) := by decide +kernel
theorem dX8_mixedStarts_64 : decode cX8_mixedStarts 64 = .ok (.iconst 0, 1) := by decide +kernel
theorem dX8_mixedStarts_65 : decode cX8_mixedStarts 65 = .ok (.invokevirtual 390, 3) := by decide +kernel
theorem dX8_mixedStarts_68 : decode cX8_mixedStarts 68 = .ok (.i2l, 1) := by decide +kernel
theorem dX8_mixedStarts_69 : decode cX8_mixedStarts 69 = .ok (.invokestatic 315, 3) := by decide +kernel
theorem dX8_mixedStarts_72 : decode cX8_mixedStarts 72 = .ok (.aload_n 0, 1) := by decide +kernel
theorem dX8_mixedStarts_73 : decode cX8_mixedStarts 73 = .ok (.iconst 1, 1) := by decide +kernel
theorem dX8_mixedStarts_74 : decode cX8_mixedStarts 74 = .ok (.invokevirtual 390, 3) := by decide +kernel
theorem dX8_mixedStarts_77 : decode cX8_mixedStarts 77 = .ok (.i2l, 1) := by decide +kernel
theorem dX8_mixedStarts_78 : decode cX8_mixedStarts 78 = .ok (.invokestatic 315, 3) := by decide +kernel
theorem dX8_mixedStarts_81 : decode cX8_mixedStarts 81 = .ok (.lreturn, 1) := by decide +kernel
theorem dX8_mixedDay_0 : decode cX8_mixedDay 0 = .ok (.lload_n 1, 1) := by decide +kernel
theorem dX8_mixedDay_1 : decode cX8_mixedDay 1 = .ok (.lstore_n 3, 1) := by decide +kernel
theorem dX8_mixedDay_2 : decode cX8_mixedDay 2 = .ok (.iconst 1, 1) := by decide +kernel
theorem dX8_mixedDay_3 : decode cX8_mixedDay 3 = .ok (.istore 5, 2) := by decide +kernel
theorem dX8_mixedDay_5 : decode cX8_mixedDay 5 = .ok (.iload 5, 2) := by decide +kernel
theorem dX8_mixedDay_7 : decode cX8_mixedDay 7 = .ok (.bipush 6, 2) := by decide +kernel
theorem dX8_mixedDay_9 : decode cX8_mixedDay 9 = .ok (.if_icmp .gt 33, 3) := by decide +kernel
theorem dX8_mixedDay_12 : decode cX8_mixedDay 12 = .ok (.lload_n 3, 1) := by decide +kernel
theorem dX8_mixedDay_13 : decode cX8_mixedDay 13 = .ok (.aload_n 0, 1) := by decide +kernel
theorem dX8_mixedDay_14 : decode cX8_mixedDay 14 = .ok (.iload 5, 2) := by decide +kernel
theorem dX8_mixedDay_16 : decode cX8_mixedDay 16 = .ok (.iconst 0, 1) := by decide +kernel
theorem dX8_mixedDay_17 : decode cX8_mixedDay 17 = .ok (.invokevirtual 393, 3) := by decide +kernel
theorem dX8_mixedDay_20 : decode cX8_mixedDay 20 = .ok (.i2l, 1) := by decide +kernel
theorem dX8_mixedDay_21 : decode cX8_mixedDay 21 = .ok (.invokestatic 315, 3) := by decide +kernel
theorem dX8_mixedDay_24 : decode cX8_mixedDay 24 = .ok (.aload_n 0, 1) := by decide +kernel
theorem dX8_mixedDay_25 : decode cX8_mixedDay 25 = .ok (.iload 5, 2) := by decide +kernel
theorem dX8_mixedDay_27 : decode cX8_mixedDay 27 = .ok (.iconst 1, 1) := by decide +kernel
theorem dX8_mixedDay_28 : decode cX8_mixedDay 28 = .ok (.invokevirtual 393, 3) := by decide +kernel
theorem dX8_mixedDay_31 : decode cX8_mixedDay 31 = .ok (.i2l, 1) := by decide +kernel
theorem dX8_mixedDay_32 : decode cX8_mixedDay 32 = .ok (.invokestatic 315, 3) := by decide +kernel
theorem dX8_mixedDay_35 : decode cX8_mixedDay 35 = .ok (.lstore_n 3, 1) := by decide +kernel
theorem dX8_mixedDay_36 : decode cX8_mixedDay 36 = .ok (.iinc 5 1, 3) := by decide +kernel
theorem dX8_mixedDay_39 : decode cX8_mixedDay 39 = .ok (.goto (-34), 3) := by decide +kernel
theorem dX8_mixedDay_42 : decode cX8_mixedDay 42 = .ok (.lload_n 3, 1) := by decide +kernel
theorem dX8_mixedDay_43 : decode cX8_mixedDay 43 = .ok (.aload_n 0, 1) := by decide +kernel
theorem dX8_mixedDay_44 : decode cX8_mixedDay 44 = .ok (.bipush 9, 2) := by decide +kernel
theorem dX8_mixedDay_46 : decode cX8_mixedDay 46 = .ok (.invokevirtual 396, 3) := by decide +kernel
theorem dX8_mixedDay_49 : decode cX8_mixedDay 49 = .ok (.i2l, 1) := by decide +kernel
theorem dX8_mixedDay_50 : decode cX8_mixedDay 50 = .ok (.invokestatic 315, 3) := by decide +kernel
theorem dX8_mixedDay_53 : decode cX8_mixedDay 53 = .ok (.lstore_n 3, 1) := by decide +kernel
theorem dX8_mixedDay_54 : decode cX8_mixedDay 54 = .ok (.lload_n 3, 1) := by decide +kernel
theorem dX8_mixedDay_55 : decode cX8_mixedDay 55 = .ok (.aload_n 0, 1) := by decide +kernel
theorem dX8_mixedDay_56 : decode cX8_mixedDay 56 = .ok (.iconst 5, 1) := by decide +kernel
theorem dX8_mixedDay_57 : decode cX8_mixedDay 57 = .ok (.bipush 7, 2) := by decide +kernel
theorem dX8_mixedDay_59 : decode cX8_mixedDay 59 = .ok (.iconst 3, 1) := by decide +kernel
theorem dX8_mixedDay_60 : decode cX8_mixedDay 60 = .ok (.iconst 0, 1) := by decide +kernel
theorem dX8_mixedDay_61 : decode cX8_mixedDay 61 = .ok (.invokevirtual 399, 3) := by decide +kernel
theorem dX8_mixedDay_64 : decode cX8_mixedDay 64 = .ok (.invokestatic 315, 3) := by decide +kernel
theorem dX8_mixedDay_67 : decode cX8_mixedDay 67 = .ok (.aload_n 0, 1) := by decide +kernel
theorem dX8_mixedDay_68 : decode cX8_mixedDay 68 = .ok (.iconst 5, 1) := by decide +kernel
theorem dX8_mixedDay_69 : decode cX8_mixedDay 69 = .ok (.bipush 7, 2) := by decide +kernel
theorem dX8_mixedDay_71 : decode cX8_mixedDay 71 = .ok (.iconst 3, 1) := by decide +kernel
theorem dX8_mixedDay_72 : decode cX8_mixedDay 72 = .ok (.iconst 1, 1) := by decide +kernel
theorem dX8_mixedDay_73 : decode cX8_mixedDay 73 = .ok (.invokevirtual 399, 3) := by decide +kernel
theorem dX8_mixedDay_76 : decode cX8_mixedDay 76 = .ok (.invokestatic 315, 3) := by decide +kernel
theorem dX8_mixedDay_79 : decode cX8_mixedDay 79 = .ok (.lstore_n 3, 1) := by decide +kernel
theorem dX8_mixedDay_80 : decode cX8_mixedDay 80 = .ok (.lload_n 3, 1) := by decide +kernel
theorem dX8_mixedDay_81 : decode cX8_mixedDay 81 = .ok (.aload_n 0, 1) := by decide +kernel
theorem dX8_mixedDay_82 : decode cX8_mixedDay 82 = .ok (.iconst 1, 1) := by decide +kernel
theorem dX8_mixedDay_83 : decode cX8_mixedDay 83 = .ok (.invokevirtual 403, 3) := by decide +kernel
theorem dX8_mixedDay_86 : decode cX8_mixedDay 86 = .ok (.i2l, 1) := by decide +kernel
theorem dX8_mixedDay_87 : decode cX8_mixedDay 87 = .ok (.invokestatic 315, 3) := by decide +kernel
theorem dX8_mixedDay_90 : decode cX8_mixedDay 90 = .ok (.lreturn, 1) := by decide +kernel
theorem dX8_mixed_0 : decode cX8_mixed 0 = .ok (.ldc2_w 406, 3) := by decide +kernel
theorem dX8_mixed_3 : decode cX8_mixed 3 = .ok (.lload_n 0, 1) := by decide +kernel
theorem dX8_mixed_4 : decode cX8_mixed 4 = .ok (.lmul, 1) := by decide +kernel
theorem dX8_mixed_5 : decode cX8_mixed 5 = .ok (.lload_n 2, 1) := by decide +kernel
theorem dX8_mixed_6 : decode cX8_mixed 6 = .ok (.ladd, 1) := by decide +kernel
theorem dX8_mixed_7 : decode cX8_mixed 7 = .ok (.lreturn, 1) := by decide +kernel
theorem dX8_refresh_0 : decode cX8_refresh 0 = .ok (.aload_n 0, 1) := by decide +kernel
theorem dX8_refresh_1 : decode cX8_refresh 1 = .ok (.getfield 24, 3) := by decide +kernel
theorem dX8_refresh_4 : decode cX8_refresh 4 = .ok (.aload_n 0, 1) := by decide +kernel
theorem dX8_refresh_5 : decode cX8_refresh 5 = .ok (.getfield 14, 3) := by decide +kernel
theorem dX8_refresh_8 : decode cX8_refresh 8 = .ok (.invokevirtual 408, 3) := by decide +kernel
theorem dX8_refresh_11 : decode cX8_refresh 11 = .ok (.aload_n 0, 1) := by decide +kernel
theorem dX8_refresh_12 : decode cX8_refresh 12 = .ok (.getfield 31, 3) := by decide +kernel
theorem dX8_refresh_15 : decode cX8_refresh 15 = .ok (.aload_n 0, 1) := by decide +kernel
theorem dX8_refresh_16 : decode cX8_refresh 16 = .ok (.getfield 18, 3) := by decide +kernel
theorem dX8_refresh_19 : decode cX8_refresh 19 = .ok (.invokevirtual 412, 3) := by decide +kernel
theorem dX8_refresh_22 : decode cX8_refresh 22 = .ok (.aload_n 0, 1) := by decide +kernel
theorem dX8_refresh_23 : decode cX8_refresh 23 = .ok (.getfield 72, 3) := by decide +kernel
theorem dX8_refresh_26 : decode cX8_refresh 26 = .ok (.aload_n 0, 1) := by decide +kernel
theorem dX8_refresh_27 : decode cX8_refresh 27 = .ok (.getfield 24, 3) := by decide +kernel
theorem dX8_refresh_30 : decode cX8_refresh 30 = .ok (.invokevirtual 180, 3) := by decide +kernel
theorem dX8_refresh_33 : decode cX8_refresh 33 = .ok (.aload_n 0, 1) := by decide +kernel
theorem dX8_refresh_34 : decode cX8_refresh 34 = .ok (.getfield 31, 3) := by decide +kernel
theorem dX8_refresh_37 : decode cX8_refresh 37 = .ok (.aload_n 0, 1) := by decide +kernel
theorem dX8_refresh_38 : decode cX8_refresh 38 = .ok (.getfield 50, 3) := by decide +kernel
theorem dX8_refresh_41 : decode cX8_refresh 41 = .ok (.aload_n 0, 1) := by decide +kernel
theorem dX8_refresh_42 : decode cX8_refresh 42 = .ok (.getfield 54, 3) := by decide +kernel
theorem dX8_refresh_45 : decode cX8_refresh 45 = .ok (.aload_n 0, 1) := by decide +kernel
theorem dX8_refresh_46 : decode cX8_refresh 46 = .ok (.getfield 66, 3) := by decide +kernel
theorem dX8_refresh_49 : decode cX8_refresh 49 = .ok (.iconst 4, 1) := by decide +kernel
theorem dX8_refresh_50 : decode cX8_refresh 50 = .ok (.invokevirtual 190, 3) := by decide +kernel
theorem dX8_refresh_53 : decode cX8_refresh 53 = .ok (.invokevirtual 413, 3) := by decide +kernel
theorem dX8_refresh_56 : decode cX8_refresh 56 = .ok (.aload_n 0, 1) := by decide +kernel
theorem dX8_refresh_57 : decode cX8_refresh 57 = .ok (.iconst 0, 1) := by decide +kernel
theorem dX8_refresh_58 : decode cX8_refresh 58 = .ok (.putfield 417, 3) := by decide +kernel
theorem dX8_refresh_61 : decode cX8_refresh 61 = .ok (.return_, 1) := by decide +kernel
theorem dX8_findBestRow_0 : decode cX8_findBestRow 0 = .ok (.aload_n 0, 1) := by decide +kernel
theorem dX8_findBestRow_1 : decode cX8_findBestRow 1 = .ok (.getfield 417, 3) := by decide +kernel
theorem dX8_findBestRow_4 : decode cX8_findBestRow 4 = .ok (.ifCond .ne 35, 3) := by decide +kernel
theorem dX8_findBestRow_7 : decode cX8_findBestRow 7 = .ok (.aload_n 0, 1) := by decide +kernel
theorem dX8_findBestRow_8 : decode cX8_findBestRow 8 = .ok (.getfield 79, 3) := by decide +kernel
theorem dX8_findBestRow_11 : decode cX8_findBestRow 11 = .ok (.aload_n 0, 1) := by decide +kernel
theorem dX8_findBestRow_12 : decode cX8_findBestRow 12 = .ok (.getfield 24, 3) := by decide +kernel
theorem dX8_findBestRow_15 : decode cX8_findBestRow 15 = .ok (.aload_n 0, 1) := by decide +kernel
theorem dX8_findBestRow_16 : decode cX8_findBestRow 16 = .ok (.getfield 50, 3) := by decide +kernel
theorem dX8_findBestRow_19 : decode cX8_findBestRow 19 = .ok (.iconst 0, 1) := by decide +kernel
theorem dX8_findBestRow_20 : decode cX8_findBestRow 20 = .ok (.invokevirtual 190, 3) := by decide +kernel
theorem dX8_findBestRow_23 : decode cX8_findBestRow 23 = .ok (.aload_n 0, 1) := by decide +kernel
theorem dX8_findBestRow_24 : decode cX8_findBestRow 24 = .ok (.getfield 54, 3) := by decide +kernel
theorem dX8_findBestRow_27 : decode cX8_findBestRow 27 = .ok (.iconst 0, 1) := by decide +kernel
theorem dX8_findBestRow_28 : decode cX8_findBestRow 28 = .ok (.invokevirtual 190, 3) := by decide +kernel
theorem dX8_findBestRow_31 : decode cX8_findBestRow 31 = .ok (.invokevirtual 421, 3) := by decide +kernel
theorem dX8_findBestRow_34 : decode cX8_findBestRow 34 = .ok (.aload_n 0, 1) := by decide +kernel
theorem dX8_findBestRow_35 : decode cX8_findBestRow 35 = .ok (.iconst 1, 1) := by decide +kernel
theorem dX8_findBestRow_36 : decode cX8_findBestRow 36 = .ok (.putfield 417, 3) := by decide +kernel
theorem dX8_findBestRow_39 : decode cX8_findBestRow 39 = .ok (.return_, 1) := by decide +kernel
theorem dX8_squeezedOffIn_0 : decode cX8_squeezedOffIn 0 = .ok (.aload_n 0, 1) := by decide +kernel
theorem dX8_squeezedOffIn_1 : decode cX8_squeezedOffIn 1 = .ok (.getfield 31, 3) := by decide +kernel
theorem dX8_squeezedOffIn_4 : decode cX8_squeezedOffIn 4 = .ok (.aload_n 0, 1) := by decide +kernel
theorem dX8_squeezedOffIn_5 : decode cX8_squeezedOffIn 5 = .ok (.getfield 72, 3) := by decide +kernel
theorem dX8_squeezedOffIn_8 : decode cX8_squeezedOffIn 8 = .ok (.iload_n 1, 1) := by decide +kernel
theorem dX8_squeezedOffIn_9 : decode cX8_squeezedOffIn 9 = .ok (.invokevirtual 169, 3) := by decide +kernel
theorem dX8_squeezedOffIn_12 : decode cX8_squeezedOffIn 12 = .ok (.invokevirtual 139, 3) := by decide +kernel
theorem dX8_squeezedOffIn_15 : decode cX8_squeezedOffIn 15 = .ok (.ifCond .ne 5, 3) := by decide +kernel
theorem dX8_squeezedOffIn_18 : decode cX8_squeezedOffIn 18 = .ok (.iconst (-1), 1) := by decide +kernel
theorem dX8_squeezedOffIn_19 : decode cX8_squeezedOffIn 19 = .ok (.ireturn, 1) := by decide +kernel
theorem dX8_squeezedOffIn_20 : decode cX8_squeezedOffIn 20 = .ok (.aload_n 0, 1) := by decide +kernel
theorem dX8_squeezedOffIn_21 : decode cX8_squeezedOffIn 21 = .ok (.getfield 24, 3) := by decide +kernel
theorem dX8_squeezedOffIn_24 : decode cX8_squeezedOffIn 24 = .ok (.aload_n 0, 1) := by decide +kernel
theorem dX8_squeezedOffIn_25 : decode cX8_squeezedOffIn 25 = .ok (.getfield 72, 3) := by decide +kernel
theorem dX8_squeezedOffIn_28 : decode cX8_squeezedOffIn 28 = .ok (.iconst 0, 1) := by decide +kernel
theorem dX8_squeezedOffIn_29 : decode cX8_squeezedOffIn 29 = .ok (.iload_n 1, 1) := by decide +kernel
theorem dX8_squeezedOffIn_30 : decode cX8_squeezedOffIn 30 = .ok (.invokevirtual 160, 3) := by decide +kernel
theorem dX8_squeezedOffIn_33 : decode cX8_squeezedOffIn 33 = .ok (.aload_n 0, 1) := by decide +kernel
theorem dX8_squeezedOffIn_34 : decode cX8_squeezedOffIn 34 = .ok (.getfield 72, 3) := by decide +kernel
theorem dX8_squeezedOffIn_37 : decode cX8_squeezedOffIn 37 = .ok (.iconst 1, 1) := by decide +kernel
theorem dX8_squeezedOffIn_38 : decode cX8_squeezedOffIn 38 = .ok (.iload_n 1, 1) := by decide +kernel
theorem dX8_squeezedOffIn_39 : decode cX8_squeezedOffIn 39 = .ok (.invokevirtual 160, 3) := by decide +kernel
theorem dX8_squeezedOffIn_42 : decode cX8_squeezedOffIn 42 = .ok (.aload_n 0, 1) := by decide +kernel
theorem dX8_squeezedOffIn_43 : decode cX8_squeezedOffIn 43 = .ok (.getfield 66, 3) := by decide +kernel
theorem dX8_squeezedOffIn_46 : decode cX8_squeezedOffIn 46 = .ok (.iconst 1, 1) := by decide +kernel
theorem dX8_squeezedOffIn_47 : decode cX8_squeezedOffIn 47 = .ok (.invokevirtual 190, 3) := by decide +kernel
theorem dX8_squeezedOffIn_50 : decode cX8_squeezedOffIn 50 = .ok (.invokevirtual 425, 3) := by decide +kernel
theorem dX8_squeezedOffIn_53 : decode cX8_squeezedOffIn 53 = .ok (.ireturn, 1) := by decide +kernel
theorem dX8_startOf_0 : decode cX8_startOf 0 = .ok (.iload_n 1, 1) := by decide +kernel
theorem dX8_startOf_1 : decode cX8_startOf 1 = .ok (.iload_n 2, 1) := by decide +kernel
theorem dX8_startOf_2 : decode cX8_startOf 2 = .ok (.if_icmp .gt 21, 3) := by decide +kernel
theorem dX8_startOf_5 : decode cX8_startOf 5 = .ok (.aload_n 0, 1) := by decide +kernel
theorem dX8_startOf_6 : decode cX8_startOf 6 = .ok (.getfield 50, 3) := by decide +kernel
theorem dX8_startOf_9 : decode cX8_startOf 9 = .ok (.iconst 0, 1) := by decide +kernel
theorem dX8_startOf_10 : decode cX8_startOf 10 = .ok (.invokevirtual 190, 3) := by decide +kernel
theorem dX8_startOf_13 : decode cX8_startOf 13 = .ok (.bipush 10, 2) := by decide +kernel
theorem dX8_startOf_15 : decode cX8_startOf 15 = .ok (.iload_n 2, 1) := by decide +kernel
theorem dX8_startOf_16 : decode cX8_startOf 16 = .ok (.iload_n 1, 1) := by decide +kernel
theorem dX8_startOf_17 : decode cX8_startOf 17 = .ok (.isub, 1) := by decide +kernel
theorem dX8_startOf_18 : decode cX8_startOf 18 = .ok (.imul, 1) := by decide +kernel
theorem dX8_startOf_19 : decode cX8_startOf 19 = .ok (.iadd, 1) := by decide +kernel
theorem dX8_startOf_20 : decode cX8_startOf 20 = .ok (.goto 4, 3) := by decide +kernel
theorem dX8_startOf_23 : decode cX8_startOf 23 = .ok (.iconst 0, 1) := by decide +kernel
theorem dX8_startOf_24 : decode cX8_startOf 24 = .ok (.istore_n 3, 1) := by decide +kernel
theorem dX8_startOf_25 : decode cX8_startOf 25 = .ok (.iload_n 2, 1) := by decide +kernel
theorem dX8_startOf_26 : decode cX8_startOf 26 = .ok (.iload_n 1, 1) := by decide +kernel
theorem dX8_startOf_27 : decode cX8_startOf 27 = .ok (.if_icmp .gt 21, 3) := by decide +kernel
theorem dX8_startOf_30 : decode cX8_startOf 30 = .ok (.aload_n 0, 1) := by decide +kernel
theorem dX8_startOf_31 : decode cX8_startOf 31 = .ok (.getfield 54, 3) := by decide +kernel
theorem dX8_startOf_34 : decode cX8_startOf 34 = .ok (.iconst 0, 1) := by decide +kernel
theorem dX8_startOf_35 : decode cX8_startOf 35 = .ok (.invokevirtual 190, 3) := by decide +kernel
theorem dX8_startOf_38 : decode cX8_startOf 38 = .ok (.bipush 10, 2) := by decide +kernel
theorem dX8_startOf_40 : decode cX8_startOf 40 = .ok (.iload_n 1, 1) := by decide +kernel
theorem dX8_startOf_41 : decode cX8_startOf 41 = .ok (.iload_n 2, 1) := by decide +kernel
theorem dX8_startOf_42 : decode cX8_startOf 42 = .ok (.isub, 1) := by decide +kernel
theorem dX8_startOf_43 : decode cX8_startOf 43 = .ok (.imul, 1) := by decide +kernel
theorem dX8_startOf_44 : decode cX8_startOf 44 = .ok (.iadd, 1) := by decide +kernel
theorem dX8_startOf_45 : decode cX8_startOf 45 = .ok (.goto 4, 3) := by decide +kernel
theorem dX8_startOf_48 : decode cX8_startOf 48 = .ok (.iconst 0, 1) := by decide +kernel
theorem dX8_startOf_49 : decode cX8_startOf 49 = .ok (.istore 4, 2) := by decide +kernel
theorem dX8_startOf_51 : decode cX8_startOf 51 = .ok (.aload_n 0, 1) := by decide +kernel
theorem dX8_startOf_52 : decode cX8_startOf 52 = .ok (.getfield 24, 3) := by decide +kernel
theorem dX8_startOf_55 : decode cX8_startOf 55 = .ok (.iload_n 3, 1) := by decide +kernel
theorem dX8_startOf_56 : decode cX8_startOf 56 = .ok (.iload 4, 2) := by decide +kernel
theorem dX8_startOf_58 : decode cX8_startOf 58 = .ok (.aload_n 0, 1) := by decide +kernel
theorem dX8_startOf_59 : decode cX8_startOf 59 = .ok (.getfield 66, 3) := by decide +kernel
theorem dX8_startOf_62 : decode cX8_startOf 62 = .ok (.iconst 0, 1) := by decide +kernel
theorem dX8_startOf_63 : decode cX8_startOf 63 = .ok (.invokevirtual 190, 3) := by decide +kernel
theorem dX8_startOf_66 : decode cX8_startOf 66 = .ok (.invokevirtual 193, 3) := by decide +kernel
theorem dX8_startOf_69 : decode cX8_startOf 69 = .ok (.ifCond .eq 5, 3) := by decide +kernel
theorem dX8_startOf_72 : decode cX8_startOf 72 = .ok (.iconst 1, 1) := by decide +kernel
theorem dX8_startOf_73 : decode cX8_startOf 73 = .ok (.ireturn, 1) := by decide +kernel
theorem dX8_startOf_74 : decode cX8_startOf 74 = .ok (.aload_n 0, 1) := by decide +kernel
theorem dX8_startOf_75 : decode cX8_startOf 75 = .ok (.getfield 24, 3) := by decide +kernel
theorem dX8_startOf_78 : decode cX8_startOf 78 = .ok (.iload_n 3, 1) := by decide +kernel
theorem dX8_startOf_79 : decode cX8_startOf 79 = .ok (.iload 4, 2) := by decide +kernel
theorem dX8_startOf_81 : decode cX8_startOf 81 = .ok (.aload_n 0, 1) := by decide +kernel
theorem dX8_startOf_82 : decode cX8_startOf 82 = .ok (.getfield 66, 3) := by decide +kernel
theorem dX8_startOf_85 : decode cX8_startOf 85 = .ok (.iconst 1, 1) := by decide +kernel
theorem dX8_startOf_86 : decode cX8_startOf 86 = .ok (.invokevirtual 190, 3) := by decide +kernel
theorem dX8_startOf_89 : decode cX8_startOf 89 = .ok (.invokevirtual 425, 3) := by decide +kernel
theorem dX8_startOf_92 : decode cX8_startOf 92 = .ok (.iconst (-1), 1) := by decide +kernel
theorem dX8_startOf_93 : decode cX8_startOf 93 = .ok (.if_icmp .ne 7, 3) := by decide +kernel
theorem dX8_startOf_96 : decode cX8_startOf 96 = .ok (.iconst 0, 1) := by decide +kernel
theorem dX8_startOf_97 : decode cX8_startOf 97 = .ok (.goto 4, 3) := by decide +kernel
theorem dX8_startOf_100 : decode cX8_startOf 100 = .ok (.iconst 2, 1) := by decide +kernel
theorem dX8_startOf_101 : decode cX8_startOf 101 = .ok (.ireturn, 1) := by decide +kernel
theorem dX8_busyMinutes_0 : decode cX8_busyMinutes 0 = .ok (.aload_n 0, 1) := by decide +kernel
theorem dX8_busyMinutes_1 : decode cX8_busyMinutes 1 = .ok (.getfield 66, 3) := by decide +kernel
theorem dX8_busyMinutes_4 : decode cX8_busyMinutes 4 = .ok (.iconst 2, 1) := by decide +kernel
theorem dX8_busyMinutes_5 : decode cX8_busyMinutes 5 = .ok (.invokevirtual 190, 3) := by decide +kernel
theorem dX8_busyMinutes_8 : decode cX8_busyMinutes 8 = .ok (.aload_n 0, 1) := by decide +kernel
theorem dX8_busyMinutes_9 : decode cX8_busyMinutes 9 = .ok (.getfield 66, 3) := by decide +kernel
theorem dX8_busyMinutes_12 : decode cX8_busyMinutes 12 = .ok (.iconst 3, 1) := by decide +kernel
theorem dX8_busyMinutes_13 : decode cX8_busyMinutes 13 = .ok (.invokevirtual 190, 3) := by decide +kernel
theorem dX8_busyMinutes_16 : decode cX8_busyMinutes 16 = .ok (.iadd, 1) := by decide +kernel
theorem dX8_busyMinutes_17 : decode cX8_busyMinutes 17 = .ok (.ireturn, 1) := by decide +kernel
theorem dX8_found_0 : decode cX8_found 0 = .ok (.aload_n 0, 1) := by decide +kernel
theorem dX8_found_1 : decode cX8_found 1 = .ok (.iload_n 1, 1) := by decide +kernel
theorem dX8_found_2 : decode cX8_found 2 = .ok (.putfield 97, 3) := by decide +kernel
theorem dX8_found_5 : decode cX8_found 5 = .ok (.bipush (-10), 2) := by decide +kernel
theorem dX8_found_7 : decode cX8_found 7 = .ok (.iload_n 1, 1) := by decide +kernel
theorem dX8_found_8 : decode cX8_found 8 = .ok (.isub, 1) := by decide +kernel
theorem dX8_found_9 : decode cX8_found 9 = .ok (.ireturn, 1) := by decide +kernel
theorem dX8_findingOfItem_0 : decode cX8_findingOfItem 0 = .ok (.aload_n 0, 1) := by decide +kernel
theorem dX8_findingOfItem_1 : decode cX8_findingOfItem 1 = .ok (.invokevirtual 242, 3) := by decide +kernel
theorem dX8_findingOfItem_4 : decode cX8_findingOfItem 4 = .ok (.ifCond .eq 5, 3) := by decide +kernel
theorem dX8_findingOfItem_7 : decode cX8_findingOfItem 7 = .ok (.iconst 1, 1) := by decide +kernel
theorem dX8_findingOfItem_8 : decode cX8_findingOfItem 8 = .ok (.ireturn, 1) := by decide +kernel
theorem dX8_findingOfItem_9 : decode cX8_findingOfItem 9 = .ok (.aload_n 0, 1) := by decide +kernel
theorem dX8_findingOfItem_10 : decode cX8_findingOfItem 10 = .ok (.iload_n 1, 1) := by decide +kernel
theorem dX8_findingOfItem_11 : decode cX8_findingOfItem 11 = .ok (.invokevirtual 292, 3) := by decide +kernel
theorem dX8_findingOfItem_14 : decode cX8_findingOfItem 14 = .ok (.ifCond .ne 5, 3) := by decide +kernel
theorem dX8_findingOfItem_17 : decode cX8_findingOfItem 17 = .ok (.iconst 3, 1) := by decide +kernel
theorem dX8_findingOfItem_18 : decode cX8_findingOfItem 18 = .ok (.ireturn, 1) := by decide +kernel
theorem dX8_findingOfItem_19 : decode cX8_findingOfItem 19 = .ok (.aload_n 0, 1) := by decide +kernel
theorem dX8_findingOfItem_20 : decode cX8_findingOfItem 20 = .ok (.iload_n 2, 1) := by decide +kernel
theorem dX8_findingOfItem_21 : decode cX8_findingOfItem 21 = .ok (.iconst 1, 1) := by decide +kernel
theorem dX8_findingOfItem_22 : decode cX8_findingOfItem 22 = .ok (.invokevirtual 295, 3) := by decide +kernel
theorem dX8_findingOfItem_25 : decode cX8_findingOfItem 25 = .ok (.ifCond .eq 7, 3) := by decide +kernel
theorem dX8_findingOfItem_28 : decode cX8_findingOfItem 28 = .ok (.iconst 0, 1) := by decide +kernel
theorem dX8_findingOfItem_29 : decode cX8_findingOfItem 29 = .ok (.goto 4, 3) := by decide +kernel
theorem dX8_findingOfItem_32 : decode cX8_findingOfItem 32 = .ok (.iconst 2, 1) := by decide +kernel
theorem dX8_findingOfItem_33 : decode cX8_findingOfItem 33 = .ok (.ireturn, 1) := by decide +kernel
theorem dX8_textAt_0 : decode cX8_textAt 0 = .ok (.iload_n 1, 1) := by decide +kernel
theorem dX8_textAt_1 : decode cX8_textAt 1 = .ok (.ifCond .ne 8, 3) := by decide +kernel
theorem dX8_textAt_4 : decode cX8_textAt 4 = .ok (.aload_n 0, 1) := by decide +kernel
theorem dX8_textAt_5 : decode cX8_textAt 5 = .ok (.getfield 14, 3) := by decide +kernel
theorem dX8_textAt_8 : decode cX8_textAt 8 = .ok (.areturn, 1) := by decide +kernel
theorem dX8_textAt_9 : decode cX8_textAt 9 = .ok (.iload_n 1, 1) := by decide +kernel
theorem dX8_textAt_10 : decode cX8_textAt 10 = .ok (.iconst 1, 1) := by decide +kernel
theorem dX8_textAt_11 : decode cX8_textAt 11 = .ok (.if_icmp .ne 10, 3) := by decide +kernel
theorem dX8_textAt_14 : decode cX8_textAt 14 = .ok (.aload_n 0, 1) := by decide +kernel
theorem dX8_textAt_15 : decode cX8_textAt 15 = .ok (.getfield 18, 3) := by decide +kernel
theorem dX8_textAt_18 : decode cX8_textAt 18 = .ok (.goto 4, 3) := by decide +kernel
theorem dX8_textAt_21 : decode cX8_textAt 21 = .ok (.aconst_null, 1) := by decide +kernel
theorem dX8_textAt_22 : decode cX8_textAt 22 = .ok (.areturn, 1) := by decide +kernel
theorem dX8_engineAt_0 : decode cX8_engineAt 0 = .ok (.iload_n 1, 1) := by decide +kernel
theorem dX8_engineAt_1 : decode cX8_engineAt 1 = .ok (.ifCond .ne 10, 3) := by decide +kernel
theorem dX8_engineAt_4 : decode cX8_engineAt 4 = .ok (.aload_n 0, 1) := by decide +kernel
theorem dX8_engineAt_5 : decode cX8_engineAt 5 = .ok (.getfield 50, 3) := by decide +kernel
theorem dX8_engineAt_8 : decode cX8_engineAt 8 = .ok (.goto 7, 3) := by decide +kernel
theorem dX8_engineAt_11 : decode cX8_engineAt 11 = .ok (.aload_n 0, 1) := by decide +kernel
theorem dX8_engineAt_12 : decode cX8_engineAt 12 = .ok (.getfield 54, 3) := by decide +kernel
theorem dX8_engineAt_15 : decode cX8_engineAt 15 = .ok (.areturn, 1) := by decide +kernel
theorem dX8_sheetAt_0 : decode cX8_sheetAt 0 = .ok (.iload_n 1, 1) := by decide +kernel
theorem dX8_sheetAt_1 : decode cX8_sheetAt 1 = .ok (.ifCond .lt 21, 3) := by decide +kernel
theorem dX8_sheetAt_4 : decode cX8_sheetAt 4 = .ok (.iload_n 1, 1) := by decide +kernel
theorem dX8_sheetAt_5 : decode cX8_sheetAt 5 = .ok (.aload_n 0, 1) := by decide +kernel
theorem dX8_sheetAt_6 : decode cX8_sheetAt 6 = .ok (.getfield 92, 3) := by decide +kernel
theorem dX8_sheetAt_9 : decode cX8_sheetAt 9 = .ok (.arraylength, 1) := by decide +kernel
theorem dX8_sheetAt_10 : decode cX8_sheetAt 10 = .ok (.if_icmp .ge 12, 3) := by decide +kernel
theorem dX8_sheetAt_13 : decode cX8_sheetAt 13 = .ok (.aload_n 0, 1) := by decide +kernel
theorem dX8_sheetAt_14 : decode cX8_sheetAt 14 = .ok (.getfield 92, 3) := by decide +kernel
theorem dX8_sheetAt_17 : decode cX8_sheetAt 17 = .ok (.iload_n 1, 1) := by decide +kernel
theorem dX8_sheetAt_18 : decode cX8_sheetAt 18 = .ok (.aaload, 1) := by decide +kernel
theorem dX8_sheetAt_19 : decode cX8_sheetAt 19 = .ok (.goto 4, 3) := by decide +kernel
theorem dX8_sheetAt_22 : decode cX8_sheetAt 22 = .ok (.aconst_null, 1) := by decide +kernel
theorem dX8_sheetAt_23 : decode cX8_sheetAt 23 = .ok (.areturn, 1) := by decide +kernel
theorem dX8_isEngine_0 : decode cX8_isEngine 0 = .ok (.iload_n 0, 1) := by decide +kernel
theorem dX8_isEngine_1 : decode cX8_isEngine 1 = .ok (.ifCond .eq 8, 3) := by decide +kernel
theorem dX8_isEngine_4 : decode cX8_isEngine 4 = .ok (.iload_n 0, 1) := by decide +kernel
theorem dX8_isEngine_5 : decode cX8_isEngine 5 = .ok (.iconst 1, 1) := by decide +kernel
theorem dX8_isEngine_6 : decode cX8_isEngine 6 = .ok (.if_icmp .ne 7, 3) := by decide +kernel
theorem dX8_isEngine_9 : decode cX8_isEngine 9 = .ok (.iconst 1, 1) := by decide +kernel
theorem dX8_isEngine_10 : decode cX8_isEngine 10 = .ok (.goto 4, 3) := by decide +kernel
theorem dX8_isEngine_13 : decode cX8_isEngine 13 = .ok (.iconst 0, 1) := by decide +kernel
theorem dX8_isEngine_14 : decode cX8_isEngine 14 = .ok (.ireturn, 1) := by decide +kernel
theorem dX8_isMinute_0 : decode cX8_isMinute 0 = .ok (.iload_n 0, 1) := by decide +kernel
theorem dX8_isMinute_1 : decode cX8_isMinute 1 = .ok (.ifCond .lt 13, 3) := by decide +kernel
theorem dX8_isMinute_4 : decode cX8_isMinute 4 = .ok (.iload_n 0, 1) := by decide +kernel
theorem dX8_isMinute_5 : decode cX8_isMinute 5 = .ok (.bipush 40, 2) := by decide +kernel
theorem dX8_isMinute_7 : decode cX8_isMinute 7 = .ok (.if_icmp .ge 7, 3) := by decide +kernel
theorem dX8_isMinute_10 : decode cX8_isMinute 10 = .ok (.iconst 1, 1) := by decide +kernel
theorem dX8_isMinute_11 : decode cX8_isMinute 11 = .ok (.goto 4, 3) := by decide +kernel
theorem dX8_isMinute_14 : decode cX8_isMinute 14 = .ok (.iconst 0, 1) := by decide +kernel
theorem dX8_isMinute_15 : decode cX8_isMinute 15 = .ok (.ireturn, 1) := by decide +kernel
theorem dX8_isSecond_0 : decode cX8_isSecond 0 = .ok (.iload_n 0, 1) := by decide +kernel
theorem dX8_isSecond_1 : decode cX8_isSecond 1 = .ok (.ifCond .lt 13, 3) := by decide +kernel
theorem dX8_isSecond_4 : decode cX8_isSecond 4 = .ok (.iload_n 0, 1) := by decide +kernel
theorem dX8_isSecond_5 : decode cX8_isSecond 5 = .ok (.bipush 10, 2) := by decide +kernel
theorem dX8_isSecond_7 : decode cX8_isSecond 7 = .ok (.if_icmp .ge 7, 3) := by decide +kernel
theorem dX8_isSecond_10 : decode cX8_isSecond 10 = .ok (.iconst 1, 1) := by decide +kernel
theorem dX8_isSecond_11 : decode cX8_isSecond 11 = .ok (.goto 4, 3) := by decide +kernel
theorem dX8_isSecond_14 : decode cX8_isSecond 14 = .ok (.iconst 0, 1) := by decide +kernel
theorem dX8_isSecond_15 : decode cX8_isSecond 15 = .ok (.ireturn, 1) := by decide +kernel
theorem dX8_isFootMinute_0 : decode cX8_isFootMinute 0 = .ok (.iload_n 0, 1) := by decide +kernel
theorem dX8_isFootMinute_1 : decode cX8_isFootMinute 1 = .ok (.ifCond .lt 14, 3) := by decide +kernel
theorem dX8_isFootMinute_4 : decode cX8_isFootMinute 4 = .ok (.iload_n 0, 1) := by decide +kernel
theorem dX8_isFootMinute_5 : decode cX8_isFootMinute 5 = .ok (.sipush 999, 3) := by decide +kernel
theorem dX8_isFootMinute_8 : decode cX8_isFootMinute 8 = .ok (.if_icmp .gt 7, 3) := by decide +kernel
theorem dX8_isFootMinute_11 : decode cX8_isFootMinute 11 = .ok (.iconst 1, 1) := by decide +kernel
theorem dX8_isFootMinute_12 : decode cX8_isFootMinute 12 = .ok (.goto 4, 3) := by decide +kernel
theorem dX8_isFootMinute_15 : decode cX8_isFootMinute 15 = .ok (.iconst 0, 1) := by decide +kernel
theorem dX8_isFootMinute_16 : decode cX8_isFootMinute 16 = .ok (.ireturn, 1) := by decide +kernel
theorem dX8_isForm_0 : decode cX8_isForm 0 = .ok (.iload_n 0, 1) := by decide +kernel
theorem dX8_isForm_1 : decode cX8_isForm 1 = .ok (.ifCond .lt 12, 3) := by decide +kernel
theorem dX8_isForm_4 : decode cX8_isForm 4 = .ok (.iload_n 0, 1) := by decide +kernel
theorem dX8_isForm_5 : decode cX8_isForm 5 = .ok (.iconst 3, 1) := by decide +kernel
theorem dX8_isForm_6 : decode cX8_isForm 6 = .ok (.if_icmp .ge 7, 3) := by decide +kernel
theorem dX8_isForm_9 : decode cX8_isForm 9 = .ok (.iconst 1, 1) := by decide +kernel
theorem dX8_isForm_10 : decode cX8_isForm 10 = .ok (.goto 4, 3) := by decide +kernel
theorem dX8_isForm_13 : decode cX8_isForm 13 = .ok (.iconst 0, 1) := by decide +kernel
theorem dX8_isForm_14 : decode cX8_isForm 14 = .ok (.ireturn, 1) := by decide +kernel
theorem dX8_isZeroOrOne_0 : decode cX8_isZeroOrOne 0 = .ok (.iload_n 0, 1) := by decide +kernel
theorem dX8_isZeroOrOne_1 : decode cX8_isZeroOrOne 1 = .ok (.ifCond .eq 8, 3) := by decide +kernel
theorem dX8_isZeroOrOne_4 : decode cX8_isZeroOrOne 4 = .ok (.iload_n 0, 1) := by decide +kernel
theorem dX8_isZeroOrOne_5 : decode cX8_isZeroOrOne 5 = .ok (.iconst 1, 1) := by decide +kernel
theorem dX8_isZeroOrOne_6 : decode cX8_isZeroOrOne 6 = .ok (.if_icmp .ne 7, 3) := by decide +kernel
theorem dX8_isZeroOrOne_9 : decode cX8_isZeroOrOne 9 = .ok (.iconst 1, 1) := by decide +kernel
theorem dX8_isZeroOrOne_10 : decode cX8_isZeroOrOne 10 = .ok (.goto 4, 3) := by decide +kernel
theorem dX8_isZeroOrOne_13 : decode cX8_isZeroOrOne 13 = .ok (.iconst 0, 1) := by decide +kernel
theorem dX8_isZeroOrOne_14 : decode cX8_isZeroOrOne 14 = .ok (.ireturn, 1) := by decide +kernel
theorem dX8_refusedAsLong_0 : decode cX8_refusedAsLong 0 = .ok (.ldc2_w 428, 3) := by decide +kernel
theorem dX8_refusedAsLong_3 : decode cX8_refusedAsLong 3 = .ok (.iload_n 0, 1) := by decide +kernel
theorem dX8_refusedAsLong_4 : decode cX8_refusedAsLong 4 = .ok (.i2l, 1) := by decide +kernel
theorem dX8_refusedAsLong_5 : decode cX8_refusedAsLong 5 = .ok (.lsub, 1) := by decide +kernel
theorem dX8_refusedAsLong_6 : decode cX8_refusedAsLong 6 = .ok (.lreturn, 1) := by decide +kernel
theorem dX8_inLowestTerms_0 : decode cX8_inLowestTerms 0 = .ok (.lload_n 0, 1) := by decide +kernel
theorem dX8_inLowestTerms_1 : decode cX8_inLowestTerms 1 = .ok (.invokestatic 430, 3) := by decide +kernel
theorem dX8_inLowestTerms_4 : decode cX8_inLowestTerms 4 = .ok (.lload_n 2, 1) := by decide +kernel
theorem dX8_inLowestTerms_5 : decode cX8_inLowestTerms 5 = .ok (.invokestatic 433, 3) := by decide +kernel
theorem dX8_inLowestTerms_8 : decode cX8_inLowestTerms 8 = .ok (.lstore 5, 2) := by decide +kernel
theorem dX8_inLowestTerms_10 : decode cX8_inLowestTerms 10 = .ok (.lload 5, 2) := by decide +kernel
theorem dX8_inLowestTerms_12 : decode cX8_inLowestTerms 12 = .ok (.lconst 0, 1) := by decide +kernel
theorem dX8_inLowestTerms_13 : decode cX8_inLowestTerms 13 = .ok (.lcmp, 1) := by decide +kernel
theorem dX8_inLowestTerms_14 : decode cX8_inLowestTerms 14 = .ok (.ifCond .ne 14, 3) := by decide +kernel
theorem dX8_inLowestTerms_17 : decode cX8_inLowestTerms 17 = .ok (.iload 4, 2) := by decide +kernel
theorem dX8_inLowestTerms_19 : decode cX8_inLowestTerms 19 = .ok (.ifCond .ne 7, 3) := by decide +kernel
theorem dX8_inLowestTerms_22 : decode cX8_inLowestTerms 22 = .ok (.lconst 0, 1) := by decide +kernel
theorem dX8_inLowestTerms_23 : decode cX8_inLowestTerms 23 = .ok (.goto 4, 3) := by decide +kernel
theorem dX8_inLowestTerms_26 : decode cX8_inLowestTerms 26 = .ok (.lconst 1, 1) := by decide +kernel
theorem dX8_inLowestTerms_27 : decode cX8_inLowestTerms 27 = .ok (.lreturn, 1) := by decide +kernel
theorem dX8_inLowestTerms_28 : decode cX8_inLowestTerms 28 = .ok (.iload 4, 2) := by decide +kernel
theorem dX8_inLowestTerms_30 : decode cX8_inLowestTerms 30 = .ok (.ifCond .ne 7, 3) := by decide +kernel
theorem dX8_inLowestTerms_33 : decode cX8_inLowestTerms 33 = .ok (.lload_n 0, 1) := by decide +kernel
theorem dX8_inLowestTerms_34 : decode cX8_inLowestTerms 34 = .ok (.goto 4, 3) := by decide +kernel
theorem dX8_inLowestTerms_37 : decode cX8_inLowestTerms 37 = .ok (.lload_n 2, 1) := by decide +kernel
theorem dX8_inLowestTerms_38 : decode cX8_inLowestTerms 38 = .ok (.lload 5, 2) := by decide +kernel
theorem dX8_inLowestTerms_40 : decode cX8_inLowestTerms 40 = .ok (.ldiv, 1) := by decide +kernel
theorem dX8_inLowestTerms_41 : decode cX8_inLowestTerms 41 = .ok (.lreturn, 1) := by decide +kernel
theorem dX8_commonDivisor_0 : decode cX8_commonDivisor 0 = .ok (.lload_n 0, 1) := by decide +kernel
theorem dX8_commonDivisor_1 : decode cX8_commonDivisor 1 = .ok (.lstore 4, 2) := by decide +kernel
theorem dX8_commonDivisor_3 : decode cX8_commonDivisor 3 = .ok (.lload_n 2, 1) := by decide +kernel
theorem dX8_commonDivisor_4 : decode cX8_commonDivisor 4 = .ok (.lstore 6, 2) := by decide +kernel
theorem dX8_commonDivisor_6 : decode cX8_commonDivisor 6 = .ok (.iconst 0, 1) := by decide +kernel
theorem dX8_commonDivisor_7 : decode cX8_commonDivisor 7 = .ok (.istore 8, 2) := by decide +kernel
theorem dX8_commonDivisor_9 : decode cX8_commonDivisor 9 = .ok (.iload 8, 2) := by decide +kernel
theorem dX8_commonDivisor_11 : decode cX8_commonDivisor 11 = .ok (.sipush 200, 3) := by decide +kernel
theorem dX8_commonDivisor_14 : decode cX8_commonDivisor 14 = .ok (.if_icmp .ge 31, 3) := by decide +kernel
theorem dX8_commonDivisor_17 : decode cX8_commonDivisor 17 = .ok (.lload 6, 2) := by decide +kernel
theorem dX8_commonDivisor_19 : decode cX8_commonDivisor 19 = .ok (.lconst 0, 1) := by decide +kernel
theorem dX8_commonDivisor_20 : decode cX8_commonDivisor 20 = .ok (.lcmp, 1) := by decide +kernel
theorem dX8_commonDivisor_21 : decode cX8_commonDivisor 21 = .ok (.ifCond .eq 24, 3) := by decide +kernel
theorem dX8_commonDivisor_24 : decode cX8_commonDivisor 24 = .ok (.lload 4, 2) := by decide +kernel
theorem dX8_commonDivisor_26 : decode cX8_commonDivisor 26 = .ok (.lload 6, 2) := by decide +kernel
theorem dX8_commonDivisor_28 : decode cX8_commonDivisor 28 = .ok (.lrem, 1) := by decide +kernel
theorem dX8_commonDivisor_29 : decode cX8_commonDivisor 29 = .ok (.lstore 9, 2) := by decide +kernel
theorem dX8_commonDivisor_31 : decode cX8_commonDivisor 31 = .ok (.lload 6, 2) := by decide +kernel
theorem dX8_commonDivisor_33 : decode cX8_commonDivisor 33 = .ok (.lstore 4, 2) := by decide +kernel
theorem dX8_commonDivisor_35 : decode cX8_commonDivisor 35 = .ok (.lload 9, 2) := by decide +kernel
theorem dX8_commonDivisor_37 : decode cX8_commonDivisor 37 = .ok (.lstore 6, 2) := by decide +kernel
theorem dX8_commonDivisor_39 : decode cX8_commonDivisor 39 = .ok (.iinc 8 1, 3) := by decide +kernel
theorem dX8_commonDivisor_42 : decode cX8_commonDivisor 42 = .ok (.goto (-33), 3) := by decide +kernel
theorem dX8_commonDivisor_45 : decode cX8_commonDivisor 45 = .ok (.lload 4, 2) := by decide +kernel
theorem dX8_commonDivisor_47 : decode cX8_commonDivisor 47 = .ok (.lreturn, 1) := by decide +kernel
theorem dX8_power_0 : decode cX8_power 0 = .ok (.lconst 1, 1) := by decide +kernel
theorem dX8_power_1 : decode cX8_power 1 = .ok (.lstore_n 2, 1) := by decide +kernel
theorem dX8_power_2 : decode cX8_power 2 = .ok (.iconst 0, 1) := by decide +kernel
theorem dX8_power_3 : decode cX8_power 3 = .ok (.istore 4, 2) := by decide +kernel
theorem dX8_power_5 : decode cX8_power 5 = .ok (.iload 4, 2) := by decide +kernel
theorem dX8_power_7 : decode cX8_power 7 = .ok (.iload_n 1, 1) := by decide +kernel
theorem dX8_power_8 : decode cX8_power 8 = .ok (.if_icmp .ge 14, 3) := by decide +kernel
theorem dX8_power_11 : decode cX8_power 11 = .ok (.lload_n 2, 1) := by decide +kernel
theorem dX8_power_12 : decode cX8_power 12 = .ok (.iload_n 0, 1) := by decide +kernel
theorem dX8_power_13 : decode cX8_power 13 = .ok (.i2l, 1) := by decide +kernel
theorem dX8_power_14 : decode cX8_power 14 = .ok (.lmul, 1) := by decide +kernel
theorem dX8_power_15 : decode cX8_power 15 = .ok (.lstore_n 2, 1) := by decide +kernel
theorem dX8_power_16 : decode cX8_power 16 = .ok (.iinc 4 1, 3) := by decide +kernel
theorem dX8_power_19 : decode cX8_power 19 = .ok (.goto (-14), 3) := by decide +kernel
theorem dX8_power_22 : decode cX8_power 22 = .ok (.lload_n 2, 1) := by decide +kernel
theorem dX8_power_23 : decode cX8_power 23 = .ok (.lreturn, 1) := by decide +kernel
theorem dX8_choices_0 : decode cX8_choices 0 = .ok (.lconst 1, 1) := by decide +kernel
theorem dX8_choices_1 : decode cX8_choices 1 = .ok (.lstore_n 2, 1) := by decide +kernel
theorem dX8_choices_2 : decode cX8_choices 2 = .ok (.iconst 0, 1) := by decide +kernel
theorem dX8_choices_3 : decode cX8_choices 3 = .ok (.istore 4, 2) := by decide +kernel
theorem dX8_choices_5 : decode cX8_choices 5 = .ok (.iload 4, 2) := by decide +kernel
theorem dX8_choices_7 : decode cX8_choices 7 = .ok (.iload_n 1, 1) := by decide +kernel
theorem dX8_choices_8 : decode cX8_choices 8 = .ok (.if_icmp .ge 23, 3) := by decide +kernel
theorem dX8_choices_11 : decode cX8_choices 11 = .ok (.lload_n 2, 1) := by decide +kernel
theorem dX8_choices_12 : decode cX8_choices 12 = .ok (.iload_n 0, 1) := by decide +kernel
theorem dX8_choices_13 : decode cX8_choices 13 = .ok (.iload 4, 2) := by decide +kernel
theorem dX8_choices_15 : decode cX8_choices 15 = .ok (.isub, 1) := by decide +kernel
theorem dX8_choices_16 : decode cX8_choices 16 = .ok (.i2l, 1) := by decide +kernel
theorem dX8_choices_17 : decode cX8_choices 17 = .ok (.lmul, 1) := by decide +kernel
theorem dX8_choices_18 : decode cX8_choices 18 = .ok (.iload 4, 2) := by decide +kernel
theorem dX8_choices_20 : decode cX8_choices 20 = .ok (.iconst 1, 1) := by decide +kernel
theorem dX8_choices_21 : decode cX8_choices 21 = .ok (.iadd, 1) := by decide +kernel
theorem dX8_choices_22 : decode cX8_choices 22 = .ok (.i2l, 1) := by decide +kernel
theorem dX8_choices_23 : decode cX8_choices 23 = .ok (.ldiv, 1) := by decide +kernel
theorem dX8_choices_24 : decode cX8_choices 24 = .ok (.lstore_n 2, 1) := by decide +kernel
theorem dX8_choices_25 : decode cX8_choices 25 = .ok (.iinc 4 1, 3) := by decide +kernel
theorem dX8_choices_28 : decode cX8_choices 28 = .ok (.goto (-23), 3) := by decide +kernel
theorem dX8_choices_31 : decode cX8_choices 31 = .ok (.lload_n 2, 1) := by decide +kernel
theorem dX8_choices_32 : decode cX8_choices 32 = .ok (.lreturn, 1) := by decide +kernel
end
section
theorem dX9_init_0 : decode cX9_init 0 = .ok (.aload_n 0, 1) := by decide +kernel
theorem dX9_init_1 : decode cX9_init 1 = .ok (.invokespecial 1, 3) := by decide +kernel
theorem dX9_init_4 : decode cX9_init 4 = .ok (.aload_n 0, 1) := by decide +kernel
theorem dX9_init_5 : decode cX9_init 5 = .ok (.iconst 4, 1) := by decide +kernel
theorem dX9_init_6 : decode cX9_init 6 = .ok (.newarray .int, 2) := by decide +kernel
theorem dX9_init_8 : decode cX9_init 8 = .ok (.putfield 7, 3) := by decide +kernel
theorem dX9_init_11 : decode cX9_init 11 = .ok (.aload_n 0, 1) := by decide +kernel
theorem dX9_init_12 : decode cX9_init 12 = .ok (.iconst 4, 1) := by decide +kernel
theorem dX9_init_13 : decode cX9_init 13 = .ok (.newarray .int, 2) := by decide +kernel
theorem dX9_init_15 : decode cX9_init 15 = .ok (.putfield 13, 3) := by decide +kernel
theorem dX9_init_18 : decode cX9_init 18 = .ok (.aload_n 0, 1) := by decide +kernel
theorem dX9_init_19 : decode cX9_init 19 = .ok (.sipush 240, 3) := by decide +kernel
theorem dX9_init_22 : decode cX9_init 22 = .ok (.newarray .int, 2) := by decide +kernel
theorem dX9_init_24 : decode cX9_init 24 = .ok (.putfield 16, 3) := by decide +kernel
theorem dX9_init_27 : decode cX9_init 27 = .ok (.aload_n 0, 1) := by decide +kernel
theorem dX9_init_28 : decode cX9_init 28 = .ok (.bipush 60, 2) := by decide +kernel
theorem dX9_init_30 : decode cX9_init 30 = .ok (.newarray .int, 2) := by decide +kernel
theorem dX9_init_32 : decode cX9_init 32 = .ok (.putfield 19, 3) := by decide +kernel
theorem dX9_init_35 : decode cX9_init 35 = .ok (.aload_n 0, 1) := by decide +kernel
theorem dX9_init_36 : decode cX9_init 36 = .ok (.bipush 44, 2) := by decide +kernel
theorem dX9_init_38 : decode cX9_init 38 = .ok (.newarray .int, 2) := by decide +kernel
theorem dX9_init_40 : decode cX9_init 40 = .ok (.putfield 22, 3) := by decide +kernel
theorem dX9_init_43 : decode cX9_init 43 = .ok (.aload_n 0, 1) := by decide +kernel
theorem dX9_init_44 : decode cX9_init 44 = .ok (.iconst 2, 1) := by decide +kernel
theorem dX9_init_45 : decode cX9_init 45 = .ok (.newarray .int, 2) := by decide +kernel
theorem dX9_init_47 : decode cX9_init 47 = .ok (.putfield 25, 3) := by decide +kernel
theorem dX9_init_50 : decode cX9_init 50 = .ok (.aload_n 0, 1) := by decide +kernel
theorem dX9_init_51 : decode cX9_init 51 = .ok (.bipush 12, 2) := by decide +kernel
theorem dX9_init_53 : decode cX9_init 53 = .ok (.newarray .int, 2) := by decide +kernel
theorem dX9_init_55 : decode cX9_init 55 = .ok (.putfield 28, 3) := by decide +kernel
theorem dX9_init_58 : decode cX9_init 58 = .ok (.aload_n 0, 1) := by decide +kernel
theorem dX9_init_59 : decode cX9_init 59 = .ok (.bipush 16, 2) := by decide +kernel
theorem dX9_init_61 : decode cX9_init 61 = .ok (.newarray .int, 2) := by decide +kernel
theorem dX9_init_63 : decode cX9_init 63 = .ok (.putfield 31, 3) := by decide +kernel
theorem dX9_init_66 : decode cX9_init 66 = .ok (.aload_n 0, 1) := by decide +kernel
theorem dX9_init_67 : decode cX9_init 67 = .ok (.bipush 16, 2) := by decide +kernel
theorem dX9_init_69 : decode cX9_init 69 = .ok (.newarray .boolean, 2) := by decide +kernel
theorem dX9_init_71 : decode cX9_init 71 = .ok (.putfield 34, 3) := by decide +kernel
theorem dX9_init_74 : decode cX9_init 74 = .ok (.aload_n 0, 1) := by decide +kernel
theorem dX9_init_75 : decode cX9_init 75 = .ok (.bipush 6, 2) := by decide +kernel
theorem dX9_init_77 : decode cX9_init 77 = .ok (.newarray .int, 2) := by decide +kernel
theorem dX9_init_79 : decode cX9_init 79 = .ok (.putfield 38, 3) := by decide +kernel
theorem dX9_init_82 : decode cX9_init 82 = .ok (.aload_n 0, 1) := by decide +kernel
theorem dX9_init_83 : decode cX9_init 83 = .ok (.iconst 5, 1) := by decide +kernel
theorem dX9_init_84 : decode cX9_init 84 = .ok (.newarray .int, 2) := by decide +kernel
theorem dX9_init_86 : decode cX9_init 86 = .ok (.putfield 41, 3) := by decide +kernel
theorem dX9_init_89 : decode cX9_init 89 = .ok (.aload_n 0, 1) := by decide +kernel
theorem dX9_init_90 : decode cX9_init 90 = .ok (.bipush 80, 2) := by decide +kernel
theorem dX9_init_92 : decode cX9_init 92 = .ok (.newarray .int, 2) := by decide +kernel
theorem dX9_init_94 : decode cX9_init 94 = .ok (.putfield 44, 3) := by decide +kernel
theorem dX9_init_97 : decode cX9_init 97 = .ok (.aload_n 0, 1) := by decide +kernel
theorem dX9_init_98 : decode cX9_init 98 = .ok (.bipush 40, 2) := by decide +kernel
theorem dX9_init_100 : decode cX9_init 100 = .ok (.newarray .int, 2) := by decide +kernel
theorem dX9_init_102 : decode cX9_init 102 = .ok (.putfield 47, 3) := by decide +kernel
theorem dX9_init_105 : decode cX9_init 105 = .ok (.aload_n 0, 1) := by decide +kernel
theorem dX9_init_106 : decode cX9_init 106 = .ok (.bipush 40, 2) := by decide +kernel
theorem dX9_init_108 : decode cX9_init 108 = .ok (.newarray .int, 2) := by decide +kernel
theorem dX9_init_110 : decode cX9_init 110 = .ok (.putfield 50, 3) := by decide +kernel
theorem dX9_init_113 : decode cX9_init 113 = .ok (.aload_n 0, 1) := by decide +kernel
theorem dX9_init_114 : decode cX9_init 114 = .ok (.bipush 40, 2) := by decide +kernel
theorem dX9_init_116 : decode cX9_init 116 = .ok (.newarray .int, 2) := by decide +kernel
theorem dX9_init_118 : decode cX9_init 118 = .ok (.putfield 53, 3) := by decide +kernel
theorem dX9_init_121 : decode cX9_init 121 = .ok (.aload_n 0, 1) := by decide +kernel
theorem dX9_init_122 : decode cX9_init 122 = .ok (.bipush 6, 2) := by decide +kernel
theorem dX9_init_124 : decode cX9_init 124 = .ok (.newarray .int, 2) := by decide +kernel
theorem dX9_init_126 : decode cX9_init 126 = .ok (.putfield 56, 3) := by decide +kernel
theorem dX9_init_129 : decode cX9_init 129 = .ok (.aload_n 0, 1) := by decide +kernel
theorem dX9_init_130 : decode cX9_init 130 = .ok (.bipush 6, 2) := by decide +kernel
theorem dX9_init_132 : decode cX9_init 132 = .ok (.newarray .int, 2) := by decide +kernel
theorem dX9_init_134 : decode cX9_init 134 = .ok (.putfield 59, 3) := by decide +kernel
theorem dX9_init_137 : decode cX9_init 137 = .ok (.aload_n 0, 1) := by decide +kernel
theorem dX9_init_138 : decode cX9_init 138 = .ok (.bipush 12, 2) := by decide +kernel
theorem dX9_init_140 : decode cX9_init 140 = .ok (.newarray .int, 2) := by decide +kernel
theorem dX9_init_142 : decode cX9_init 142 = .ok (.putfield 62, 3) := by decide +kernel
theorem dX9_init_145 : decode cX9_init 145 = .ok (.aload_n 0, 1) := by decide +kernel
theorem dX9_init_146 : decode cX9_init 146 = .ok (.bipush 12, 2) := by decide +kernel
theorem dX9_init_148 : decode cX9_init 148 = .ok (.newarray .int, 2) := by decide +kernel
theorem dX9_init_150 : decode cX9_init 150 = .ok (.putfield 65, 3) := by decide +kernel
theorem dX9_init_153 : decode cX9_init 153 = .ok (.aload_n 0, 1) := by decide +kernel
theorem dX9_init_154 : decode cX9_init 154 = .ok (.bipush 6, 2) := by decide +kernel
theorem dX9_init_156 : decode cX9_init 156 = .ok (.newarray .int, 2) := by decide +kernel
theorem dX9_init_158 : decode cX9_init 158 = .ok (.putfield 68, 3) := by decide +kernel
theorem dX9_init_161 : decode cX9_init 161 = .ok (.iconst 0, 1) := by decide +kernel
theorem dX9_init_162 : decode cX9_init 162 = .ok (.istore_n 1, 1) := by decide +kernel
theorem dX9_init_163 : decode cX9_init 163 = .ok (.iload_n 1, 1) := by decide +kernel
theorem dX9_init_164 : decode cX9_init 164 = .ok (.iconst 4, 1) := by decide +kernel
theorem dX9_init_165 : decode cX9_init 165 = .ok (.if_icmp .ge 16, 3) := by decide +kernel
theorem dX9_init_168 : decode cX9_init 168 = .ok (.aload_n 0, 1) := by decide +kernel
theorem dX9_init_169 : decode cX9_init 169 = .ok (.getfield 7, 3) := by decide +kernel
theorem dX9_init_172 : decode cX9_init 172 = .ok (.iload_n 1, 1) := by decide +kernel
theorem dX9_init_173 : decode cX9_init 173 = .ok (.iconst (-1), 1) := by decide +kernel
theorem dX9_init_174 : decode cX9_init 174 = .ok (.iastore, 1) := by decide +kernel
theorem dX9_init_175 : decode cX9_init 175 = .ok (.iinc 1 1, 3) := by decide +kernel
theorem dX9_init_178 : decode cX9_init 178 = .ok (.goto (-15), 3) := by decide +kernel
theorem dX9_init_181 : decode cX9_init 181 = .ok (.iconst 0, 1) := by decide +kernel
theorem dX9_init_182 : decode cX9_init 182 = .ok (.istore_n 1, 1) := by decide +kernel
theorem dX9_init_183 : decode cX9_init 183 = .ok (.iload_n 1, 1) := by decide +kernel
theorem dX9_init_184 : decode cX9_init 184 = .ok (.iconst 2, 1) := by decide +kernel
theorem dX9_init_185 : decode cX9_init 185 = .ok (.if_icmp .ge 30, 3) := by decide +kernel
theorem dX9_init_188 : decode cX9_init 188 = .ok (.aload_n 0, 1) := by decide +kernel
theorem dX9_init_189 : decode cX9_init 189 = .ok (.getfield 38, 3) := by decide +kernel
theorem dX9_init_192 : decode cX9_init 192 = .ok (.iconst 3, 1) := by decide +kernel
theorem dX9_init_193 : decode cX9_init 193 = .ok (.iload_n 1, 1) := by decide +kernel
theorem dX9_init_194 : decode cX9_init 194 = .ok (.imul, 1) := by decide +kernel
theorem dX9_init_195 : decode cX9_init 195 = .ok (.bipush 100, 2) := by decide +kernel
theorem dX9_init_197 : decode cX9_init 197 = .ok (.iastore, 1) := by decide +kernel
theorem dX9_init_198 : decode cX9_init 198 = .ok (.aload_n 0, 1) := by decide +kernel
theorem dX9_init_199 : decode cX9_init 199 = .ok (.getfield 38, 3) := by decide +kernel
theorem dX9_init_202 : decode cX9_init 202 = .ok (.iconst 3, 1) := by decide +kernel
theorem dX9_init_203 : decode cX9_init 203 = .ok (.iload_n 1, 1) := by decide +kernel
theorem dX9_init_204 : decode cX9_init 204 = .ok (.imul, 1) := by decide +kernel
theorem dX9_init_205 : decode cX9_init 205 = .ok (.iconst 2, 1) := by decide +kernel
theorem dX9_init_206 : decode cX9_init 206 = .ok (.iadd, 1) := by decide +kernel
theorem dX9_init_207 : decode cX9_init 207 = .ok (.iconst 1, 1) := by decide +kernel
theorem dX9_init_208 : decode cX9_init 208 = .ok (.iastore, 1) := by decide +kernel
theorem dX9_init_209 : decode cX9_init 209 = .ok (.iinc 1 1, 3) := by decide +kernel
theorem dX9_init_212 : decode cX9_init 212 = .ok (.goto (-29), 3) := by decide +kernel
theorem dX9_init_215 : decode cX9_init 215 = .ok (.aload_n 0, 1) := by decide +kernel
theorem dX9_init_216 : decode cX9_init 216 = .ok (.getfield 41, 3) := by decide +kernel
theorem dX9_init_219 : decode cX9_init 219 = .ok (.iconst 0, 1) := by decide +kernel
theorem dX9_init_220 : decode cX9_init 220 = .ok (.sipush 300, 3) := by decide +kernel
theorem dX9_init_223 : decode cX9_init 223 = .ok (.iastore, 1) := by decide +kernel
theorem dX9_init_224 : decode cX9_init 224 = .ok (.aload_n 0, 1) := by decide +kernel
theorem dX9_init_225 : decode cX9_init 225 = .ok (.getfield 41, 3) := by decide +kernel
theorem dX9_init_228 : decode cX9_init 228 = .ok (.iconst 1, 1) := by decide +kernel
theorem dX9_init_229 : decode cX9_init 229 = .ok (.bipush 20, 2) := by decide +kernel
theorem dX9_init_231 : decode cX9_init 231 = .ok (.iastore, 1) := by decide +kernel
theorem dX9_init_232 : decode cX9_init 232 = .ok (.aload_n 0, 1) := by decide +kernel
theorem dX9_init_233 : decode cX9_init 233 = .ok (.getfield 41, 3) := by decide +kernel
theorem dX9_init_236 : decode cX9_init 236 = .ok (.iconst 2, 1) := by decide +kernel
theorem dX9_init_237 : decode cX9_init 237 = .ok (.bipush 10, 2) := by decide +kernel
theorem dX9_init_239 : decode cX9_init 239 = .ok (.iastore, 1) := by decide +kernel
theorem dX9_init_240 : decode cX9_init 240 = .ok (.aload_n 0, 1) := by decide +kernel
theorem dX9_init_241 : decode cX9_init 241 = .ok (.getfield 41, 3) := by decide +kernel
theorem dX9_init_244 : decode cX9_init 244 = .ok (.iconst 3, 1) := by decide +kernel
theorem dX9_init_245 : decode cX9_init 245 = .ok (.iconst 5, 1) := by decide +kernel
theorem dX9_init_246 : decode cX9_init 246 = .ok (.iastore, 1) := by decide +kernel
theorem dX9_init_247 : decode cX9_init 247 = .ok (.aload_n 0, 1) := by decide +kernel
theorem dX9_init_248 : decode cX9_init 248 = .ok (.getfield 41, 3) := by decide +kernel
theorem dX9_init_251 : decode cX9_init 251 = .ok (.iconst 4, 1) := by decide +kernel
theorem dX9_init_252 : decode cX9_init 252 = .ok (.iconst 5, 1) := by decide +kernel
theorem dX9_init_253 : decode cX9_init 253 = .ok (.iastore, 1) := by decide +kernel
theorem dX9_init_254 : decode cX9_init 254 = .ok (.return_, 1) := by decide +kernel
theorem dX9_in_0 : decode cX9_in 0 = .ok (.lload_n 0, 1) := by decide +kernel
theorem dX9_in_1 : decode cX9_in 1 = .ok (.lload_n 2, 1) := by decide +kernel
theorem dX9_in_2 : decode cX9_in 2 = .ok (.lcmp, 1) := by decide +kernel
theorem dX9_in_3 : decode cX9_in 3 = .ok (.ifCond .lt 14, 3) := by decide +kernel
theorem dX9_in_6 : decode cX9_in 6 = .ok (.lload_n 0, 1) := by decide +kernel
theorem dX9_in_7 : decode cX9_in 7 = .ok (.lload 4, 2) := by decide +kernel
theorem dX9_in_9 : decode cX9_in 9 = .ok (.lcmp, 1) := by decide +kernel
theorem dX9_in_10 : decode cX9_in 10 = .ok (.ifCond .gt 7, 3) := by decide +kernel
theorem dX9_in_13 : decode cX9_in 13 = .ok (.iconst 1, 1) := by decide +kernel
theorem dX9_in_14 : decode cX9_in 14 = .ok (.goto 4, 3) := by decide +kernel
theorem dX9_in_17 : decode cX9_in 17 = .ok (.iconst 0, 1) := by decide +kernel
theorem dX9_in_18 : decode cX9_in 18 = .ok (.ireturn, 1) := by decide +kernel
theorem dX9_no_0 : decode cX9_no 0 = .ok (.ldc2_w 71, 3) := by decide +kernel
theorem dX9_no_3 : decode cX9_no 3 = .ok (.iload_n 0, 1) := by decide +kernel
theorem dX9_no_4 : decode cX9_no 4 = .ok (.i2l, 1) := by decide +kernel
theorem dX9_no_5 : decode cX9_no 5 = .ok (.lsub, 1) := by decide +kernel
theorem dX9_no_6 : decode cX9_no 6 = .ok (.lreturn, 1) := by decide +kernel
theorem dX9_isTwo_0 : decode cX9_isTwo 0 = .ok (.iload_n 0, 1) := by decide +kernel
theorem dX9_isTwo_1 : decode cX9_isTwo 1 = .ok (.i2l, 1) := by decide +kernel
theorem dX9_isTwo_2 : decode cX9_isTwo 2 = .ok (.lconst 0, 1) := by decide +kernel
theorem dX9_isTwo_3 : decode cX9_isTwo 3 = .ok (.lconst 1, 1) := by decide +kernel
theorem dX9_isTwo_4 : decode cX9_isTwo 4 = .ok (.invokestatic 73, 3) := by decide +kernel
theorem dX9_isTwo_7 : decode cX9_isTwo 7 = .ok (.ireturn, 1) := by decide +kernel
theorem dX9_lesser_0 : decode cX9_lesser 0 = .ok (.iload_n 0, 1) := by decide +kernel
theorem dX9_lesser_1 : decode cX9_lesser 1 = .ok (.iload_n 1, 1) := by decide +kernel
theorem dX9_lesser_2 : decode cX9_lesser 2 = .ok (.if_icmp .ge 7, 3) := by decide +kernel
theorem dX9_lesser_5 : decode cX9_lesser 5 = .ok (.iload_n 0, 1) := by decide +kernel
theorem dX9_lesser_6 : decode cX9_lesser 6 = .ok (.goto 4, 3) := by decide +kernel
theorem dX9_lesser_9 : decode cX9_lesser 9 = .ok (.iload_n 1, 1) := by decide +kernel
theorem dX9_lesser_10 : decode cX9_lesser 10 = .ok (.ireturn, 1) := by decide +kernel
theorem dX9_greater_0 : decode cX9_greater 0 = .ok (.iload_n 0, 1) := by decide +kernel
theorem dX9_greater_1 : decode cX9_greater 1 = .ok (.iload_n 1, 1) := by decide +kernel
theorem dX9_greater_2 : decode cX9_greater 2 = .ok (.if_icmp .le 7, 3) := by decide +kernel
theorem dX9_greater_5 : decode cX9_greater 5 = .ok (.iload_n 0, 1) := by decide +kernel
theorem dX9_greater_6 : decode cX9_greater 6 = .ok (.goto 4, 3) := by decide +kernel
theorem dX9_greater_9 : decode cX9_greater 9 = .ok (.iload_n 1, 1) := by decide +kernel
theorem dX9_greater_10 : decode cX9_greater 10 = .ok (.ireturn, 1) := by decide +kernel
theorem dX9_within_0 : decode cX9_within 0 = .ok (.iload_n 0, 1) := by decide +kernel
theorem dX9_within_1 : decode cX9_within 1 = .ok (.ifCond .ge 7, 3) := by decide +kernel
theorem dX9_within_4 : decode cX9_within 4 = .ok (.iconst 0, 1) := by decide +kernel
theorem dX9_within_5 : decode cX9_within 5 = .ok (.goto 8, 3) := by decide +kernel
theorem dX9_within_8 : decode cX9_within 8 = .ok (.iload_n 0, 1) := by decide +kernel
theorem dX9_within_9 : decode cX9_within 9 = .ok (.iload_n 1, 1) := by decide +kernel
theorem dX9_within_10 : decode cX9_within 10 = .ok (.invokestatic 77, 3) := by decide +kernel
theorem dX9_within_13 : decode cX9_within 13 = .ok (.ireturn, 1) := by decide +kernel
theorem dX9_part_0 : decode cX9_part 0 = .ok (.lload_n 0, 1) := by decide +kernel
theorem dX9_part_1 : decode cX9_part 1 = .ok (.lconst 0, 1) := by decide +kernel
theorem dX9_part_2 : decode cX9_part 2 = .ok (.lcmp, 1) := by decide +kernel
theorem dX9_part_3 : decode cX9_part 3 = .ok (.ifCond .ge 8, 3) := by decide +kernel
theorem dX9_part_6 : decode cX9_part 6 = .ok (.lload_n 0, 1) := by decide +kernel
theorem dX9_part_7 : decode cX9_part 7 = .ok (.lneg, 1) := by decide +kernel
theorem dX9_part_8 : decode cX9_part 8 = .ok (.goto 4, 3) := by decide +kernel
theorem dX9_part_11 : decode cX9_part 11 = .ok (.lload_n 0, 1) := by decide +kernel
theorem dX9_part_12 : decode cX9_part 12 = .ok (.lstore 5, 2) := by decide +kernel
theorem dX9_part_14 : decode cX9_part 14 = .ok (.lload_n 2, 1) := by decide +kernel
theorem dX9_part_15 : decode cX9_part 15 = .ok (.lstore 7, 2) := by decide +kernel
theorem dX9_part_17 : decode cX9_part 17 = .ok (.lload 7, 2) := by decide +kernel
theorem dX9_part_19 : decode cX9_part 19 = .ok (.lconst 0, 1) := by decide +kernel
theorem dX9_part_20 : decode cX9_part 20 = .ok (.lcmp, 1) := by decide +kernel
theorem dX9_part_21 : decode cX9_part 21 = .ok (.ifCond .eq 21, 3) := by decide +kernel
theorem dX9_part_24 : decode cX9_part 24 = .ok (.lload 5, 2) := by decide +kernel
theorem dX9_part_26 : decode cX9_part 26 = .ok (.lload 7, 2) := by decide +kernel
theorem dX9_part_28 : decode cX9_part 28 = .ok (.lrem, 1) := by decide +kernel
theorem dX9_part_29 : decode cX9_part 29 = .ok (.lstore 9, 2) := by decide +kernel
theorem dX9_part_31 : decode cX9_part 31 = .ok (.lload 7, 2) := by decide +kernel
theorem dX9_part_33 : decode cX9_part 33 = .ok (.lstore 5, 2) := by decide +kernel
theorem dX9_part_35 : decode cX9_part 35 = .ok (.lload 9, 2) := by decide +kernel
theorem dX9_part_37 : decode cX9_part 37 = .ok (.lstore 7, 2) := by decide +kernel
theorem dX9_part_39 : decode cX9_part 39 = .ok (.goto (-22), 3) := by decide +kernel
theorem dX9_part_42 : decode cX9_part 42 = .ok (.iload 4, 2) := by decide +kernel
theorem dX9_part_44 : decode cX9_part 44 = .ok (.ifCond .ne 7, 3) := by decide +kernel
theorem dX9_part_47 : decode cX9_part 47 = .ok (.lload_n 0, 1) := by decide +kernel
theorem dX9_part_48 : decode cX9_part 48 = .ok (.goto 4, 3) := by decide +kernel
theorem dX9_part_51 : decode cX9_part 51 = .ok (.lload_n 2, 1) := by decide +kernel
theorem dX9_part_52 : decode cX9_part 52 = .ok (.lload 5, 2) := by decide +kernel
theorem dX9_part_54 : decode cX9_part 54 = .ok (.ldiv, 1) := by decide +kernel
theorem dX9_part_55 : decode cX9_part 55 = .ok (.lreturn, 1) := by decide +kernel
theorem dX9_met_0 : decode cX9_met 0 = .ok (.aload_n 0, 1) := by decide +kernel
theorem dX9_met_1 : decode cX9_met 1 = .ok (.iload_n 1, 1) := by decide +kernel
theorem dX9_met_2 : decode cX9_met 2 = .ok (.putfield 81, 3) := by decide +kernel
theorem dX9_met_5 : decode cX9_met 5 = .ok (.bipush (-10), 2) := by decide +kernel
theorem dX9_met_7 : decode cX9_met 7 = .ok (.iload_n 1, 1) := by decide +kernel
theorem dX9_met_8 : decode cX9_met 8 = .ok (.isub, 1) := by decide +kernel
theorem dX9_met_9 : decode cX9_met 9 = .ok (.ireturn, 1) := by decide +kernel
theorem dX9_isSheet_0 : decode cX9_isSheet 0 = .ok (.iload_n 0, 1) := by decide +kernel
theorem dX9_isSheet_1 : decode cX9_isSheet 1 = .ok (.i2l, 1) := by decide +kernel
theorem dX9_isSheet_2 : decode cX9_isSheet 2 = .ok (.lconst 0, 1) := by decide +kernel
theorem dX9_isSheet_3 : decode cX9_isSheet 3 = .ok (.ldc2_w 85, 3) := by decide +kernel
theorem dX9_isSheet_6 : decode cX9_isSheet 6 = .ok (.invokestatic 73, 3) := by decide +kernel
theorem dX9_isSheet_9 : decode cX9_isSheet 9 = .ok (.ireturn, 1) := by decide +kernel
theorem dX9_sheet_0 : decode cX9_sheet 0 = .ok (.iload_n 1, 1) := by decide +kernel
theorem dX9_sheet_1 : decode cX9_sheet 1 = .ok (.invokestatic 87, 3) := by decide +kernel
theorem dX9_sheet_4 : decode cX9_sheet 4 = .ok (.ifCond .eq 21, 3) := by decide +kernel
theorem dX9_sheet_7 : decode cX9_sheet 7 = .ok (.iload_n 2, 1) := by decide +kernel
theorem dX9_sheet_8 : decode cX9_sheet 8 = .ok (.i2l, 1) := by decide +kernel
theorem dX9_sheet_9 : decode cX9_sheet 9 = .ok (.lconst 0, 1) := by decide +kernel
theorem dX9_sheet_10 : decode cX9_sheet 10 = .ok (.ldc2_w 91, 3) := by decide +kernel
theorem dX9_sheet_13 : decode cX9_sheet 13 = .ok (.invokestatic 73, 3) := by decide +kernel
theorem dX9_sheet_16 : decode cX9_sheet 16 = .ok (.ifCond .eq 9, 3) := by decide +kernel
theorem dX9_sheet_19 : decode cX9_sheet 19 = .ok (.iload_n 3, 1) := by decide +kernel
theorem dX9_sheet_20 : decode cX9_sheet 20 = .ok (.bipush 60, 2) := by decide +kernel
theorem dX9_sheet_22 : decode cX9_sheet 22 = .ok (.if_icmp .le 6, 3) := by decide +kernel
theorem dX9_sheet_25 : decode cX9_sheet 25 = .ok (.bipush (-2), 2) := by decide +kernel
theorem dX9_sheet_27 : decode cX9_sheet 27 = .ok (.ireturn, 1) := by decide +kernel
theorem dX9_sheet_28 : decode cX9_sheet 28 = .ok (.iload_n 3, 1) := by decide +kernel
theorem dX9_sheet_29 : decode cX9_sheet 29 = .ok (.ifCond .ge 9, 3) := by decide +kernel
theorem dX9_sheet_32 : decode cX9_sheet 32 = .ok (.aload_n 0, 1) := by decide +kernel
theorem dX9_sheet_33 : decode cX9_sheet 33 = .ok (.iconst 5, 1) := by decide +kernel
theorem dX9_sheet_34 : decode cX9_sheet 34 = .ok (.invokevirtual 93, 3) := by decide +kernel
theorem dX9_sheet_37 : decode cX9_sheet 37 = .ok (.ireturn, 1) := by decide +kernel
theorem dX9_sheet_38 : decode cX9_sheet 38 = .ok (.aload_n 0, 1) := by decide +kernel
theorem dX9_sheet_39 : decode cX9_sheet 39 = .ok (.getfield 7, 3) := by decide +kernel
theorem dX9_sheet_42 : decode cX9_sheet 42 = .ok (.iload_n 1, 1) := by decide +kernel
theorem dX9_sheet_43 : decode cX9_sheet 43 = .ok (.iload_n 2, 1) := by decide +kernel
theorem dX9_sheet_44 : decode cX9_sheet 44 = .ok (.iastore, 1) := by decide +kernel
theorem dX9_sheet_45 : decode cX9_sheet 45 = .ok (.aload_n 0, 1) := by decide +kernel
theorem dX9_sheet_46 : decode cX9_sheet 46 = .ok (.getfield 13, 3) := by decide +kernel
theorem dX9_sheet_49 : decode cX9_sheet 49 = .ok (.iload_n 1, 1) := by decide +kernel
theorem dX9_sheet_50 : decode cX9_sheet 50 = .ok (.iload_n 3, 1) := by decide +kernel
theorem dX9_sheet_51 : decode cX9_sheet 51 = .ok (.iastore, 1) := by decide +kernel
theorem dX9_sheet_52 : decode cX9_sheet 52 = .ok (.iconst 0, 1) := by decide +kernel
theorem dX9_sheet_53 : decode cX9_sheet 53 = .ok (.istore 4, 2) := by decide +kernel
theorem dX9_sheet_55 : decode cX9_sheet 55 = .ok (.iload 4, 2) := by decide +kernel
theorem dX9_sheet_57 : decode cX9_sheet 57 = .ok (.iload_n 3, 1) := by decide +kernel
theorem dX9_sheet_58 : decode cX9_sheet 58 = .ok (.if_icmp .ge 22, 3) := by decide +kernel
theorem dX9_sheet_61 : decode cX9_sheet 61 = .ok (.aload_n 0, 1) := by decide +kernel
theorem dX9_sheet_62 : decode cX9_sheet 62 = .ok (.getfield 16, 3) := by decide +kernel
theorem dX9_sheet_65 : decode cX9_sheet 65 = .ok (.bipush 60, 2) := by decide +kernel
theorem dX9_sheet_67 : decode cX9_sheet 67 = .ok (.iload_n 1, 1) := by decide +kernel
theorem dX9_sheet_68 : decode cX9_sheet 68 = .ok (.imul, 1) := by decide +kernel
theorem dX9_sheet_69 : decode cX9_sheet 69 = .ok (.iload 4, 2) := by decide +kernel
theorem dX9_sheet_71 : decode cX9_sheet 71 = .ok (.iadd, 1) := by decide +kernel
theorem dX9_sheet_72 : decode cX9_sheet 72 = .ok (.iconst 0, 1) := by decide +kernel
theorem dX9_sheet_73 : decode cX9_sheet 73 = .ok (.iastore, 1) := by decide +kernel
theorem dX9_sheet_74 : decode cX9_sheet 74 = .ok (.iinc 4 1, 3) := by decide +kernel
theorem dX9_sheet_77 : decode cX9_sheet 77 = .ok (.goto (-22), 3) := by decide +kernel
theorem dX9_sheet_80 : decode cX9_sheet 80 = .ok (.iload_n 3, 1) := by decide +kernel
theorem dX9_sheet_81 : decode cX9_sheet 81 = .ok (.ireturn, 1) := by decide +kernel
theorem dX9_lose_0 : decode cX9_lose 0 = .ok (.iload_n 1, 1) := by decide +kernel
theorem dX9_lose_1 : decode cX9_lose 1 = .ok (.invokestatic 87, 3) := by decide +kernel
theorem dX9_lose_4 : decode cX9_lose 4 = .ok (.ifCond .ne 6, 3) := by decide +kernel
theorem dX9_lose_7 : decode cX9_lose 7 = .ok (.bipush (-2), 2) := by decide +kernel
theorem dX9_lose_9 : decode cX9_lose 9 = .ok (.ireturn, 1) := by decide +kernel
theorem dX9_lose_10 : decode cX9_lose 10 = .ok (.aload_n 0, 1) := by decide +kernel
theorem dX9_lose_11 : decode cX9_lose 11 = .ok (.getfield 7, 3) := by decide +kernel
theorem dX9_lose_14 : decode cX9_lose 14 = .ok (.iload_n 1, 1) := by decide +kernel
theorem dX9_lose_15 : decode cX9_lose 15 = .ok (.iaload, 1) := by decide +kernel
theorem dX9_lose_16 : decode cX9_lose 16 = .ok (.ifCond .ge 9, 3) := by decide +kernel
theorem dX9_lose_19 : decode cX9_lose 19 = .ok (.aload_n 0, 1) := by decide +kernel
theorem dX9_lose_20 : decode cX9_lose 20 = .ok (.iconst 1, 1) := by decide +kernel
theorem dX9_lose_21 : decode cX9_lose 21 = .ok (.invokevirtual 93, 3) := by decide +kernel
theorem dX9_lose_24 : decode cX9_lose 24 = .ok (.ireturn, 1) := by decide +kernel
theorem dX9_lose_25 : decode cX9_lose 25 = .ok (.aload_n 0, 1) := by decide +kernel
theorem dX9_lose_26 : decode cX9_lose 26 = .ok (.getfield 7, 3) := by decide +kernel
theorem dX9_lose_29 : decode cX9_lose 29 = .ok (.iload_n 1, 1) := by decide +kernel
theorem dX9_lose_30 : decode cX9_lose 30 = .ok (.iconst (-1), 1) := by decide +kernel
theorem dX9_lose_31 : decode cX9_lose 31 = .ok (.iastore, 1) := by decide +kernel
theorem dX9_lose_32 : decode cX9_lose 32 = .ok (.aload_n 0, 1) := by decide +kernel
theorem dX9_lose_33 : decode cX9_lose 33 = .ok (.getfield 13, 3) := by decide +kernel
theorem dX9_lose_36 : decode cX9_lose 36 = .ok (.iload_n 1, 1) := by decide +kernel
theorem dX9_lose_37 : decode cX9_lose 37 = .ok (.iaload, 1) := by decide +kernel
theorem dX9_lose_38 : decode cX9_lose 38 = .ok (.ireturn, 1) := by decide +kernel
theorem dX9_lacks_0 : decode cX9_lacks 0 = .ok (.aload_n 0, 1) := by decide +kernel
theorem dX9_lacks_1 : decode cX9_lacks 1 = .ok (.getfield 7, 3) := by decide +kernel
theorem dX9_lacks_4 : decode cX9_lacks 4 = .ok (.iload_n 1, 1) := by decide +kernel
theorem dX9_lacks_5 : decode cX9_lacks 5 = .ok (.iaload, 1) := by decide +kernel
theorem dX9_lacks_6 : decode cX9_lacks 6 = .ok (.ifCond .ge 9, 3) := by decide +kernel
theorem dX9_lacks_9 : decode cX9_lacks 9 = .ok (.aload_n 0, 1) := by decide +kernel
theorem dX9_lacks_10 : decode cX9_lacks 10 = .ok (.iconst 1, 1) := by decide +kernel
theorem dX9_lacks_11 : decode cX9_lacks 11 = .ok (.invokevirtual 93, 3) := by decide +kernel
theorem dX9_lacks_14 : decode cX9_lacks 14 = .ok (.ireturn, 1) := by decide +kernel
theorem dX9_lacks_15 : decode cX9_lacks 15 = .ok (.aload_n 0, 1) := by decide +kernel
theorem dX9_lacks_16 : decode cX9_lacks 16 = .ok (.getfield 7, 3) := by decide +kernel
theorem dX9_lacks_19 : decode cX9_lacks 19 = .ok (.iload_n 1, 1) := by decide +kernel
theorem dX9_lacks_20 : decode cX9_lacks 20 = .ok (.iaload, 1) := by decide +kernel
theorem dX9_lacks_21 : decode cX9_lacks 21 = .ok (.iload_n 2, 1) := by decide +kernel
theorem dX9_lacks_22 : decode cX9_lacks 22 = .ok (.if_icmp .eq 9, 3) := by decide +kernel
theorem dX9_lacks_25 : decode cX9_lacks 25 = .ok (.aload_n 0, 1) := by decide +kernel
theorem dX9_lacks_26 : decode cX9_lacks 26 = .ok (.iconst 3, 1) := by decide +kernel
theorem dX9_lacks_27 : decode cX9_lacks 27 = .ok (.invokevirtual 93, 3) := by decide +kernel
theorem dX9_lacks_30 : decode cX9_lacks 30 = .ok (.ireturn, 1) := by decide +kernel
theorem dX9_lacks_31 : decode cX9_lacks 31 = .ok (.iload_n 3, 1) := by decide +kernel
theorem dX9_lacks_32 : decode cX9_lacks 32 = .ok (.i2l, 1) := by decide +kernel
theorem dX9_lacks_33 : decode cX9_lacks 33 = .ok (.lconst 0, 1) := by decide +kernel
theorem dX9_lacks_34 : decode cX9_lacks 34 = .ok (.aload_n 0, 1) := by decide +kernel
theorem dX9_lacks_35 : decode cX9_lacks 35 = .ok (.getfield 13, 3) := by decide +kernel
theorem dX9_lacks_38 : decode cX9_lacks 38 = .ok (.iload_n 1, 1) := by decide +kernel
theorem dX9_lacks_39 : decode cX9_lacks 39 = .ok (.iaload, 1) := by decide +kernel
theorem dX9_lacks_40 : decode cX9_lacks 40 = .ok (.iconst 1, 1) := by decide +kernel
theorem dX9_lacks_41 : decode cX9_lacks 41 = .ok (.isub, 1) := by decide +kernel
theorem dX9_lacks_42 : decode cX9_lacks 42 = .ok (.i2l, 1) := by decide +kernel
theorem dX9_lacks_43 : decode cX9_lacks 43 = .ok (.invokestatic 73, 3) := by decide +kernel
theorem dX9_lacks_46 : decode cX9_lacks 46 = .ok (.ifCond .eq 7, 3) := by decide +kernel
theorem dX9_lacks_49 : decode cX9_lacks 49 = .ok (.iconst 0, 1) := by decide +kernel
theorem dX9_lacks_50 : decode cX9_lacks 50 = .ok (.goto 8, 3) := by decide +kernel
theorem dX9_lacks_53 : decode cX9_lacks 53 = .ok (.aload_n 0, 1) := by decide +kernel
theorem dX9_lacks_54 : decode cX9_lacks 54 = .ok (.iconst 2, 1) := by decide +kernel
theorem dX9_lacks_55 : decode cX9_lacks 55 = .ok (.invokevirtual 93, 3) := by decide +kernel
theorem dX9_lacks_58 : decode cX9_lacks 58 = .ok (.ireturn, 1) := by decide +kernel
theorem dX9_cut_0 : decode cX9_cut 0 = .ok (.iload_n 0, 1) := by decide +kernel
theorem dX9_cut_1 : decode cX9_cut 1 = .ok (.ifCond .ne 8, 3) := by decide +kernel
theorem dX9_cut_4 : decode cX9_cut 4 = .ok (.iload_n 1, 1) := by decide +kernel
theorem dX9_cut_5 : decode cX9_cut 5 = .ok (.i2b, 1) := by decide +kernel
theorem dX9_cut_6 : decode cX9_cut 6 = .ok (.goto 14, 3) := by decide +kernel
theorem dX9_cut_9 : decode cX9_cut 9 = .ok (.iload_n 0, 1) := by decide +kernel
theorem dX9_cut_10 : decode cX9_cut 10 = .ok (.iconst 1, 1) := by decide +kernel
theorem dX9_cut_11 : decode cX9_cut 11 = .ok (.if_icmp .ne 8, 3) := by decide +kernel
theorem dX9_cut_14 : decode cX9_cut 14 = .ok (.iload_n 1, 1) := by decide +kernel
theorem dX9_cut_15 : decode cX9_cut 15 = .ok (.i2s, 1) := by decide +kernel
theorem dX9_cut_16 : decode cX9_cut 16 = .ok (.goto 4, 3) := by decide +kernel
theorem dX9_cut_19 : decode cX9_cut 19 = .ok (.iload_n 1, 1) := by decide +kernel
theorem dX9_cut_20 : decode cX9_cut 20 = .ok (.ireturn, 1) := by decide +kernel
theorem dX9_lay_0 : decode cX9_lay 0 = .ok (.iload_n 1, 1) := by decide +kernel
theorem dX9_lay_1 : decode cX9_lay 1 = .ok (.invokestatic 87, 3) := by decide +kernel
theorem dX9_lay_4 : decode cX9_lay 4 = .ok (.ifCond .eq 15, 3) := by decide +kernel
theorem dX9_lay_7 : decode cX9_lay 7 = .ok (.iload_n 2, 1) := by decide +kernel
theorem dX9_lay_8 : decode cX9_lay 8 = .ok (.i2l, 1) := by decide +kernel
theorem dX9_lay_9 : decode cX9_lay 9 = .ok (.lconst 0, 1) := by decide +kernel
theorem dX9_lay_10 : decode cX9_lay 10 = .ok (.ldc2_w 91, 3) := by decide +kernel
theorem dX9_lay_13 : decode cX9_lay 13 = .ok (.invokestatic 73, 3) := by decide +kernel
theorem dX9_lay_16 : decode cX9_lay 16 = .ok (.ifCond .ne 6, 3) := by decide +kernel
theorem dX9_lay_19 : decode cX9_lay 19 = .ok (.bipush (-2), 2) := by decide +kernel
theorem dX9_lay_21 : decode cX9_lay 21 = .ok (.ireturn, 1) := by decide +kernel
theorem dX9_lay_22 : decode cX9_lay 22 = .ok (.aload_n 0, 1) := by decide +kernel
theorem dX9_lay_23 : decode cX9_lay 23 = .ok (.iload_n 1, 1) := by decide +kernel
theorem dX9_lay_24 : decode cX9_lay 24 = .ok (.iload_n 2, 1) := by decide +kernel
theorem dX9_lay_25 : decode cX9_lay 25 = .ok (.iload_n 3, 1) := by decide +kernel
theorem dX9_lay_26 : decode cX9_lay 26 = .ok (.invokevirtual 97, 3) := by decide +kernel
theorem dX9_lay_29 : decode cX9_lay 29 = .ok (.istore 5, 2) := by decide +kernel
theorem dX9_lay_31 : decode cX9_lay 31 = .ok (.iload 5, 2) := by decide +kernel
theorem dX9_lay_33 : decode cX9_lay 33 = .ok (.ifCond .eq 6, 3) := by decide +kernel
theorem dX9_lay_36 : decode cX9_lay 36 = .ok (.iload 5, 2) := by decide +kernel
theorem dX9_lay_38 : decode cX9_lay 38 = .ok (.ireturn, 1) := by decide +kernel
theorem dX9_lay_39 : decode cX9_lay 39 = .ok (.aload_n 0, 1) := by decide +kernel
theorem dX9_lay_40 : decode cX9_lay 40 = .ok (.getfield 16, 3) := by decide +kernel
theorem dX9_lay_43 : decode cX9_lay 43 = .ok (.bipush 60, 2) := by decide +kernel
theorem dX9_lay_45 : decode cX9_lay 45 = .ok (.iload_n 1, 1) := by decide +kernel
theorem dX9_lay_46 : decode cX9_lay 46 = .ok (.imul, 1) := by decide +kernel
theorem dX9_lay_47 : decode cX9_lay 47 = .ok (.iload_n 3, 1) := by decide +kernel
theorem dX9_lay_48 : decode cX9_lay 48 = .ok (.iadd, 1) := by decide +kernel
theorem dX9_lay_49 : decode cX9_lay 49 = .ok (.iload_n 2, 1) := by decide +kernel
theorem dX9_lay_50 : decode cX9_lay 50 = .ok (.iload 4, 2) := by decide +kernel
theorem dX9_lay_52 : decode cX9_lay 52 = .ok (.invokestatic 101, 3) := by decide +kernel
theorem dX9_lay_55 : decode cX9_lay 55 = .ok (.iastore, 1) := by decide +kernel
theorem dX9_lay_56 : decode cX9_lay 56 = .ok (.iconst 1, 1) := by decide +kernel
theorem dX9_lay_57 : decode cX9_lay 57 = .ok (.ireturn, 1) := by decide +kernel
theorem dX9_get_0 : decode cX9_get 0 = .ok (.iload_n 1, 1) := by decide +kernel
theorem dX9_get_1 : decode cX9_get 1 = .ok (.invokestatic 87, 3) := by decide +kernel
theorem dX9_get_4 : decode cX9_get 4 = .ok (.ifCond .eq 25, 3) := by decide +kernel
theorem dX9_get_7 : decode cX9_get 7 = .ok (.iload_n 2, 1) := by decide +kernel
theorem dX9_get_8 : decode cX9_get 8 = .ok (.i2l, 1) := by decide +kernel
theorem dX9_get_9 : decode cX9_get 9 = .ok (.lconst 0, 1) := by decide +kernel
theorem dX9_get_10 : decode cX9_get 10 = .ok (.ldc2_w 91, 3) := by decide +kernel
theorem dX9_get_13 : decode cX9_get 13 = .ok (.invokestatic 73, 3) := by decide +kernel
theorem dX9_get_16 : decode cX9_get 16 = .ok (.ifCond .eq 13, 3) := by decide +kernel
theorem dX9_get_19 : decode cX9_get 19 = .ok (.aload_n 0, 1) := by decide +kernel
theorem dX9_get_20 : decode cX9_get 20 = .ok (.iload_n 1, 1) := by decide +kernel
theorem dX9_get_21 : decode cX9_get 21 = .ok (.iload_n 2, 1) := by decide +kernel
theorem dX9_get_22 : decode cX9_get 22 = .ok (.iload_n 3, 1) := by decide +kernel
theorem dX9_get_23 : decode cX9_get 23 = .ok (.invokevirtual 97, 3) := by decide +kernel
theorem dX9_get_26 : decode cX9_get 26 = .ok (.ifCond .eq 6, 3) := by decide +kernel
theorem dX9_get_29 : decode cX9_get 29 = .ok (.ldc 104, 2) := by decide +kernel
theorem dX9_get_31 : decode cX9_get 31 = .ok (.ireturn, 1) := by decide +kernel
theorem dX9_get_32 : decode cX9_get 32 = .ok (.aload_n 0, 1) := by decide +kernel
theorem dX9_get_33 : decode cX9_get 33 = .ok (.getfield 16, 3) := by decide +kernel
theorem dX9_get_36 : decode cX9_get 36 = .ok (.bipush 60, 2) := by decide +kernel
theorem dX9_get_38 : decode cX9_get 38 = .ok (.iload_n 1, 1) := by decide +kernel
theorem dX9_get_39 : decode cX9_get 39 = .ok (.imul, 1) := by decide +kernel
theorem dX9_get_40 : decode cX9_get 40 = .ok (.iload_n 3, 1) := by decide +kernel
theorem dX9_get_41 : decode cX9_get 41 = .ok (.iadd, 1) := by decide +kernel
theorem dX9_get_42 : decode cX9_get 42 = .ok (.iaload, 1) := by decide +kernel
theorem dX9_get_43 : decode cX9_get 43 = .ok (.ireturn, 1) := by decide +kernel
theorem dX9_copy_0 : decode cX9_copy 0 = .ok (.iload_n 1, 1) := by decide +kernel
theorem dX9_copy_1 : decode cX9_copy 1 = .ok (.invokestatic 87, 3) := by decide +kernel
theorem dX9_copy_4 : decode cX9_copy 4 = .ok (.ifCond .eq 10, 3) := by decide +kernel
theorem dX9_copy_7 : decode cX9_copy 7 = .ok (.iload_n 3, 1) := by decide +kernel
theorem dX9_copy_8 : decode cX9_copy 8 = .ok (.invokestatic 87, 3) := by decide +kernel
theorem dX9_copy_11 : decode cX9_copy 11 = .ok (.ifCond .ne 6, 3) := by decide +kernel
theorem dX9_copy_14 : decode cX9_copy 14 = .ok (.bipush (-2), 2) := by decide +kernel
theorem dX9_copy_16 : decode cX9_copy 16 = .ok (.ireturn, 1) := by decide +kernel
theorem dX9_copy_17 : decode cX9_copy 17 = .ok (.aload_n 0, 1) := by decide +kernel
theorem dX9_copy_18 : decode cX9_copy 18 = .ok (.getfield 7, 3) := by decide +kernel
theorem dX9_copy_21 : decode cX9_copy 21 = .ok (.iload_n 1, 1) := by decide +kernel
theorem dX9_copy_22 : decode cX9_copy 22 = .ok (.iaload, 1) := by decide +kernel
theorem dX9_copy_23 : decode cX9_copy 23 = .ok (.ifCond .lt 12, 3) := by decide +kernel
theorem dX9_copy_26 : decode cX9_copy 26 = .ok (.aload_n 0, 1) := by decide +kernel
theorem dX9_copy_27 : decode cX9_copy 27 = .ok (.getfield 7, 3) := by decide +kernel
theorem dX9_copy_30 : decode cX9_copy 30 = .ok (.iload_n 3, 1) := by decide +kernel
theorem dX9_copy_31 : decode cX9_copy 31 = .ok (.iaload, 1) := by decide +kernel
theorem dX9_copy_32 : decode cX9_copy 32 = .ok (.ifCond .ge 9, 3) := by decide +kernel
theorem dX9_copy_35 : decode cX9_copy 35 = .ok (.aload_n 0, 1) := by decide +kernel
theorem dX9_copy_36 : decode cX9_copy 36 = .ok (.iconst 1, 1) := by decide +kernel
theorem dX9_copy_37 : decode cX9_copy 37 = .ok (.invokevirtual 93, 3) := by decide +kernel
theorem dX9_copy_40 : decode cX9_copy 40 = .ok (.ireturn, 1) := by decide +kernel
theorem dX9_copy_41 : decode cX9_copy 41 = .ok (.aload_n 0, 1) := by decide +kernel
theorem dX9_copy_42 : decode cX9_copy 42 = .ok (.getfield 7, 3) := by decide +kernel
theorem dX9_copy_45 : decode cX9_copy 45 = .ok (.iload_n 1, 1) := by decide +kernel
theorem dX9_copy_46 : decode cX9_copy 46 = .ok (.iaload, 1) := by decide +kernel
theorem dX9_copy_47 : decode cX9_copy 47 = .ok (.aload_n 0, 1) := by decide +kernel
theorem dX9_copy_48 : decode cX9_copy 48 = .ok (.getfield 7, 3) := by decide +kernel
theorem dX9_copy_51 : decode cX9_copy 51 = .ok (.iload_n 3, 1) := by decide +kernel
theorem dX9_copy_52 : decode cX9_copy 52 = .ok (.iaload, 1) := by decide +kernel
theorem dX9_copy_53 : decode cX9_copy 53 = .ok (.if_icmp .eq 9, 3) := by decide +kernel
theorem dX9_copy_56 : decode cX9_copy 56 = .ok (.aload_n 0, 1) := by decide +kernel
theorem dX9_copy_57 : decode cX9_copy 57 = .ok (.iconst 4, 1) := by decide +kernel
theorem dX9_copy_58 : decode cX9_copy 58 = .ok (.invokevirtual 93, 3) := by decide +kernel
theorem dX9_copy_61 : decode cX9_copy 61 = .ok (.ireturn, 1) := by decide +kernel
theorem dX9_copy_62 : decode cX9_copy 62 = .ok (.iload_n 2, 1) := by decide +kernel
theorem dX9_copy_63 : decode cX9_copy 63 = .ok (.ifCond .lt 48, 3) := by decide +kernel
theorem dX9_copy_66 : decode cX9_copy 66 = .ok (.iload 4, 2) := by decide +kernel
theorem dX9_copy_68 : decode cX9_copy 68 = .ok (.ifCond .lt 43, 3) := by decide +kernel
theorem dX9_copy_71 : decode cX9_copy 71 = .ok (.iload 5, 2) := by decide +kernel
theorem dX9_copy_73 : decode cX9_copy 73 = .ok (.ifCond .lt 38, 3) := by decide +kernel
theorem dX9_copy_76 : decode cX9_copy 76 = .ok (.iload_n 2, 1) := by decide +kernel
theorem dX9_copy_77 : decode cX9_copy 77 = .ok (.i2l, 1) := by decide +kernel
theorem dX9_copy_78 : decode cX9_copy 78 = .ok (.iload 5, 2) := by decide +kernel
theorem dX9_copy_80 : decode cX9_copy 80 = .ok (.i2l, 1) := by decide +kernel
theorem dX9_copy_81 : decode cX9_copy 81 = .ok (.ladd, 1) := by decide +kernel
theorem dX9_copy_82 : decode cX9_copy 82 = .ok (.aload_n 0, 1) := by decide +kernel
theorem dX9_copy_83 : decode cX9_copy 83 = .ok (.getfield 13, 3) := by decide +kernel
theorem dX9_copy_86 : decode cX9_copy 86 = .ok (.iload_n 1, 1) := by decide +kernel
theorem dX9_copy_87 : decode cX9_copy 87 = .ok (.iaload, 1) := by decide +kernel
theorem dX9_copy_88 : decode cX9_copy 88 = .ok (.i2l, 1) := by decide +kernel
theorem dX9_copy_89 : decode cX9_copy 89 = .ok (.lcmp, 1) := by decide +kernel
theorem dX9_copy_90 : decode cX9_copy 90 = .ok (.ifCond .gt 21, 3) := by decide +kernel
theorem dX9_copy_93 : decode cX9_copy 93 = .ok (.iload 4, 2) := by decide +kernel
theorem dX9_copy_95 : decode cX9_copy 95 = .ok (.i2l, 1) := by decide +kernel
theorem dX9_copy_96 : decode cX9_copy 96 = .ok (.iload 5, 2) := by decide +kernel
theorem dX9_copy_98 : decode cX9_copy 98 = .ok (.i2l, 1) := by decide +kernel
theorem dX9_copy_99 : decode cX9_copy 99 = .ok (.ladd, 1) := by decide +kernel
theorem dX9_copy_100 : decode cX9_copy 100 = .ok (.aload_n 0, 1) := by decide +kernel
theorem dX9_copy_101 : decode cX9_copy 101 = .ok (.getfield 13, 3) := by decide +kernel
theorem dX9_copy_104 : decode cX9_copy 104 = .ok (.iload_n 3, 1) := by decide +kernel
theorem dX9_copy_105 : decode cX9_copy 105 = .ok (.iaload, 1) := by decide +kernel
theorem dX9_copy_106 : decode cX9_copy 106 = .ok (.i2l, 1) := by decide +kernel
theorem dX9_copy_107 : decode cX9_copy 107 = .ok (.lcmp, 1) := by decide +kernel
theorem dX9_copy_108 : decode cX9_copy 108 = .ok (.ifCond .le 9, 3) := by decide +kernel
theorem dX9_copy_111 : decode cX9_copy 111 = .ok (.aload_n 0, 1) := by decide +kernel
theorem dX9_copy_112 : decode cX9_copy 112 = .ok (.iconst 2, 1) := by decide +kernel
theorem dX9_copy_113 : decode cX9_copy 113 = .ok (.invokevirtual 93, 3) := by decide +kernel
theorem dX9_copy_116 : decode cX9_copy 116 = .ok (.ireturn, 1) := by decide +kernel
theorem dX9_copy_117 : decode cX9_copy 117 = .ok (.iconst 0, 1) := by decide +kernel
theorem dX9_copy_118 : decode cX9_copy 118 = .ok (.istore 6, 2) := by decide +kernel
theorem dX9_copy_120 : decode cX9_copy 120 = .ok (.iload 6, 2) := by decide +kernel
theorem dX9_copy_122 : decode cX9_copy 122 = .ok (.iload 5, 2) := by decide +kernel
theorem dX9_copy_124 : decode cX9_copy 124 = .ok (.if_icmp .ge 30, 3) := by decide +kernel
theorem dX9_copy_127 : decode cX9_copy 127 = .ok (.aload_n 0, 1) := by decide +kernel
theorem dX9_copy_128 : decode cX9_copy 128 = .ok (.getfield 19, 3) := by decide +kernel
theorem dX9_copy_131 : decode cX9_copy 131 = .ok (.iload 6, 2) := by decide +kernel
theorem dX9_copy_133 : decode cX9_copy 133 = .ok (.aload_n 0, 1) := by decide +kernel
theorem dX9_copy_134 : decode cX9_copy 134 = .ok (.getfield 16, 3) := by decide +kernel
theorem dX9_copy_137 : decode cX9_copy 137 = .ok (.bipush 60, 2) := by decide +kernel
theorem dX9_copy_139 : decode cX9_copy 139 = .ok (.iload_n 1, 1) := by decide +kernel
theorem dX9_copy_140 : decode cX9_copy 140 = .ok (.imul, 1) := by decide +kernel
theorem dX9_copy_141 : decode cX9_copy 141 = .ok (.iload_n 2, 1) := by decide +kernel
theorem dX9_copy_142 : decode cX9_copy 142 = .ok (.iadd, 1) := by decide +kernel
theorem dX9_copy_143 : decode cX9_copy 143 = .ok (.iload 6, 2) := by decide +kernel
theorem dX9_copy_145 : decode cX9_copy 145 = .ok (.iadd, 1) := by decide +kernel
theorem dX9_copy_146 : decode cX9_copy 146 = .ok (.iaload, 1) := by decide +kernel
theorem dX9_copy_147 : decode cX9_copy 147 = .ok (.iastore, 1) := by decide +kernel
theorem dX9_copy_148 : decode cX9_copy 148 = .ok (.iinc 6 1, 3) := by decide +kernel
theorem dX9_copy_151 : decode cX9_copy 151 = .ok (.goto (-31), 3) := by decide +kernel
theorem dX9_copy_154 : decode cX9_copy 154 = .ok (.iconst 0, 1) := by decide +kernel
theorem dX9_copy_155 : decode cX9_copy 155 = .ok (.istore 6, 2) := by decide +kernel
theorem dX9_copy_157 : decode cX9_copy 157 = .ok (.iload 6, 2) := by decide +kernel
theorem dX9_copy_159 : decode cX9_copy 159 = .ok (.iload 5, 2) := by decide +kernel
theorem dX9_copy_161 : decode cX9_copy 161 = .ok (.if_icmp .ge 31, 3) := by decide +kernel
theorem dX9_copy_164 : decode cX9_copy 164 = .ok (.aload_n 0, 1) := by decide +kernel
theorem dX9_copy_165 : decode cX9_copy 165 = .ok (.getfield 16, 3) := by decide +kernel
theorem dX9_copy_168 : decode cX9_copy 168 = .ok (.bipush 60, 2) := by decide +kernel
theorem dX9_copy_170 : decode cX9_copy 170 = .ok (.iload_n 3, 1) := by decide +kernel
theorem dX9_copy_171 : decode cX9_copy 171 = .ok (.imul, 1) := by decide +kernel
theorem dX9_copy_172 : decode cX9_copy 172 = .ok (.iload 4, 2) := by decide +kernel
theorem dX9_copy_174 : decode cX9_copy 174 = .ok (.iadd, 1) := by decide +kernel
theorem dX9_copy_175 : decode cX9_copy 175 = .ok (.iload 6, 2) := by decide +kernel
theorem dX9_copy_177 : decode cX9_copy 177 = .ok (.iadd, 1) := by decide +kernel
theorem dX9_copy_178 : decode cX9_copy 178 = .ok (.aload_n 0, 1) := by decide +kernel
theorem dX9_copy_179 : decode cX9_copy 179 = .ok (.getfield 19, 3) := by decide +kernel
theorem dX9_copy_182 : decode cX9_copy 182 = .ok (.iload 6, 2) := by decide +kernel
theorem dX9_copy_184 : decode cX9_copy 184 = .ok (.iaload, 1) := by decide +kernel
theorem dX9_copy_185 : decode cX9_copy 185 = .ok (.iastore, 1) := by decide +kernel
theorem dX9_copy_186 : decode cX9_copy 186 = .ok (.iinc 6 1, 3) := by decide +kernel
theorem dX9_copy_189 : decode cX9_copy 189 = .ok (.goto (-32), 3) := by decide +kernel
theorem dX9_copy_192 : decode cX9_copy 192 = .ok (.iconst 1, 1) := by decide +kernel
theorem dX9_copy_193 : decode cX9_copy 193 = .ok (.ireturn, 1) := by decide +kernel
theorem dX9_type_0 : decode cX9_type 0 = .ok (.iload_n 1, 1) := by decide +kernel
theorem dX9_type_1 : decode cX9_type 1 = .ok (.invokestatic 105, 3) := by decide +kernel
theorem dX9_type_4 : decode cX9_type 4 = .ok (.ifCond .eq 15, 3) := by decide +kernel
theorem dX9_type_7 : decode cX9_type 7 = .ok (.iload_n 2, 1) := by decide +kernel
theorem dX9_type_8 : decode cX9_type 8 = .ok (.i2l, 1) := by decide +kernel
theorem dX9_type_9 : decode cX9_type 9 = .ok (.lconst 0, 1) := by decide +kernel
theorem dX9_type_10 : decode cX9_type 10 = .ok (.ldc2_w 108, 3) := by decide +kernel
theorem dX9_type_13 : decode cX9_type 13 = .ok (.invokestatic 73, 3) := by decide +kernel
theorem dX9_type_16 : decode cX9_type 16 = .ok (.ifCond .ne 6, 3) := by decide +kernel
theorem dX9_type_19 : decode cX9_type 19 = .ok (.bipush (-2), 2) := by decide +kernel
theorem dX9_type_21 : decode cX9_type 21 = .ok (.ireturn, 1) := by decide +kernel
theorem dX9_type_22 : decode cX9_type 22 = .ok (.aload_n 0, 1) := by decide +kernel
theorem dX9_type_23 : decode cX9_type 23 = .ok (.getfield 25, 3) := by decide +kernel
theorem dX9_type_26 : decode cX9_type 26 = .ok (.iload_n 1, 1) := by decide +kernel
theorem dX9_type_27 : decode cX9_type 27 = .ok (.iaload, 1) := by decide +kernel
theorem dX9_type_28 : decode cX9_type 28 = .ok (.iload_n 1, 1) := by decide +kernel
theorem dX9_type_29 : decode cX9_type 29 = .ok (.ifCond .ne 8, 3) := by decide +kernel
theorem dX9_type_32 : decode cX9_type 32 = .ok (.bipush 12, 2) := by decide +kernel
theorem dX9_type_34 : decode cX9_type 34 = .ok (.goto 5, 3) := by decide +kernel
theorem dX9_type_37 : decode cX9_type 37 = .ok (.bipush 32, 2) := by decide +kernel
theorem dX9_type_39 : decode cX9_type 39 = .ok (.if_icmp .ne 6, 3) := by decide +kernel
theorem dX9_type_42 : decode cX9_type 42 = .ok (.bipush (-4), 2) := by decide +kernel
theorem dX9_type_44 : decode cX9_type 44 = .ok (.ireturn, 1) := by decide +kernel
theorem dX9_type_45 : decode cX9_type 45 = .ok (.aload_n 0, 1) := by decide +kernel
theorem dX9_type_46 : decode cX9_type 46 = .ok (.getfield 22, 3) := by decide +kernel
theorem dX9_type_49 : decode cX9_type 49 = .ok (.bipush 12, 2) := by decide +kernel
theorem dX9_type_51 : decode cX9_type 51 = .ok (.iload_n 1, 1) := by decide +kernel
theorem dX9_type_52 : decode cX9_type 52 = .ok (.imul, 1) := by decide +kernel
theorem dX9_type_53 : decode cX9_type 53 = .ok (.aload_n 0, 1) := by decide +kernel
theorem dX9_type_54 : decode cX9_type 54 = .ok (.getfield 25, 3) := by decide +kernel
theorem dX9_type_57 : decode cX9_type 57 = .ok (.iload_n 1, 1) := by decide +kernel
theorem dX9_type_58 : decode cX9_type 58 = .ok (.iaload, 1) := by decide +kernel
theorem dX9_type_59 : decode cX9_type 59 = .ok (.iadd, 1) := by decide +kernel
theorem dX9_type_60 : decode cX9_type 60 = .ok (.iload_n 2, 1) := by decide +kernel
theorem dX9_type_61 : decode cX9_type 61 = .ok (.iastore, 1) := by decide +kernel
theorem dX9_type_62 : decode cX9_type 62 = .ok (.aload_n 0, 1) := by decide +kernel
theorem dX9_type_63 : decode cX9_type 63 = .ok (.getfield 25, 3) := by decide +kernel
theorem dX9_type_66 : decode cX9_type 66 = .ok (.iload_n 1, 1) := by decide +kernel
theorem dX9_type_67 : decode cX9_type 67 = .ok (.dup2, 1) := by decide +kernel
theorem dX9_type_68 : decode cX9_type 68 = .ok (.iaload, 1) := by decide +kernel
theorem dX9_type_69 : decode cX9_type 69 = .ok (.iconst 1, 1) := by decide +kernel
theorem dX9_type_70 : decode cX9_type 70 = .ok (.iadd, 1) := by decide +kernel
theorem dX9_type_71 : decode cX9_type 71 = .ok (.iastore, 1) := by decide +kernel
theorem dX9_type_72 : decode cX9_type 72 = .ok (.aload_n 0, 1) := by decide +kernel
theorem dX9_type_73 : decode cX9_type 73 = .ok (.getfield 25, 3) := by decide +kernel
theorem dX9_type_76 : decode cX9_type 76 = .ok (.iload_n 1, 1) := by decide +kernel
theorem dX9_type_77 : decode cX9_type 77 = .ok (.iaload, 1) := by decide +kernel
theorem dX9_type_78 : decode cX9_type 78 = .ok (.ireturn, 1) := by decide +kernel
theorem dX9_wipe_0 : decode cX9_wipe 0 = .ok (.iload_n 1, 1) := by decide +kernel
theorem dX9_wipe_1 : decode cX9_wipe 1 = .ok (.invokestatic 105, 3) := by decide +kernel
theorem dX9_wipe_4 : decode cX9_wipe 4 = .ok (.ifCond .ne 6, 3) := by decide +kernel
theorem dX9_wipe_7 : decode cX9_wipe 7 = .ok (.bipush (-2), 2) := by decide +kernel
theorem dX9_wipe_9 : decode cX9_wipe 9 = .ok (.ireturn, 1) := by decide +kernel
theorem dX9_wipe_10 : decode cX9_wipe 10 = .ok (.aload_n 0, 1) := by decide +kernel
theorem dX9_wipe_11 : decode cX9_wipe 11 = .ok (.getfield 25, 3) := by decide +kernel
theorem dX9_wipe_14 : decode cX9_wipe 14 = .ok (.iload_n 1, 1) := by decide +kernel
theorem dX9_wipe_15 : decode cX9_wipe 15 = .ok (.iaload, 1) := by decide +kernel
theorem dX9_wipe_16 : decode cX9_wipe 16 = .ok (.istore_n 2, 1) := by decide +kernel
theorem dX9_wipe_17 : decode cX9_wipe 17 = .ok (.aload_n 0, 1) := by decide +kernel
theorem dX9_wipe_18 : decode cX9_wipe 18 = .ok (.getfield 25, 3) := by decide +kernel
theorem dX9_wipe_21 : decode cX9_wipe 21 = .ok (.iload_n 1, 1) := by decide +kernel
theorem dX9_wipe_22 : decode cX9_wipe 22 = .ok (.iconst 0, 1) := by decide +kernel
theorem dX9_wipe_23 : decode cX9_wipe 23 = .ok (.iastore, 1) := by decide +kernel
theorem dX9_wipe_24 : decode cX9_wipe 24 = .ok (.iload_n 2, 1) := by decide +kernel
theorem dX9_wipe_25 : decode cX9_wipe 25 = .ok (.ireturn, 1) := by decide +kernel
theorem dX9_undo_0 : decode cX9_undo 0 = .ok (.iload_n 1, 1) := by decide +kernel
theorem dX9_undo_1 : decode cX9_undo 1 = .ok (.invokestatic 105, 3) := by decide +kernel
theorem dX9_undo_4 : decode cX9_undo 4 = .ok (.ifCond .ne 6, 3) := by decide +kernel
theorem dX9_undo_7 : decode cX9_undo 7 = .ok (.bipush (-2), 2) := by decide +kernel
theorem dX9_undo_9 : decode cX9_undo 9 = .ok (.ireturn, 1) := by decide +kernel
theorem dX9_undo_10 : decode cX9_undo 10 = .ok (.aload_n 0, 1) := by decide +kernel
theorem dX9_undo_11 : decode cX9_undo 11 = .ok (.getfield 25, 3) := by decide +kernel
theorem dX9_undo_14 : decode cX9_undo 14 = .ok (.iload_n 1, 1) := by decide +kernel
theorem dX9_undo_15 : decode cX9_undo 15 = .ok (.iaload, 1) := by decide +kernel
theorem dX9_undo_16 : decode cX9_undo 16 = .ok (.ifCond .ne 6, 3) := by decide +kernel
theorem dX9_undo_19 : decode cX9_undo 19 = .ok (.bipush (-3), 2) := by decide +kernel
theorem dX9_undo_21 : decode cX9_undo 21 = .ok (.ireturn, 1) := by decide +kernel
theorem dX9_undo_22 : decode cX9_undo 22 = .ok (.aload_n 0, 1) := by decide +kernel
theorem dX9_undo_23 : decode cX9_undo 23 = .ok (.getfield 25, 3) := by decide +kernel
theorem dX9_undo_26 : decode cX9_undo 26 = .ok (.iload_n 1, 1) := by decide +kernel
theorem dX9_undo_27 : decode cX9_undo 27 = .ok (.dup2, 1) := by decide +kernel
theorem dX9_undo_28 : decode cX9_undo 28 = .ok (.iaload, 1) := by decide +kernel
theorem dX9_undo_29 : decode cX9_undo 29 = .ok (.iconst 1, 1) := by decide +kernel
theorem dX9_undo_30 : decode cX9_undo 30 = .ok (.isub, 1) := by decide +kernel
theorem dX9_undo_31 : decode cX9_undo 31 = .ok (.iastore, 1) := by decide +kernel
theorem dX9_undo_32 : decode cX9_undo 32 = .ok (.aload_n 0, 1) := by decide +kernel
theorem dX9_undo_33 : decode cX9_undo 33 = .ok (.getfield 25, 3) := by decide +kernel
theorem dX9_undo_36 : decode cX9_undo 36 = .ok (.iload_n 1, 1) := by decide +kernel
theorem dX9_undo_37 : decode cX9_undo 37 = .ok (.iaload, 1) := by decide +kernel
theorem dX9_undo_38 : decode cX9_undo 38 = .ok (.ireturn, 1) := by decide +kernel
theorem dX9_readsTrain_0 : decode cX9_readsTrain 0 = .ok (.aload_n 0, 1) := by decide +kernel
theorem dX9_readsTrain_1 : decode cX9_readsTrain 1 = .ok (.iconst 0, 1) := by decide +kernel
theorem dX9_readsTrain_2 : decode cX9_readsTrain 2 = .ok (.putfield 110, 3) := by decide +kernel
theorem dX9_readsTrain_5 : decode cX9_readsTrain 5 = .ok (.aload_n 0, 1) := by decide +kernel
theorem dX9_readsTrain_6 : decode cX9_readsTrain 6 = .ok (.iconst 0, 1) := by decide +kernel
theorem dX9_readsTrain_7 : decode cX9_readsTrain 7 = .ok (.putfield 113, 3) := by decide +kernel
theorem dX9_readsTrain_10 : decode cX9_readsTrain 10 = .ok (.iconst 0, 1) := by decide +kernel
theorem dX9_readsTrain_11 : decode cX9_readsTrain 11 = .ok (.istore_n 1, 1) := by decide +kernel
theorem dX9_readsTrain_12 : decode cX9_readsTrain 12 = .ok (.iload_n 1, 1) := by decide +kernel
theorem dX9_readsTrain_13 : decode cX9_readsTrain 13 = .ok (.aload_n 0, 1) := by decide +kernel
theorem dX9_readsTrain_14 : decode cX9_readsTrain 14 = .ok (.getfield 25, 3) := by decide +kernel
theorem dX9_readsTrain_17 : decode cX9_readsTrain 17 = .ok (.iconst 0, 1) := by decide +kernel
theorem dX9_readsTrain_18 : decode cX9_readsTrain 18 = .ok (.iaload, 1) := by decide +kernel
theorem dX9_readsTrain_19 : decode cX9_readsTrain 19 = .ok (.if_icmp .ge 70, 3) := by decide +kernel
theorem dX9_readsTrain_22 : decode cX9_readsTrain 22 = .ok (.aload_n 0, 1) := by decide +kernel
theorem dX9_readsTrain_23 : decode cX9_readsTrain 23 = .ok (.getfield 22, 3) := by decide +kernel
theorem dX9_readsTrain_26 : decode cX9_readsTrain 26 = .ok (.iload_n 1, 1) := by decide +kernel
theorem dX9_readsTrain_27 : decode cX9_readsTrain 27 = .ok (.iaload, 1) := by decide +kernel
theorem dX9_readsTrain_28 : decode cX9_readsTrain 28 = .ok (.bipush 48, 2) := by decide +kernel
theorem dX9_readsTrain_30 : decode cX9_readsTrain 30 = .ok (.isub, 1) := by decide +kernel
theorem dX9_readsTrain_31 : decode cX9_readsTrain 31 = .ok (.istore_n 2, 1) := by decide +kernel
theorem dX9_readsTrain_32 : decode cX9_readsTrain 32 = .ok (.iload_n 2, 1) := by decide +kernel
theorem dX9_readsTrain_33 : decode cX9_readsTrain 33 = .ok (.i2l, 1) := by decide +kernel
theorem dX9_readsTrain_34 : decode cX9_readsTrain 34 = .ok (.lconst 1, 1) := by decide +kernel
theorem dX9_readsTrain_35 : decode cX9_readsTrain 35 = .ok (.ldc2_w 116, 3) := by decide +kernel
theorem dX9_readsTrain_38 : decode cX9_readsTrain 38 = .ok (.invokestatic 73, 3) := by decide +kernel
theorem dX9_readsTrain_41 : decode cX9_readsTrain 41 = .ok (.ifCond .ne 15, 3) := by decide +kernel
theorem dX9_readsTrain_44 : decode cX9_readsTrain 44 = .ok (.aload_n 0, 1) := by decide +kernel
theorem dX9_readsTrain_45 : decode cX9_readsTrain 45 = .ok (.iconst 0, 1) := by decide +kernel
theorem dX9_readsTrain_46 : decode cX9_readsTrain 46 = .ok (.putfield 110, 3) := by decide +kernel
theorem dX9_readsTrain_49 : decode cX9_readsTrain 49 = .ok (.aload_n 0, 1) := by decide +kernel
theorem dX9_readsTrain_50 : decode cX9_readsTrain 50 = .ok (.iconst 0, 1) := by decide +kernel
theorem dX9_readsTrain_51 : decode cX9_readsTrain 51 = .ok (.putfield 113, 3) := by decide +kernel
theorem dX9_readsTrain_54 : decode cX9_readsTrain 54 = .ok (.iload_n 1, 1) := by decide +kernel
theorem dX9_readsTrain_55 : decode cX9_readsTrain 55 = .ok (.ireturn, 1) := by decide +kernel
theorem dX9_readsTrain_56 : decode cX9_readsTrain 56 = .ok (.aload_n 0, 1) := by decide +kernel
theorem dX9_readsTrain_57 : decode cX9_readsTrain 57 = .ok (.getfield 28, 3) := by decide +kernel
theorem dX9_readsTrain_60 : decode cX9_readsTrain 60 = .ok (.iload_n 1, 1) := by decide +kernel
theorem dX9_readsTrain_61 : decode cX9_readsTrain 61 = .ok (.iload_n 2, 1) := by decide +kernel
theorem dX9_readsTrain_62 : decode cX9_readsTrain 62 = .ok (.iastore, 1) := by decide +kernel
theorem dX9_readsTrain_63 : decode cX9_readsTrain 63 = .ok (.aload_n 0, 1) := by decide +kernel
theorem dX9_readsTrain_64 : decode cX9_readsTrain 64 = .ok (.dup, 1) := by decide +kernel
theorem dX9_readsTrain_65 : decode cX9_readsTrain 65 = .ok (.getfield 113, 3) := by decide +kernel
theorem dX9_readsTrain_68 : decode cX9_readsTrain 68 = .ok (.iload_n 2, 1) := by decide +kernel
theorem dX9_readsTrain_69 : decode cX9_readsTrain 69 = .ok (.iadd, 1) := by decide +kernel
theorem dX9_readsTrain_70 : decode cX9_readsTrain 70 = .ok (.putfield 113, 3) := by decide +kernel
theorem dX9_readsTrain_73 : decode cX9_readsTrain 73 = .ok (.aload_n 0, 1) := by decide +kernel
theorem dX9_readsTrain_74 : decode cX9_readsTrain 74 = .ok (.dup, 1) := by decide +kernel
theorem dX9_readsTrain_75 : decode cX9_readsTrain 75 = .ok (.getfield 110, 3) := by decide +kernel
theorem dX9_readsTrain_78 : decode cX9_readsTrain 78 = .ok (.iconst 1, 1) := by decide +kernel
theorem dX9_readsTrain_79 : decode cX9_readsTrain 79 = .ok (.iadd, 1) := by decide +kernel
theorem dX9_readsTrain_80 : decode cX9_readsTrain 80 = .ok (.putfield 110, 3) := by decide +kernel
theorem dX9_readsTrain_83 : decode cX9_readsTrain 83 = .ok (.iinc 1 1, 3) := by decide +kernel
theorem dX9_readsTrain_86 : decode cX9_readsTrain 86 = .ok (.goto (-74), 3) := by decide +kernel
theorem dX9_readsTrain_89 : decode cX9_readsTrain 89 = .ok (.iconst (-1), 1) := by decide +kernel
theorem dX9_readsTrain_90 : decode cX9_readsTrain 90 = .ok (.ireturn, 1) := by decide +kernel
theorem dX9_readsHill_0 : decode cX9_readsHill 0 = .ok (.aload_n 0, 1) := by decide +kernel
theorem dX9_readsHill_1 : decode cX9_readsHill 1 = .ok (.iconst 0, 1) := by decide +kernel
theorem dX9_readsHill_2 : decode cX9_readsHill 2 = .ok (.putfield 118, 3) := by decide +kernel
theorem dX9_readsHill_5 : decode cX9_readsHill 5 = .ok (.iconst 0, 1) := by decide +kernel
theorem dX9_readsHill_6 : decode cX9_readsHill 6 = .ok (.istore_n 1, 1) := by decide +kernel
theorem dX9_readsHill_7 : decode cX9_readsHill 7 = .ok (.iload_n 1, 1) := by decide +kernel
theorem dX9_readsHill_8 : decode cX9_readsHill 8 = .ok (.aload_n 0, 1) := by decide +kernel
theorem dX9_readsHill_9 : decode cX9_readsHill 9 = .ok (.getfield 25, 3) := by decide +kernel
theorem dX9_readsHill_12 : decode cX9_readsHill 12 = .ok (.iconst 1, 1) := by decide +kernel
theorem dX9_readsHill_13 : decode cX9_readsHill 13 = .ok (.iaload, 1) := by decide +kernel
theorem dX9_readsHill_14 : decode cX9_readsHill 14 = .ok (.if_icmp .ge 144, 3) := by decide +kernel
theorem dX9_readsHill_17 : decode cX9_readsHill 17 = .ok (.aload_n 0, 1) := by decide +kernel
theorem dX9_readsHill_18 : decode cX9_readsHill 18 = .ok (.getfield 22, 3) := by decide +kernel
theorem dX9_readsHill_21 : decode cX9_readsHill 21 = .ok (.bipush 12, 2) := by decide +kernel
theorem dX9_readsHill_23 : decode cX9_readsHill 23 = .ok (.iload_n 1, 1) := by decide +kernel
theorem dX9_readsHill_24 : decode cX9_readsHill 24 = .ok (.iadd, 1) := by decide +kernel
theorem dX9_readsHill_25 : decode cX9_readsHill 25 = .ok (.iaload, 1) := by decide +kernel
theorem dX9_readsHill_26 : decode cX9_readsHill 26 = .ok (.bipush 48, 2) := by decide +kernel
theorem dX9_readsHill_28 : decode cX9_readsHill 28 = .ok (.isub, 1) := by decide +kernel
theorem dX9_readsHill_29 : decode cX9_readsHill 29 = .ok (.istore_n 2, 1) := by decide +kernel
theorem dX9_readsHill_30 : decode cX9_readsHill 30 = .ok (.aload_n 0, 1) := by decide +kernel
theorem dX9_readsHill_31 : decode cX9_readsHill 31 = .ok (.getfield 22, 3) := by decide +kernel
theorem dX9_readsHill_34 : decode cX9_readsHill 34 = .ok (.bipush 12, 2) := by decide +kernel
theorem dX9_readsHill_36 : decode cX9_readsHill 36 = .ok (.iload_n 1, 1) := by decide +kernel
theorem dX9_readsHill_37 : decode cX9_readsHill 37 = .ok (.iadd, 1) := by decide +kernel
theorem dX9_readsHill_38 : decode cX9_readsHill 38 = .ok (.iaload, 1) := by decide +kernel
theorem dX9_readsHill_39 : decode cX9_readsHill 39 = .ok (.bipush 98, 2) := by decide +kernel
theorem dX9_readsHill_41 : decode cX9_readsHill 41 = .ok (.if_icmp .ne 28, 3) := by decide +kernel
theorem dX9_readsHill_44 : decode cX9_readsHill 44 = .ok (.aload_n 0, 1) := by decide +kernel
theorem dX9_readsHill_45 : decode cX9_readsHill 45 = .ok (.getfield 118, 3) := by decide +kernel
theorem dX9_readsHill_48 : decode cX9_readsHill 48 = .ok (.ifCond .le 21, 3) := by decide +kernel
theorem dX9_readsHill_51 : decode cX9_readsHill 51 = .ok (.aload_n 0, 1) := by decide +kernel
theorem dX9_readsHill_52 : decode cX9_readsHill 52 = .ok (.getfield 34, 3) := by decide +kernel
theorem dX9_readsHill_55 : decode cX9_readsHill 55 = .ok (.aload_n 0, 1) := by decide +kernel
theorem dX9_readsHill_56 : decode cX9_readsHill 56 = .ok (.getfield 118, 3) := by decide +kernel
theorem dX9_readsHill_59 : decode cX9_readsHill 59 = .ok (.iconst 1, 1) := by decide +kernel
theorem dX9_readsHill_60 : decode cX9_readsHill 60 = .ok (.isub, 1) := by decide +kernel
theorem dX9_readsHill_61 : decode cX9_readsHill 61 = .ok (.baload, 1) := by decide +kernel
theorem dX9_readsHill_62 : decode cX9_readsHill 62 = .ok (.ifCond .ne 7, 3) := by decide +kernel
theorem dX9_readsHill_65 : decode cX9_readsHill 65 = .ok (.iconst 1, 1) := by decide +kernel
theorem dX9_readsHill_66 : decode cX9_readsHill 66 = .ok (.goto 4, 3) := by decide +kernel
theorem dX9_readsHill_69 : decode cX9_readsHill 69 = .ok (.iconst 0, 1) := by decide +kernel
theorem dX9_readsHill_70 : decode cX9_readsHill 70 = .ok (.istore_n 3, 1) := by decide +kernel
theorem dX9_readsHill_71 : decode cX9_readsHill 71 = .ok (.iload_n 3, 1) := by decide +kernel
theorem dX9_readsHill_72 : decode cX9_readsHill 72 = .ok (.ifCond .ne 31, 3) := by decide +kernel
theorem dX9_readsHill_75 : decode cX9_readsHill 75 = .ok (.aload_n 0, 1) := by decide +kernel
theorem dX9_readsHill_76 : decode cX9_readsHill 76 = .ok (.getfield 118, 3) := by decide +kernel
theorem dX9_readsHill_79 : decode cX9_readsHill 79 = .ok (.bipush 16, 2) := by decide +kernel
theorem dX9_readsHill_81 : decode cX9_readsHill 81 = .ok (.if_icmp .eq 15, 3) := by decide +kernel
theorem dX9_readsHill_84 : decode cX9_readsHill 84 = .ok (.iload_n 2, 1) := by decide +kernel
theorem dX9_readsHill_85 : decode cX9_readsHill 85 = .ok (.i2l, 1) := by decide +kernel
theorem dX9_readsHill_86 : decode cX9_readsHill 86 = .ok (.lconst 0, 1) := by decide +kernel
theorem dX9_readsHill_87 : decode cX9_readsHill 87 = .ok (.ldc2_w 116, 3) := by decide +kernel
theorem dX9_readsHill_90 : decode cX9_readsHill 90 = .ok (.invokestatic 73, 3) := by decide +kernel
theorem dX9_readsHill_93 : decode cX9_readsHill 93 = .ok (.ifCond .ne 10, 3) := by decide +kernel
theorem dX9_readsHill_96 : decode cX9_readsHill 96 = .ok (.aload_n 0, 1) := by decide +kernel
theorem dX9_readsHill_97 : decode cX9_readsHill 97 = .ok (.iconst 0, 1) := by decide +kernel
theorem dX9_readsHill_98 : decode cX9_readsHill 98 = .ok (.putfield 118, 3) := by decide +kernel
theorem dX9_readsHill_101 : decode cX9_readsHill 101 = .ok (.iload_n 1, 1) := by decide +kernel
theorem dX9_readsHill_102 : decode cX9_readsHill 102 = .ok (.ireturn, 1) := by decide +kernel
theorem dX9_readsHill_103 : decode cX9_readsHill 103 = .ok (.iload_n 3, 1) := by decide +kernel
theorem dX9_readsHill_104 : decode cX9_readsHill 104 = .ok (.ifCond .eq 18, 3) := by decide +kernel
theorem dX9_readsHill_107 : decode cX9_readsHill 107 = .ok (.aload_n 0, 1) := by decide +kernel
theorem dX9_readsHill_108 : decode cX9_readsHill 108 = .ok (.getfield 34, 3) := by decide +kernel
theorem dX9_readsHill_111 : decode cX9_readsHill 111 = .ok (.aload_n 0, 1) := by decide +kernel
theorem dX9_readsHill_112 : decode cX9_readsHill 112 = .ok (.getfield 118, 3) := by decide +kernel
theorem dX9_readsHill_115 : decode cX9_readsHill 115 = .ok (.iconst 1, 1) := by decide +kernel
theorem dX9_readsHill_116 : decode cX9_readsHill 116 = .ok (.isub, 1) := by decide +kernel
theorem dX9_readsHill_117 : decode cX9_readsHill 117 = .ok (.iconst 1, 1) := by decide +kernel
theorem dX9_readsHill_118 : decode cX9_readsHill 118 = .ok (.bastore, 1) := by decide +kernel
theorem dX9_readsHill_119 : decode cX9_readsHill 119 = .ok (.goto 33, 3) := by decide +kernel
theorem dX9_readsHill_122 : decode cX9_readsHill 122 = .ok (.aload_n 0, 1) := by decide +kernel
theorem dX9_readsHill_123 : decode cX9_readsHill 123 = .ok (.getfield 31, 3) := by decide +kernel
theorem dX9_readsHill_126 : decode cX9_readsHill 126 = .ok (.aload_n 0, 1) := by decide +kernel
theorem dX9_readsHill_127 : decode cX9_readsHill 127 = .ok (.getfield 118, 3) := by decide +kernel
theorem dX9_readsHill_130 : decode cX9_readsHill 130 = .ok (.iload_n 2, 1) := by decide +kernel
theorem dX9_readsHill_131 : decode cX9_readsHill 131 = .ok (.iastore, 1) := by decide +kernel
theorem dX9_readsHill_132 : decode cX9_readsHill 132 = .ok (.aload_n 0, 1) := by decide +kernel
theorem dX9_readsHill_133 : decode cX9_readsHill 133 = .ok (.getfield 34, 3) := by decide +kernel
theorem dX9_readsHill_136 : decode cX9_readsHill 136 = .ok (.aload_n 0, 1) := by decide +kernel
theorem dX9_readsHill_137 : decode cX9_readsHill 137 = .ok (.getfield 118, 3) := by decide +kernel
theorem dX9_readsHill_140 : decode cX9_readsHill 140 = .ok (.iconst 0, 1) := by decide +kernel
theorem dX9_readsHill_141 : decode cX9_readsHill 141 = .ok (.bastore, 1) := by decide +kernel
theorem dX9_readsHill_142 : decode cX9_readsHill 142 = .ok (.aload_n 0, 1) := by decide +kernel
theorem dX9_readsHill_143 : decode cX9_readsHill 143 = .ok (.dup, 1) := by decide +kernel
theorem dX9_readsHill_144 : decode cX9_readsHill 144 = .ok (.getfield 118, 3) := by decide +kernel
theorem dX9_readsHill_147 : decode cX9_readsHill 147 = .ok (.iconst 1, 1) := by decide +kernel
theorem dX9_readsHill_148 : decode cX9_readsHill 148 = .ok (.iadd, 1) := by decide +kernel
theorem dX9_readsHill_149 : decode cX9_readsHill 149 = .ok (.putfield 118, 3) := by decide +kernel
theorem dX9_readsHill_152 : decode cX9_readsHill 152 = .ok (.iinc 1 1, 3) := by decide +kernel
theorem dX9_readsHill_155 : decode cX9_readsHill 155 = .ok (.goto (-148), 3) := by decide +kernel
theorem dX9_readsHill_158 : decode cX9_readsHill 158 = .ok (.iconst (-1), 1) := by decide +kernel
theorem dX9_readsHill_159 : decode cX9_readsHill 159 = .ok (.ireturn, 1) := by decide +kernel
theorem dX9_reads_0 : decode cX9_reads 0 = .ok (.aload_n 0, 1) := by decide +kernel
theorem dX9_reads_1 : decode cX9_reads 1 = .ok (.invokevirtual 121, 3) := by decide +kernel
theorem dX9_reads_4 : decode cX9_reads 4 = .ok (.pop, 1) := by decide +kernel
theorem dX9_reads_5 : decode cX9_reads 5 = .ok (.aload_n 0, 1) := by decide +kernel
theorem dX9_reads_6 : decode cX9_reads 6 = .ok (.invokevirtual 125, 3) := by decide +kernel
theorem dX9_reads_9 : decode cX9_reads 9 = .ok (.pop, 1) := by decide +kernel
theorem dX9_reads_10 : decode cX9_reads 10 = .ok (.return_, 1) := by decide +kernel
theorem dX9_fault_0 : decode cX9_fault 0 = .ok (.iload_n 1, 1) := by decide +kernel
theorem dX9_fault_1 : decode cX9_fault 1 = .ok (.invokestatic 105, 3) := by decide +kernel
theorem dX9_fault_4 : decode cX9_fault 4 = .ok (.ifCond .ne 8, 3) := by decide +kernel
theorem dX9_fault_7 : decode cX9_fault 7 = .ok (.bipush (-2), 2) := by decide +kernel
theorem dX9_fault_9 : decode cX9_fault 9 = .ok (.goto 18, 3) := by decide +kernel
theorem dX9_fault_12 : decode cX9_fault 12 = .ok (.iload_n 1, 1) := by decide +kernel
theorem dX9_fault_13 : decode cX9_fault 13 = .ok (.ifCond .ne 10, 3) := by decide +kernel
theorem dX9_fault_16 : decode cX9_fault 16 = .ok (.aload_n 0, 1) := by decide +kernel
theorem dX9_fault_17 : decode cX9_fault 17 = .ok (.invokevirtual 121, 3) := by decide +kernel
theorem dX9_fault_20 : decode cX9_fault 20 = .ok (.goto 7, 3) := by decide +kernel
theorem dX9_fault_23 : decode cX9_fault 23 = .ok (.aload_n 0, 1) := by decide +kernel
theorem dX9_fault_24 : decode cX9_fault 24 = .ok (.invokevirtual 125, 3) := by decide +kernel
theorem dX9_fault_27 : decode cX9_fault 27 = .ok (.ireturn, 1) := by decide +kernel
theorem dX9_wagon_0 : decode cX9_wagon 0 = .ok (.aload_n 0, 1) := by decide +kernel
theorem dX9_wagon_1 : decode cX9_wagon 1 = .ok (.invokevirtual 128, 3) := by decide +kernel
theorem dX9_wagon_4 : decode cX9_wagon 4 = .ok (.iload_n 1, 1) := by decide +kernel
theorem dX9_wagon_5 : decode cX9_wagon 5 = .ok (.i2l, 1) := by decide +kernel
theorem dX9_wagon_6 : decode cX9_wagon 6 = .ok (.lconst 0, 1) := by decide +kernel
theorem dX9_wagon_7 : decode cX9_wagon 7 = .ok (.aload_n 0, 1) := by decide +kernel
theorem dX9_wagon_8 : decode cX9_wagon 8 = .ok (.getfield 110, 3) := by decide +kernel
theorem dX9_wagon_11 : decode cX9_wagon 11 = .ok (.iconst 1, 1) := by decide +kernel
theorem dX9_wagon_12 : decode cX9_wagon 12 = .ok (.isub, 1) := by decide +kernel
theorem dX9_wagon_13 : decode cX9_wagon 13 = .ok (.i2l, 1) := by decide +kernel
theorem dX9_wagon_14 : decode cX9_wagon 14 = .ok (.invokestatic 73, 3) := by decide +kernel
theorem dX9_wagon_17 : decode cX9_wagon 17 = .ok (.ifCond .eq 12, 3) := by decide +kernel
theorem dX9_wagon_20 : decode cX9_wagon 20 = .ok (.aload_n 0, 1) := by decide +kernel
theorem dX9_wagon_21 : decode cX9_wagon 21 = .ok (.getfield 28, 3) := by decide +kernel
theorem dX9_wagon_24 : decode cX9_wagon 24 = .ok (.iload_n 1, 1) := by decide +kernel
theorem dX9_wagon_25 : decode cX9_wagon 25 = .ok (.iaload, 1) := by decide +kernel
theorem dX9_wagon_26 : decode cX9_wagon 26 = .ok (.goto 5, 3) := by decide +kernel
theorem dX9_wagon_29 : decode cX9_wagon 29 = .ok (.bipush (-2), 2) := by decide +kernel
theorem dX9_wagon_31 : decode cX9_wagon 31 = .ok (.ireturn, 1) := by decide +kernel
theorem dX9_hill_0 : decode cX9_hill 0 = .ok (.aload_n 0, 1) := by decide +kernel
theorem dX9_hill_1 : decode cX9_hill 1 = .ok (.invokevirtual 128, 3) := by decide +kernel
theorem dX9_hill_4 : decode cX9_hill 4 = .ok (.iload_n 1, 1) := by decide +kernel
theorem dX9_hill_5 : decode cX9_hill 5 = .ok (.i2l, 1) := by decide +kernel
theorem dX9_hill_6 : decode cX9_hill 6 = .ok (.lconst 0, 1) := by decide +kernel
theorem dX9_hill_7 : decode cX9_hill 7 = .ok (.aload_n 0, 1) := by decide +kernel
theorem dX9_hill_8 : decode cX9_hill 8 = .ok (.getfield 118, 3) := by decide +kernel
theorem dX9_hill_11 : decode cX9_hill 11 = .ok (.iconst 1, 1) := by decide +kernel
theorem dX9_hill_12 : decode cX9_hill 12 = .ok (.isub, 1) := by decide +kernel
theorem dX9_hill_13 : decode cX9_hill 13 = .ok (.i2l, 1) := by decide +kernel
theorem dX9_hill_14 : decode cX9_hill 14 = .ok (.invokestatic 73, 3) := by decide +kernel
theorem dX9_hill_17 : decode cX9_hill 17 = .ok (.ifCond .eq 10, 3) := by decide +kernel
theorem dX9_hill_20 : decode cX9_hill 20 = .ok (.iload_n 2, 1) := by decide +kernel
theorem dX9_hill_21 : decode cX9_hill 21 = .ok (.invokestatic 105, 3) := by decide +kernel
theorem dX9_hill_24 : decode cX9_hill 24 = .ok (.ifCond .ne 8, 3) := by decide +kernel
theorem dX9_hill_27 : decode cX9_hill 27 = .ok (.bipush (-2), 2) := by decide +kernel
theorem dX9_hill_29 : decode cX9_hill 29 = .ok (.goto 30, 3) := by decide +kernel
theorem dX9_hill_32 : decode cX9_hill 32 = .ok (.iload_n 2, 1) := by decide +kernel
theorem dX9_hill_33 : decode cX9_hill 33 = .ok (.ifCond .ne 12, 3) := by decide +kernel
theorem dX9_hill_36 : decode cX9_hill 36 = .ok (.aload_n 0, 1) := by decide +kernel
theorem dX9_hill_37 : decode cX9_hill 37 = .ok (.getfield 31, 3) := by decide +kernel
theorem dX9_hill_40 : decode cX9_hill 40 = .ok (.iload_n 1, 1) := by decide +kernel
theorem dX9_hill_41 : decode cX9_hill 41 = .ok (.iaload, 1) := by decide +kernel
theorem dX9_hill_42 : decode cX9_hill 42 = .ok (.goto 17, 3) := by decide +kernel
theorem dX9_hill_45 : decode cX9_hill 45 = .ok (.aload_n 0, 1) := by decide +kernel
theorem dX9_hill_46 : decode cX9_hill 46 = .ok (.getfield 34, 3) := by decide +kernel
theorem dX9_hill_49 : decode cX9_hill 49 = .ok (.iload_n 1, 1) := by decide +kernel
theorem dX9_hill_50 : decode cX9_hill 50 = .ok (.baload, 1) := by decide +kernel
theorem dX9_hill_51 : decode cX9_hill 51 = .ok (.ifCond .eq 7, 3) := by decide +kernel
theorem dX9_hill_54 : decode cX9_hill 54 = .ok (.iconst 1, 1) := by decide +kernel
theorem dX9_hill_55 : decode cX9_hill 55 = .ok (.goto 4, 3) := by decide +kernel
theorem dX9_hill_58 : decode cX9_hill 58 = .ok (.iconst 0, 1) := by decide +kernel
theorem dX9_hill_59 : decode cX9_hill 59 = .ok (.ireturn, 1) := by decide +kernel
theorem dX9_engine_0 : decode cX9_engine 0 = .ok (.iload_n 1, 1) := by decide +kernel
theorem dX9_engine_1 : decode cX9_engine 1 = .ok (.invokestatic 105, 3) := by decide +kernel
theorem dX9_engine_4 : decode cX9_engine 4 = .ok (.ifCond .eq 19, 3) := by decide +kernel
theorem dX9_engine_7 : decode cX9_engine 7 = .ok (.iload_n 2, 1) := by decide +kernel
theorem dX9_engine_8 : decode cX9_engine 8 = .ok (.i2l, 1) := by decide +kernel
theorem dX9_engine_9 : decode cX9_engine 9 = .ok (.lconst 0, 1) := by decide +kernel
theorem dX9_engine_10 : decode cX9_engine 10 = .ok (.ldc2_w 91, 3) := by decide +kernel
theorem dX9_engine_13 : decode cX9_engine 13 = .ok (.invokestatic 73, 3) := by decide +kernel
theorem dX9_engine_16 : decode cX9_engine 16 = .ok (.ifCond .eq 7, 3) := by decide +kernel
theorem dX9_engine_19 : decode cX9_engine 19 = .ok (.iconst 1, 1) := by decide +kernel
theorem dX9_engine_20 : decode cX9_engine 20 = .ok (.goto 4, 3) := by decide +kernel
theorem dX9_engine_23 : decode cX9_engine 23 = .ok (.iconst 0, 1) := by decide +kernel
theorem dX9_engine_24 : decode cX9_engine 24 = .ok (.istore 4, 2) := by decide +kernel
theorem dX9_engine_26 : decode cX9_engine 26 = .ok (.iload 4, 2) := by decide +kernel
theorem dX9_engine_28 : decode cX9_engine 28 = .ok (.ifCond .eq 45, 3) := by decide +kernel
theorem dX9_engine_31 : decode cX9_engine 31 = .ok (.iload_n 3, 1) := by decide +kernel
theorem dX9_engine_32 : decode cX9_engine 32 = .ok (.i2l, 1) := by decide +kernel
theorem dX9_engine_33 : decode cX9_engine 33 = .ok (.iload_n 2, 1) := by decide +kernel
theorem dX9_engine_34 : decode cX9_engine 34 = .ok (.iconst 2, 1) := by decide +kernel
theorem dX9_engine_35 : decode cX9_engine 35 = .ok (.if_icmp .ne 7, 3) := by decide +kernel
theorem dX9_engine_38 : decode cX9_engine 38 = .ok (.lconst 1, 1) := by decide +kernel
theorem dX9_engine_39 : decode cX9_engine 39 = .ok (.goto 4, 3) := by decide +kernel
theorem dX9_engine_42 : decode cX9_engine 42 = .ok (.lconst 0, 1) := by decide +kernel
theorem dX9_engine_43 : decode cX9_engine 43 = .ok (.iload_n 2, 1) := by decide +kernel
theorem dX9_engine_44 : decode cX9_engine 44 = .ok (.ifCond .ne 9, 3) := by decide +kernel
theorem dX9_engine_47 : decode cX9_engine 47 = .ok (.ldc2_w 131, 3) := by decide +kernel
theorem dX9_engine_50 : decode cX9_engine 50 = .ok (.goto 17, 3) := by decide +kernel
theorem dX9_engine_53 : decode cX9_engine 53 = .ok (.iload_n 2, 1) := by decide +kernel
theorem dX9_engine_54 : decode cX9_engine 54 = .ok (.iconst 1, 1) := by decide +kernel
theorem dX9_engine_55 : decode cX9_engine 55 = .ok (.if_icmp .ne 9, 3) := by decide +kernel
theorem dX9_engine_58 : decode cX9_engine 58 = .ok (.ldc2_w 85, 3) := by decide +kernel
theorem dX9_engine_61 : decode cX9_engine 61 = .ok (.goto 6, 3) := by decide +kernel
theorem dX9_engine_64 : decode cX9_engine 64 = .ok (.ldc2_w 133, 3) := by decide +kernel
theorem dX9_engine_67 : decode cX9_engine 67 = .ok (.invokestatic 73, 3) := by decide +kernel
theorem dX9_engine_70 : decode cX9_engine 70 = .ok (.ifCond .ne 6, 3) := by decide +kernel
theorem dX9_engine_73 : decode cX9_engine 73 = .ok (.bipush (-2), 2) := by decide +kernel
theorem dX9_engine_75 : decode cX9_engine 75 = .ok (.ireturn, 1) := by decide +kernel
theorem dX9_engine_76 : decode cX9_engine 76 = .ok (.aload_n 0, 1) := by decide +kernel
theorem dX9_engine_77 : decode cX9_engine 77 = .ok (.getfield 38, 3) := by decide +kernel
theorem dX9_engine_80 : decode cX9_engine 80 = .ok (.iconst 3, 1) := by decide +kernel
theorem dX9_engine_81 : decode cX9_engine 81 = .ok (.iload_n 1, 1) := by decide +kernel
theorem dX9_engine_82 : decode cX9_engine 82 = .ok (.imul, 1) := by decide +kernel
theorem dX9_engine_83 : decode cX9_engine 83 = .ok (.iload_n 2, 1) := by decide +kernel
theorem dX9_engine_84 : decode cX9_engine 84 = .ok (.iadd, 1) := by decide +kernel
theorem dX9_engine_85 : decode cX9_engine 85 = .ok (.iaload, 1) := by decide +kernel
theorem dX9_engine_86 : decode cX9_engine 86 = .ok (.istore 5, 2) := by decide +kernel
theorem dX9_engine_88 : decode cX9_engine 88 = .ok (.aload_n 0, 1) := by decide +kernel
theorem dX9_engine_89 : decode cX9_engine 89 = .ok (.getfield 38, 3) := by decide +kernel
theorem dX9_engine_92 : decode cX9_engine 92 = .ok (.iconst 3, 1) := by decide +kernel
theorem dX9_engine_93 : decode cX9_engine 93 = .ok (.iload_n 1, 1) := by decide +kernel
theorem dX9_engine_94 : decode cX9_engine 94 = .ok (.imul, 1) := by decide +kernel
theorem dX9_engine_95 : decode cX9_engine 95 = .ok (.iload_n 2, 1) := by decide +kernel
theorem dX9_engine_96 : decode cX9_engine 96 = .ok (.iadd, 1) := by decide +kernel
theorem dX9_engine_97 : decode cX9_engine 97 = .ok (.iload_n 3, 1) := by decide +kernel
theorem dX9_engine_98 : decode cX9_engine 98 = .ok (.iastore, 1) := by decide +kernel
theorem dX9_engine_99 : decode cX9_engine 99 = .ok (.iload 5, 2) := by decide +kernel
theorem dX9_engine_101 : decode cX9_engine 101 = .ok (.ireturn, 1) := by decide +kernel
theorem dX9_set_0 : decode cX9_set 0 = .ok (.iload_n 1, 1) := by decide +kernel
theorem dX9_set_1 : decode cX9_set 1 = .ok (.i2l, 1) := by decide +kernel
theorem dX9_set_2 : decode cX9_set 2 = .ok (.lconst 0, 1) := by decide +kernel
theorem dX9_set_3 : decode cX9_set 3 = .ok (.ldc2_w 135, 3) := by decide +kernel
theorem dX9_set_6 : decode cX9_set 6 = .ok (.invokestatic 73, 3) := by decide +kernel
theorem dX9_set_9 : decode cX9_set 9 = .ok (.ifCond .eq 45, 3) := by decide +kernel
theorem dX9_set_12 : decode cX9_set 12 = .ok (.iload_n 2, 1) := by decide +kernel
theorem dX9_set_13 : decode cX9_set 13 = .ok (.i2l, 1) := by decide +kernel
theorem dX9_set_14 : decode cX9_set 14 = .ok (.iload_n 1, 1) := by decide +kernel
theorem dX9_set_15 : decode cX9_set 15 = .ok (.iconst 4, 1) := by decide +kernel
theorem dX9_set_16 : decode cX9_set 16 = .ok (.if_icmp .ne 7, 3) := by decide +kernel
theorem dX9_set_19 : decode cX9_set 19 = .ok (.lconst 0, 1) := by decide +kernel
theorem dX9_set_20 : decode cX9_set 20 = .ok (.goto 4, 3) := by decide +kernel
theorem dX9_set_23 : decode cX9_set 23 = .ok (.lconst 1, 1) := by decide +kernel
theorem dX9_set_24 : decode cX9_set 24 = .ok (.iload_n 1, 1) := by decide +kernel
theorem dX9_set_25 : decode cX9_set 25 = .ok (.ifCond .ne 9, 3) := by decide +kernel
theorem dX9_set_28 : decode cX9_set 28 = .ok (.ldc2_w 131, 3) := by decide +kernel
theorem dX9_set_31 : decode cX9_set 31 = .ok (.goto 17, 3) := by decide +kernel
theorem dX9_set_34 : decode cX9_set 34 = .ok (.iload_n 1, 1) := by decide +kernel
theorem dX9_set_35 : decode cX9_set 35 = .ok (.iconst 4, 1) := by decide +kernel
theorem dX9_set_36 : decode cX9_set 36 = .ok (.if_icmp .ne 9, 3) := by decide +kernel
theorem dX9_set_39 : decode cX9_set 39 = .ok (.ldc2_w 137, 3) := by decide +kernel
theorem dX9_set_42 : decode cX9_set 42 = .ok (.goto 6, 3) := by decide +kernel
theorem dX9_set_45 : decode cX9_set 45 = .ok (.ldc2_w 139, 3) := by decide +kernel
theorem dX9_set_48 : decode cX9_set 48 = .ok (.invokestatic 73, 3) := by decide +kernel
theorem dX9_set_51 : decode cX9_set 51 = .ok (.ifCond .ne 6, 3) := by decide +kernel
theorem dX9_set_54 : decode cX9_set 54 = .ok (.bipush (-2), 2) := by decide +kernel
theorem dX9_set_56 : decode cX9_set 56 = .ok (.ireturn, 1) := by decide +kernel
theorem dX9_set_57 : decode cX9_set 57 = .ok (.aload_n 0, 1) := by decide +kernel
theorem dX9_set_58 : decode cX9_set 58 = .ok (.getfield 41, 3) := by decide +kernel
theorem dX9_set_61 : decode cX9_set 61 = .ok (.iload_n 1, 1) := by decide +kernel
theorem dX9_set_62 : decode cX9_set 62 = .ok (.iaload, 1) := by decide +kernel
theorem dX9_set_63 : decode cX9_set 63 = .ok (.istore_n 3, 1) := by decide +kernel
theorem dX9_set_64 : decode cX9_set 64 = .ok (.aload_n 0, 1) := by decide +kernel
theorem dX9_set_65 : decode cX9_set 65 = .ok (.getfield 41, 3) := by decide +kernel
theorem dX9_set_68 : decode cX9_set 68 = .ok (.iload_n 1, 1) := by decide +kernel
theorem dX9_set_69 : decode cX9_set 69 = .ok (.iload_n 2, 1) := by decide +kernel
theorem dX9_set_70 : decode cX9_set 70 = .ok (.iastore, 1) := by decide +kernel
theorem dX9_set_71 : decode cX9_set 71 = .ok (.iload_n 3, 1) := by decide +kernel
theorem dX9_set_72 : decode cX9_set 72 = .ok (.ireturn, 1) := by decide +kernel
theorem dX9_leans_0 : decode cX9_leans 0 = .ok (.aload_n 0, 1) := by decide +kernel
theorem dX9_leans_1 : decode cX9_leans 1 = .ok (.getfield 44, 3) := by decide +kernel
theorem dX9_leans_4 : decode cX9_leans 4 = .ok (.iconst 2, 1) := by decide +kernel
theorem dX9_leans_5 : decode cX9_leans 5 = .ok (.iload_n 1, 1) := by decide +kernel
theorem dX9_leans_6 : decode cX9_leans 6 = .ok (.aload_n 0, 1) := by decide +kernel
theorem dX9_leans_7 : decode cX9_leans 7 = .ok (.getfield 38, 3) := by decide +kernel
theorem dX9_leans_10 : decode cX9_leans 10 = .ok (.iconst 3, 1) := by decide +kernel
theorem dX9_leans_11 : decode cX9_leans 11 = .ok (.iload_n 2, 1) := by decide +kernel
theorem dX9_leans_12 : decode cX9_leans 12 = .ok (.imul, 1) := by decide +kernel
theorem dX9_leans_13 : decode cX9_leans 13 = .ok (.iconst 2, 1) := by decide +kernel
theorem dX9_leans_14 : decode cX9_leans 14 = .ok (.iadd, 1) := by decide +kernel
theorem dX9_leans_15 : decode cX9_leans 15 = .ok (.iaload, 1) := by decide +kernel
theorem dX9_leans_16 : decode cX9_leans 16 = .ok (.isub, 1) := by decide +kernel
theorem dX9_leans_17 : decode cX9_leans 17 = .ok (.imul, 1) := by decide +kernel
theorem dX9_leans_18 : decode cX9_leans 18 = .ok (.iconst 1, 1) := by decide +kernel
theorem dX9_leans_19 : decode cX9_leans 19 = .ok (.iadd, 1) := by decide +kernel
theorem dX9_leans_20 : decode cX9_leans 20 = .ok (.iload_n 2, 1) := by decide +kernel
theorem dX9_leans_21 : decode cX9_leans 21 = .ok (.isub, 1) := by decide +kernel
theorem dX9_leans_22 : decode cX9_leans 22 = .ok (.iaload, 1) := by decide +kernel
theorem dX9_leans_23 : decode cX9_leans 23 = .ok (.istore_n 3, 1) := by decide +kernel
theorem dX9_leans_24 : decode cX9_leans 24 = .ok (.aload_n 0, 1) := by decide +kernel
theorem dX9_leans_25 : decode cX9_leans 25 = .ok (.getfield 53, 3) := by decide +kernel
theorem dX9_leans_28 : decode cX9_leans 28 = .ok (.iload_n 1, 1) := by decide +kernel
theorem dX9_leans_29 : decode cX9_leans 29 = .ok (.iaload, 1) := by decide +kernel
theorem dX9_leans_30 : decode cX9_leans 30 = .ok (.iload_n 3, 1) := by decide +kernel
theorem dX9_leans_31 : decode cX9_leans 31 = .ok (.isub, 1) := by decide +kernel
theorem dX9_leans_32 : decode cX9_leans 32 = .ok (.sipush 999, 3) := by decide +kernel
theorem dX9_leans_35 : decode cX9_leans 35 = .ok (.invokestatic 141, 3) := by decide +kernel
theorem dX9_leans_38 : decode cX9_leans 38 = .ok (.ireturn, 1) := by decide +kernel
theorem dX9_givesOf_0 : decode cX9_givesOf 0 = .ok (.aload_n 0, 1) := by decide +kernel
theorem dX9_givesOf_1 : decode cX9_givesOf 1 = .ok (.getfield 38, 3) := by decide +kernel
theorem dX9_givesOf_4 : decode cX9_givesOf 4 = .ok (.iconst 3, 1) := by decide +kernel
theorem dX9_givesOf_5 : decode cX9_givesOf 5 = .ok (.iload_n 2, 1) := by decide +kernel
theorem dX9_givesOf_6 : decode cX9_givesOf 6 = .ok (.imul, 1) := by decide +kernel
theorem dX9_givesOf_7 : decode cX9_givesOf 7 = .ok (.iconst 1, 1) := by decide +kernel
theorem dX9_givesOf_8 : decode cX9_givesOf 8 = .ok (.iadd, 1) := by decide +kernel
theorem dX9_givesOf_9 : decode cX9_givesOf 9 = .ok (.iaload, 1) := by decide +kernel
theorem dX9_givesOf_10 : decode cX9_givesOf 10 = .ok (.istore_n 3, 1) := by decide +kernel
theorem dX9_givesOf_11 : decode cX9_givesOf 11 = .ok (.aload_n 0, 1) := by decide +kernel
theorem dX9_givesOf_12 : decode cX9_givesOf 12 = .ok (.getfield 38, 3) := by decide +kernel
theorem dX9_givesOf_15 : decode cX9_givesOf 15 = .ok (.iconst 3, 1) := by decide +kernel
theorem dX9_givesOf_16 : decode cX9_givesOf 16 = .ok (.iload_n 2, 1) := by decide +kernel
theorem dX9_givesOf_17 : decode cX9_givesOf 17 = .ok (.imul, 1) := by decide +kernel
theorem dX9_givesOf_18 : decode cX9_givesOf 18 = .ok (.iconst 2, 1) := by decide +kernel
theorem dX9_givesOf_19 : decode cX9_givesOf 19 = .ok (.iadd, 1) := by decide +kernel
theorem dX9_givesOf_20 : decode cX9_givesOf 20 = .ok (.iaload, 1) := by decide +kernel
theorem dX9_givesOf_21 : decode cX9_givesOf 21 = .ok (.istore 4, 2) := by decide +kernel
theorem dX9_givesOf_23 : decode cX9_givesOf 23 = .ok (.iload_n 3, 1) := by decide +kernel
theorem dX9_givesOf_24 : decode cX9_givesOf 24 = .ok (.ifCond .eq 9, 3) := by decide +kernel
theorem dX9_givesOf_27 : decode cX9_givesOf 27 = .ok (.iload_n 1, 1) := by decide +kernel
theorem dX9_givesOf_28 : decode cX9_givesOf 28 = .ok (.iload 4, 2) := by decide +kernel
theorem dX9_givesOf_30 : decode cX9_givesOf 30 = .ok (.if_icmp .ge 12, 3) := by decide +kernel
theorem dX9_givesOf_33 : decode cX9_givesOf 33 = .ok (.aload_n 0, 1) := by decide +kernel
theorem dX9_givesOf_34 : decode cX9_givesOf 34 = .ok (.getfield 38, 3) := by decide +kernel
theorem dX9_givesOf_37 : decode cX9_givesOf 37 = .ok (.iconst 3, 1) := by decide +kernel
theorem dX9_givesOf_38 : decode cX9_givesOf 38 = .ok (.iload_n 2, 1) := by decide +kernel
theorem dX9_givesOf_39 : decode cX9_givesOf 39 = .ok (.imul, 1) := by decide +kernel
theorem dX9_givesOf_40 : decode cX9_givesOf 40 = .ok (.iaload, 1) := by decide +kernel
theorem dX9_givesOf_41 : decode cX9_givesOf 41 = .ok (.ireturn, 1) := by decide +kernel
theorem dX9_givesOf_42 : decode cX9_givesOf 42 = .ok (.iload_n 3, 1) := by decide +kernel
theorem dX9_givesOf_43 : decode cX9_givesOf 43 = .ok (.iconst 2, 1) := by decide +kernel
theorem dX9_givesOf_44 : decode cX9_givesOf 44 = .ok (.if_icmp .ne 19, 3) := by decide +kernel
theorem dX9_givesOf_47 : decode cX9_givesOf 47 = .ok (.aload_n 0, 1) := by decide +kernel
theorem dX9_givesOf_48 : decode cX9_givesOf 48 = .ok (.getfield 44, 3) := by decide +kernel
theorem dX9_givesOf_51 : decode cX9_givesOf 51 = .ok (.iconst 2, 1) := by decide +kernel
theorem dX9_givesOf_52 : decode cX9_givesOf 52 = .ok (.iload_n 1, 1) := by decide +kernel
theorem dX9_givesOf_53 : decode cX9_givesOf 53 = .ok (.iload 4, 2) := by decide +kernel
theorem dX9_givesOf_55 : decode cX9_givesOf 55 = .ok (.isub, 1) := by decide +kernel
theorem dX9_givesOf_56 : decode cX9_givesOf 56 = .ok (.imul, 1) := by decide +kernel
theorem dX9_givesOf_57 : decode cX9_givesOf 57 = .ok (.iconst 1, 1) := by decide +kernel
theorem dX9_givesOf_58 : decode cX9_givesOf 58 = .ok (.iadd, 1) := by decide +kernel
theorem dX9_givesOf_59 : decode cX9_givesOf 59 = .ok (.iload_n 2, 1) := by decide +kernel
theorem dX9_givesOf_60 : decode cX9_givesOf 60 = .ok (.isub, 1) := by decide +kernel
theorem dX9_givesOf_61 : decode cX9_givesOf 61 = .ok (.iaload, 1) := by decide +kernel
theorem dX9_givesOf_62 : decode cX9_givesOf 62 = .ok (.ireturn, 1) := by decide +kernel
theorem dX9_givesOf_63 : decode cX9_givesOf 63 = .ok (.iload_n 3, 1) := by decide +kernel
theorem dX9_givesOf_64 : decode cX9_givesOf 64 = .ok (.iconst 1, 1) := by decide +kernel
theorem dX9_givesOf_65 : decode cX9_givesOf 65 = .ok (.if_icmp .ne 12, 3) := by decide +kernel
theorem dX9_givesOf_68 : decode cX9_givesOf 68 = .ok (.aload_n 0, 1) := by decide +kernel
theorem dX9_givesOf_69 : decode cX9_givesOf 69 = .ok (.iload_n 1, 1) := by decide +kernel
theorem dX9_givesOf_70 : decode cX9_givesOf 70 = .ok (.iload_n 2, 1) := by decide +kernel
theorem dX9_givesOf_71 : decode cX9_givesOf 71 = .ok (.invokevirtual 144, 3) := by decide +kernel
theorem dX9_givesOf_74 : decode cX9_givesOf 74 = .ok (.goto 24, 3) := by decide +kernel
theorem dX9_givesOf_77 : decode cX9_givesOf 77 = .ok (.aload_n 0, 1) := by decide +kernel
theorem dX9_givesOf_78 : decode cX9_givesOf 78 = .ok (.getfield 44, 3) := by decide +kernel
theorem dX9_givesOf_81 : decode cX9_givesOf 81 = .ok (.iconst 2, 1) := by decide +kernel
theorem dX9_givesOf_82 : decode cX9_givesOf 82 = .ok (.iload_n 1, 1) := by decide +kernel
theorem dX9_givesOf_83 : decode cX9_givesOf 83 = .ok (.imul, 1) := by decide +kernel
theorem dX9_givesOf_84 : decode cX9_givesOf 84 = .ok (.iconst 2, 1) := by decide +kernel
theorem dX9_givesOf_85 : decode cX9_givesOf 85 = .ok (.isub, 1) := by decide +kernel
theorem dX9_givesOf_86 : decode cX9_givesOf 86 = .ok (.iload_n 2, 1) := by decide +kernel
theorem dX9_givesOf_87 : decode cX9_givesOf 87 = .ok (.iadd, 1) := by decide +kernel
theorem dX9_givesOf_88 : decode cX9_givesOf 88 = .ok (.iaload, 1) := by decide +kernel
theorem dX9_givesOf_89 : decode cX9_givesOf 89 = .ok (.aload_n 0, 1) := by decide +kernel
theorem dX9_givesOf_90 : decode cX9_givesOf 90 = .ok (.iload_n 1, 1) := by decide +kernel
theorem dX9_givesOf_91 : decode cX9_givesOf 91 = .ok (.iload_n 2, 1) := by decide +kernel
theorem dX9_givesOf_92 : decode cX9_givesOf 92 = .ok (.invokevirtual 144, 3) := by decide +kernel
theorem dX9_givesOf_95 : decode cX9_givesOf 95 = .ok (.iadd, 1) := by decide +kernel
theorem dX9_givesOf_96 : decode cX9_givesOf 96 = .ok (.iconst 2, 1) := by decide +kernel
theorem dX9_givesOf_97 : decode cX9_givesOf 97 = .ok (.idiv, 1) := by decide +kernel
theorem dX9_givesOf_98 : decode cX9_givesOf 98 = .ok (.ireturn, 1) := by decide +kernel
theorem dX9_lives_0 : decode cX9_lives 0 = .ok (.aload_n 0, 1) := by decide +kernel
theorem dX9_lives_1 : decode cX9_lives 1 = .ok (.invokevirtual 128, 3) := by decide +kernel
theorem dX9_lives_4 : decode cX9_lives 4 = .ok (.iconst 0, 1) := by decide +kernel
theorem dX9_lives_5 : decode cX9_lives 5 = .ok (.istore_n 1, 1) := by decide +kernel
theorem dX9_lives_6 : decode cX9_lives 6 = .ok (.iload_n 1, 1) := by decide +kernel
theorem dX9_lives_7 : decode cX9_lives 7 = .ok (.bipush 40, 2) := by decide +kernel
theorem dX9_lives_9 : decode cX9_lives 9 = .ok (.if_icmp .ge 201, 3) := by decide +kernel
theorem dX9_lives_12 : decode cX9_lives 12 = .ok (.iload_n 1, 1) := by decide +kernel
theorem dX9_lives_13 : decode cX9_lives 13 = .ok (.ifCond .ne 25, 3) := by decide +kernel
theorem dX9_lives_16 : decode cX9_lives 16 = .ok (.aload_n 0, 1) := by decide +kernel
theorem dX9_lives_17 : decode cX9_lives 17 = .ok (.getfield 47, 3) := by decide +kernel
theorem dX9_lives_20 : decode cX9_lives 20 = .ok (.iconst 0, 1) := by decide +kernel
theorem dX9_lives_21 : decode cX9_lives 21 = .ok (.aload_n 0, 1) := by decide +kernel
theorem dX9_lives_22 : decode cX9_lives 22 = .ok (.getfield 41, 3) := by decide +kernel
theorem dX9_lives_25 : decode cX9_lives 25 = .ok (.iconst 4, 1) := by decide +kernel
theorem dX9_lives_26 : decode cX9_lives 26 = .ok (.iaload, 1) := by decide +kernel
theorem dX9_lives_27 : decode cX9_lives 27 = .ok (.iastore, 1) := by decide +kernel
theorem dX9_lives_28 : decode cX9_lives 28 = .ok (.aload_n 0, 1) := by decide +kernel
theorem dX9_lives_29 : decode cX9_lives 29 = .ok (.getfield 50, 3) := by decide +kernel
theorem dX9_lives_32 : decode cX9_lives 32 = .ok (.iconst 0, 1) := by decide +kernel
theorem dX9_lives_33 : decode cX9_lives 33 = .ok (.iconst 0, 1) := by decide +kernel
theorem dX9_lives_34 : decode cX9_lives 34 = .ok (.iastore, 1) := by decide +kernel
theorem dX9_lives_35 : decode cX9_lives 35 = .ok (.goto 94, 3) := by decide +kernel
theorem dX9_lives_38 : decode cX9_lives 38 = .ok (.aload_n 0, 1) := by decide +kernel
theorem dX9_lives_39 : decode cX9_lives 39 = .ok (.getfield 44, 3) := by decide +kernel
theorem dX9_lives_42 : decode cX9_lives 42 = .ok (.iconst 2, 1) := by decide +kernel
theorem dX9_lives_43 : decode cX9_lives 43 = .ok (.iload_n 1, 1) := by decide +kernel
theorem dX9_lives_44 : decode cX9_lives 44 = .ok (.imul, 1) := by decide +kernel
theorem dX9_lives_45 : decode cX9_lives 45 = .ok (.iconst 2, 1) := by decide +kernel
theorem dX9_lives_46 : decode cX9_lives 46 = .ok (.isub, 1) := by decide +kernel
theorem dX9_lives_47 : decode cX9_lives 47 = .ok (.iaload, 1) := by decide +kernel
theorem dX9_lives_48 : decode cX9_lives 48 = .ok (.aload_n 0, 1) := by decide +kernel
theorem dX9_lives_49 : decode cX9_lives 49 = .ok (.getfield 44, 3) := by decide +kernel
theorem dX9_lives_52 : decode cX9_lives 52 = .ok (.iconst 2, 1) := by decide +kernel
theorem dX9_lives_53 : decode cX9_lives 53 = .ok (.iload_n 1, 1) := by decide +kernel
theorem dX9_lives_54 : decode cX9_lives 54 = .ok (.imul, 1) := by decide +kernel
theorem dX9_lives_55 : decode cX9_lives 55 = .ok (.iconst 1, 1) := by decide +kernel
theorem dX9_lives_56 : decode cX9_lives 56 = .ok (.isub, 1) := by decide +kernel
theorem dX9_lives_57 : decode cX9_lives 57 = .ok (.iaload, 1) := by decide +kernel
theorem dX9_lives_58 : decode cX9_lives 58 = .ok (.iadd, 1) := by decide +kernel
theorem dX9_lives_59 : decode cX9_lives 59 = .ok (.aload_n 0, 1) := by decide +kernel
theorem dX9_lives_60 : decode cX9_lives 60 = .ok (.getfield 53, 3) := by decide +kernel
theorem dX9_lives_63 : decode cX9_lives 63 = .ok (.iload_n 1, 1) := by decide +kernel
theorem dX9_lives_64 : decode cX9_lives 64 = .ok (.iconst 1, 1) := by decide +kernel
theorem dX9_lives_65 : decode cX9_lives 65 = .ok (.isub, 1) := by decide +kernel
theorem dX9_lives_66 : decode cX9_lives 66 = .ok (.iaload, 1) := by decide +kernel
theorem dX9_lives_67 : decode cX9_lives 67 = .ok (.isub, 1) := by decide +kernel
theorem dX9_lives_68 : decode cX9_lives 68 = .ok (.istore_n 2, 1) := by decide +kernel
theorem dX9_lives_69 : decode cX9_lives 69 = .ok (.aload_n 0, 1) := by decide +kernel
theorem dX9_lives_70 : decode cX9_lives 70 = .ok (.getfield 47, 3) := by decide +kernel
theorem dX9_lives_73 : decode cX9_lives 73 = .ok (.iload_n 1, 1) := by decide +kernel
theorem dX9_lives_74 : decode cX9_lives 74 = .ok (.aload_n 0, 1) := by decide +kernel
theorem dX9_lives_75 : decode cX9_lives 75 = .ok (.getfield 47, 3) := by decide +kernel
theorem dX9_lives_78 : decode cX9_lives 78 = .ok (.iload_n 1, 1) := by decide +kernel
theorem dX9_lives_79 : decode cX9_lives 79 = .ok (.iconst 1, 1) := by decide +kernel
theorem dX9_lives_80 : decode cX9_lives 80 = .ok (.isub, 1) := by decide +kernel
theorem dX9_lives_81 : decode cX9_lives 81 = .ok (.iaload, 1) := by decide +kernel
theorem dX9_lives_82 : decode cX9_lives 82 = .ok (.iload_n 2, 1) := by decide +kernel
theorem dX9_lives_83 : decode cX9_lives 83 = .ok (.ifCond .le 7, 3) := by decide +kernel
theorem dX9_lives_86 : decode cX9_lives 86 = .ok (.iconst 1, 1) := by decide +kernel
theorem dX9_lives_87 : decode cX9_lives 87 = .ok (.goto 12, 3) := by decide +kernel
theorem dX9_lives_90 : decode cX9_lives 90 = .ok (.iload_n 2, 1) := by decide +kernel
theorem dX9_lives_91 : decode cX9_lives 91 = .ok (.ifCond .ge 7, 3) := by decide +kernel
theorem dX9_lives_94 : decode cX9_lives 94 = .ok (.iconst (-1), 1) := by decide +kernel
theorem dX9_lives_95 : decode cX9_lives 95 = .ok (.goto 4, 3) := by decide +kernel
theorem dX9_lives_98 : decode cX9_lives 98 = .ok (.iconst 0, 1) := by decide +kernel
theorem dX9_lives_99 : decode cX9_lives 99 = .ok (.iadd, 1) := by decide +kernel
theorem dX9_lives_100 : decode cX9_lives 100 = .ok (.bipush 20, 2) := by decide +kernel
theorem dX9_lives_102 : decode cX9_lives 102 = .ok (.invokestatic 141, 3) := by decide +kernel
theorem dX9_lives_105 : decode cX9_lives 105 = .ok (.iastore, 1) := by decide +kernel
theorem dX9_lives_106 : decode cX9_lives 106 = .ok (.aload_n 0, 1) := by decide +kernel
theorem dX9_lives_107 : decode cX9_lives 107 = .ok (.getfield 50, 3) := by decide +kernel
theorem dX9_lives_110 : decode cX9_lives 110 = .ok (.iload_n 1, 1) := by decide +kernel
theorem dX9_lives_111 : decode cX9_lives 111 = .ok (.aload_n 0, 1) := by decide +kernel
theorem dX9_lives_112 : decode cX9_lives 112 = .ok (.getfield 50, 3) := by decide +kernel
theorem dX9_lives_115 : decode cX9_lives 115 = .ok (.iload_n 1, 1) := by decide +kernel
theorem dX9_lives_116 : decode cX9_lives 116 = .ok (.iconst 1, 1) := by decide +kernel
theorem dX9_lives_117 : decode cX9_lives 117 = .ok (.isub, 1) := by decide +kernel
theorem dX9_lives_118 : decode cX9_lives 118 = .ok (.iaload, 1) := by decide +kernel
theorem dX9_lives_119 : decode cX9_lives 119 = .ok (.aload_n 0, 1) := by decide +kernel
theorem dX9_lives_120 : decode cX9_lives 120 = .ok (.getfield 47, 3) := by decide +kernel
theorem dX9_lives_123 : decode cX9_lives 123 = .ok (.iload_n 1, 1) := by decide +kernel
theorem dX9_lives_124 : decode cX9_lives 124 = .ok (.iconst 1, 1) := by decide +kernel
theorem dX9_lives_125 : decode cX9_lives 125 = .ok (.isub, 1) := by decide +kernel
theorem dX9_lives_126 : decode cX9_lives 126 = .ok (.iaload, 1) := by decide +kernel
theorem dX9_lives_127 : decode cX9_lives 127 = .ok (.iadd, 1) := by decide +kernel
theorem dX9_lives_128 : decode cX9_lives 128 = .ok (.iastore, 1) := by decide +kernel
theorem dX9_lives_129 : decode cX9_lives 129 = .ok (.aload_n 0, 1) := by decide +kernel
theorem dX9_lives_130 : decode cX9_lives 130 = .ok (.getfield 53, 3) := by decide +kernel
theorem dX9_lives_133 : decode cX9_lives 133 = .ok (.iload_n 1, 1) := by decide +kernel
theorem dX9_lives_134 : decode cX9_lives 134 = .ok (.aload_n 0, 1) := by decide +kernel
theorem dX9_lives_135 : decode cX9_lives 135 = .ok (.getfield 118, 3) := by decide +kernel
theorem dX9_lives_138 : decode cX9_lives 138 = .ok (.ifCond .ne 7, 3) := by decide +kernel
theorem dX9_lives_141 : decode cX9_lives 141 = .ok (.iconst 0, 1) := by decide +kernel
theorem dX9_lives_142 : decode cX9_lives 142 = .ok (.goto 31, 3) := by decide +kernel
theorem dX9_lives_145 : decode cX9_lives 145 = .ok (.aload_n 0, 1) := by decide +kernel
theorem dX9_lives_146 : decode cX9_lives 146 = .ok (.getfield 31, 3) := by decide +kernel
theorem dX9_lives_149 : decode cX9_lives 149 = .ok (.aload_n 0, 1) := by decide +kernel
theorem dX9_lives_150 : decode cX9_lives 150 = .ok (.getfield 50, 3) := by decide +kernel
theorem dX9_lives_153 : decode cX9_lives 153 = .ok (.iload_n 1, 1) := by decide +kernel
theorem dX9_lives_154 : decode cX9_lives 154 = .ok (.iaload, 1) := by decide +kernel
theorem dX9_lives_155 : decode cX9_lives 155 = .ok (.bipush 10, 2) := by decide +kernel
theorem dX9_lives_157 : decode cX9_lives 157 = .ok (.idiv, 1) := by decide +kernel
theorem dX9_lives_158 : decode cX9_lives 158 = .ok (.aload_n 0, 1) := by decide +kernel
theorem dX9_lives_159 : decode cX9_lives 159 = .ok (.getfield 118, 3) := by decide +kernel
theorem dX9_lives_162 : decode cX9_lives 162 = .ok (.iconst 1, 1) := by decide +kernel
theorem dX9_lives_163 : decode cX9_lives 163 = .ok (.isub, 1) := by decide +kernel
theorem dX9_lives_164 : decode cX9_lives 164 = .ok (.invokestatic 77, 3) := by decide +kernel
theorem dX9_lives_167 : decode cX9_lives 167 = .ok (.iaload, 1) := by decide +kernel
theorem dX9_lives_168 : decode cX9_lives 168 = .ok (.aload_n 0, 1) := by decide +kernel
theorem dX9_lives_169 : decode cX9_lives 169 = .ok (.getfield 113, 3) := by decide +kernel
theorem dX9_lives_172 : decode cX9_lives 172 = .ok (.imul, 1) := by decide +kernel
theorem dX9_lives_173 : decode cX9_lives 173 = .ok (.iastore, 1) := by decide +kernel
theorem dX9_lives_174 : decode cX9_lives 174 = .ok (.aload_n 0, 1) := by decide +kernel
theorem dX9_lives_175 : decode cX9_lives 175 = .ok (.getfield 44, 3) := by decide +kernel
theorem dX9_lives_178 : decode cX9_lives 178 = .ok (.iconst 2, 1) := by decide +kernel
theorem dX9_lives_179 : decode cX9_lives 179 = .ok (.iload_n 1, 1) := by decide +kernel
theorem dX9_lives_180 : decode cX9_lives 180 = .ok (.imul, 1) := by decide +kernel
theorem dX9_lives_181 : decode cX9_lives 181 = .ok (.aload_n 0, 1) := by decide +kernel
theorem dX9_lives_182 : decode cX9_lives 182 = .ok (.iload_n 1, 1) := by decide +kernel
theorem dX9_lives_183 : decode cX9_lives 183 = .ok (.iconst 0, 1) := by decide +kernel
theorem dX9_lives_184 : decode cX9_lives 184 = .ok (.invokevirtual 147, 3) := by decide +kernel
theorem dX9_lives_187 : decode cX9_lives 187 = .ok (.iastore, 1) := by decide +kernel
theorem dX9_lives_188 : decode cX9_lives 188 = .ok (.aload_n 0, 1) := by decide +kernel
theorem dX9_lives_189 : decode cX9_lives 189 = .ok (.getfield 44, 3) := by decide +kernel
theorem dX9_lives_192 : decode cX9_lives 192 = .ok (.iconst 2, 1) := by decide +kernel
theorem dX9_lives_193 : decode cX9_lives 193 = .ok (.iload_n 1, 1) := by decide +kernel
theorem dX9_lives_194 : decode cX9_lives 194 = .ok (.imul, 1) := by decide +kernel
theorem dX9_lives_195 : decode cX9_lives 195 = .ok (.iconst 1, 1) := by decide +kernel
theorem dX9_lives_196 : decode cX9_lives 196 = .ok (.iadd, 1) := by decide +kernel
theorem dX9_lives_197 : decode cX9_lives 197 = .ok (.aload_n 0, 1) := by decide +kernel
theorem dX9_lives_198 : decode cX9_lives 198 = .ok (.iload_n 1, 1) := by decide +kernel
theorem dX9_lives_199 : decode cX9_lives 199 = .ok (.iconst 1, 1) := by decide +kernel
theorem dX9_lives_200 : decode cX9_lives 200 = .ok (.invokevirtual 147, 3) := by decide +kernel
theorem dX9_lives_203 : decode cX9_lives 203 = .ok (.iastore, 1) := by decide +kernel
theorem dX9_lives_204 : decode cX9_lives 204 = .ok (.iinc 1 1, 3) := by decide +kernel
theorem dX9_lives_207 : decode cX9_lives 207 = .ok (.goto (-201), 3) := by decide +kernel
theorem dX9_lives_210 : decode cX9_lives 210 = .ok (.return_, 1) := by decide +kernel
theorem dX9_isMinute_0 : decode cX9_isMinute 0 = .ok (.iload_n 0, 1) := by decide +kernel
theorem dX9_isMinute_1 : decode cX9_isMinute 1 = .ok (.i2l, 1) := by decide +kernel
theorem dX9_isMinute_2 : decode cX9_isMinute 2 = .ok (.lconst 0, 1) := by decide +kernel
theorem dX9_isMinute_3 : decode cX9_isMinute 3 = .ok (.ldc2_w 150, 3) := by decide +kernel
theorem dX9_isMinute_6 : decode cX9_isMinute 6 = .ok (.invokestatic 73, 3) := by decide +kernel
theorem dX9_isMinute_9 : decode cX9_isMinute 9 = .ok (.ireturn, 1) := by decide +kernel
theorem dX9_gives_0 : decode cX9_gives 0 = .ok (.aload_n 0, 1) := by decide +kernel
theorem dX9_gives_1 : decode cX9_gives 1 = .ok (.invokevirtual 152, 3) := by decide +kernel
theorem dX9_gives_4 : decode cX9_gives 4 = .ok (.iload_n 1, 1) := by decide +kernel
theorem dX9_gives_5 : decode cX9_gives 5 = .ok (.invokestatic 155, 3) := by decide +kernel
theorem dX9_gives_8 : decode cX9_gives 8 = .ok (.ifCond .eq 23, 3) := by decide +kernel
theorem dX9_gives_11 : decode cX9_gives 11 = .ok (.iload_n 2, 1) := by decide +kernel
theorem dX9_gives_12 : decode cX9_gives 12 = .ok (.invokestatic 105, 3) := by decide +kernel
theorem dX9_gives_15 : decode cX9_gives 15 = .ok (.ifCond .eq 16, 3) := by decide +kernel
theorem dX9_gives_18 : decode cX9_gives 18 = .ok (.aload_n 0, 1) := by decide +kernel
theorem dX9_gives_19 : decode cX9_gives 19 = .ok (.getfield 44, 3) := by decide +kernel
theorem dX9_gives_22 : decode cX9_gives 22 = .ok (.iconst 2, 1) := by decide +kernel
theorem dX9_gives_23 : decode cX9_gives 23 = .ok (.iload_n 1, 1) := by decide +kernel
theorem dX9_gives_24 : decode cX9_gives 24 = .ok (.imul, 1) := by decide +kernel
theorem dX9_gives_25 : decode cX9_gives 25 = .ok (.iload_n 2, 1) := by decide +kernel
theorem dX9_gives_26 : decode cX9_gives 26 = .ok (.iadd, 1) := by decide +kernel
theorem dX9_gives_27 : decode cX9_gives 27 = .ok (.iaload, 1) := by decide +kernel
theorem dX9_gives_28 : decode cX9_gives 28 = .ok (.goto 5, 3) := by decide +kernel
theorem dX9_gives_31 : decode cX9_gives 31 = .ok (.bipush (-2), 2) := by decide +kernel
theorem dX9_gives_33 : decode cX9_gives 33 = .ok (.ireturn, 1) := by decide +kernel
theorem dX9_placeAt_0 : decode cX9_placeAt 0 = .ok (.aload_n 0, 1) := by decide +kernel
theorem dX9_placeAt_1 : decode cX9_placeAt 1 = .ok (.getfield 50, 3) := by decide +kernel
theorem dX9_placeAt_4 : decode cX9_placeAt 4 = .ok (.iload_n 1, 1) := by decide +kernel
theorem dX9_placeAt_5 : decode cX9_placeAt 5 = .ok (.iaload, 1) := by decide +kernel
theorem dX9_placeAt_6 : decode cX9_placeAt 6 = .ok (.bipush 10, 2) := by decide +kernel
theorem dX9_placeAt_8 : decode cX9_placeAt 8 = .ok (.idiv, 1) := by decide +kernel
theorem dX9_placeAt_9 : decode cX9_placeAt 9 = .ok (.aload_n 0, 1) := by decide +kernel
theorem dX9_placeAt_10 : decode cX9_placeAt 10 = .ok (.getfield 118, 3) := by decide +kernel
theorem dX9_placeAt_13 : decode cX9_placeAt 13 = .ok (.if_icmp .ge 15, 3) := by decide +kernel
theorem dX9_placeAt_16 : decode cX9_placeAt 16 = .ok (.aload_n 0, 1) := by decide +kernel
theorem dX9_placeAt_17 : decode cX9_placeAt 17 = .ok (.getfield 50, 3) := by decide +kernel
theorem dX9_placeAt_20 : decode cX9_placeAt 20 = .ok (.iload_n 1, 1) := by decide +kernel
theorem dX9_placeAt_21 : decode cX9_placeAt 21 = .ok (.iaload, 1) := by decide +kernel
theorem dX9_placeAt_22 : decode cX9_placeAt 22 = .ok (.bipush 10, 2) := by decide +kernel
theorem dX9_placeAt_24 : decode cX9_placeAt 24 = .ok (.idiv, 1) := by decide +kernel
theorem dX9_placeAt_25 : decode cX9_placeAt 25 = .ok (.goto 4, 3) := by decide +kernel
theorem dX9_placeAt_28 : decode cX9_placeAt 28 = .ok (.iconst (-1), 1) := by decide +kernel
theorem dX9_placeAt_29 : decode cX9_placeAt 29 = .ok (.ireturn, 1) := by decide +kernel
theorem dX9_minuteOf_0 : decode cX9_minuteOf 0 = .ok (.iload_n 2, 1) := by decide +kernel
theorem dX9_minuteOf_1 : decode cX9_minuteOf 1 = .ok (.ifCond .ne 12, 3) := by decide +kernel
theorem dX9_minuteOf_4 : decode cX9_minuteOf 4 = .ok (.aload_n 0, 1) := by decide +kernel
theorem dX9_minuteOf_5 : decode cX9_minuteOf 5 = .ok (.getfield 53, 3) := by decide +kernel
theorem dX9_minuteOf_8 : decode cX9_minuteOf 8 = .ok (.iload_n 1, 1) := by decide +kernel
theorem dX9_minuteOf_9 : decode cX9_minuteOf 9 = .ok (.iaload, 1) := by decide +kernel
theorem dX9_minuteOf_10 : decode cX9_minuteOf 10 = .ok (.goto 22, 3) := by decide +kernel
theorem dX9_minuteOf_13 : decode cX9_minuteOf 13 = .ok (.iload_n 2, 1) := by decide +kernel
theorem dX9_minuteOf_14 : decode cX9_minuteOf 14 = .ok (.iconst 1, 1) := by decide +kernel
theorem dX9_minuteOf_15 : decode cX9_minuteOf 15 = .ok (.if_icmp .ne 12, 3) := by decide +kernel
theorem dX9_minuteOf_18 : decode cX9_minuteOf 18 = .ok (.aload_n 0, 1) := by decide +kernel
theorem dX9_minuteOf_19 : decode cX9_minuteOf 19 = .ok (.getfield 47, 3) := by decide +kernel
theorem dX9_minuteOf_22 : decode cX9_minuteOf 22 = .ok (.iload_n 1, 1) := by decide +kernel
theorem dX9_minuteOf_23 : decode cX9_minuteOf 23 = .ok (.iaload, 1) := by decide +kernel
theorem dX9_minuteOf_24 : decode cX9_minuteOf 24 = .ok (.goto 8, 3) := by decide +kernel
theorem dX9_minuteOf_27 : decode cX9_minuteOf 27 = .ok (.aload_n 0, 1) := by decide +kernel
theorem dX9_minuteOf_28 : decode cX9_minuteOf 28 = .ok (.iload_n 1, 1) := by decide +kernel
theorem dX9_minuteOf_29 : decode cX9_minuteOf 29 = .ok (.invokevirtual 158, 3) := by decide +kernel
theorem dX9_minuteOf_32 : decode cX9_minuteOf 32 = .ok (.ireturn, 1) := by decide +kernel
theorem dX9_minute_0 : decode cX9_minute 0 = .ok (.aload_n 0, 1) := by decide +kernel
theorem dX9_minute_1 : decode cX9_minute 1 = .ok (.invokevirtual 152, 3) := by decide +kernel
theorem dX9_minute_4 : decode cX9_minute 4 = .ok (.iload_n 1, 1) := by decide +kernel
theorem dX9_minute_5 : decode cX9_minute 5 = .ok (.invokestatic 155, 3) := by decide +kernel
theorem dX9_minute_8 : decode cX9_minute 8 = .ok (.ifCond .eq 24, 3) := by decide +kernel
theorem dX9_minute_11 : decode cX9_minute 11 = .ok (.iload_n 2, 1) := by decide +kernel
theorem dX9_minute_12 : decode cX9_minute 12 = .ok (.i2l, 1) := by decide +kernel
theorem dX9_minute_13 : decode cX9_minute 13 = .ok (.lconst 0, 1) := by decide +kernel
theorem dX9_minute_14 : decode cX9_minute 14 = .ok (.ldc2_w 91, 3) := by decide +kernel
theorem dX9_minute_17 : decode cX9_minute 17 = .ok (.invokestatic 73, 3) := by decide +kernel
theorem dX9_minute_20 : decode cX9_minute 20 = .ok (.ifCond .eq 12, 3) := by decide +kernel
theorem dX9_minute_23 : decode cX9_minute 23 = .ok (.aload_n 0, 1) := by decide +kernel
theorem dX9_minute_24 : decode cX9_minute 24 = .ok (.iload_n 1, 1) := by decide +kernel
theorem dX9_minute_25 : decode cX9_minute 25 = .ok (.iload_n 2, 1) := by decide +kernel
theorem dX9_minute_26 : decode cX9_minute 26 = .ok (.invokevirtual 161, 3) := by decide +kernel
theorem dX9_minute_29 : decode cX9_minute 29 = .ok (.goto 5, 3) := by decide +kernel
theorem dX9_minute_32 : decode cX9_minute 32 = .ok (.bipush (-2), 2) := by decide +kernel
theorem dX9_minute_34 : decode cX9_minute 34 = .ok (.ireturn, 1) := by decide +kernel
theorem dX9_ahead_0 : decode cX9_ahead 0 = .ok (.iconst 0, 1) := by decide +kernel
theorem dX9_ahead_1 : decode cX9_ahead 1 = .ok (.istore_n 2, 1) := by decide +kernel
theorem dX9_ahead_2 : decode cX9_ahead 2 = .ok (.iconst 0, 1) := by decide +kernel
theorem dX9_ahead_3 : decode cX9_ahead 3 = .ok (.istore_n 3, 1) := by decide +kernel
theorem dX9_ahead_4 : decode cX9_ahead 4 = .ok (.iload_n 3, 1) := by decide +kernel
theorem dX9_ahead_5 : decode cX9_ahead 5 = .ok (.iload_n 1, 1) := by decide +kernel
theorem dX9_ahead_6 : decode cX9_ahead 6 = .ok (.if_icmp .ge 18, 3) := by decide +kernel
theorem dX9_ahead_9 : decode cX9_ahead 9 = .ok (.iload_n 2, 1) := by decide +kernel
theorem dX9_ahead_10 : decode cX9_ahead 10 = .ok (.aload_n 0, 1) := by decide +kernel
theorem dX9_ahead_11 : decode cX9_ahead 11 = .ok (.getfield 28, 3) := by decide +kernel
theorem dX9_ahead_14 : decode cX9_ahead 14 = .ok (.iload_n 3, 1) := by decide +kernel
theorem dX9_ahead_15 : decode cX9_ahead 15 = .ok (.iaload, 1) := by decide +kernel
theorem dX9_ahead_16 : decode cX9_ahead 16 = .ok (.iadd, 1) := by decide +kernel
theorem dX9_ahead_17 : decode cX9_ahead 17 = .ok (.istore_n 2, 1) := by decide +kernel
theorem dX9_ahead_18 : decode cX9_ahead 18 = .ok (.iinc 3 1, 3) := by decide +kernel
theorem dX9_ahead_21 : decode cX9_ahead 21 = .ok (.goto (-17), 3) := by decide +kernel
theorem dX9_ahead_24 : decode cX9_ahead 24 = .ok (.iload_n 2, 1) := by decide +kernel
theorem dX9_ahead_25 : decode cX9_ahead 25 = .ok (.ireturn, 1) := by decide +kernel
theorem dX9_strainBy_0 : decode cX9_strainBy 0 = .ok (.iload_n 1, 1) := by decide +kernel
theorem dX9_strainBy_1 : decode cX9_strainBy 1 = .ok (.aload_n 0, 1) := by decide +kernel
theorem dX9_strainBy_2 : decode cX9_strainBy 2 = .ok (.getfield 113, 3) := by decide +kernel
theorem dX9_strainBy_5 : decode cX9_strainBy 5 = .ok (.imul, 1) := by decide +kernel
theorem dX9_strainBy_6 : decode cX9_strainBy 6 = .ok (.iload_n 1, 1) := by decide +kernel
theorem dX9_strainBy_7 : decode cX9_strainBy 7 = .ok (.iload_n 2, 1) := by decide +kernel
theorem dX9_strainBy_8 : decode cX9_strainBy 8 = .ok (.iadd, 1) := by decide +kernel
theorem dX9_strainBy_9 : decode cX9_strainBy 9 = .ok (.aload_n 0, 1) := by decide +kernel
theorem dX9_strainBy_10 : decode cX9_strainBy 10 = .ok (.iload_n 3, 1) := by decide +kernel
theorem dX9_strainBy_11 : decode cX9_strainBy 11 = .ok (.invokevirtual 164, 3) := by decide +kernel
theorem dX9_strainBy_14 : decode cX9_strainBy 14 = .ok (.imul, 1) := by decide +kernel
theorem dX9_strainBy_15 : decode cX9_strainBy 15 = .ok (.isub, 1) := by decide +kernel
theorem dX9_strainBy_16 : decode cX9_strainBy 16 = .ok (.ireturn, 1) := by decide +kernel
theorem dX9_strainAt_0 : decode cX9_strainAt 0 = .ok (.aload_n 0, 1) := by decide +kernel
theorem dX9_strainAt_1 : decode cX9_strainAt 1 = .ok (.aload_n 0, 1) := by decide +kernel
theorem dX9_strainAt_2 : decode cX9_strainAt 2 = .ok (.getfield 44, 3) := by decide +kernel
theorem dX9_strainAt_5 : decode cX9_strainAt 5 = .ok (.iconst 2, 1) := by decide +kernel
theorem dX9_strainAt_6 : decode cX9_strainAt 6 = .ok (.iload_n 1, 1) := by decide +kernel
theorem dX9_strainAt_7 : decode cX9_strainAt 7 = .ok (.imul, 1) := by decide +kernel
theorem dX9_strainAt_8 : decode cX9_strainAt 8 = .ok (.iaload, 1) := by decide +kernel
theorem dX9_strainAt_9 : decode cX9_strainAt 9 = .ok (.aload_n 0, 1) := by decide +kernel
theorem dX9_strainAt_10 : decode cX9_strainAt 10 = .ok (.getfield 44, 3) := by decide +kernel
theorem dX9_strainAt_13 : decode cX9_strainAt 13 = .ok (.iconst 2, 1) := by decide +kernel
theorem dX9_strainAt_14 : decode cX9_strainAt 14 = .ok (.iload_n 1, 1) := by decide +kernel
theorem dX9_strainAt_15 : decode cX9_strainAt 15 = .ok (.imul, 1) := by decide +kernel
theorem dX9_strainAt_16 : decode cX9_strainAt 16 = .ok (.iconst 1, 1) := by decide +kernel
theorem dX9_strainAt_17 : decode cX9_strainAt 17 = .ok (.iadd, 1) := by decide +kernel
theorem dX9_strainAt_18 : decode cX9_strainAt 18 = .ok (.iaload, 1) := by decide +kernel
theorem dX9_strainAt_19 : decode cX9_strainAt 19 = .ok (.iload_n 2, 1) := by decide +kernel
theorem dX9_strainAt_20 : decode cX9_strainAt 20 = .ok (.invokevirtual 167, 3) := by decide +kernel
theorem dX9_strainAt_23 : decode cX9_strainAt 23 = .ok (.ireturn, 1) := by decide +kernel
theorem dX9_strain_0 : decode cX9_strain 0 = .ok (.aload_n 0, 1) := by decide +kernel
theorem dX9_strain_1 : decode cX9_strain 1 = .ok (.invokevirtual 152, 3) := by decide +kernel
theorem dX9_strain_4 : decode cX9_strain 4 = .ok (.iload_n 1, 1) := by decide +kernel
theorem dX9_strain_5 : decode cX9_strain 5 = .ok (.invokestatic 155, 3) := by decide +kernel
theorem dX9_strain_8 : decode cX9_strain 8 = .ok (.ifCond .eq 24, 3) := by decide +kernel
theorem dX9_strain_11 : decode cX9_strain 11 = .ok (.iload_n 2, 1) := by decide +kernel
theorem dX9_strain_12 : decode cX9_strain 12 = .ok (.i2l, 1) := by decide +kernel
theorem dX9_strain_13 : decode cX9_strain 13 = .ok (.lconst 0, 1) := by decide +kernel
theorem dX9_strain_14 : decode cX9_strain 14 = .ok (.aload_n 0, 1) := by decide +kernel
theorem dX9_strain_15 : decode cX9_strain 15 = .ok (.getfield 110, 3) := by decide +kernel
theorem dX9_strain_18 : decode cX9_strain 18 = .ok (.i2l, 1) := by decide +kernel
theorem dX9_strain_19 : decode cX9_strain 19 = .ok (.invokestatic 73, 3) := by decide +kernel
theorem dX9_strain_22 : decode cX9_strain 22 = .ok (.ifCond .eq 10, 3) := by decide +kernel
theorem dX9_strain_25 : decode cX9_strain 25 = .ok (.iload_n 3, 1) := by decide +kernel
theorem dX9_strain_26 : decode cX9_strain 26 = .ok (.invokestatic 105, 3) := by decide +kernel
theorem dX9_strain_29 : decode cX9_strain 29 = .ok (.ifCond .ne 9, 3) := by decide +kernel
theorem dX9_strain_32 : decode cX9_strain 32 = .ok (.bipush (-2), 2) := by decide +kernel
theorem dX9_strain_34 : decode cX9_strain 34 = .ok (.invokestatic 170, 3) := by decide +kernel
theorem dX9_strain_37 : decode cX9_strain 37 = .ok (.lreturn, 1) := by decide +kernel
theorem dX9_strain_38 : decode cX9_strain 38 = .ok (.aload_n 0, 1) := by decide +kernel
theorem dX9_strain_39 : decode cX9_strain 39 = .ok (.getfield 110, 3) := by decide +kernel
theorem dX9_strain_42 : decode cX9_strain 42 = .ok (.ifCond .ne 11, 3) := by decide +kernel
theorem dX9_strain_45 : decode cX9_strain 45 = .ok (.bipush (-3), 2) := by decide +kernel
theorem dX9_strain_47 : decode cX9_strain 47 = .ok (.invokestatic 170, 3) := by decide +kernel
theorem dX9_strain_50 : decode cX9_strain 50 = .ok (.goto 19, 3) := by decide +kernel
theorem dX9_strain_53 : decode cX9_strain 53 = .ok (.aload_n 0, 1) := by decide +kernel
theorem dX9_strain_54 : decode cX9_strain 54 = .ok (.iload_n 1, 1) := by decide +kernel
theorem dX9_strain_55 : decode cX9_strain 55 = .ok (.iload_n 2, 1) := by decide +kernel
theorem dX9_strain_56 : decode cX9_strain 56 = .ok (.invokevirtual 174, 3) := by decide +kernel
theorem dX9_strain_59 : decode cX9_strain 59 = .ok (.i2l, 1) := by decide +kernel
theorem dX9_strain_60 : decode cX9_strain 60 = .ok (.aload_n 0, 1) := by decide +kernel
theorem dX9_strain_61 : decode cX9_strain 61 = .ok (.getfield 113, 3) := by decide +kernel
theorem dX9_strain_64 : decode cX9_strain 64 = .ok (.i2l, 1) := by decide +kernel
theorem dX9_strain_65 : decode cX9_strain 65 = .ok (.iload_n 3, 1) := by decide +kernel
theorem dX9_strain_66 : decode cX9_strain 66 = .ok (.invokestatic 177, 3) := by decide +kernel
theorem dX9_strain_69 : decode cX9_strain 69 = .ok (.lreturn, 1) := by decide +kernel
theorem dX9_slackAt_0 : decode cX9_slackAt 0 = .ok (.aload_n 0, 1) := by decide +kernel
theorem dX9_slackAt_1 : decode cX9_slackAt 1 = .ok (.getfield 110, 3) := by decide +kernel
theorem dX9_slackAt_4 : decode cX9_slackAt 4 = .ok (.ifCond .ne 6, 3) := by decide +kernel
theorem dX9_slackAt_7 : decode cX9_slackAt 7 = .ok (.bipush (-3), 2) := by decide +kernel
theorem dX9_slackAt_9 : decode cX9_slackAt 9 = .ok (.ireturn, 1) := by decide +kernel
theorem dX9_slackAt_10 : decode cX9_slackAt 10 = .ok (.iconst 0, 1) := by decide +kernel
theorem dX9_slackAt_11 : decode cX9_slackAt 11 = .ok (.istore_n 2, 1) := by decide +kernel
theorem dX9_slackAt_12 : decode cX9_slackAt 12 = .ok (.iload_n 2, 1) := by decide +kernel
theorem dX9_slackAt_13 : decode cX9_slackAt 13 = .ok (.aload_n 0, 1) := by decide +kernel
theorem dX9_slackAt_14 : decode cX9_slackAt 14 = .ok (.getfield 110, 3) := by decide +kernel
theorem dX9_slackAt_17 : decode cX9_slackAt 17 = .ok (.if_icmp .gt 20, 3) := by decide +kernel
theorem dX9_slackAt_20 : decode cX9_slackAt 20 = .ok (.aload_n 0, 1) := by decide +kernel
theorem dX9_slackAt_21 : decode cX9_slackAt 21 = .ok (.iload_n 1, 1) := by decide +kernel
theorem dX9_slackAt_22 : decode cX9_slackAt 22 = .ok (.iload_n 2, 1) := by decide +kernel
theorem dX9_slackAt_23 : decode cX9_slackAt 23 = .ok (.invokevirtual 174, 3) := by decide +kernel
theorem dX9_slackAt_26 : decode cX9_slackAt 26 = .ok (.ifCond .gt 5, 3) := by decide +kernel
theorem dX9_slackAt_29 : decode cX9_slackAt 29 = .ok (.iload_n 2, 1) := by decide +kernel
theorem dX9_slackAt_30 : decode cX9_slackAt 30 = .ok (.ireturn, 1) := by decide +kernel
theorem dX9_slackAt_31 : decode cX9_slackAt 31 = .ok (.iinc 2 1, 3) := by decide +kernel
theorem dX9_slackAt_34 : decode cX9_slackAt 34 = .ok (.goto (-22), 3) := by decide +kernel
theorem dX9_slackAt_37 : decode cX9_slackAt 37 = .ok (.iconst (-1), 1) := by decide +kernel
theorem dX9_slackAt_38 : decode cX9_slackAt 38 = .ok (.ireturn, 1) := by decide +kernel
theorem dX9_slack_0 : decode cX9_slack 0 = .ok (.aload_n 0, 1) := by decide +kernel
theorem dX9_slack_1 : decode cX9_slack 1 = .ok (.invokevirtual 152, 3) := by decide +kernel
theorem dX9_slack_4 : decode cX9_slack 4 = .ok (.iload_n 1, 1) := by decide +kernel
theorem dX9_slack_5 : decode cX9_slack 5 = .ok (.invokestatic 155, 3) := by decide +kernel
theorem dX9_slack_8 : decode cX9_slack 8 = .ok (.ifCond .eq 11, 3) := by decide +kernel
theorem dX9_slack_11 : decode cX9_slack 11 = .ok (.aload_n 0, 1) := by decide +kernel
theorem dX9_slack_12 : decode cX9_slack 12 = .ok (.iload_n 1, 1) := by decide +kernel
theorem dX9_slack_13 : decode cX9_slack 13 = .ok (.invokevirtual 181, 3) := by decide +kernel
theorem dX9_slack_16 : decode cX9_slack 16 = .ok (.goto 5, 3) := by decide +kernel
theorem dX9_slack_19 : decode cX9_slack 19 = .ok (.bipush (-2), 2) := by decide +kernel
theorem dX9_slack_21 : decode cX9_slack 21 = .ok (.ireturn, 1) := by decide +kernel
theorem dX9_isTorn_0 : decode cX9_isTorn 0 = .ok (.iconst 0, 1) := by decide +kernel
theorem dX9_isTorn_1 : decode cX9_isTorn 1 = .ok (.istore_n 3, 1) := by decide +kernel
theorem dX9_isTorn_2 : decode cX9_isTorn 2 = .ok (.iconst 0, 1) := by decide +kernel
theorem dX9_isTorn_3 : decode cX9_isTorn 3 = .ok (.istore 4, 2) := by decide +kernel
theorem dX9_isTorn_5 : decode cX9_isTorn 5 = .ok (.iload 4, 2) := by decide +kernel
theorem dX9_isTorn_7 : decode cX9_isTorn 7 = .ok (.aload_n 0, 1) := by decide +kernel
theorem dX9_isTorn_8 : decode cX9_isTorn 8 = .ok (.getfield 110, 3) := by decide +kernel
theorem dX9_isTorn_11 : decode cX9_isTorn 11 = .ok (.if_icmp .gt 48, 3) := by decide +kernel
theorem dX9_isTorn_14 : decode cX9_isTorn 14 = .ok (.aload_n 0, 1) := by decide +kernel
theorem dX9_isTorn_15 : decode cX9_isTorn 15 = .ok (.getfield 110, 3) := by decide +kernel
theorem dX9_isTorn_18 : decode cX9_isTorn 18 = .ok (.ifCond .le 41, 3) := by decide +kernel
theorem dX9_isTorn_21 : decode cX9_isTorn 21 = .ok (.iload_n 3, 1) := by decide +kernel
theorem dX9_isTorn_22 : decode cX9_isTorn 22 = .ok (.ifCond .ne 25, 3) := by decide +kernel
theorem dX9_isTorn_25 : decode cX9_isTorn 25 = .ok (.aload_n 0, 1) := by decide +kernel
theorem dX9_isTorn_26 : decode cX9_isTorn 26 = .ok (.iload_n 1, 1) := by decide +kernel
theorem dX9_isTorn_27 : decode cX9_isTorn 27 = .ok (.iload_n 2, 1) := by decide +kernel
theorem dX9_isTorn_28 : decode cX9_isTorn 28 = .ok (.iload 4, 2) := by decide +kernel
theorem dX9_isTorn_30 : decode cX9_isTorn 30 = .ok (.invokevirtual 167, 3) := by decide +kernel
theorem dX9_isTorn_33 : decode cX9_isTorn 33 = .ok (.aload_n 0, 1) := by decide +kernel
theorem dX9_isTorn_34 : decode cX9_isTorn 34 = .ok (.getfield 41, 3) := by decide +kernel
theorem dX9_isTorn_37 : decode cX9_isTorn 37 = .ok (.iconst 0, 1) := by decide +kernel
theorem dX9_isTorn_38 : decode cX9_isTorn 38 = .ok (.iaload, 1) := by decide +kernel
theorem dX9_isTorn_39 : decode cX9_isTorn 39 = .ok (.aload_n 0, 1) := by decide +kernel
theorem dX9_isTorn_40 : decode cX9_isTorn 40 = .ok (.getfield 113, 3) := by decide +kernel
theorem dX9_isTorn_43 : decode cX9_isTorn 43 = .ok (.imul, 1) := by decide +kernel
theorem dX9_isTorn_44 : decode cX9_isTorn 44 = .ok (.if_icmp .le 7, 3) := by decide +kernel
theorem dX9_isTorn_47 : decode cX9_isTorn 47 = .ok (.iconst 1, 1) := by decide +kernel
theorem dX9_isTorn_48 : decode cX9_isTorn 48 = .ok (.goto 4, 3) := by decide +kernel
theorem dX9_isTorn_51 : decode cX9_isTorn 51 = .ok (.iconst 0, 1) := by decide +kernel
theorem dX9_isTorn_52 : decode cX9_isTorn 52 = .ok (.istore_n 3, 1) := by decide +kernel
theorem dX9_isTorn_53 : decode cX9_isTorn 53 = .ok (.iinc 4 1, 3) := by decide +kernel
theorem dX9_isTorn_56 : decode cX9_isTorn 56 = .ok (.goto (-51), 3) := by decide +kernel
theorem dX9_isTorn_59 : decode cX9_isTorn 59 = .ok (.iload_n 3, 1) := by decide +kernel
theorem dX9_isTorn_60 : decode cX9_isTorn 60 = .ok (.ireturn, 1) := by decide +kernel
theorem dX9_tornNow_0 : decode cX9_tornNow 0 = .ok (.iconst 0, 1) := by decide +kernel
theorem dX9_tornNow_1 : decode cX9_tornNow 1 = .ok (.istore_n 1, 1) := by decide +kernel
theorem dX9_tornNow_2 : decode cX9_tornNow 2 = .ok (.iload_n 1, 1) := by decide +kernel
theorem dX9_tornNow_3 : decode cX9_tornNow 3 = .ok (.bipush 40, 2) := by decide +kernel
theorem dX9_tornNow_5 : decode cX9_tornNow 5 = .ok (.if_icmp .ge 36, 3) := by decide +kernel
theorem dX9_tornNow_8 : decode cX9_tornNow 8 = .ok (.aload_n 0, 1) := by decide +kernel
theorem dX9_tornNow_9 : decode cX9_tornNow 9 = .ok (.aload_n 0, 1) := by decide +kernel
theorem dX9_tornNow_10 : decode cX9_tornNow 10 = .ok (.getfield 44, 3) := by decide +kernel
theorem dX9_tornNow_13 : decode cX9_tornNow 13 = .ok (.iconst 2, 1) := by decide +kernel
theorem dX9_tornNow_14 : decode cX9_tornNow 14 = .ok (.iload_n 1, 1) := by decide +kernel
theorem dX9_tornNow_15 : decode cX9_tornNow 15 = .ok (.imul, 1) := by decide +kernel
theorem dX9_tornNow_16 : decode cX9_tornNow 16 = .ok (.iaload, 1) := by decide +kernel
theorem dX9_tornNow_17 : decode cX9_tornNow 17 = .ok (.aload_n 0, 1) := by decide +kernel
theorem dX9_tornNow_18 : decode cX9_tornNow 18 = .ok (.getfield 44, 3) := by decide +kernel
theorem dX9_tornNow_21 : decode cX9_tornNow 21 = .ok (.iconst 2, 1) := by decide +kernel
theorem dX9_tornNow_22 : decode cX9_tornNow 22 = .ok (.iload_n 1, 1) := by decide +kernel
theorem dX9_tornNow_23 : decode cX9_tornNow 23 = .ok (.imul, 1) := by decide +kernel
theorem dX9_tornNow_24 : decode cX9_tornNow 24 = .ok (.iconst 1, 1) := by decide +kernel
theorem dX9_tornNow_25 : decode cX9_tornNow 25 = .ok (.iadd, 1) := by decide +kernel
theorem dX9_tornNow_26 : decode cX9_tornNow 26 = .ok (.iaload, 1) := by decide +kernel
theorem dX9_tornNow_27 : decode cX9_tornNow 27 = .ok (.invokevirtual 184, 3) := by decide +kernel
theorem dX9_tornNow_30 : decode cX9_tornNow 30 = .ok (.ifCond .eq 5, 3) := by decide +kernel
theorem dX9_tornNow_33 : decode cX9_tornNow 33 = .ok (.iload_n 1, 1) := by decide +kernel
theorem dX9_tornNow_34 : decode cX9_tornNow 34 = .ok (.ireturn, 1) := by decide +kernel
theorem dX9_tornNow_35 : decode cX9_tornNow 35 = .ok (.iinc 1 1, 3) := by decide +kernel
theorem dX9_tornNow_38 : decode cX9_tornNow 38 = .ok (.goto (-36), 3) := by decide +kernel
theorem dX9_tornNow_41 : decode cX9_tornNow 41 = .ok (.iconst (-1), 1) := by decide +kernel
theorem dX9_tornNow_42 : decode cX9_tornNow 42 = .ok (.ireturn, 1) := by decide +kernel
theorem dX9_torn_0 : decode cX9_torn 0 = .ok (.aload_n 0, 1) := by decide +kernel
theorem dX9_torn_1 : decode cX9_torn 1 = .ok (.invokevirtual 152, 3) := by decide +kernel
theorem dX9_torn_4 : decode cX9_torn 4 = .ok (.aload_n 0, 1) := by decide +kernel
theorem dX9_torn_5 : decode cX9_torn 5 = .ok (.invokevirtual 188, 3) := by decide +kernel
theorem dX9_torn_8 : decode cX9_torn 8 = .ok (.ireturn, 1) := by decide +kernel
theorem dX9_squeezedOff_0 : decode cX9_squeezedOff 0 = .ok (.iconst 0, 1) := by decide +kernel
theorem dX9_squeezedOff_1 : decode cX9_squeezedOff 1 = .ok (.istore_n 3, 1) := by decide +kernel
theorem dX9_squeezedOff_2 : decode cX9_squeezedOff 2 = .ok (.iload_n 3, 1) := by decide +kernel
theorem dX9_squeezedOff_3 : decode cX9_squeezedOff 3 = .ok (.aload_n 0, 1) := by decide +kernel
theorem dX9_squeezedOff_4 : decode cX9_squeezedOff 4 = .ok (.getfield 110, 3) := by decide +kernel
theorem dX9_squeezedOff_7 : decode cX9_squeezedOff 7 = .ok (.if_icmp .ge 59, 3) := by decide +kernel
theorem dX9_squeezedOff_10 : decode cX9_squeezedOff 10 = .ok (.aload_n 0, 1) := by decide +kernel
theorem dX9_squeezedOff_11 : decode cX9_squeezedOff 11 = .ok (.getfield 41, 3) := by decide +kernel
theorem dX9_squeezedOff_14 : decode cX9_squeezedOff 14 = .ok (.iconst 1, 1) := by decide +kernel
theorem dX9_squeezedOff_15 : decode cX9_squeezedOff 15 = .ok (.iaload, 1) := by decide +kernel
theorem dX9_squeezedOff_16 : decode cX9_squeezedOff 16 = .ok (.aload_n 0, 1) := by decide +kernel
theorem dX9_squeezedOff_17 : decode cX9_squeezedOff 17 = .ok (.getfield 28, 3) := by decide +kernel
theorem dX9_squeezedOff_20 : decode cX9_squeezedOff 20 = .ok (.iload_n 3, 1) := by decide +kernel
theorem dX9_squeezedOff_21 : decode cX9_squeezedOff 21 = .ok (.iaload, 1) := by decide +kernel
theorem dX9_squeezedOff_22 : decode cX9_squeezedOff 22 = .ok (.imul, 1) := by decide +kernel
theorem dX9_squeezedOff_23 : decode cX9_squeezedOff 23 = .ok (.aload_n 0, 1) := by decide +kernel
theorem dX9_squeezedOff_24 : decode cX9_squeezedOff 24 = .ok (.getfield 113, 3) := by decide +kernel
theorem dX9_squeezedOff_27 : decode cX9_squeezedOff 27 = .ok (.imul, 1) := by decide +kernel
theorem dX9_squeezedOff_28 : decode cX9_squeezedOff 28 = .ok (.istore 4, 2) := by decide +kernel
theorem dX9_squeezedOff_30 : decode cX9_squeezedOff 30 = .ok (.aload_n 0, 1) := by decide +kernel
theorem dX9_squeezedOff_31 : decode cX9_squeezedOff 31 = .ok (.iload_n 1, 1) := by decide +kernel
theorem dX9_squeezedOff_32 : decode cX9_squeezedOff 32 = .ok (.iload_n 2, 1) := by decide +kernel
theorem dX9_squeezedOff_33 : decode cX9_squeezedOff 33 = .ok (.iload_n 3, 1) := by decide +kernel
theorem dX9_squeezedOff_34 : decode cX9_squeezedOff 34 = .ok (.invokevirtual 167, 3) := by decide +kernel
theorem dX9_squeezedOff_37 : decode cX9_squeezedOff 37 = .ok (.ineg, 1) := by decide +kernel
theorem dX9_squeezedOff_38 : decode cX9_squeezedOff 38 = .ok (.iload 4, 2) := by decide +kernel
theorem dX9_squeezedOff_40 : decode cX9_squeezedOff 40 = .ok (.if_icmp .le 20, 3) := by decide +kernel
theorem dX9_squeezedOff_43 : decode cX9_squeezedOff 43 = .ok (.aload_n 0, 1) := by decide +kernel
theorem dX9_squeezedOff_44 : decode cX9_squeezedOff 44 = .ok (.iload_n 1, 1) := by decide +kernel
theorem dX9_squeezedOff_45 : decode cX9_squeezedOff 45 = .ok (.iload_n 2, 1) := by decide +kernel
theorem dX9_squeezedOff_46 : decode cX9_squeezedOff 46 = .ok (.iload_n 3, 1) := by decide +kernel
theorem dX9_squeezedOff_47 : decode cX9_squeezedOff 47 = .ok (.iconst 1, 1) := by decide +kernel
theorem dX9_squeezedOff_48 : decode cX9_squeezedOff 48 = .ok (.iadd, 1) := by decide +kernel
theorem dX9_squeezedOff_49 : decode cX9_squeezedOff 49 = .ok (.invokevirtual 167, 3) := by decide +kernel
theorem dX9_squeezedOff_52 : decode cX9_squeezedOff 52 = .ok (.ineg, 1) := by decide +kernel
theorem dX9_squeezedOff_53 : decode cX9_squeezedOff 53 = .ok (.iload 4, 2) := by decide +kernel
theorem dX9_squeezedOff_55 : decode cX9_squeezedOff 55 = .ok (.if_icmp .le 5, 3) := by decide +kernel
theorem dX9_squeezedOff_58 : decode cX9_squeezedOff 58 = .ok (.iload_n 3, 1) := by decide +kernel
theorem dX9_squeezedOff_59 : decode cX9_squeezedOff 59 = .ok (.ireturn, 1) := by decide +kernel
theorem dX9_squeezedOff_60 : decode cX9_squeezedOff 60 = .ok (.iinc 3 1, 3) := by decide +kernel
theorem dX9_squeezedOff_63 : decode cX9_squeezedOff 63 = .ok (.goto (-61), 3) := by decide +kernel
theorem dX9_squeezedOff_66 : decode cX9_squeezedOff 66 = .ok (.iconst (-1), 1) := by decide +kernel
theorem dX9_squeezedOff_67 : decode cX9_squeezedOff 67 = .ok (.ireturn, 1) := by decide +kernel
theorem dX9_offOf_0 : decode cX9_offOf 0 = .ok (.iconst 0, 1) := by decide +kernel
theorem dX9_offOf_1 : decode cX9_offOf 1 = .ok (.istore_n 2, 1) := by decide +kernel
theorem dX9_offOf_2 : decode cX9_offOf 2 = .ok (.iload_n 2, 1) := by decide +kernel
theorem dX9_offOf_3 : decode cX9_offOf 3 = .ok (.bipush 40, 2) := by decide +kernel
theorem dX9_offOf_5 : decode cX9_offOf 5 = .ok (.if_icmp .ge 74, 3) := by decide +kernel
theorem dX9_offOf_8 : decode cX9_offOf 8 = .ok (.aload_n 0, 1) := by decide +kernel
theorem dX9_offOf_9 : decode cX9_offOf 9 = .ok (.iload_n 2, 1) := by decide +kernel
theorem dX9_offOf_10 : decode cX9_offOf 10 = .ok (.invokevirtual 158, 3) := by decide +kernel
theorem dX9_offOf_13 : decode cX9_offOf 13 = .ok (.istore_n 3, 1) := by decide +kernel
theorem dX9_offOf_14 : decode cX9_offOf 14 = .ok (.iload_n 3, 1) := by decide +kernel
theorem dX9_offOf_15 : decode cX9_offOf 15 = .ok (.iconst (-1), 1) := by decide +kernel
theorem dX9_offOf_16 : decode cX9_offOf 16 = .ok (.if_icmp .eq 37, 3) := by decide +kernel
theorem dX9_offOf_19 : decode cX9_offOf 19 = .ok (.aload_n 0, 1) := by decide +kernel
theorem dX9_offOf_20 : decode cX9_offOf 20 = .ok (.getfield 34, 3) := by decide +kernel
theorem dX9_offOf_23 : decode cX9_offOf 23 = .ok (.iload_n 3, 1) := by decide +kernel
theorem dX9_offOf_24 : decode cX9_offOf 24 = .ok (.baload, 1) := by decide +kernel
theorem dX9_offOf_25 : decode cX9_offOf 25 = .ok (.ifCond .eq 28, 3) := by decide +kernel
theorem dX9_offOf_28 : decode cX9_offOf 28 = .ok (.aload_n 0, 1) := by decide +kernel
theorem dX9_offOf_29 : decode cX9_offOf 29 = .ok (.aload_n 0, 1) := by decide +kernel
theorem dX9_offOf_30 : decode cX9_offOf 30 = .ok (.getfield 44, 3) := by decide +kernel
theorem dX9_offOf_33 : decode cX9_offOf 33 = .ok (.iconst 2, 1) := by decide +kernel
theorem dX9_offOf_34 : decode cX9_offOf 34 = .ok (.iload_n 2, 1) := by decide +kernel
theorem dX9_offOf_35 : decode cX9_offOf 35 = .ok (.imul, 1) := by decide +kernel
theorem dX9_offOf_36 : decode cX9_offOf 36 = .ok (.iaload, 1) := by decide +kernel
theorem dX9_offOf_37 : decode cX9_offOf 37 = .ok (.aload_n 0, 1) := by decide +kernel
theorem dX9_offOf_38 : decode cX9_offOf 38 = .ok (.getfield 44, 3) := by decide +kernel
theorem dX9_offOf_41 : decode cX9_offOf 41 = .ok (.iconst 2, 1) := by decide +kernel
theorem dX9_offOf_42 : decode cX9_offOf 42 = .ok (.iload_n 2, 1) := by decide +kernel
theorem dX9_offOf_43 : decode cX9_offOf 43 = .ok (.imul, 1) := by decide +kernel
theorem dX9_offOf_44 : decode cX9_offOf 44 = .ok (.iconst 1, 1) := by decide +kernel
theorem dX9_offOf_45 : decode cX9_offOf 45 = .ok (.iadd, 1) := by decide +kernel
theorem dX9_offOf_46 : decode cX9_offOf 46 = .ok (.iaload, 1) := by decide +kernel
theorem dX9_offOf_47 : decode cX9_offOf 47 = .ok (.invokevirtual 191, 3) := by decide +kernel
theorem dX9_offOf_50 : decode cX9_offOf 50 = .ok (.goto 4, 3) := by decide +kernel
theorem dX9_offOf_53 : decode cX9_offOf 53 = .ok (.iconst (-1), 1) := by decide +kernel
theorem dX9_offOf_54 : decode cX9_offOf 54 = .ok (.istore 4, 2) := by decide +kernel
theorem dX9_offOf_56 : decode cX9_offOf 56 = .ok (.iload 4, 2) := by decide +kernel
theorem dX9_offOf_58 : decode cX9_offOf 58 = .ok (.iconst (-1), 1) := by decide +kernel
theorem dX9_offOf_59 : decode cX9_offOf 59 = .ok (.if_icmp .eq 14, 3) := by decide +kernel
theorem dX9_offOf_62 : decode cX9_offOf 62 = .ok (.iload_n 1, 1) := by decide +kernel
theorem dX9_offOf_63 : decode cX9_offOf 63 = .ok (.ifCond .ne 7, 3) := by decide +kernel
theorem dX9_offOf_66 : decode cX9_offOf 66 = .ok (.iload_n 2, 1) := by decide +kernel
theorem dX9_offOf_67 : decode cX9_offOf 67 = .ok (.goto 5, 3) := by decide +kernel
theorem dX9_offOf_70 : decode cX9_offOf 70 = .ok (.iload 4, 2) := by decide +kernel
theorem dX9_offOf_72 : decode cX9_offOf 72 = .ok (.ireturn, 1) := by decide +kernel
theorem dX9_offOf_73 : decode cX9_offOf 73 = .ok (.iinc 2 1, 3) := by decide +kernel
theorem dX9_offOf_76 : decode cX9_offOf 76 = .ok (.goto (-74), 3) := by decide +kernel
theorem dX9_offOf_79 : decode cX9_offOf 79 = .ok (.iconst (-1), 1) := by decide +kernel
theorem dX9_offOf_80 : decode cX9_offOf 80 = .ok (.ireturn, 1) := by decide +kernel
theorem dX9_off_0 : decode cX9_off 0 = .ok (.aload_n 0, 1) := by decide +kernel
theorem dX9_off_1 : decode cX9_off 1 = .ok (.invokevirtual 152, 3) := by decide +kernel
theorem dX9_off_4 : decode cX9_off 4 = .ok (.iload_n 1, 1) := by decide +kernel
theorem dX9_off_5 : decode cX9_off 5 = .ok (.invokestatic 105, 3) := by decide +kernel
theorem dX9_off_8 : decode cX9_off 8 = .ok (.ifCond .eq 11, 3) := by decide +kernel
theorem dX9_off_11 : decode cX9_off 11 = .ok (.aload_n 0, 1) := by decide +kernel
theorem dX9_off_12 : decode cX9_off 12 = .ok (.iload_n 1, 1) := by decide +kernel
theorem dX9_off_13 : decode cX9_off 13 = .ok (.invokevirtual 194, 3) := by decide +kernel
theorem dX9_off_16 : decode cX9_off 16 = .ok (.goto 5, 3) := by decide +kernel
theorem dX9_off_19 : decode cX9_off 19 = .ok (.bipush (-2), 2) := by decide +kernel
theorem dX9_off_21 : decode cX9_off 21 = .ok (.ireturn, 1) := by decide +kernel
theorem dX9_overNow_0 : decode cX9_overNow 0 = .ok (.iconst 0, 1) := by decide +kernel
theorem dX9_overNow_1 : decode cX9_overNow 1 = .ok (.istore_n 1, 1) := by decide +kernel
theorem dX9_overNow_2 : decode cX9_overNow 2 = .ok (.iload_n 1, 1) := by decide +kernel
theorem dX9_overNow_3 : decode cX9_overNow 3 = .ok (.bipush 40, 2) := by decide +kernel
theorem dX9_overNow_5 : decode cX9_overNow 5 = .ok (.if_icmp .ge 27, 3) := by decide +kernel
theorem dX9_overNow_8 : decode cX9_overNow 8 = .ok (.aload_n 0, 1) := by decide +kernel
theorem dX9_overNow_9 : decode cX9_overNow 9 = .ok (.getfield 118, 3) := by decide +kernel
theorem dX9_overNow_12 : decode cX9_overNow 12 = .ok (.ifCond .le 14, 3) := by decide +kernel
theorem dX9_overNow_15 : decode cX9_overNow 15 = .ok (.aload_n 0, 1) := by decide +kernel
theorem dX9_overNow_16 : decode cX9_overNow 16 = .ok (.iload_n 1, 1) := by decide +kernel
theorem dX9_overNow_17 : decode cX9_overNow 17 = .ok (.invokevirtual 158, 3) := by decide +kernel
theorem dX9_overNow_20 : decode cX9_overNow 20 = .ok (.iconst (-1), 1) := by decide +kernel
theorem dX9_overNow_21 : decode cX9_overNow 21 = .ok (.if_icmp .ne 5, 3) := by decide +kernel
theorem dX9_overNow_24 : decode cX9_overNow 24 = .ok (.iload_n 1, 1) := by decide +kernel
theorem dX9_overNow_25 : decode cX9_overNow 25 = .ok (.ireturn, 1) := by decide +kernel
theorem dX9_overNow_26 : decode cX9_overNow 26 = .ok (.iinc 1 1, 3) := by decide +kernel
theorem dX9_overNow_29 : decode cX9_overNow 29 = .ok (.goto (-27), 3) := by decide +kernel
theorem dX9_overNow_32 : decode cX9_overNow 32 = .ok (.iconst (-1), 1) := by decide +kernel
theorem dX9_overNow_33 : decode cX9_overNow 33 = .ok (.ireturn, 1) := by decide +kernel
theorem dX9_over_0 : decode cX9_over 0 = .ok (.aload_n 0, 1) := by decide +kernel
theorem dX9_over_1 : decode cX9_over 1 = .ok (.invokevirtual 152, 3) := by decide +kernel
theorem dX9_over_4 : decode cX9_over 4 = .ok (.aload_n 0, 1) := by decide +kernel
theorem dX9_over_5 : decode cX9_over 5 = .ok (.invokevirtual 197, 3) := by decide +kernel
theorem dX9_over_8 : decode cX9_over 8 = .ok (.ireturn, 1) := by decide +kernel
theorem dX9_isAlike_0 : decode cX9_isAlike 0 = .ok (.aload_n 0, 1) := by decide +kernel
theorem dX9_isAlike_1 : decode cX9_isAlike 1 = .ok (.getfield 44, 3) := by decide +kernel
theorem dX9_isAlike_4 : decode cX9_isAlike 4 = .ok (.iconst 2, 1) := by decide +kernel
theorem dX9_isAlike_5 : decode cX9_isAlike 5 = .ok (.iload_n 1, 1) := by decide +kernel
theorem dX9_isAlike_6 : decode cX9_isAlike 6 = .ok (.imul, 1) := by decide +kernel
theorem dX9_isAlike_7 : decode cX9_isAlike 7 = .ok (.iaload, 1) := by decide +kernel
theorem dX9_isAlike_8 : decode cX9_isAlike 8 = .ok (.aload_n 0, 1) := by decide +kernel
theorem dX9_isAlike_9 : decode cX9_isAlike 9 = .ok (.getfield 44, 3) := by decide +kernel
theorem dX9_isAlike_12 : decode cX9_isAlike 12 = .ok (.iconst 2, 1) := by decide +kernel
theorem dX9_isAlike_13 : decode cX9_isAlike 13 = .ok (.iload_n 2, 1) := by decide +kernel
theorem dX9_isAlike_14 : decode cX9_isAlike 14 = .ok (.imul, 1) := by decide +kernel
theorem dX9_isAlike_15 : decode cX9_isAlike 15 = .ok (.iaload, 1) := by decide +kernel
theorem dX9_isAlike_16 : decode cX9_isAlike 16 = .ok (.if_icmp .ne 30, 3) := by decide +kernel
theorem dX9_isAlike_19 : decode cX9_isAlike 19 = .ok (.aload_n 0, 1) := by decide +kernel
theorem dX9_isAlike_20 : decode cX9_isAlike 20 = .ok (.getfield 44, 3) := by decide +kernel
theorem dX9_isAlike_23 : decode cX9_isAlike 23 = .ok (.iconst 2, 1) := by decide +kernel
theorem dX9_isAlike_24 : decode cX9_isAlike 24 = .ok (.iload_n 1, 1) := by decide +kernel
theorem dX9_isAlike_25 : decode cX9_isAlike 25 = .ok (.imul, 1) := by decide +kernel
theorem dX9_isAlike_26 : decode cX9_isAlike 26 = .ok (.iconst 1, 1) := by decide +kernel
theorem dX9_isAlike_27 : decode cX9_isAlike 27 = .ok (.iadd, 1) := by decide +kernel
theorem dX9_isAlike_28 : decode cX9_isAlike 28 = .ok (.iaload, 1) := by decide +kernel
theorem dX9_isAlike_29 : decode cX9_isAlike 29 = .ok (.aload_n 0, 1) := by decide +kernel
theorem dX9_isAlike_30 : decode cX9_isAlike 30 = .ok (.getfield 44, 3) := by decide +kernel
theorem dX9_isAlike_33 : decode cX9_isAlike 33 = .ok (.iconst 2, 1) := by decide +kernel
theorem dX9_isAlike_34 : decode cX9_isAlike 34 = .ok (.iload_n 2, 1) := by decide +kernel
theorem dX9_isAlike_35 : decode cX9_isAlike 35 = .ok (.imul, 1) := by decide +kernel
theorem dX9_isAlike_36 : decode cX9_isAlike 36 = .ok (.iconst 1, 1) := by decide +kernel
theorem dX9_isAlike_37 : decode cX9_isAlike 37 = .ok (.iadd, 1) := by decide +kernel
theorem dX9_isAlike_38 : decode cX9_isAlike 38 = .ok (.iaload, 1) := by decide +kernel
theorem dX9_isAlike_39 : decode cX9_isAlike 39 = .ok (.if_icmp .ne 7, 3) := by decide +kernel
theorem dX9_isAlike_42 : decode cX9_isAlike 42 = .ok (.iconst 1, 1) := by decide +kernel
theorem dX9_isAlike_43 : decode cX9_isAlike 43 = .ok (.goto 4, 3) := by decide +kernel
theorem dX9_isAlike_46 : decode cX9_isAlike 46 = .ok (.iconst 0, 1) := by decide +kernel
theorem dX9_isAlike_47 : decode cX9_isAlike 47 = .ok (.ireturn, 1) := by decide +kernel
theorem dX9_settlesNow_0 : decode cX9_settlesNow 0 = .ok (.iconst (-1), 1) := by decide +kernel
theorem dX9_settlesNow_1 : decode cX9_settlesNow 1 = .ok (.istore_n 1, 1) := by decide +kernel
theorem dX9_settlesNow_2 : decode cX9_settlesNow 2 = .ok (.iconst 1, 1) := by decide +kernel
theorem dX9_settlesNow_3 : decode cX9_settlesNow 3 = .ok (.istore_n 2, 1) := by decide +kernel
theorem dX9_settlesNow_4 : decode cX9_settlesNow 4 = .ok (.bipush 38, 2) := by decide +kernel
theorem dX9_settlesNow_6 : decode cX9_settlesNow 6 = .ok (.istore_n 3, 1) := by decide +kernel
theorem dX9_settlesNow_7 : decode cX9_settlesNow 7 = .ok (.iload_n 3, 1) := by decide +kernel
theorem dX9_settlesNow_8 : decode cX9_settlesNow 8 = .ok (.ifCond .lt 40, 3) := by decide +kernel
theorem dX9_settlesNow_11 : decode cX9_settlesNow 11 = .ok (.iload_n 2, 1) := by decide +kernel
theorem dX9_settlesNow_12 : decode cX9_settlesNow 12 = .ok (.ifCond .eq 18, 3) := by decide +kernel
theorem dX9_settlesNow_15 : decode cX9_settlesNow 15 = .ok (.aload_n 0, 1) := by decide +kernel
theorem dX9_settlesNow_16 : decode cX9_settlesNow 16 = .ok (.iload_n 3, 1) := by decide +kernel
theorem dX9_settlesNow_17 : decode cX9_settlesNow 17 = .ok (.iload_n 3, 1) := by decide +kernel
theorem dX9_settlesNow_18 : decode cX9_settlesNow 18 = .ok (.iconst 1, 1) := by decide +kernel
theorem dX9_settlesNow_19 : decode cX9_settlesNow 19 = .ok (.iadd, 1) := by decide +kernel
theorem dX9_settlesNow_20 : decode cX9_settlesNow 20 = .ok (.invokevirtual 200, 3) := by decide +kernel
theorem dX9_settlesNow_23 : decode cX9_settlesNow 23 = .ok (.ifCond .eq 7, 3) := by decide +kernel
theorem dX9_settlesNow_26 : decode cX9_settlesNow 26 = .ok (.iconst 1, 1) := by decide +kernel
theorem dX9_settlesNow_27 : decode cX9_settlesNow 27 = .ok (.goto 4, 3) := by decide +kernel
theorem dX9_settlesNow_30 : decode cX9_settlesNow 30 = .ok (.iconst 0, 1) := by decide +kernel
theorem dX9_settlesNow_31 : decode cX9_settlesNow 31 = .ok (.istore_n 2, 1) := by decide +kernel
theorem dX9_settlesNow_32 : decode cX9_settlesNow 32 = .ok (.iload_n 2, 1) := by decide +kernel
theorem dX9_settlesNow_33 : decode cX9_settlesNow 33 = .ok (.ifCond .eq 7, 3) := by decide +kernel
theorem dX9_settlesNow_36 : decode cX9_settlesNow 36 = .ok (.iload_n 3, 1) := by decide +kernel
theorem dX9_settlesNow_37 : decode cX9_settlesNow 37 = .ok (.goto 4, 3) := by decide +kernel
theorem dX9_settlesNow_40 : decode cX9_settlesNow 40 = .ok (.iload_n 1, 1) := by decide +kernel
theorem dX9_settlesNow_41 : decode cX9_settlesNow 41 = .ok (.istore_n 1, 1) := by decide +kernel
theorem dX9_settlesNow_42 : decode cX9_settlesNow 42 = .ok (.iinc 3 (-1), 3) := by decide +kernel
theorem dX9_settlesNow_45 : decode cX9_settlesNow 45 = .ok (.goto (-38), 3) := by decide +kernel
theorem dX9_settlesNow_48 : decode cX9_settlesNow 48 = .ok (.iload_n 1, 1) := by decide +kernel
theorem dX9_settlesNow_49 : decode cX9_settlesNow 49 = .ok (.ireturn, 1) := by decide +kernel
theorem dX9_settles_0 : decode cX9_settles 0 = .ok (.aload_n 0, 1) := by decide +kernel
theorem dX9_settles_1 : decode cX9_settles 1 = .ok (.invokevirtual 152, 3) := by decide +kernel
theorem dX9_settles_4 : decode cX9_settles 4 = .ok (.aload_n 0, 1) := by decide +kernel
theorem dX9_settles_5 : decode cX9_settles 5 = .ok (.invokevirtual 203, 3) := by decide +kernel
theorem dX9_settles_8 : decode cX9_settles 8 = .ok (.ireturn, 1) := by decide +kernel
theorem dX9_swingsNow_0 : decode cX9_swingsNow 0 = .ok (.iconst 1, 1) := by decide +kernel
theorem dX9_swingsNow_1 : decode cX9_swingsNow 1 = .ok (.istore_n 1, 1) := by decide +kernel
theorem dX9_swingsNow_2 : decode cX9_swingsNow 2 = .ok (.iload_n 1, 1) := by decide +kernel
theorem dX9_swingsNow_3 : decode cX9_swingsNow 3 = .ok (.bipush 13, 2) := by decide +kernel
theorem dX9_swingsNow_5 : decode cX9_swingsNow 5 = .ok (.if_icmp .ge 55, 3) := by decide +kernel
theorem dX9_swingsNow_8 : decode cX9_swingsNow 8 = .ok (.iconst 1, 1) := by decide +kernel
theorem dX9_swingsNow_9 : decode cX9_swingsNow 9 = .ok (.istore_n 2, 1) := by decide +kernel
theorem dX9_swingsNow_10 : decode cX9_swingsNow 10 = .ok (.bipush 20, 2) := by decide +kernel
theorem dX9_swingsNow_12 : decode cX9_swingsNow 12 = .ok (.istore_n 3, 1) := by decide +kernel
theorem dX9_swingsNow_13 : decode cX9_swingsNow 13 = .ok (.iload_n 3, 1) := by decide +kernel
theorem dX9_swingsNow_14 : decode cX9_swingsNow 14 = .ok (.iload_n 1, 1) := by decide +kernel
theorem dX9_swingsNow_15 : decode cX9_swingsNow 15 = .ok (.iadd, 1) := by decide +kernel
theorem dX9_swingsNow_16 : decode cX9_swingsNow 16 = .ok (.bipush 40, 2) := by decide +kernel
theorem dX9_swingsNow_18 : decode cX9_swingsNow 18 = .ok (.if_icmp .ge 30, 3) := by decide +kernel
theorem dX9_swingsNow_21 : decode cX9_swingsNow 21 = .ok (.iload_n 2, 1) := by decide +kernel
theorem dX9_swingsNow_22 : decode cX9_swingsNow 22 = .ok (.ifCond .eq 18, 3) := by decide +kernel
theorem dX9_swingsNow_25 : decode cX9_swingsNow 25 = .ok (.aload_n 0, 1) := by decide +kernel
theorem dX9_swingsNow_26 : decode cX9_swingsNow 26 = .ok (.iload_n 3, 1) := by decide +kernel
theorem dX9_swingsNow_27 : decode cX9_swingsNow 27 = .ok (.iload_n 3, 1) := by decide +kernel
theorem dX9_swingsNow_28 : decode cX9_swingsNow 28 = .ok (.iload_n 1, 1) := by decide +kernel
theorem dX9_swingsNow_29 : decode cX9_swingsNow 29 = .ok (.iadd, 1) := by decide +kernel
theorem dX9_swingsNow_30 : decode cX9_swingsNow 30 = .ok (.invokevirtual 200, 3) := by decide +kernel
theorem dX9_swingsNow_33 : decode cX9_swingsNow 33 = .ok (.ifCond .eq 7, 3) := by decide +kernel
theorem dX9_swingsNow_36 : decode cX9_swingsNow 36 = .ok (.iconst 1, 1) := by decide +kernel
theorem dX9_swingsNow_37 : decode cX9_swingsNow 37 = .ok (.goto 4, 3) := by decide +kernel
theorem dX9_swingsNow_40 : decode cX9_swingsNow 40 = .ok (.iconst 0, 1) := by decide +kernel
theorem dX9_swingsNow_41 : decode cX9_swingsNow 41 = .ok (.istore_n 2, 1) := by decide +kernel
theorem dX9_swingsNow_42 : decode cX9_swingsNow 42 = .ok (.iinc 3 1, 3) := by decide +kernel
theorem dX9_swingsNow_45 : decode cX9_swingsNow 45 = .ok (.goto (-32), 3) := by decide +kernel
theorem dX9_swingsNow_48 : decode cX9_swingsNow 48 = .ok (.iload_n 2, 1) := by decide +kernel
theorem dX9_swingsNow_49 : decode cX9_swingsNow 49 = .ok (.ifCond .eq 5, 3) := by decide +kernel
theorem dX9_swingsNow_52 : decode cX9_swingsNow 52 = .ok (.iload_n 1, 1) := by decide +kernel
theorem dX9_swingsNow_53 : decode cX9_swingsNow 53 = .ok (.ireturn, 1) := by decide +kernel
theorem dX9_swingsNow_54 : decode cX9_swingsNow 54 = .ok (.iinc 1 1, 3) := by decide +kernel
theorem dX9_swingsNow_57 : decode cX9_swingsNow 57 = .ok (.goto (-55), 3) := by decide +kernel
theorem dX9_swingsNow_60 : decode cX9_swingsNow 60 = .ok (.iconst (-1), 1) := by decide +kernel
theorem dX9_swingsNow_61 : decode cX9_swingsNow 61 = .ok (.ireturn, 1) := by decide +kernel
theorem dX9_swings_0 : decode cX9_swings 0 = .ok (.aload_n 0, 1) := by decide +kernel
theorem dX9_swings_1 : decode cX9_swings 1 = .ok (.invokevirtual 152, 3) := by decide +kernel
theorem dX9_swings_4 : decode cX9_swings 4 = .ok (.aload_n 0, 1) := by decide +kernel
theorem dX9_swings_5 : decode cX9_swings 5 = .ok (.invokevirtual 206, 3) := by decide +kernel
theorem dX9_swings_8 : decode cX9_swings 8 = .ok (.ireturn, 1) := by decide +kernel
theorem dX9_doesOf_0 : decode cX9_doesOf 0 = .ok (.iconst 0, 1) := by decide +kernel
theorem dX9_doesOf_1 : decode cX9_doesOf 1 = .ok (.istore_n 2, 1) := by decide +kernel
theorem dX9_doesOf_2 : decode cX9_doesOf 2 = .ok (.iconst 0, 1) := by decide +kernel
theorem dX9_doesOf_3 : decode cX9_doesOf 3 = .ok (.istore_n 3, 1) := by decide +kernel
theorem dX9_doesOf_4 : decode cX9_doesOf 4 = .ok (.iconst 0, 1) := by decide +kernel
theorem dX9_doesOf_5 : decode cX9_doesOf 5 = .ok (.istore 4, 2) := by decide +kernel
theorem dX9_doesOf_7 : decode cX9_doesOf 7 = .ok (.iload 4, 2) := by decide +kernel
theorem dX9_doesOf_9 : decode cX9_doesOf 9 = .ok (.bipush 40, 2) := by decide +kernel
theorem dX9_doesOf_11 : decode cX9_doesOf 11 = .ok (.if_icmp .ge 45, 3) := by decide +kernel
theorem dX9_doesOf_14 : decode cX9_doesOf 14 = .ok (.iload_n 2, 1) := by decide +kernel
theorem dX9_doesOf_15 : decode cX9_doesOf 15 = .ok (.aload_n 0, 1) := by decide +kernel
theorem dX9_doesOf_16 : decode cX9_doesOf 16 = .ok (.getfield 44, 3) := by decide +kernel
theorem dX9_doesOf_19 : decode cX9_doesOf 19 = .ok (.iconst 2, 1) := by decide +kernel
theorem dX9_doesOf_20 : decode cX9_doesOf 20 = .ok (.iload 4, 2) := by decide +kernel
theorem dX9_doesOf_22 : decode cX9_doesOf 22 = .ok (.imul, 1) := by decide +kernel
theorem dX9_doesOf_23 : decode cX9_doesOf 23 = .ok (.iaload, 1) := by decide +kernel
theorem dX9_doesOf_24 : decode cX9_doesOf 24 = .ok (.iadd, 1) := by decide +kernel
theorem dX9_doesOf_25 : decode cX9_doesOf 25 = .ok (.istore_n 2, 1) := by decide +kernel
theorem dX9_doesOf_26 : decode cX9_doesOf 26 = .ok (.iload_n 3, 1) := by decide +kernel
theorem dX9_doesOf_27 : decode cX9_doesOf 27 = .ok (.aload_n 0, 1) := by decide +kernel
theorem dX9_doesOf_28 : decode cX9_doesOf 28 = .ok (.getfield 44, 3) := by decide +kernel
theorem dX9_doesOf_31 : decode cX9_doesOf 31 = .ok (.iconst 2, 1) := by decide +kernel
theorem dX9_doesOf_32 : decode cX9_doesOf 32 = .ok (.iload 4, 2) := by decide +kernel
theorem dX9_doesOf_34 : decode cX9_doesOf 34 = .ok (.imul, 1) := by decide +kernel
theorem dX9_doesOf_35 : decode cX9_doesOf 35 = .ok (.iaload, 1) := by decide +kernel
theorem dX9_doesOf_36 : decode cX9_doesOf 36 = .ok (.aload_n 0, 1) := by decide +kernel
theorem dX9_doesOf_37 : decode cX9_doesOf 37 = .ok (.getfield 44, 3) := by decide +kernel
theorem dX9_doesOf_40 : decode cX9_doesOf 40 = .ok (.iconst 2, 1) := by decide +kernel
theorem dX9_doesOf_41 : decode cX9_doesOf 41 = .ok (.iload 4, 2) := by decide +kernel
theorem dX9_doesOf_43 : decode cX9_doesOf 43 = .ok (.imul, 1) := by decide +kernel
theorem dX9_doesOf_44 : decode cX9_doesOf 44 = .ok (.iconst 1, 1) := by decide +kernel
theorem dX9_doesOf_45 : decode cX9_doesOf 45 = .ok (.iadd, 1) := by decide +kernel
theorem dX9_doesOf_46 : decode cX9_doesOf 46 = .ok (.iaload, 1) := by decide +kernel
theorem dX9_doesOf_47 : decode cX9_doesOf 47 = .ok (.iadd, 1) := by decide +kernel
theorem dX9_doesOf_48 : decode cX9_doesOf 48 = .ok (.iadd, 1) := by decide +kernel
theorem dX9_doesOf_49 : decode cX9_doesOf 49 = .ok (.istore_n 3, 1) := by decide +kernel
theorem dX9_doesOf_50 : decode cX9_doesOf 50 = .ok (.iinc 4 1, 3) := by decide +kernel
theorem dX9_doesOf_53 : decode cX9_doesOf 53 = .ok (.goto (-46), 3) := by decide +kernel
theorem dX9_doesOf_56 : decode cX9_doesOf 56 = .ok (.iload_n 3, 1) := by decide +kernel
theorem dX9_doesOf_57 : decode cX9_doesOf 57 = .ok (.ifCond .ne 12, 3) := by decide +kernel
theorem dX9_doesOf_60 : decode cX9_doesOf 60 = .ok (.lconst 0, 1) := by decide +kernel
theorem dX9_doesOf_61 : decode cX9_doesOf 61 = .ok (.lconst 1, 1) := by decide +kernel
theorem dX9_doesOf_62 : decode cX9_doesOf 62 = .ok (.iload_n 1, 1) := by decide +kernel
theorem dX9_doesOf_63 : decode cX9_doesOf 63 = .ok (.invokestatic 177, 3) := by decide +kernel
theorem dX9_doesOf_66 : decode cX9_doesOf 66 = .ok (.goto 11, 3) := by decide +kernel
theorem dX9_doesOf_69 : decode cX9_doesOf 69 = .ok (.iload_n 2, 1) := by decide +kernel
theorem dX9_doesOf_70 : decode cX9_doesOf 70 = .ok (.i2l, 1) := by decide +kernel
theorem dX9_doesOf_71 : decode cX9_doesOf 71 = .ok (.iload_n 3, 1) := by decide +kernel
theorem dX9_doesOf_72 : decode cX9_doesOf 72 = .ok (.i2l, 1) := by decide +kernel
theorem dX9_doesOf_73 : decode cX9_doesOf 73 = .ok (.iload_n 1, 1) := by decide +kernel
theorem dX9_doesOf_74 : decode cX9_doesOf 74 = .ok (.invokestatic 177, 3) := by decide +kernel
theorem dX9_doesOf_77 : decode cX9_doesOf 77 = .ok (.l2i, 1) := by decide +kernel
theorem dX9_doesOf_78 : decode cX9_doesOf 78 = .ok (.ireturn, 1) := by decide +kernel
theorem dX9_does_0 : decode cX9_does 0 = .ok (.aload_n 0, 1) := by decide +kernel
theorem dX9_does_1 : decode cX9_does 1 = .ok (.invokevirtual 152, 3) := by decide +kernel
theorem dX9_does_4 : decode cX9_does 4 = .ok (.iload_n 1, 1) := by decide +kernel
theorem dX9_does_5 : decode cX9_does 5 = .ok (.invokestatic 105, 3) := by decide +kernel
theorem dX9_does_8 : decode cX9_does 8 = .ok (.ifCond .eq 11, 3) := by decide +kernel
theorem dX9_does_11 : decode cX9_does 11 = .ok (.aload_n 0, 1) := by decide +kernel
theorem dX9_does_12 : decode cX9_does 12 = .ok (.iload_n 1, 1) := by decide +kernel
theorem dX9_does_13 : decode cX9_does 13 = .ok (.invokevirtual 209, 3) := by decide +kernel
theorem dX9_does_16 : decode cX9_does 16 = .ok (.goto 5, 3) := by decide +kernel
theorem dX9_does_19 : decode cX9_does 19 = .ok (.bipush (-2), 2) := by decide +kernel
theorem dX9_does_21 : decode cX9_does 21 = .ok (.ireturn, 1) := by decide +kernel
theorem dX9_startOf_0 : decode cX9_startOf 0 = .ok (.iload_n 1, 1) := by decide +kernel
theorem dX9_startOf_1 : decode cX9_startOf 1 = .ok (.iload_n 2, 1) := by decide +kernel
theorem dX9_startOf_2 : decode cX9_startOf 2 = .ok (.if_icmp .ge 19, 3) := by decide +kernel
theorem dX9_startOf_5 : decode cX9_startOf 5 = .ok (.aload_n 0, 1) := by decide +kernel
theorem dX9_startOf_6 : decode cX9_startOf 6 = .ok (.getfield 38, 3) := by decide +kernel
theorem dX9_startOf_9 : decode cX9_startOf 9 = .ok (.iconst 0, 1) := by decide +kernel
theorem dX9_startOf_10 : decode cX9_startOf 10 = .ok (.iaload, 1) := by decide +kernel
theorem dX9_startOf_11 : decode cX9_startOf 11 = .ok (.bipush 10, 2) := by decide +kernel
theorem dX9_startOf_13 : decode cX9_startOf 13 = .ok (.iload_n 2, 1) := by decide +kernel
theorem dX9_startOf_14 : decode cX9_startOf 14 = .ok (.iload_n 1, 1) := by decide +kernel
theorem dX9_startOf_15 : decode cX9_startOf 15 = .ok (.isub, 1) := by decide +kernel
theorem dX9_startOf_16 : decode cX9_startOf 16 = .ok (.imul, 1) := by decide +kernel
theorem dX9_startOf_17 : decode cX9_startOf 17 = .ok (.iadd, 1) := by decide +kernel
theorem dX9_startOf_18 : decode cX9_startOf 18 = .ok (.goto 18, 3) := by decide +kernel
theorem dX9_startOf_21 : decode cX9_startOf 21 = .ok (.iload_n 1, 1) := by decide +kernel
theorem dX9_startOf_22 : decode cX9_startOf 22 = .ok (.iload_n 2, 1) := by decide +kernel
theorem dX9_startOf_23 : decode cX9_startOf 23 = .ok (.if_icmp .ne 12, 3) := by decide +kernel
theorem dX9_startOf_26 : decode cX9_startOf 26 = .ok (.aload_n 0, 1) := by decide +kernel
theorem dX9_startOf_27 : decode cX9_startOf 27 = .ok (.getfield 38, 3) := by decide +kernel
theorem dX9_startOf_30 : decode cX9_startOf 30 = .ok (.iconst 0, 1) := by decide +kernel
theorem dX9_startOf_31 : decode cX9_startOf 31 = .ok (.iaload, 1) := by decide +kernel
theorem dX9_startOf_32 : decode cX9_startOf 32 = .ok (.goto 4, 3) := by decide +kernel
theorem dX9_startOf_35 : decode cX9_startOf 35 = .ok (.iconst 0, 1) := by decide +kernel
theorem dX9_startOf_36 : decode cX9_startOf 36 = .ok (.istore_n 3, 1) := by decide +kernel
theorem dX9_startOf_37 : decode cX9_startOf 37 = .ok (.iload_n 2, 1) := by decide +kernel
theorem dX9_startOf_38 : decode cX9_startOf 38 = .ok (.iload_n 1, 1) := by decide +kernel
theorem dX9_startOf_39 : decode cX9_startOf 39 = .ok (.if_icmp .ge 19, 3) := by decide +kernel
theorem dX9_startOf_42 : decode cX9_startOf 42 = .ok (.aload_n 0, 1) := by decide +kernel
theorem dX9_startOf_43 : decode cX9_startOf 43 = .ok (.getfield 38, 3) := by decide +kernel
theorem dX9_startOf_46 : decode cX9_startOf 46 = .ok (.iconst 3, 1) := by decide +kernel
theorem dX9_startOf_47 : decode cX9_startOf 47 = .ok (.iaload, 1) := by decide +kernel
theorem dX9_startOf_48 : decode cX9_startOf 48 = .ok (.bipush 10, 2) := by decide +kernel
theorem dX9_startOf_50 : decode cX9_startOf 50 = .ok (.iload_n 1, 1) := by decide +kernel
theorem dX9_startOf_51 : decode cX9_startOf 51 = .ok (.iload_n 2, 1) := by decide +kernel
theorem dX9_startOf_52 : decode cX9_startOf 52 = .ok (.isub, 1) := by decide +kernel
theorem dX9_startOf_53 : decode cX9_startOf 53 = .ok (.imul, 1) := by decide +kernel
theorem dX9_startOf_54 : decode cX9_startOf 54 = .ok (.iadd, 1) := by decide +kernel
theorem dX9_startOf_55 : decode cX9_startOf 55 = .ok (.goto 18, 3) := by decide +kernel
theorem dX9_startOf_58 : decode cX9_startOf 58 = .ok (.iload_n 1, 1) := by decide +kernel
theorem dX9_startOf_59 : decode cX9_startOf 59 = .ok (.iload_n 2, 1) := by decide +kernel
theorem dX9_startOf_60 : decode cX9_startOf 60 = .ok (.if_icmp .ne 12, 3) := by decide +kernel
theorem dX9_startOf_63 : decode cX9_startOf 63 = .ok (.aload_n 0, 1) := by decide +kernel
theorem dX9_startOf_64 : decode cX9_startOf 64 = .ok (.getfield 38, 3) := by decide +kernel
theorem dX9_startOf_67 : decode cX9_startOf 67 = .ok (.iconst 3, 1) := by decide +kernel
theorem dX9_startOf_68 : decode cX9_startOf 68 = .ok (.iaload, 1) := by decide +kernel
theorem dX9_startOf_69 : decode cX9_startOf 69 = .ok (.goto 4, 3) := by decide +kernel
theorem dX9_startOf_72 : decode cX9_startOf 72 = .ok (.iconst 0, 1) := by decide +kernel
theorem dX9_startOf_73 : decode cX9_startOf 73 = .ok (.istore 4, 2) := by decide +kernel
theorem dX9_startOf_75 : decode cX9_startOf 75 = .ok (.aload_n 0, 1) := by decide +kernel
theorem dX9_startOf_76 : decode cX9_startOf 76 = .ok (.iload_n 3, 1) := by decide +kernel
theorem dX9_startOf_77 : decode cX9_startOf 77 = .ok (.iload 4, 2) := by decide +kernel
theorem dX9_startOf_79 : decode cX9_startOf 79 = .ok (.invokevirtual 184, 3) := by decide +kernel
theorem dX9_startOf_82 : decode cX9_startOf 82 = .ok (.ifCond .eq 7, 3) := by decide +kernel
theorem dX9_startOf_85 : decode cX9_startOf 85 = .ok (.iconst 1, 1) := by decide +kernel
theorem dX9_startOf_86 : decode cX9_startOf 86 = .ok (.goto 19, 3) := by decide +kernel
theorem dX9_startOf_89 : decode cX9_startOf 89 = .ok (.aload_n 0, 1) := by decide +kernel
theorem dX9_startOf_90 : decode cX9_startOf 90 = .ok (.iload_n 3, 1) := by decide +kernel
theorem dX9_startOf_91 : decode cX9_startOf 91 = .ok (.iload 4, 2) := by decide +kernel
theorem dX9_startOf_93 : decode cX9_startOf 93 = .ok (.invokevirtual 191, 3) := by decide +kernel
theorem dX9_startOf_96 : decode cX9_startOf 96 = .ok (.iconst (-1), 1) := by decide +kernel
theorem dX9_startOf_97 : decode cX9_startOf 97 = .ok (.if_icmp .eq 7, 3) := by decide +kernel
theorem dX9_startOf_100 : decode cX9_startOf 100 = .ok (.iconst 2, 1) := by decide +kernel
theorem dX9_startOf_101 : decode cX9_startOf 101 = .ok (.goto 4, 3) := by decide +kernel
theorem dX9_startOf_104 : decode cX9_startOf 104 = .ok (.iconst 0, 1) := by decide +kernel
theorem dX9_startOf_105 : decode cX9_startOf 105 = .ok (.ireturn, 1) := by decide +kernel
theorem dX9_start_0 : decode cX9_start 0 = .ok (.aload_n 0, 1) := by decide +kernel
theorem dX9_start_1 : decode cX9_start 1 = .ok (.invokevirtual 128, 3) := by decide +kernel
theorem dX9_start_4 : decode cX9_start 4 = .ok (.iload_n 1, 1) := by decide +kernel
theorem dX9_start_5 : decode cX9_start 5 = .ok (.i2l, 1) := by decide +kernel
theorem dX9_start_6 : decode cX9_start 6 = .ok (.lconst 0, 1) := by decide +kernel
theorem dX9_start_7 : decode cX9_start 7 = .ok (.ldc2_w 116, 3) := by decide +kernel
theorem dX9_start_10 : decode cX9_start 10 = .ok (.invokestatic 73, 3) := by decide +kernel
theorem dX9_start_13 : decode cX9_start 13 = .ok (.ifCond .eq 24, 3) := by decide +kernel
theorem dX9_start_16 : decode cX9_start 16 = .ok (.iload_n 2, 1) := by decide +kernel
theorem dX9_start_17 : decode cX9_start 17 = .ok (.i2l, 1) := by decide +kernel
theorem dX9_start_18 : decode cX9_start 18 = .ok (.lconst 0, 1) := by decide +kernel
theorem dX9_start_19 : decode cX9_start 19 = .ok (.ldc2_w 116, 3) := by decide +kernel
theorem dX9_start_22 : decode cX9_start 22 = .ok (.invokestatic 73, 3) := by decide +kernel
theorem dX9_start_25 : decode cX9_start 25 = .ok (.ifCond .eq 12, 3) := by decide +kernel
theorem dX9_start_28 : decode cX9_start 28 = .ok (.aload_n 0, 1) := by decide +kernel
theorem dX9_start_29 : decode cX9_start 29 = .ok (.iload_n 1, 1) := by decide +kernel
theorem dX9_start_30 : decode cX9_start 30 = .ok (.iload_n 2, 1) := by decide +kernel
theorem dX9_start_31 : decode cX9_start 31 = .ok (.invokevirtual 212, 3) := by decide +kernel
theorem dX9_start_34 : decode cX9_start 34 = .ok (.goto 5, 3) := by decide +kernel
theorem dX9_start_37 : decode cX9_start 37 = .ok (.bipush (-2), 2) := by decide +kernel
theorem dX9_start_39 : decode cX9_start 39 = .ok (.ireturn, 1) := by decide +kernel
theorem dX9_safeOf_0 : decode cX9_safeOf 0 = .ok (.iconst 0, 1) := by decide +kernel
theorem dX9_safeOf_1 : decode cX9_safeOf 1 = .ok (.istore_n 2, 1) := by decide +kernel
theorem dX9_safeOf_2 : decode cX9_safeOf 2 = .ok (.iconst (-1), 1) := by decide +kernel
theorem dX9_safeOf_3 : decode cX9_safeOf 3 = .ok (.istore_n 3, 1) := by decide +kernel
theorem dX9_safeOf_4 : decode cX9_safeOf 4 = .ok (.bipush 99, 2) := by decide +kernel
theorem dX9_safeOf_6 : decode cX9_safeOf 6 = .ok (.istore 4, 2) := by decide +kernel
theorem dX9_safeOf_8 : decode cX9_safeOf 8 = .ok (.iload 4, 2) := by decide +kernel
theorem dX9_safeOf_10 : decode cX9_safeOf 10 = .ok (.ifCond .lt 58, 3) := by decide +kernel
theorem dX9_safeOf_13 : decode cX9_safeOf 13 = .ok (.aload_n 0, 1) := by decide +kernel
theorem dX9_safeOf_14 : decode cX9_safeOf 14 = .ok (.iload 4, 2) := by decide +kernel
theorem dX9_safeOf_16 : decode cX9_safeOf 16 = .ok (.bipush 10, 2) := by decide +kernel
theorem dX9_safeOf_18 : decode cX9_safeOf 18 = .ok (.idiv, 1) := by decide +kernel
theorem dX9_safeOf_19 : decode cX9_safeOf 19 = .ok (.iload 4, 2) := by decide +kernel
theorem dX9_safeOf_21 : decode cX9_safeOf 21 = .ok (.bipush 10, 2) := by decide +kernel
theorem dX9_safeOf_23 : decode cX9_safeOf 23 = .ok (.irem, 1) := by decide +kernel
theorem dX9_safeOf_24 : decode cX9_safeOf 24 = .ok (.invokevirtual 212, 3) := by decide +kernel
theorem dX9_safeOf_27 : decode cX9_safeOf 27 = .ok (.ifCond .ne 7, 3) := by decide +kernel
theorem dX9_safeOf_30 : decode cX9_safeOf 30 = .ok (.iconst 1, 1) := by decide +kernel
theorem dX9_safeOf_31 : decode cX9_safeOf 31 = .ok (.goto 4, 3) := by decide +kernel
theorem dX9_safeOf_34 : decode cX9_safeOf 34 = .ok (.iconst 0, 1) := by decide +kernel
theorem dX9_safeOf_35 : decode cX9_safeOf 35 = .ok (.istore 5, 2) := by decide +kernel
theorem dX9_safeOf_37 : decode cX9_safeOf 37 = .ok (.iload_n 2, 1) := by decide +kernel
theorem dX9_safeOf_38 : decode cX9_safeOf 38 = .ok (.iload 5, 2) := by decide +kernel
theorem dX9_safeOf_40 : decode cX9_safeOf 40 = .ok (.ifCond .eq 7, 3) := by decide +kernel
theorem dX9_safeOf_43 : decode cX9_safeOf 43 = .ok (.iconst 1, 1) := by decide +kernel
theorem dX9_safeOf_44 : decode cX9_safeOf 44 = .ok (.goto 4, 3) := by decide +kernel
theorem dX9_safeOf_47 : decode cX9_safeOf 47 = .ok (.iconst 0, 1) := by decide +kernel
theorem dX9_safeOf_48 : decode cX9_safeOf 48 = .ok (.iadd, 1) := by decide +kernel
theorem dX9_safeOf_49 : decode cX9_safeOf 49 = .ok (.istore_n 2, 1) := by decide +kernel
theorem dX9_safeOf_50 : decode cX9_safeOf 50 = .ok (.iload 5, 2) := by decide +kernel
theorem dX9_safeOf_52 : decode cX9_safeOf 52 = .ok (.ifCond .eq 8, 3) := by decide +kernel
theorem dX9_safeOf_55 : decode cX9_safeOf 55 = .ok (.iload 4, 2) := by decide +kernel
theorem dX9_safeOf_57 : decode cX9_safeOf 57 = .ok (.goto 4, 3) := by decide +kernel
theorem dX9_safeOf_60 : decode cX9_safeOf 60 = .ok (.iload_n 3, 1) := by decide +kernel
theorem dX9_safeOf_61 : decode cX9_safeOf 61 = .ok (.istore_n 3, 1) := by decide +kernel
theorem dX9_safeOf_62 : decode cX9_safeOf 62 = .ok (.iinc 4 (-1), 3) := by decide +kernel
theorem dX9_safeOf_65 : decode cX9_safeOf 65 = .ok (.goto (-57), 3) := by decide +kernel
theorem dX9_safeOf_68 : decode cX9_safeOf 68 = .ok (.iload_n 1, 1) := by decide +kernel
theorem dX9_safeOf_69 : decode cX9_safeOf 69 = .ok (.ifCond .ne 7, 3) := by decide +kernel
theorem dX9_safeOf_72 : decode cX9_safeOf 72 = .ok (.iload_n 2, 1) := by decide +kernel
theorem dX9_safeOf_73 : decode cX9_safeOf 73 = .ok (.goto 4, 3) := by decide +kernel
theorem dX9_safeOf_76 : decode cX9_safeOf 76 = .ok (.iload_n 3, 1) := by decide +kernel
theorem dX9_safeOf_77 : decode cX9_safeOf 77 = .ok (.ireturn, 1) := by decide +kernel
theorem dX9_safe_0 : decode cX9_safe 0 = .ok (.aload_n 0, 1) := by decide +kernel
theorem dX9_safe_1 : decode cX9_safe 1 = .ok (.invokevirtual 128, 3) := by decide +kernel
theorem dX9_safe_4 : decode cX9_safe 4 = .ok (.iload_n 1, 1) := by decide +kernel
theorem dX9_safe_5 : decode cX9_safe 5 = .ok (.invokestatic 105, 3) := by decide +kernel
theorem dX9_safe_8 : decode cX9_safe 8 = .ok (.ifCond .eq 11, 3) := by decide +kernel
theorem dX9_safe_11 : decode cX9_safe 11 = .ok (.aload_n 0, 1) := by decide +kernel
theorem dX9_safe_12 : decode cX9_safe 12 = .ok (.iload_n 1, 1) := by decide +kernel
theorem dX9_safe_13 : decode cX9_safe 13 = .ok (.invokevirtual 215, 3) := by decide +kernel
theorem dX9_safe_16 : decode cX9_safe 16 = .ok (.goto 5, 3) := by decide +kernel
theorem dX9_safe_19 : decode cX9_safe 19 = .ok (.bipush (-2), 2) := by decide +kernel
theorem dX9_safe_21 : decode cX9_safe 21 = .ok (.ireturn, 1) := by decide +kernel
theorem dX9_unfolds_0 : decode cX9_unfolds 0 = .ok (.iload_n 1, 1) := by decide +kernel
theorem dX9_unfolds_1 : decode cX9_unfolds 1 = .ok (.istore_n 2, 1) := by decide +kernel
theorem dX9_unfolds_2 : decode cX9_unfolds 2 = .ok (.aload_n 0, 1) := by decide +kernel
theorem dX9_unfolds_3 : decode cX9_unfolds 3 = .ok (.getfield 110, 3) := by decide +kernel
theorem dX9_unfolds_6 : decode cX9_unfolds 6 = .ok (.iconst 1, 1) := by decide +kernel
theorem dX9_unfolds_7 : decode cX9_unfolds 7 = .ok (.isub, 1) := by decide +kernel
theorem dX9_unfolds_8 : decode cX9_unfolds 8 = .ok (.istore_n 3, 1) := by decide +kernel
theorem dX9_unfolds_9 : decode cX9_unfolds 9 = .ok (.iload_n 3, 1) := by decide +kernel
theorem dX9_unfolds_10 : decode cX9_unfolds 10 = .ok (.ifCond .lt 32, 3) := by decide +kernel
theorem dX9_unfolds_13 : decode cX9_unfolds 13 = .ok (.aload_n 0, 1) := by decide +kernel
theorem dX9_unfolds_14 : decode cX9_unfolds 14 = .ok (.getfield 56, 3) := by decide +kernel
theorem dX9_unfolds_17 : decode cX9_unfolds 17 = .ok (.iload_n 3, 1) := by decide +kernel
theorem dX9_unfolds_18 : decode cX9_unfolds 18 = .ok (.iload_n 2, 1) := by decide +kernel
theorem dX9_unfolds_19 : decode cX9_unfolds 19 = .ok (.aload_n 0, 1) := by decide +kernel
theorem dX9_unfolds_20 : decode cX9_unfolds 20 = .ok (.getfield 110, 3) := by decide +kernel
theorem dX9_unfolds_23 : decode cX9_unfolds 23 = .ok (.iload_n 3, 1) := by decide +kernel
theorem dX9_unfolds_24 : decode cX9_unfolds 24 = .ok (.isub, 1) := by decide +kernel
theorem dX9_unfolds_25 : decode cX9_unfolds 25 = .ok (.irem, 1) := by decide +kernel
theorem dX9_unfolds_26 : decode cX9_unfolds 26 = .ok (.iastore, 1) := by decide +kernel
theorem dX9_unfolds_27 : decode cX9_unfolds 27 = .ok (.iload_n 2, 1) := by decide +kernel
theorem dX9_unfolds_28 : decode cX9_unfolds 28 = .ok (.aload_n 0, 1) := by decide +kernel
theorem dX9_unfolds_29 : decode cX9_unfolds 29 = .ok (.getfield 110, 3) := by decide +kernel
theorem dX9_unfolds_32 : decode cX9_unfolds 32 = .ok (.iload_n 3, 1) := by decide +kernel
theorem dX9_unfolds_33 : decode cX9_unfolds 33 = .ok (.isub, 1) := by decide +kernel
theorem dX9_unfolds_34 : decode cX9_unfolds 34 = .ok (.idiv, 1) := by decide +kernel
theorem dX9_unfolds_35 : decode cX9_unfolds 35 = .ok (.istore_n 2, 1) := by decide +kernel
theorem dX9_unfolds_36 : decode cX9_unfolds 36 = .ok (.iinc 3 (-1), 3) := by decide +kernel
theorem dX9_unfolds_39 : decode cX9_unfolds 39 = .ok (.goto (-30), 3) := by decide +kernel
theorem dX9_unfolds_42 : decode cX9_unfolds 42 = .ok (.aload_n 0, 1) := by decide +kernel
theorem dX9_unfolds_43 : decode cX9_unfolds 43 = .ok (.getfield 110, 3) := by decide +kernel
theorem dX9_unfolds_46 : decode cX9_unfolds 46 = .ok (.iconst 1, 1) := by decide +kernel
theorem dX9_unfolds_47 : decode cX9_unfolds 47 = .ok (.isub, 1) := by decide +kernel
theorem dX9_unfolds_48 : decode cX9_unfolds 48 = .ok (.istore_n 3, 1) := by decide +kernel
theorem dX9_unfolds_49 : decode cX9_unfolds 49 = .ok (.iload_n 3, 1) := by decide +kernel
theorem dX9_unfolds_50 : decode cX9_unfolds 50 = .ok (.ifCond .lt 60, 3) := by decide +kernel
theorem dX9_unfolds_53 : decode cX9_unfolds 53 = .ok (.iload_n 3, 1) := by decide +kernel
theorem dX9_unfolds_54 : decode cX9_unfolds 54 = .ok (.iconst 1, 1) := by decide +kernel
theorem dX9_unfolds_55 : decode cX9_unfolds 55 = .ok (.iadd, 1) := by decide +kernel
theorem dX9_unfolds_56 : decode cX9_unfolds 56 = .ok (.istore 4, 2) := by decide +kernel
theorem dX9_unfolds_58 : decode cX9_unfolds 58 = .ok (.iload 4, 2) := by decide +kernel
theorem dX9_unfolds_60 : decode cX9_unfolds 60 = .ok (.aload_n 0, 1) := by decide +kernel
theorem dX9_unfolds_61 : decode cX9_unfolds 61 = .ok (.getfield 110, 3) := by decide +kernel
theorem dX9_unfolds_64 : decode cX9_unfolds 64 = .ok (.if_icmp .ge 40, 3) := by decide +kernel
theorem dX9_unfolds_67 : decode cX9_unfolds 67 = .ok (.aload_n 0, 1) := by decide +kernel
theorem dX9_unfolds_68 : decode cX9_unfolds 68 = .ok (.getfield 56, 3) := by decide +kernel
theorem dX9_unfolds_71 : decode cX9_unfolds 71 = .ok (.iload 4, 2) := by decide +kernel
theorem dX9_unfolds_73 : decode cX9_unfolds 73 = .ok (.dup2, 1) := by decide +kernel
theorem dX9_unfolds_74 : decode cX9_unfolds 74 = .ok (.iaload, 1) := by decide +kernel
theorem dX9_unfolds_75 : decode cX9_unfolds 75 = .ok (.aload_n 0, 1) := by decide +kernel
theorem dX9_unfolds_76 : decode cX9_unfolds 76 = .ok (.getfield 56, 3) := by decide +kernel
theorem dX9_unfolds_79 : decode cX9_unfolds 79 = .ok (.iload 4, 2) := by decide +kernel
theorem dX9_unfolds_81 : decode cX9_unfolds 81 = .ok (.iaload, 1) := by decide +kernel
theorem dX9_unfolds_82 : decode cX9_unfolds 82 = .ok (.aload_n 0, 1) := by decide +kernel
theorem dX9_unfolds_83 : decode cX9_unfolds 83 = .ok (.getfield 56, 3) := by decide +kernel
theorem dX9_unfolds_86 : decode cX9_unfolds 86 = .ok (.iload_n 3, 1) := by decide +kernel
theorem dX9_unfolds_87 : decode cX9_unfolds 87 = .ok (.iaload, 1) := by decide +kernel
theorem dX9_unfolds_88 : decode cX9_unfolds 88 = .ok (.if_icmp .lt 7, 3) := by decide +kernel
theorem dX9_unfolds_91 : decode cX9_unfolds 91 = .ok (.iconst 1, 1) := by decide +kernel
theorem dX9_unfolds_92 : decode cX9_unfolds 92 = .ok (.goto 4, 3) := by decide +kernel
theorem dX9_unfolds_95 : decode cX9_unfolds 95 = .ok (.iconst 0, 1) := by decide +kernel
theorem dX9_unfolds_96 : decode cX9_unfolds 96 = .ok (.iadd, 1) := by decide +kernel
theorem dX9_unfolds_97 : decode cX9_unfolds 97 = .ok (.iastore, 1) := by decide +kernel
theorem dX9_unfolds_98 : decode cX9_unfolds 98 = .ok (.iinc 4 1, 3) := by decide +kernel
theorem dX9_unfolds_101 : decode cX9_unfolds 101 = .ok (.goto (-43), 3) := by decide +kernel
theorem dX9_unfolds_104 : decode cX9_unfolds 104 = .ok (.iinc 3 (-1), 3) := by decide +kernel
theorem dX9_unfolds_107 : decode cX9_unfolds 107 = .ok (.goto (-58), 3) := by decide +kernel
theorem dX9_unfolds_110 : decode cX9_unfolds 110 = .ok (.return_, 1) := by decide +kernel
theorem dX9_squeezes_0 : decode cX9_squeezes 0 = .ok (.aload_n 0, 1) := by decide +kernel
theorem dX9_squeezes_1 : decode cX9_squeezes 1 = .ok (.iconst 0, 1) := by decide +kernel
theorem dX9_squeezes_2 : decode cX9_squeezes 2 = .ok (.putfield 218, 3) := by decide +kernel
theorem dX9_squeezes_5 : decode cX9_squeezes 5 = .ok (.aload_n 0, 1) := by decide +kernel
theorem dX9_squeezes_6 : decode cX9_squeezes 6 = .ok (.iconst 1, 1) := by decide +kernel
theorem dX9_squeezes_7 : decode cX9_squeezes 7 = .ok (.putfield 221, 3) := by decide +kernel
theorem dX9_squeezes_10 : decode cX9_squeezes 10 = .ok (.iconst 0, 1) := by decide +kernel
theorem dX9_squeezes_11 : decode cX9_squeezes 11 = .ok (.istore_n 1, 1) := by decide +kernel
theorem dX9_squeezes_12 : decode cX9_squeezes 12 = .ok (.iconst 0, 1) := by decide +kernel
theorem dX9_squeezes_13 : decode cX9_squeezes 13 = .ok (.istore_n 2, 1) := by decide +kernel
theorem dX9_squeezes_14 : decode cX9_squeezes 14 = .ok (.iload_n 2, 1) := by decide +kernel
theorem dX9_squeezes_15 : decode cX9_squeezes 15 = .ok (.aload_n 0, 1) := by decide +kernel
theorem dX9_squeezes_16 : decode cX9_squeezes 16 = .ok (.getfield 110, 3) := by decide +kernel
theorem dX9_squeezes_19 : decode cX9_squeezes 19 = .ok (.if_icmp .ge 116, 3) := by decide +kernel
theorem dX9_squeezes_22 : decode cX9_squeezes 22 = .ok (.aload_n 0, 1) := by decide +kernel
theorem dX9_squeezes_23 : decode cX9_squeezes 23 = .ok (.getfield 28, 3) := by decide +kernel
theorem dX9_squeezes_26 : decode cX9_squeezes 26 = .ok (.aload_n 0, 1) := by decide +kernel
theorem dX9_squeezes_27 : decode cX9_squeezes 27 = .ok (.getfield 56, 3) := by decide +kernel
theorem dX9_squeezes_30 : decode cX9_squeezes 30 = .ok (.iload_n 2, 1) := by decide +kernel
theorem dX9_squeezes_31 : decode cX9_squeezes 31 = .ok (.iaload, 1) := by decide +kernel
theorem dX9_squeezes_32 : decode cX9_squeezes 32 = .ok (.iaload, 1) := by decide +kernel
theorem dX9_squeezes_33 : decode cX9_squeezes 33 = .ok (.istore_n 3, 1) := by decide +kernel
theorem dX9_squeezes_34 : decode cX9_squeezes 34 = .ok (.aload_n 0, 1) := by decide +kernel
theorem dX9_squeezes_35 : decode cX9_squeezes 35 = .ok (.getfield 38, 3) := by decide +kernel
theorem dX9_squeezes_38 : decode cX9_squeezes 38 = .ok (.iconst 0, 1) := by decide +kernel
theorem dX9_squeezes_39 : decode cX9_squeezes 39 = .ok (.iaload, 1) := by decide +kernel
theorem dX9_squeezes_40 : decode cX9_squeezes 40 = .ok (.aload_n 0, 1) := by decide +kernel
theorem dX9_squeezes_41 : decode cX9_squeezes 41 = .ok (.getfield 38, 3) := by decide +kernel
theorem dX9_squeezes_44 : decode cX9_squeezes 44 = .ok (.iconst 3, 1) := by decide +kernel
theorem dX9_squeezes_45 : decode cX9_squeezes 45 = .ok (.iaload, 1) := by decide +kernel
theorem dX9_squeezes_46 : decode cX9_squeezes 46 = .ok (.iadd, 1) := by decide +kernel
theorem dX9_squeezes_47 : decode cX9_squeezes 47 = .ok (.iload_n 1, 1) := by decide +kernel
theorem dX9_squeezes_48 : decode cX9_squeezes 48 = .ok (.imul, 1) := by decide +kernel
theorem dX9_squeezes_49 : decode cX9_squeezes 49 = .ok (.aload_n 0, 1) := by decide +kernel
theorem dX9_squeezes_50 : decode cX9_squeezes 50 = .ok (.getfield 38, 3) := by decide +kernel
theorem dX9_squeezes_53 : decode cX9_squeezes 53 = .ok (.iconst 0, 1) := by decide +kernel
theorem dX9_squeezes_54 : decode cX9_squeezes 54 = .ok (.iaload, 1) := by decide +kernel
theorem dX9_squeezes_55 : decode cX9_squeezes 55 = .ok (.aload_n 0, 1) := by decide +kernel
theorem dX9_squeezes_56 : decode cX9_squeezes 56 = .ok (.getfield 113, 3) := by decide +kernel
theorem dX9_squeezes_59 : decode cX9_squeezes 59 = .ok (.imul, 1) := by decide +kernel
theorem dX9_squeezes_60 : decode cX9_squeezes 60 = .ok (.isub, 1) := by decide +kernel
theorem dX9_squeezes_61 : decode cX9_squeezes 61 = .ok (.iconst 0, 1) := by decide +kernel
theorem dX9_squeezes_62 : decode cX9_squeezes 62 = .ok (.invokestatic 224, 3) := by decide +kernel
theorem dX9_squeezes_65 : decode cX9_squeezes 65 = .ok (.istore 4, 2) := by decide +kernel
theorem dX9_squeezes_67 : decode cX9_squeezes 67 = .ok (.iload 4, 2) := by decide +kernel
theorem dX9_squeezes_69 : decode cX9_squeezes 69 = .ok (.aload_n 0, 1) := by decide +kernel
theorem dX9_squeezes_70 : decode cX9_squeezes 70 = .ok (.getfield 221, 3) := by decide +kernel
theorem dX9_squeezes_73 : decode cX9_squeezes 73 = .ok (.imul, 1) := by decide +kernel
theorem dX9_squeezes_74 : decode cX9_squeezes 74 = .ok (.aload_n 0, 1) := by decide +kernel
theorem dX9_squeezes_75 : decode cX9_squeezes 75 = .ok (.getfield 218, 3) := by decide +kernel
theorem dX9_squeezes_78 : decode cX9_squeezes 78 = .ok (.iload_n 3, 1) := by decide +kernel
theorem dX9_squeezes_79 : decode cX9_squeezes 79 = .ok (.imul, 1) := by decide +kernel
theorem dX9_squeezes_80 : decode cX9_squeezes 80 = .ok (.if_icmp .le 7, 3) := by decide +kernel
theorem dX9_squeezes_83 : decode cX9_squeezes 83 = .ok (.iconst 1, 1) := by decide +kernel
theorem dX9_squeezes_84 : decode cX9_squeezes 84 = .ok (.goto 4, 3) := by decide +kernel
theorem dX9_squeezes_87 : decode cX9_squeezes 87 = .ok (.iconst 0, 1) := by decide +kernel
theorem dX9_squeezes_88 : decode cX9_squeezes 88 = .ok (.istore 5, 2) := by decide +kernel
theorem dX9_squeezes_90 : decode cX9_squeezes 90 = .ok (.aload_n 0, 1) := by decide +kernel
theorem dX9_squeezes_91 : decode cX9_squeezes 91 = .ok (.iload 5, 2) := by decide +kernel
theorem dX9_squeezes_93 : decode cX9_squeezes 93 = .ok (.ifCond .eq 8, 3) := by decide +kernel
theorem dX9_squeezes_96 : decode cX9_squeezes 96 = .ok (.iload 4, 2) := by decide +kernel
theorem dX9_squeezes_98 : decode cX9_squeezes 98 = .ok (.goto 7, 3) := by decide +kernel
theorem dX9_squeezes_101 : decode cX9_squeezes 101 = .ok (.aload_n 0, 1) := by decide +kernel
theorem dX9_squeezes_102 : decode cX9_squeezes 102 = .ok (.getfield 218, 3) := by decide +kernel
theorem dX9_squeezes_105 : decode cX9_squeezes 105 = .ok (.putfield 218, 3) := by decide +kernel
theorem dX9_squeezes_108 : decode cX9_squeezes 108 = .ok (.aload_n 0, 1) := by decide +kernel
theorem dX9_squeezes_109 : decode cX9_squeezes 109 = .ok (.iload 5, 2) := by decide +kernel
theorem dX9_squeezes_111 : decode cX9_squeezes 111 = .ok (.ifCond .eq 7, 3) := by decide +kernel
theorem dX9_squeezes_114 : decode cX9_squeezes 114 = .ok (.iload_n 3, 1) := by decide +kernel
theorem dX9_squeezes_115 : decode cX9_squeezes 115 = .ok (.goto 7, 3) := by decide +kernel
theorem dX9_squeezes_118 : decode cX9_squeezes 118 = .ok (.aload_n 0, 1) := by decide +kernel
theorem dX9_squeezes_119 : decode cX9_squeezes 119 = .ok (.getfield 221, 3) := by decide +kernel
theorem dX9_squeezes_122 : decode cX9_squeezes 122 = .ok (.putfield 221, 3) := by decide +kernel
theorem dX9_squeezes_125 : decode cX9_squeezes 125 = .ok (.iload_n 1, 1) := by decide +kernel
theorem dX9_squeezes_126 : decode cX9_squeezes 126 = .ok (.iload_n 3, 1) := by decide +kernel
theorem dX9_squeezes_127 : decode cX9_squeezes 127 = .ok (.iadd, 1) := by decide +kernel
theorem dX9_squeezes_128 : decode cX9_squeezes 128 = .ok (.istore_n 1, 1) := by decide +kernel
theorem dX9_squeezes_129 : decode cX9_squeezes 129 = .ok (.iinc 2 1, 3) := by decide +kernel
theorem dX9_squeezes_132 : decode cX9_squeezes 132 = .ok (.goto (-118), 3) := by decide +kernel
theorem dX9_squeezes_135 : decode cX9_squeezes 135 = .ok (.return_, 1) := by decide +kernel
theorem dX9_findOrder_0 : decode cX9_findOrder 0 = .ok (.aload_n 0, 1) := by decide +kernel
theorem dX9_findOrder_1 : decode cX9_findOrder 1 = .ok (.getfield 110, 3) := by decide +kernel
theorem dX9_findOrder_4 : decode cX9_findOrder 4 = .ok (.ifCond .eq 12, 3) := by decide +kernel
theorem dX9_findOrder_7 : decode cX9_findOrder 7 = .ok (.aload_n 0, 1) := by decide +kernel
theorem dX9_findOrder_8 : decode cX9_findOrder 8 = .ok (.getfield 110, 3) := by decide +kernel
theorem dX9_findOrder_11 : decode cX9_findOrder 11 = .ok (.bipush 6, 2) := by decide +kernel
theorem dX9_findOrder_13 : decode cX9_findOrder 13 = .ok (.if_icmp .le 7, 3) := by decide +kernel
theorem dX9_findOrder_16 : decode cX9_findOrder 16 = .ok (.iconst 0, 1) := by decide +kernel
theorem dX9_findOrder_17 : decode cX9_findOrder 17 = .ok (.goto 4, 3) := by decide +kernel
theorem dX9_findOrder_20 : decode cX9_findOrder 20 = .ok (.iconst 1, 1) := by decide +kernel
theorem dX9_findOrder_21 : decode cX9_findOrder 21 = .ok (.istore_n 1, 1) := by decide +kernel
theorem dX9_findOrder_22 : decode cX9_findOrder 22 = .ok (.iconst 2, 1) := by decide +kernel
theorem dX9_findOrder_23 : decode cX9_findOrder 23 = .ok (.istore_n 2, 1) := by decide +kernel
theorem dX9_findOrder_24 : decode cX9_findOrder 24 = .ok (.iload_n 2, 1) := by decide +kernel
theorem dX9_findOrder_25 : decode cX9_findOrder 25 = .ok (.aload_n 0, 1) := by decide +kernel
theorem dX9_findOrder_26 : decode cX9_findOrder 26 = .ok (.getfield 110, 3) := by decide +kernel
theorem dX9_findOrder_29 : decode cX9_findOrder 29 = .ok (.if_icmp .gt 13, 3) := by decide +kernel
theorem dX9_findOrder_32 : decode cX9_findOrder 32 = .ok (.iload_n 1, 1) := by decide +kernel
theorem dX9_findOrder_33 : decode cX9_findOrder 33 = .ok (.iload_n 2, 1) := by decide +kernel
theorem dX9_findOrder_34 : decode cX9_findOrder 34 = .ok (.imul, 1) := by decide +kernel
theorem dX9_findOrder_35 : decode cX9_findOrder 35 = .ok (.istore_n 1, 1) := by decide +kernel
theorem dX9_findOrder_36 : decode cX9_findOrder 36 = .ok (.iinc 2 1, 3) := by decide +kernel
theorem dX9_findOrder_39 : decode cX9_findOrder 39 = .ok (.goto (-15), 3) := by decide +kernel
theorem dX9_findOrder_42 : decode cX9_findOrder 42 = .ok (.aload_n 0, 1) := by decide +kernel
theorem dX9_findOrder_43 : decode cX9_findOrder 43 = .ok (.iconst 0, 1) := by decide +kernel
theorem dX9_findOrder_44 : decode cX9_findOrder 44 = .ok (.putfield 227, 3) := by decide +kernel
theorem dX9_findOrder_47 : decode cX9_findOrder 47 = .ok (.iconst 0, 1) := by decide +kernel
theorem dX9_findOrder_48 : decode cX9_findOrder 48 = .ok (.istore_n 2, 1) := by decide +kernel
theorem dX9_findOrder_49 : decode cX9_findOrder 49 = .ok (.iload_n 2, 1) := by decide +kernel
theorem dX9_findOrder_50 : decode cX9_findOrder 50 = .ok (.iload_n 1, 1) := by decide +kernel
theorem dX9_findOrder_51 : decode cX9_findOrder 51 = .ok (.if_icmp .ge 90, 3) := by decide +kernel
theorem dX9_findOrder_54 : decode cX9_findOrder 54 = .ok (.aload_n 0, 1) := by decide +kernel
theorem dX9_findOrder_55 : decode cX9_findOrder 55 = .ok (.iload_n 2, 1) := by decide +kernel
theorem dX9_findOrder_56 : decode cX9_findOrder 56 = .ok (.invokevirtual 230, 3) := by decide +kernel
theorem dX9_findOrder_59 : decode cX9_findOrder 59 = .ok (.aload_n 0, 1) := by decide +kernel
theorem dX9_findOrder_60 : decode cX9_findOrder 60 = .ok (.invokevirtual 234, 3) := by decide +kernel
theorem dX9_findOrder_63 : decode cX9_findOrder 63 = .ok (.aload_n 0, 1) := by decide +kernel
theorem dX9_findOrder_64 : decode cX9_findOrder 64 = .ok (.getfield 227, 3) := by decide +kernel
theorem dX9_findOrder_67 : decode cX9_findOrder 67 = .ok (.ifCond .eq 24, 3) := by decide +kernel
theorem dX9_findOrder_70 : decode cX9_findOrder 70 = .ok (.aload_n 0, 1) := by decide +kernel
theorem dX9_findOrder_71 : decode cX9_findOrder 71 = .ok (.getfield 218, 3) := by decide +kernel
theorem dX9_findOrder_74 : decode cX9_findOrder 74 = .ok (.aload_n 0, 1) := by decide +kernel
theorem dX9_findOrder_75 : decode cX9_findOrder 75 = .ok (.getfield 227, 3) := by decide +kernel
theorem dX9_findOrder_78 : decode cX9_findOrder 78 = .ok (.imul, 1) := by decide +kernel
theorem dX9_findOrder_79 : decode cX9_findOrder 79 = .ok (.aload_n 0, 1) := by decide +kernel
theorem dX9_findOrder_80 : decode cX9_findOrder 80 = .ok (.getfield 237, 3) := by decide +kernel
theorem dX9_findOrder_83 : decode cX9_findOrder 83 = .ok (.aload_n 0, 1) := by decide +kernel
theorem dX9_findOrder_84 : decode cX9_findOrder 84 = .ok (.getfield 221, 3) := by decide +kernel
theorem dX9_findOrder_87 : decode cX9_findOrder 87 = .ok (.imul, 1) := by decide +kernel
theorem dX9_findOrder_88 : decode cX9_findOrder 88 = .ok (.if_icmp .ge 47, 3) := by decide +kernel
theorem dX9_findOrder_91 : decode cX9_findOrder 91 = .ok (.aload_n 0, 1) := by decide +kernel
theorem dX9_findOrder_92 : decode cX9_findOrder 92 = .ok (.aload_n 0, 1) := by decide +kernel
theorem dX9_findOrder_93 : decode cX9_findOrder 93 = .ok (.getfield 218, 3) := by decide +kernel
theorem dX9_findOrder_96 : decode cX9_findOrder 96 = .ok (.putfield 237, 3) := by decide +kernel
theorem dX9_findOrder_99 : decode cX9_findOrder 99 = .ok (.aload_n 0, 1) := by decide +kernel
theorem dX9_findOrder_100 : decode cX9_findOrder 100 = .ok (.aload_n 0, 1) := by decide +kernel
theorem dX9_findOrder_101 : decode cX9_findOrder 101 = .ok (.getfield 221, 3) := by decide +kernel
theorem dX9_findOrder_104 : decode cX9_findOrder 104 = .ok (.putfield 227, 3) := by decide +kernel
theorem dX9_findOrder_107 : decode cX9_findOrder 107 = .ok (.iconst 0, 1) := by decide +kernel
theorem dX9_findOrder_108 : decode cX9_findOrder 108 = .ok (.istore_n 3, 1) := by decide +kernel
theorem dX9_findOrder_109 : decode cX9_findOrder 109 = .ok (.iload_n 3, 1) := by decide +kernel
theorem dX9_findOrder_110 : decode cX9_findOrder 110 = .ok (.aload_n 0, 1) := by decide +kernel
theorem dX9_findOrder_111 : decode cX9_findOrder 111 = .ok (.getfield 110, 3) := by decide +kernel
theorem dX9_findOrder_114 : decode cX9_findOrder 114 = .ok (.if_icmp .ge 21, 3) := by decide +kernel
theorem dX9_findOrder_117 : decode cX9_findOrder 117 = .ok (.aload_n 0, 1) := by decide +kernel
theorem dX9_findOrder_118 : decode cX9_findOrder 118 = .ok (.getfield 59, 3) := by decide +kernel
theorem dX9_findOrder_121 : decode cX9_findOrder 121 = .ok (.iload_n 3, 1) := by decide +kernel
theorem dX9_findOrder_122 : decode cX9_findOrder 122 = .ok (.aload_n 0, 1) := by decide +kernel
theorem dX9_findOrder_123 : decode cX9_findOrder 123 = .ok (.getfield 56, 3) := by decide +kernel
theorem dX9_findOrder_126 : decode cX9_findOrder 126 = .ok (.iload_n 3, 1) := by decide +kernel
theorem dX9_findOrder_127 : decode cX9_findOrder 127 = .ok (.iaload, 1) := by decide +kernel
theorem dX9_findOrder_128 : decode cX9_findOrder 128 = .ok (.iastore, 1) := by decide +kernel
theorem dX9_findOrder_129 : decode cX9_findOrder 129 = .ok (.iinc 3 1, 3) := by decide +kernel
theorem dX9_findOrder_132 : decode cX9_findOrder 132 = .ok (.goto (-23), 3) := by decide +kernel
theorem dX9_findOrder_135 : decode cX9_findOrder 135 = .ok (.iinc 2 1, 3) := by decide +kernel
theorem dX9_findOrder_138 : decode cX9_findOrder 138 = .ok (.goto (-89), 3) := by decide +kernel
theorem dX9_findOrder_141 : decode cX9_findOrder 141 = .ok (.return_, 1) := by decide +kernel
theorem dX9_tellsOrder_0 : decode cX9_tellsOrder 0 = .ok (.aload_n 0, 1) := by decide +kernel
theorem dX9_tellsOrder_1 : decode cX9_tellsOrder 1 = .ok (.getfield 227, 3) := by decide +kernel
theorem dX9_tellsOrder_4 : decode cX9_tellsOrder 4 = .ok (.ifCond .le 20, 3) := by decide +kernel
theorem dX9_tellsOrder_7 : decode cX9_tellsOrder 7 = .ok (.iload_n 1, 1) := by decide +kernel
theorem dX9_tellsOrder_8 : decode cX9_tellsOrder 8 = .ok (.aload_n 0, 1) := by decide +kernel
theorem dX9_tellsOrder_9 : decode cX9_tellsOrder 9 = .ok (.getfield 110, 3) := by decide +kernel
theorem dX9_tellsOrder_12 : decode cX9_tellsOrder 12 = .ok (.if_icmp .ge 12, 3) := by decide +kernel
theorem dX9_tellsOrder_15 : decode cX9_tellsOrder 15 = .ok (.aload_n 0, 1) := by decide +kernel
theorem dX9_tellsOrder_16 : decode cX9_tellsOrder 16 = .ok (.getfield 59, 3) := by decide +kernel
theorem dX9_tellsOrder_19 : decode cX9_tellsOrder 19 = .ok (.iload_n 1, 1) := by decide +kernel
theorem dX9_tellsOrder_20 : decode cX9_tellsOrder 20 = .ok (.iaload, 1) := by decide +kernel
theorem dX9_tellsOrder_21 : decode cX9_tellsOrder 21 = .ok (.goto 4, 3) := by decide +kernel
theorem dX9_tellsOrder_24 : decode cX9_tellsOrder 24 = .ok (.iconst (-1), 1) := by decide +kernel
theorem dX9_tellsOrder_25 : decode cX9_tellsOrder 25 = .ok (.ireturn, 1) := by decide +kernel
theorem dX9_tellsSqueeze_0 : decode cX9_tellsSqueeze 0 = .ok (.aload_n 0, 1) := by decide +kernel
theorem dX9_tellsSqueeze_1 : decode cX9_tellsSqueeze 1 = .ok (.getfield 227, 3) := by decide +kernel
theorem dX9_tellsSqueeze_4 : decode cX9_tellsSqueeze 4 = .ok (.ifCond .ne 12, 3) := by decide +kernel
theorem dX9_tellsSqueeze_7 : decode cX9_tellsSqueeze 7 = .ok (.lconst 0, 1) := by decide +kernel
theorem dX9_tellsSqueeze_8 : decode cX9_tellsSqueeze 8 = .ok (.lconst 1, 1) := by decide +kernel
theorem dX9_tellsSqueeze_9 : decode cX9_tellsSqueeze 9 = .ok (.iload_n 1, 1) := by decide +kernel
theorem dX9_tellsSqueeze_10 : decode cX9_tellsSqueeze 10 = .ok (.invokestatic 177, 3) := by decide +kernel
theorem dX9_tellsSqueeze_13 : decode cX9_tellsSqueeze 13 = .ok (.goto 23, 3) := by decide +kernel
theorem dX9_tellsSqueeze_16 : decode cX9_tellsSqueeze 16 = .ok (.aload_n 0, 1) := by decide +kernel
theorem dX9_tellsSqueeze_17 : decode cX9_tellsSqueeze 17 = .ok (.getfield 237, 3) := by decide +kernel
theorem dX9_tellsSqueeze_20 : decode cX9_tellsSqueeze 20 = .ok (.i2l, 1) := by decide +kernel
theorem dX9_tellsSqueeze_21 : decode cX9_tellsSqueeze 21 = .ok (.aload_n 0, 1) := by decide +kernel
theorem dX9_tellsSqueeze_22 : decode cX9_tellsSqueeze 22 = .ok (.getfield 227, 3) := by decide +kernel
theorem dX9_tellsSqueeze_25 : decode cX9_tellsSqueeze 25 = .ok (.i2l, 1) := by decide +kernel
theorem dX9_tellsSqueeze_26 : decode cX9_tellsSqueeze 26 = .ok (.aload_n 0, 1) := by decide +kernel
theorem dX9_tellsSqueeze_27 : decode cX9_tellsSqueeze 27 = .ok (.getfield 113, 3) := by decide +kernel
theorem dX9_tellsSqueeze_30 : decode cX9_tellsSqueeze 30 = .ok (.i2l, 1) := by decide +kernel
theorem dX9_tellsSqueeze_31 : decode cX9_tellsSqueeze 31 = .ok (.lmul, 1) := by decide +kernel
theorem dX9_tellsSqueeze_32 : decode cX9_tellsSqueeze 32 = .ok (.iload_n 1, 1) := by decide +kernel
theorem dX9_tellsSqueeze_33 : decode cX9_tellsSqueeze 33 = .ok (.invokestatic 177, 3) := by decide +kernel
theorem dX9_tellsSqueeze_36 : decode cX9_tellsSqueeze 36 = .ok (.l2i, 1) := by decide +kernel
theorem dX9_tellsSqueeze_37 : decode cX9_tellsSqueeze 37 = .ok (.ireturn, 1) := by decide +kernel
theorem dX9_order_0 : decode cX9_order 0 = .ok (.aload_n 0, 1) := by decide +kernel
theorem dX9_order_1 : decode cX9_order 1 = .ok (.invokevirtual 128, 3) := by decide +kernel
theorem dX9_order_4 : decode cX9_order 4 = .ok (.iload_n 1, 1) := by decide +kernel
theorem dX9_order_5 : decode cX9_order 5 = .ok (.i2l, 1) := by decide +kernel
theorem dX9_order_6 : decode cX9_order 6 = .ok (.lconst 0, 1) := by decide +kernel
theorem dX9_order_7 : decode cX9_order 7 = .ok (.ldc2_w 133, 3) := by decide +kernel
theorem dX9_order_10 : decode cX9_order 10 = .ok (.invokestatic 73, 3) := by decide +kernel
theorem dX9_order_13 : decode cX9_order 13 = .ok (.ifCond .ne 6, 3) := by decide +kernel
theorem dX9_order_16 : decode cX9_order 16 = .ok (.bipush (-2), 2) := by decide +kernel
theorem dX9_order_18 : decode cX9_order 18 = .ok (.ireturn, 1) := by decide +kernel
theorem dX9_order_19 : decode cX9_order 19 = .ok (.aload_n 0, 1) := by decide +kernel
theorem dX9_order_20 : decode cX9_order 20 = .ok (.invokevirtual 240, 3) := by decide +kernel
theorem dX9_order_23 : decode cX9_order 23 = .ok (.aload_n 0, 1) := by decide +kernel
theorem dX9_order_24 : decode cX9_order 24 = .ok (.iload_n 1, 1) := by decide +kernel
theorem dX9_order_25 : decode cX9_order 25 = .ok (.invokevirtual 243, 3) := by decide +kernel
theorem dX9_order_28 : decode cX9_order 28 = .ok (.ireturn, 1) := by decide +kernel
theorem dX9_squeeze_0 : decode cX9_squeeze 0 = .ok (.aload_n 0, 1) := by decide +kernel
theorem dX9_squeeze_1 : decode cX9_squeeze 1 = .ok (.invokevirtual 128, 3) := by decide +kernel
theorem dX9_squeeze_4 : decode cX9_squeeze 4 = .ok (.iload_n 1, 1) := by decide +kernel
theorem dX9_squeeze_5 : decode cX9_squeeze 5 = .ok (.invokestatic 105, 3) := by decide +kernel
theorem dX9_squeeze_8 : decode cX9_squeeze 8 = .ok (.ifCond .ne 6, 3) := by decide +kernel
theorem dX9_squeeze_11 : decode cX9_squeeze 11 = .ok (.bipush (-2), 2) := by decide +kernel
theorem dX9_squeeze_13 : decode cX9_squeeze 13 = .ok (.ireturn, 1) := by decide +kernel
theorem dX9_squeeze_14 : decode cX9_squeeze 14 = .ok (.aload_n 0, 1) := by decide +kernel
theorem dX9_squeeze_15 : decode cX9_squeeze 15 = .ok (.invokevirtual 240, 3) := by decide +kernel
theorem dX9_squeeze_18 : decode cX9_squeeze 18 = .ok (.aload_n 0, 1) := by decide +kernel
theorem dX9_squeeze_19 : decode cX9_squeeze 19 = .ok (.iload_n 1, 1) := by decide +kernel
theorem dX9_squeeze_20 : decode cX9_squeeze 20 = .ok (.invokevirtual 246, 3) := by decide +kernel
theorem dX9_squeeze_23 : decode cX9_squeeze 23 = .ok (.ireturn, 1) := by decide +kernel
theorem dX9_train_0 : decode cX9_train 0 = .ok (.iload_n 1, 1) := by decide +kernel
theorem dX9_train_1 : decode cX9_train 1 = .ok (.i2l, 1) := by decide +kernel
theorem dX9_train_2 : decode cX9_train 2 = .ok (.lconst 0, 1) := by decide +kernel
theorem dX9_train_3 : decode cX9_train 3 = .ok (.ldc2_w 131, 3) := by decide +kernel
theorem dX9_train_6 : decode cX9_train 6 = .ok (.invokestatic 73, 3) := by decide +kernel
theorem dX9_train_9 : decode cX9_train 9 = .ok (.ifCond .ne 6, 3) := by decide +kernel
theorem dX9_train_12 : decode cX9_train 12 = .ok (.bipush (-2), 2) := by decide +kernel
theorem dX9_train_14 : decode cX9_train 14 = .ok (.ireturn, 1) := by decide +kernel
theorem dX9_train_15 : decode cX9_train 15 = .ok (.aload_n 0, 1) := by decide +kernel
theorem dX9_train_16 : decode cX9_train 16 = .ok (.getfield 249, 3) := by decide +kernel
theorem dX9_train_19 : decode cX9_train 19 = .ok (.bipush 12, 2) := by decide +kernel
theorem dX9_train_21 : decode cX9_train 21 = .ok (.if_icmp .ne 6, 3) := by decide +kernel
theorem dX9_train_24 : decode cX9_train 24 = .ok (.bipush (-4), 2) := by decide +kernel
theorem dX9_train_26 : decode cX9_train 26 = .ok (.ireturn, 1) := by decide +kernel
theorem dX9_train_27 : decode cX9_train 27 = .ok (.aload_n 0, 1) := by decide +kernel
theorem dX9_train_28 : decode cX9_train 28 = .ok (.getfield 62, 3) := by decide +kernel
theorem dX9_train_31 : decode cX9_train 31 = .ok (.aload_n 0, 1) := by decide +kernel
theorem dX9_train_32 : decode cX9_train 32 = .ok (.getfield 249, 3) := by decide +kernel
theorem dX9_train_35 : decode cX9_train 35 = .ok (.iload_n 1, 1) := by decide +kernel
theorem dX9_train_36 : decode cX9_train 36 = .ok (.iastore, 1) := by decide +kernel
theorem dX9_train_37 : decode cX9_train 37 = .ok (.aload_n 0, 1) := by decide +kernel
theorem dX9_train_38 : decode cX9_train 38 = .ok (.dup, 1) := by decide +kernel
theorem dX9_train_39 : decode cX9_train 39 = .ok (.getfield 249, 3) := by decide +kernel
theorem dX9_train_42 : decode cX9_train 42 = .ok (.iconst 1, 1) := by decide +kernel
theorem dX9_train_43 : decode cX9_train 43 = .ok (.iadd, 1) := by decide +kernel
theorem dX9_train_44 : decode cX9_train 44 = .ok (.putfield 249, 3) := by decide +kernel
theorem dX9_train_47 : decode cX9_train 47 = .ok (.aload_n 0, 1) := by decide +kernel
theorem dX9_train_48 : decode cX9_train 48 = .ok (.getfield 249, 3) := by decide +kernel
theorem dX9_train_51 : decode cX9_train 51 = .ok (.ireturn, 1) := by decide +kernel
theorem dX9_back_0 : decode cX9_back 0 = .ok (.aload_n 0, 1) := by decide +kernel
theorem dX9_back_1 : decode cX9_back 1 = .ok (.getfield 249, 3) := by decide +kernel
theorem dX9_back_4 : decode cX9_back 4 = .ok (.ifCond .ne 6, 3) := by decide +kernel
theorem dX9_back_7 : decode cX9_back 7 = .ok (.bipush (-3), 2) := by decide +kernel
theorem dX9_back_9 : decode cX9_back 9 = .ok (.ireturn, 1) := by decide +kernel
theorem dX9_back_10 : decode cX9_back 10 = .ok (.aload_n 0, 1) := by decide +kernel
theorem dX9_back_11 : decode cX9_back 11 = .ok (.dup, 1) := by decide +kernel
theorem dX9_back_12 : decode cX9_back 12 = .ok (.getfield 249, 3) := by decide +kernel
theorem dX9_back_15 : decode cX9_back 15 = .ok (.iconst 1, 1) := by decide +kernel
theorem dX9_back_16 : decode cX9_back 16 = .ok (.isub, 1) := by decide +kernel
theorem dX9_back_17 : decode cX9_back 17 = .ok (.putfield 249, 3) := by decide +kernel
theorem dX9_back_20 : decode cX9_back 20 = .ok (.aload_n 0, 1) := by decide +kernel
theorem dX9_back_21 : decode cX9_back 21 = .ok (.getfield 249, 3) := by decide +kernel
theorem dX9_back_24 : decode cX9_back 24 = .ok (.ireturn, 1) := by decide +kernel
theorem dX9_read_0 : decode cX9_read 0 = .ok (.iload_n 1, 1) := by decide +kernel
theorem dX9_read_1 : decode cX9_read 1 = .ok (.invokestatic 87, 3) := by decide +kernel
theorem dX9_read_4 : decode cX9_read 4 = .ok (.ifCond .ne 6, 3) := by decide +kernel
theorem dX9_read_7 : decode cX9_read 7 = .ok (.bipush (-2), 2) := by decide +kernel
theorem dX9_read_9 : decode cX9_read 9 = .ok (.ireturn, 1) := by decide +kernel
theorem dX9_read_10 : decode cX9_read 10 = .ok (.aload_n 0, 1) := by decide +kernel
theorem dX9_read_11 : decode cX9_read 11 = .ok (.getfield 7, 3) := by decide +kernel
theorem dX9_read_14 : decode cX9_read 14 = .ok (.iload_n 1, 1) := by decide +kernel
theorem dX9_read_15 : decode cX9_read 15 = .ok (.iaload, 1) := by decide +kernel
theorem dX9_read_16 : decode cX9_read 16 = .ok (.ifCond .ge 9, 3) := by decide +kernel
theorem dX9_read_19 : decode cX9_read 19 = .ok (.aload_n 0, 1) := by decide +kernel
theorem dX9_read_20 : decode cX9_read 20 = .ok (.iconst 1, 1) := by decide +kernel
theorem dX9_read_21 : decode cX9_read 21 = .ok (.invokevirtual 93, 3) := by decide +kernel
theorem dX9_read_24 : decode cX9_read 24 = .ok (.ireturn, 1) := by decide +kernel
theorem dX9_read_25 : decode cX9_read 25 = .ok (.iconst 0, 1) := by decide +kernel
theorem dX9_read_26 : decode cX9_read 26 = .ok (.istore_n 2, 1) := by decide +kernel
theorem dX9_read_27 : decode cX9_read 27 = .ok (.iload_n 2, 1) := by decide +kernel
theorem dX9_read_28 : decode cX9_read 28 = .ok (.aload_n 0, 1) := by decide +kernel
theorem dX9_read_29 : decode cX9_read 29 = .ok (.getfield 13, 3) := by decide +kernel
theorem dX9_read_32 : decode cX9_read 32 = .ok (.iload_n 1, 1) := by decide +kernel
theorem dX9_read_33 : decode cX9_read 33 = .ok (.iaload, 1) := by decide +kernel
theorem dX9_read_34 : decode cX9_read 34 = .ok (.if_icmp .ge 27, 3) := by decide +kernel
theorem dX9_read_37 : decode cX9_read 37 = .ok (.aload_n 0, 1) := by decide +kernel
theorem dX9_read_38 : decode cX9_read 38 = .ok (.aload_n 0, 1) := by decide +kernel
theorem dX9_read_39 : decode cX9_read 39 = .ok (.getfield 16, 3) := by decide +kernel
theorem dX9_read_42 : decode cX9_read 42 = .ok (.bipush 60, 2) := by decide +kernel
theorem dX9_read_44 : decode cX9_read 44 = .ok (.iload_n 1, 1) := by decide +kernel
theorem dX9_read_45 : decode cX9_read 45 = .ok (.imul, 1) := by decide +kernel
theorem dX9_read_46 : decode cX9_read 46 = .ok (.iload_n 2, 1) := by decide +kernel
theorem dX9_read_47 : decode cX9_read 47 = .ok (.iadd, 1) := by decide +kernel
theorem dX9_read_48 : decode cX9_read 48 = .ok (.iaload, 1) := by decide +kernel
theorem dX9_read_49 : decode cX9_read 49 = .ok (.invokevirtual 252, 3) := by decide +kernel
theorem dX9_read_52 : decode cX9_read 52 = .ok (.ifCond .lt 9, 3) := by decide +kernel
theorem dX9_read_55 : decode cX9_read 55 = .ok (.iinc 2 1, 3) := by decide +kernel
theorem dX9_read_58 : decode cX9_read 58 = .ok (.goto (-31), 3) := by decide +kernel
theorem dX9_read_61 : decode cX9_read 61 = .ok (.iload_n 2, 1) := by decide +kernel
theorem dX9_read_62 : decode cX9_read 62 = .ok (.ireturn, 1) := by decide +kernel
theorem dX9_sorts_0 : decode cX9_sorts 0 = .ok (.iconst 0, 1) := by decide +kernel
theorem dX9_sorts_1 : decode cX9_sorts 1 = .ok (.istore_n 1, 1) := by decide +kernel
theorem dX9_sorts_2 : decode cX9_sorts 2 = .ok (.iload_n 1, 1) := by decide +kernel
theorem dX9_sorts_3 : decode cX9_sorts 3 = .ok (.aload_n 0, 1) := by decide +kernel
theorem dX9_sorts_4 : decode cX9_sorts 4 = .ok (.getfield 249, 3) := by decide +kernel
theorem dX9_sorts_7 : decode cX9_sorts 7 = .ok (.if_icmp .ge 64, 3) := by decide +kernel
theorem dX9_sorts_10 : decode cX9_sorts 10 = .ok (.iload_n 1, 1) := by decide +kernel
theorem dX9_sorts_11 : decode cX9_sorts 11 = .ok (.istore_n 2, 1) := by decide +kernel
theorem dX9_sorts_12 : decode cX9_sorts 12 = .ok (.iload_n 2, 1) := by decide +kernel
theorem dX9_sorts_13 : decode cX9_sorts 13 = .ok (.ifCond .le 40, 3) := by decide +kernel
theorem dX9_sorts_16 : decode cX9_sorts 16 = .ok (.aload_n 0, 1) := by decide +kernel
theorem dX9_sorts_17 : decode cX9_sorts 17 = .ok (.getfield 65, 3) := by decide +kernel
theorem dX9_sorts_20 : decode cX9_sorts 20 = .ok (.iload_n 2, 1) := by decide +kernel
theorem dX9_sorts_21 : decode cX9_sorts 21 = .ok (.iconst 1, 1) := by decide +kernel
theorem dX9_sorts_22 : decode cX9_sorts 22 = .ok (.isub, 1) := by decide +kernel
theorem dX9_sorts_23 : decode cX9_sorts 23 = .ok (.iaload, 1) := by decide +kernel
theorem dX9_sorts_24 : decode cX9_sorts 24 = .ok (.aload_n 0, 1) := by decide +kernel
theorem dX9_sorts_25 : decode cX9_sorts 25 = .ok (.getfield 62, 3) := by decide +kernel
theorem dX9_sorts_28 : decode cX9_sorts 28 = .ok (.iload_n 1, 1) := by decide +kernel
theorem dX9_sorts_29 : decode cX9_sorts 29 = .ok (.iaload, 1) := by decide +kernel
theorem dX9_sorts_30 : decode cX9_sorts 30 = .ok (.if_icmp .le 23, 3) := by decide +kernel
theorem dX9_sorts_33 : decode cX9_sorts 33 = .ok (.aload_n 0, 1) := by decide +kernel
theorem dX9_sorts_34 : decode cX9_sorts 34 = .ok (.getfield 65, 3) := by decide +kernel
theorem dX9_sorts_37 : decode cX9_sorts 37 = .ok (.iload_n 2, 1) := by decide +kernel
theorem dX9_sorts_38 : decode cX9_sorts 38 = .ok (.aload_n 0, 1) := by decide +kernel
theorem dX9_sorts_39 : decode cX9_sorts 39 = .ok (.getfield 65, 3) := by decide +kernel
theorem dX9_sorts_42 : decode cX9_sorts 42 = .ok (.iload_n 2, 1) := by decide +kernel
theorem dX9_sorts_43 : decode cX9_sorts 43 = .ok (.iconst 1, 1) := by decide +kernel
theorem dX9_sorts_44 : decode cX9_sorts 44 = .ok (.isub, 1) := by decide +kernel
theorem dX9_sorts_45 : decode cX9_sorts 45 = .ok (.iaload, 1) := by decide +kernel
theorem dX9_sorts_46 : decode cX9_sorts 46 = .ok (.iastore, 1) := by decide +kernel
theorem dX9_sorts_47 : decode cX9_sorts 47 = .ok (.iinc 2 (-1), 3) := by decide +kernel
theorem dX9_sorts_50 : decode cX9_sorts 50 = .ok (.goto (-38), 3) := by decide +kernel
theorem dX9_sorts_53 : decode cX9_sorts 53 = .ok (.aload_n 0, 1) := by decide +kernel
theorem dX9_sorts_54 : decode cX9_sorts 54 = .ok (.getfield 65, 3) := by decide +kernel
theorem dX9_sorts_57 : decode cX9_sorts 57 = .ok (.iload_n 2, 1) := by decide +kernel
theorem dX9_sorts_58 : decode cX9_sorts 58 = .ok (.aload_n 0, 1) := by decide +kernel
theorem dX9_sorts_59 : decode cX9_sorts 59 = .ok (.getfield 62, 3) := by decide +kernel
theorem dX9_sorts_62 : decode cX9_sorts 62 = .ok (.iload_n 1, 1) := by decide +kernel
theorem dX9_sorts_63 : decode cX9_sorts 63 = .ok (.iaload, 1) := by decide +kernel
theorem dX9_sorts_64 : decode cX9_sorts 64 = .ok (.iastore, 1) := by decide +kernel
theorem dX9_sorts_65 : decode cX9_sorts 65 = .ok (.iinc 1 1, 3) := by decide +kernel
theorem dX9_sorts_68 : decode cX9_sorts 68 = .ok (.goto (-66), 3) := by decide +kernel
theorem dX9_sorts_71 : decode cX9_sorts 71 = .ok (.return_, 1) := by decide +kernel
theorem dX9_lateOf_0 : decode cX9_lateOf 0 = .ok (.aload_n 0, 1) := by decide +kernel
theorem dX9_lateOf_1 : decode cX9_lateOf 1 = .ok (.invokevirtual 255, 3) := by decide +kernel
theorem dX9_lateOf_4 : decode cX9_lateOf 4 = .ok (.iconst 0, 1) := by decide +kernel
theorem dX9_lateOf_5 : decode cX9_lateOf 5 = .ok (.istore_n 3, 1) := by decide +kernel
theorem dX9_lateOf_6 : decode cX9_lateOf 6 = .ok (.iload_n 3, 1) := by decide +kernel
theorem dX9_lateOf_7 : decode cX9_lateOf 7 = .ok (.iload_n 1, 1) := by decide +kernel
theorem dX9_lateOf_8 : decode cX9_lateOf 8 = .ok (.if_icmp .ge 16, 3) := by decide +kernel
theorem dX9_lateOf_11 : decode cX9_lateOf 11 = .ok (.aload_n 0, 1) := by decide +kernel
theorem dX9_lateOf_12 : decode cX9_lateOf 12 = .ok (.getfield 68, 3) := by decide +kernel
theorem dX9_lateOf_15 : decode cX9_lateOf 15 = .ok (.iload_n 3, 1) := by decide +kernel
theorem dX9_lateOf_16 : decode cX9_lateOf 16 = .ok (.iconst 0, 1) := by decide +kernel
theorem dX9_lateOf_17 : decode cX9_lateOf 17 = .ok (.iastore, 1) := by decide +kernel
theorem dX9_lateOf_18 : decode cX9_lateOf 18 = .ok (.iinc 3 1, 3) := by decide +kernel
theorem dX9_lateOf_21 : decode cX9_lateOf 21 = .ok (.goto (-15), 3) := by decide +kernel
theorem dX9_lateOf_24 : decode cX9_lateOf 24 = .ok (.iconst 0, 1) := by decide +kernel
theorem dX9_lateOf_25 : decode cX9_lateOf 25 = .ok (.istore_n 3, 1) := by decide +kernel
theorem dX9_lateOf_26 : decode cX9_lateOf 26 = .ok (.iconst 0, 1) := by decide +kernel
theorem dX9_lateOf_27 : decode cX9_lateOf 27 = .ok (.istore 4, 2) := by decide +kernel
theorem dX9_lateOf_29 : decode cX9_lateOf 29 = .ok (.iconst 0, 1) := by decide +kernel
theorem dX9_lateOf_30 : decode cX9_lateOf 30 = .ok (.istore 5, 2) := by decide +kernel
theorem dX9_lateOf_32 : decode cX9_lateOf 32 = .ok (.iload 5, 2) := by decide +kernel
theorem dX9_lateOf_34 : decode cX9_lateOf 34 = .ok (.aload_n 0, 1) := by decide +kernel
theorem dX9_lateOf_35 : decode cX9_lateOf 35 = .ok (.getfield 249, 3) := by decide +kernel
theorem dX9_lateOf_38 : decode cX9_lateOf 38 = .ok (.if_icmp .ge 125, 3) := by decide +kernel
theorem dX9_lateOf_41 : decode cX9_lateOf 41 = .ok (.iconst 0, 1) := by decide +kernel
theorem dX9_lateOf_42 : decode cX9_lateOf 42 = .ok (.istore 6, 2) := by decide +kernel
theorem dX9_lateOf_44 : decode cX9_lateOf 44 = .ok (.iconst 1, 1) := by decide +kernel
theorem dX9_lateOf_45 : decode cX9_lateOf 45 = .ok (.istore 7, 2) := by decide +kernel
theorem dX9_lateOf_47 : decode cX9_lateOf 47 = .ok (.iload 7, 2) := by decide +kernel
theorem dX9_lateOf_49 : decode cX9_lateOf 49 = .ok (.iload_n 1, 1) := by decide +kernel
theorem dX9_lateOf_50 : decode cX9_lateOf 50 = .ok (.if_icmp .ge 35, 3) := by decide +kernel
theorem dX9_lateOf_53 : decode cX9_lateOf 53 = .ok (.aload_n 0, 1) := by decide +kernel
theorem dX9_lateOf_54 : decode cX9_lateOf 54 = .ok (.getfield 68, 3) := by decide +kernel
theorem dX9_lateOf_57 : decode cX9_lateOf 57 = .ok (.iload 7, 2) := by decide +kernel
theorem dX9_lateOf_59 : decode cX9_lateOf 59 = .ok (.iaload, 1) := by decide +kernel
theorem dX9_lateOf_60 : decode cX9_lateOf 60 = .ok (.aload_n 0, 1) := by decide +kernel
theorem dX9_lateOf_61 : decode cX9_lateOf 61 = .ok (.getfield 68, 3) := by decide +kernel
theorem dX9_lateOf_64 : decode cX9_lateOf 64 = .ok (.iload 6, 2) := by decide +kernel
theorem dX9_lateOf_66 : decode cX9_lateOf 66 = .ok (.iaload, 1) := by decide +kernel
theorem dX9_lateOf_67 : decode cX9_lateOf 67 = .ok (.if_icmp .ge 8, 3) := by decide +kernel
theorem dX9_lateOf_70 : decode cX9_lateOf 70 = .ok (.iload 7, 2) := by decide +kernel
theorem dX9_lateOf_72 : decode cX9_lateOf 72 = .ok (.goto 5, 3) := by decide +kernel
theorem dX9_lateOf_75 : decode cX9_lateOf 75 = .ok (.iload 6, 2) := by decide +kernel
theorem dX9_lateOf_77 : decode cX9_lateOf 77 = .ok (.istore 6, 2) := by decide +kernel
theorem dX9_lateOf_79 : decode cX9_lateOf 79 = .ok (.iinc 7 1, 3) := by decide +kernel
theorem dX9_lateOf_82 : decode cX9_lateOf 82 = .ok (.goto (-35), 3) := by decide +kernel
theorem dX9_lateOf_85 : decode cX9_lateOf 85 = .ok (.aload_n 0, 1) := by decide +kernel
theorem dX9_lateOf_86 : decode cX9_lateOf 86 = .ok (.getfield 65, 3) := by decide +kernel
theorem dX9_lateOf_89 : decode cX9_lateOf 89 = .ok (.iload 5, 2) := by decide +kernel
theorem dX9_lateOf_91 : decode cX9_lateOf 91 = .ok (.iaload, 1) := by decide +kernel
theorem dX9_lateOf_92 : decode cX9_lateOf 92 = .ok (.aload_n 0, 1) := by decide +kernel
theorem dX9_lateOf_93 : decode cX9_lateOf 93 = .ok (.getfield 68, 3) := by decide +kernel
theorem dX9_lateOf_96 : decode cX9_lateOf 96 = .ok (.iload 6, 2) := by decide +kernel
theorem dX9_lateOf_98 : decode cX9_lateOf 98 = .ok (.iaload, 1) := by decide +kernel
theorem dX9_lateOf_99 : decode cX9_lateOf 99 = .ok (.invokestatic 224, 3) := by decide +kernel
theorem dX9_lateOf_102 : decode cX9_lateOf 102 = .ok (.istore 7, 2) := by decide +kernel
theorem dX9_lateOf_104 : decode cX9_lateOf 104 = .ok (.aload_n 0, 1) := by decide +kernel
theorem dX9_lateOf_105 : decode cX9_lateOf 105 = .ok (.getfield 68, 3) := by decide +kernel
theorem dX9_lateOf_108 : decode cX9_lateOf 108 = .ok (.iload 6, 2) := by decide +kernel
theorem dX9_lateOf_110 : decode cX9_lateOf 110 = .ok (.iload 7, 2) := by decide +kernel
theorem dX9_lateOf_112 : decode cX9_lateOf 112 = .ok (.aload_n 0, 1) := by decide +kernel
theorem dX9_lateOf_113 : decode cX9_lateOf 113 = .ok (.getfield 41, 3) := by decide +kernel
theorem dX9_lateOf_116 : decode cX9_lateOf 116 = .ok (.iconst 2, 1) := by decide +kernel
theorem dX9_lateOf_117 : decode cX9_lateOf 117 = .ok (.iaload, 1) := by decide +kernel
theorem dX9_lateOf_118 : decode cX9_lateOf 118 = .ok (.iadd, 1) := by decide +kernel
theorem dX9_lateOf_119 : decode cX9_lateOf 119 = .ok (.aload_n 0, 1) := by decide +kernel
theorem dX9_lateOf_120 : decode cX9_lateOf 120 = .ok (.getfield 41, 3) := by decide +kernel
theorem dX9_lateOf_123 : decode cX9_lateOf 123 = .ok (.iconst 3, 1) := by decide +kernel
theorem dX9_lateOf_124 : decode cX9_lateOf 124 = .ok (.iaload, 1) := by decide +kernel
theorem dX9_lateOf_125 : decode cX9_lateOf 125 = .ok (.iadd, 1) := by decide +kernel
theorem dX9_lateOf_126 : decode cX9_lateOf 126 = .ok (.iastore, 1) := by decide +kernel
theorem dX9_lateOf_127 : decode cX9_lateOf 127 = .ok (.iload_n 3, 1) := by decide +kernel
theorem dX9_lateOf_128 : decode cX9_lateOf 128 = .ok (.iload 7, 2) := by decide +kernel
theorem dX9_lateOf_130 : decode cX9_lateOf 130 = .ok (.aload_n 0, 1) := by decide +kernel
theorem dX9_lateOf_131 : decode cX9_lateOf 131 = .ok (.getfield 65, 3) := by decide +kernel
theorem dX9_lateOf_134 : decode cX9_lateOf 134 = .ok (.iload 5, 2) := by decide +kernel
theorem dX9_lateOf_136 : decode cX9_lateOf 136 = .ok (.iaload, 1) := by decide +kernel
theorem dX9_lateOf_137 : decode cX9_lateOf 137 = .ok (.isub, 1) := by decide +kernel
theorem dX9_lateOf_138 : decode cX9_lateOf 138 = .ok (.iadd, 1) := by decide +kernel
theorem dX9_lateOf_139 : decode cX9_lateOf 139 = .ok (.istore_n 3, 1) := by decide +kernel
theorem dX9_lateOf_140 : decode cX9_lateOf 140 = .ok (.iload 7, 2) := by decide +kernel
theorem dX9_lateOf_142 : decode cX9_lateOf 142 = .ok (.aload_n 0, 1) := by decide +kernel
theorem dX9_lateOf_143 : decode cX9_lateOf 143 = .ok (.getfield 65, 3) := by decide +kernel
theorem dX9_lateOf_146 : decode cX9_lateOf 146 = .ok (.iload 5, 2) := by decide +kernel
theorem dX9_lateOf_148 : decode cX9_lateOf 148 = .ok (.iaload, 1) := by decide +kernel
theorem dX9_lateOf_149 : decode cX9_lateOf 149 = .ok (.isub, 1) := by decide +kernel
theorem dX9_lateOf_150 : decode cX9_lateOf 150 = .ok (.iload 4, 2) := by decide +kernel
theorem dX9_lateOf_152 : decode cX9_lateOf 152 = .ok (.invokestatic 224, 3) := by decide +kernel
theorem dX9_lateOf_155 : decode cX9_lateOf 155 = .ok (.istore 4, 2) := by decide +kernel
theorem dX9_lateOf_157 : decode cX9_lateOf 157 = .ok (.iinc 5 1, 3) := by decide +kernel
theorem dX9_lateOf_160 : decode cX9_lateOf 160 = .ok (.goto (-128), 3) := by decide +kernel
theorem dX9_lateOf_163 : decode cX9_lateOf 163 = .ok (.iload_n 2, 1) := by decide +kernel
theorem dX9_lateOf_164 : decode cX9_lateOf 164 = .ok (.ifCond .ne 7, 3) := by decide +kernel
theorem dX9_lateOf_167 : decode cX9_lateOf 167 = .ok (.iload_n 3, 1) := by decide +kernel
theorem dX9_lateOf_168 : decode cX9_lateOf 168 = .ok (.goto 5, 3) := by decide +kernel
theorem dX9_lateOf_171 : decode cX9_lateOf 171 = .ok (.iload 4, 2) := by decide +kernel
theorem dX9_lateOf_173 : decode cX9_lateOf 173 = .ok (.ireturn, 1) := by decide +kernel
theorem dX9_late_0 : decode cX9_late 0 = .ok (.iload_n 1, 1) := by decide +kernel
theorem dX9_late_1 : decode cX9_late 1 = .ok (.i2l, 1) := by decide +kernel
theorem dX9_late_2 : decode cX9_late 2 = .ok (.lconst 1, 1) := by decide +kernel
theorem dX9_late_3 : decode cX9_late 3 = .ok (.ldc2_w 258, 3) := by decide +kernel
theorem dX9_late_6 : decode cX9_late 6 = .ok (.invokestatic 73, 3) := by decide +kernel
theorem dX9_late_9 : decode cX9_late 9 = .ok (.ifCond .eq 19, 3) := by decide +kernel
theorem dX9_late_12 : decode cX9_late 12 = .ok (.iload_n 2, 1) := by decide +kernel
theorem dX9_late_13 : decode cX9_late 13 = .ok (.invokestatic 105, 3) := by decide +kernel
theorem dX9_late_16 : decode cX9_late 16 = .ok (.ifCond .eq 12, 3) := by decide +kernel
theorem dX9_late_19 : decode cX9_late 19 = .ok (.aload_n 0, 1) := by decide +kernel
theorem dX9_late_20 : decode cX9_late 20 = .ok (.iload_n 1, 1) := by decide +kernel
theorem dX9_late_21 : decode cX9_late 21 = .ok (.iload_n 2, 1) := by decide +kernel
theorem dX9_late_22 : decode cX9_late 22 = .ok (.invokevirtual 260, 3) := by decide +kernel
theorem dX9_late_25 : decode cX9_late 25 = .ok (.goto 5, 3) := by decide +kernel
theorem dX9_late_28 : decode cX9_late 28 = .ok (.bipush (-2), 2) := by decide +kernel
theorem dX9_late_30 : decode cX9_late 30 = .ok (.ireturn, 1) := by decide +kernel
theorem dX9_enoughOf_0 : decode cX9_enoughOf 0 = .ok (.iconst 1, 1) := by decide +kernel
theorem dX9_enoughOf_1 : decode cX9_enoughOf 1 = .ok (.istore_n 2, 1) := by decide +kernel
theorem dX9_enoughOf_2 : decode cX9_enoughOf 2 = .ok (.iload_n 2, 1) := by decide +kernel
theorem dX9_enoughOf_3 : decode cX9_enoughOf 3 = .ok (.bipush 7, 2) := by decide +kernel
theorem dX9_enoughOf_5 : decode cX9_enoughOf 5 = .ok (.if_icmp .ge 21, 3) := by decide +kernel
theorem dX9_enoughOf_8 : decode cX9_enoughOf 8 = .ok (.aload_n 0, 1) := by decide +kernel
theorem dX9_enoughOf_9 : decode cX9_enoughOf 9 = .ok (.iload_n 2, 1) := by decide +kernel
theorem dX9_enoughOf_10 : decode cX9_enoughOf 10 = .ok (.iconst 1, 1) := by decide +kernel
theorem dX9_enoughOf_11 : decode cX9_enoughOf 11 = .ok (.invokevirtual 260, 3) := by decide +kernel
theorem dX9_enoughOf_14 : decode cX9_enoughOf 14 = .ok (.iload_n 1, 1) := by decide +kernel
theorem dX9_enoughOf_15 : decode cX9_enoughOf 15 = .ok (.if_icmp .gt 5, 3) := by decide +kernel
theorem dX9_enoughOf_18 : decode cX9_enoughOf 18 = .ok (.iload_n 2, 1) := by decide +kernel
theorem dX9_enoughOf_19 : decode cX9_enoughOf 19 = .ok (.ireturn, 1) := by decide +kernel
theorem dX9_enoughOf_20 : decode cX9_enoughOf 20 = .ok (.iinc 2 1, 3) := by decide +kernel
theorem dX9_enoughOf_23 : decode cX9_enoughOf 23 = .ok (.goto (-21), 3) := by decide +kernel
theorem dX9_enoughOf_26 : decode cX9_enoughOf 26 = .ok (.iconst (-1), 1) := by decide +kernel
theorem dX9_enoughOf_27 : decode cX9_enoughOf 27 = .ok (.ireturn, 1) := by decide +kernel
theorem dX9_enough_0 : decode cX9_enough 0 = .ok (.iload_n 1, 1) := by decide +kernel
theorem dX9_enough_1 : decode cX9_enough 1 = .ok (.i2l, 1) := by decide +kernel
theorem dX9_enough_2 : decode cX9_enough 2 = .ok (.lconst 0, 1) := by decide +kernel
theorem dX9_enough_3 : decode cX9_enough 3 = .ok (.ldc2_w 131, 3) := by decide +kernel
theorem dX9_enough_6 : decode cX9_enough 6 = .ok (.invokestatic 73, 3) := by decide +kernel
theorem dX9_enough_9 : decode cX9_enough 9 = .ok (.ifCond .eq 11, 3) := by decide +kernel
theorem dX9_enough_12 : decode cX9_enough 12 = .ok (.aload_n 0, 1) := by decide +kernel
theorem dX9_enough_13 : decode cX9_enough 13 = .ok (.iload_n 1, 1) := by decide +kernel
theorem dX9_enough_14 : decode cX9_enough 14 = .ok (.invokevirtual 263, 3) := by decide +kernel
theorem dX9_enough_17 : decode cX9_enough 17 = .ok (.goto 5, 3) := by decide +kernel
theorem dX9_enough_20 : decode cX9_enough 20 = .ok (.bipush (-2), 2) := by decide +kernel
theorem dX9_enough_22 : decode cX9_enough 22 = .ok (.ireturn, 1) := by decide +kernel
theorem dX9_whistlesOf_0 : decode cX9_whistlesOf 0 = .ok (.lconst 1, 1) := by decide +kernel
theorem dX9_whistlesOf_1 : decode cX9_whistlesOf 1 = .ok (.lstore 4, 2) := by decide +kernel
theorem dX9_whistlesOf_3 : decode cX9_whistlesOf 3 = .ok (.lconst 1, 1) := by decide +kernel
theorem dX9_whistlesOf_4 : decode cX9_whistlesOf 4 = .ok (.lstore 6, 2) := by decide +kernel
theorem dX9_whistlesOf_6 : decode cX9_whistlesOf 6 = .ok (.iconst 0, 1) := by decide +kernel
theorem dX9_whistlesOf_7 : decode cX9_whistlesOf 7 = .ok (.istore 8, 2) := by decide +kernel
theorem dX9_whistlesOf_9 : decode cX9_whistlesOf 9 = .ok (.iload 8, 2) := by decide +kernel
theorem dX9_whistlesOf_11 : decode cX9_whistlesOf 11 = .ok (.iload_n 2, 1) := by decide +kernel
theorem dX9_whistlesOf_12 : decode cX9_whistlesOf 12 = .ok (.if_icmp .ge 25, 3) := by decide +kernel
theorem dX9_whistlesOf_15 : decode cX9_whistlesOf 15 = .ok (.lload 4, 2) := by decide +kernel
theorem dX9_whistlesOf_17 : decode cX9_whistlesOf 17 = .ok (.iload_n 0, 1) := by decide +kernel
theorem dX9_whistlesOf_18 : decode cX9_whistlesOf 18 = .ok (.iload 8, 2) := by decide +kernel
theorem dX9_whistlesOf_20 : decode cX9_whistlesOf 20 = .ok (.isub, 1) := by decide +kernel
theorem dX9_whistlesOf_21 : decode cX9_whistlesOf 21 = .ok (.i2l, 1) := by decide +kernel
theorem dX9_whistlesOf_22 : decode cX9_whistlesOf 22 = .ok (.lmul, 1) := by decide +kernel
theorem dX9_whistlesOf_23 : decode cX9_whistlesOf 23 = .ok (.iload 8, 2) := by decide +kernel
theorem dX9_whistlesOf_25 : decode cX9_whistlesOf 25 = .ok (.iconst 1, 1) := by decide +kernel
theorem dX9_whistlesOf_26 : decode cX9_whistlesOf 26 = .ok (.iadd, 1) := by decide +kernel
theorem dX9_whistlesOf_27 : decode cX9_whistlesOf 27 = .ok (.i2l, 1) := by decide +kernel
theorem dX9_whistlesOf_28 : decode cX9_whistlesOf 28 = .ok (.ldiv, 1) := by decide +kernel
theorem dX9_whistlesOf_29 : decode cX9_whistlesOf 29 = .ok (.lstore 4, 2) := by decide +kernel
theorem dX9_whistlesOf_31 : decode cX9_whistlesOf 31 = .ok (.iinc 8 1, 3) := by decide +kernel
theorem dX9_whistlesOf_34 : decode cX9_whistlesOf 34 = .ok (.goto (-25), 3) := by decide +kernel
theorem dX9_whistlesOf_37 : decode cX9_whistlesOf 37 = .ok (.iconst 0, 1) := by decide +kernel
theorem dX9_whistlesOf_38 : decode cX9_whistlesOf 38 = .ok (.istore 8, 2) := by decide +kernel
theorem dX9_whistlesOf_40 : decode cX9_whistlesOf 40 = .ok (.iload 8, 2) := by decide +kernel
theorem dX9_whistlesOf_42 : decode cX9_whistlesOf 42 = .ok (.iload_n 0, 1) := by decide +kernel
theorem dX9_whistlesOf_43 : decode cX9_whistlesOf 43 = .ok (.if_icmp .ge 38, 3) := by decide +kernel
theorem dX9_whistlesOf_46 : decode cX9_whistlesOf 46 = .ok (.lload 4, 2) := by decide +kernel
theorem dX9_whistlesOf_48 : decode cX9_whistlesOf 48 = .ok (.iload 8, 2) := by decide +kernel
theorem dX9_whistlesOf_50 : decode cX9_whistlesOf 50 = .ok (.iload_n 2, 1) := by decide +kernel
theorem dX9_whistlesOf_51 : decode cX9_whistlesOf 51 = .ok (.if_icmp .ge 8, 3) := by decide +kernel
theorem dX9_whistlesOf_54 : decode cX9_whistlesOf 54 = .ok (.iload_n 1, 1) := by decide +kernel
theorem dX9_whistlesOf_55 : decode cX9_whistlesOf 55 = .ok (.i2l, 1) := by decide +kernel
theorem dX9_whistlesOf_56 : decode cX9_whistlesOf 56 = .ok (.goto 8, 3) := by decide +kernel
theorem dX9_whistlesOf_59 : decode cX9_whistlesOf 59 = .ok (.bipush 16, 2) := by decide +kernel
theorem dX9_whistlesOf_61 : decode cX9_whistlesOf 61 = .ok (.iload_n 1, 1) := by decide +kernel
theorem dX9_whistlesOf_62 : decode cX9_whistlesOf 62 = .ok (.isub, 1) := by decide +kernel
theorem dX9_whistlesOf_63 : decode cX9_whistlesOf 63 = .ok (.i2l, 1) := by decide +kernel
theorem dX9_whistlesOf_64 : decode cX9_whistlesOf 64 = .ok (.lmul, 1) := by decide +kernel
theorem dX9_whistlesOf_65 : decode cX9_whistlesOf 65 = .ok (.lstore 4, 2) := by decide +kernel
theorem dX9_whistlesOf_67 : decode cX9_whistlesOf 67 = .ok (.lload 6, 2) := by decide +kernel
theorem dX9_whistlesOf_69 : decode cX9_whistlesOf 69 = .ok (.ldc2_w 266, 3) := by decide +kernel
theorem dX9_whistlesOf_72 : decode cX9_whistlesOf 72 = .ok (.lmul, 1) := by decide +kernel
theorem dX9_whistlesOf_73 : decode cX9_whistlesOf 73 = .ok (.lstore 6, 2) := by decide +kernel
theorem dX9_whistlesOf_75 : decode cX9_whistlesOf 75 = .ok (.iinc 8 1, 3) := by decide +kernel
theorem dX9_whistlesOf_78 : decode cX9_whistlesOf 78 = .ok (.goto (-38), 3) := by decide +kernel
theorem dX9_whistlesOf_81 : decode cX9_whistlesOf 81 = .ok (.lload 4, 2) := by decide +kernel
theorem dX9_whistlesOf_83 : decode cX9_whistlesOf 83 = .ok (.lload 6, 2) := by decide +kernel
theorem dX9_whistlesOf_85 : decode cX9_whistlesOf 85 = .ok (.iload_n 3, 1) := by decide +kernel
theorem dX9_whistlesOf_86 : decode cX9_whistlesOf 86 = .ok (.invokestatic 177, 3) := by decide +kernel
theorem dX9_whistlesOf_89 : decode cX9_whistlesOf 89 = .ok (.lreturn, 1) := by decide +kernel
theorem dX9_whistles_0 : decode cX9_whistles 0 = .ok (.iload_n 1, 1) := by decide +kernel
theorem dX9_whistles_1 : decode cX9_whistles 1 = .ok (.i2l, 1) := by decide +kernel
theorem dX9_whistles_2 : decode cX9_whistles 2 = .ok (.lconst 0, 1) := by decide +kernel
theorem dX9_whistles_3 : decode cX9_whistles 3 = .ok (.ldc2_w 116, 3) := by decide +kernel
theorem dX9_whistles_6 : decode cX9_whistles 6 = .ok (.invokestatic 73, 3) := by decide +kernel
theorem dX9_whistles_9 : decode cX9_whistles 9 = .ok (.ifCond .eq 45, 3) := by decide +kernel
theorem dX9_whistles_12 : decode cX9_whistles 12 = .ok (.iload_n 2, 1) := by decide +kernel
theorem dX9_whistles_13 : decode cX9_whistles 13 = .ok (.i2l, 1) := by decide +kernel
theorem dX9_whistles_14 : decode cX9_whistles 14 = .ok (.lconst 0, 1) := by decide +kernel
theorem dX9_whistles_15 : decode cX9_whistles 15 = .ok (.ldc2_w 266, 3) := by decide +kernel
theorem dX9_whistles_18 : decode cX9_whistles 18 = .ok (.invokestatic 73, 3) := by decide +kernel
theorem dX9_whistles_21 : decode cX9_whistles 21 = .ok (.ifCond .eq 33, 3) := by decide +kernel
theorem dX9_whistles_24 : decode cX9_whistles 24 = .ok (.iload_n 3, 1) := by decide +kernel
theorem dX9_whistles_25 : decode cX9_whistles 25 = .ok (.i2l, 1) := by decide +kernel
theorem dX9_whistles_26 : decode cX9_whistles 26 = .ok (.lconst 0, 1) := by decide +kernel
theorem dX9_whistles_27 : decode cX9_whistles 27 = .ok (.iload_n 1, 1) := by decide +kernel
theorem dX9_whistles_28 : decode cX9_whistles 28 = .ok (.i2l, 1) := by decide +kernel
theorem dX9_whistles_29 : decode cX9_whistles 29 = .ok (.invokestatic 73, 3) := by decide +kernel
theorem dX9_whistles_32 : decode cX9_whistles 32 = .ok (.ifCond .eq 22, 3) := by decide +kernel
theorem dX9_whistles_35 : decode cX9_whistles 35 = .ok (.iload 4, 2) := by decide +kernel
theorem dX9_whistles_37 : decode cX9_whistles 37 = .ok (.invokestatic 105, 3) := by decide +kernel
theorem dX9_whistles_40 : decode cX9_whistles 40 = .ok (.ifCond .eq 14, 3) := by decide +kernel
theorem dX9_whistles_43 : decode cX9_whistles 43 = .ok (.iload_n 1, 1) := by decide +kernel
theorem dX9_whistles_44 : decode cX9_whistles 44 = .ok (.iload_n 2, 1) := by decide +kernel
theorem dX9_whistles_45 : decode cX9_whistles 45 = .ok (.iload_n 3, 1) := by decide +kernel
theorem dX9_whistles_46 : decode cX9_whistles 46 = .ok (.iload 4, 2) := by decide +kernel
theorem dX9_whistles_48 : decode cX9_whistles 48 = .ok (.invokestatic 268, 3) := by decide +kernel
theorem dX9_whistles_51 : decode cX9_whistles 51 = .ok (.goto 8, 3) := by decide +kernel
theorem dX9_whistles_54 : decode cX9_whistles 54 = .ok (.bipush (-2), 2) := by decide +kernel
theorem dX9_whistles_56 : decode cX9_whistles 56 = .ok (.invokestatic 170, 3) := by decide +kernel
theorem dX9_whistles_59 : decode cX9_whistles 59 = .ok (.lreturn, 1) := by decide +kernel
theorem dX9_words_0 : decode cX9_words 0 = .ok (.iload_n 1, 1) := by decide +kernel
theorem dX9_words_1 : decode cX9_words 1 = .ok (.i2l, 1) := by decide +kernel
theorem dX9_words_2 : decode cX9_words 2 = .ok (.lconst 0, 1) := by decide +kernel
theorem dX9_words_3 : decode cX9_words 3 = .ok (.ldc2_w 116, 3) := by decide +kernel
theorem dX9_words_6 : decode cX9_words 6 = .ok (.invokestatic 73, 3) := by decide +kernel
theorem dX9_words_9 : decode cX9_words 9 = .ok (.ifCond .eq 14, 3) := by decide +kernel
theorem dX9_words_12 : decode cX9_words 12 = .ok (.iconst 1, 1) := by decide +kernel
theorem dX9_words_13 : decode cX9_words 13 = .ok (.bipush 8, 2) := by decide +kernel
theorem dX9_words_15 : decode cX9_words 15 = .ok (.iload_n 1, 1) := by decide +kernel
theorem dX9_words_16 : decode cX9_words 16 = .ok (.iconst 1, 1) := by decide +kernel
theorem dX9_words_17 : decode cX9_words 17 = .ok (.iadd, 1) := by decide +kernel
theorem dX9_words_18 : decode cX9_words 18 = .ok (.idiv, 1) := by decide +kernel
theorem dX9_words_19 : decode cX9_words 19 = .ok (.iadd, 1) := by decide +kernel
theorem dX9_words_20 : decode cX9_words 20 = .ok (.goto 5, 3) := by decide +kernel
theorem dX9_words_23 : decode cX9_words 23 = .ok (.bipush (-2), 2) := by decide +kernel
theorem dX9_words_25 : decode cX9_words 25 = .ok (.ireturn, 1) := by decide +kernel
theorem dX9_write_0 : decode cX9_write 0 = .ok (.iload_n 1, 1) := by decide +kernel
theorem dX9_write_1 : decode cX9_write 1 = .ok (.invokestatic 105, 3) := by decide +kernel
theorem dX9_write_4 : decode cX9_write 4 = .ok (.ifCond .eq 10, 3) := by decide +kernel
theorem dX9_write_7 : decode cX9_write 7 = .ok (.iload_n 2, 1) := by decide +kernel
theorem dX9_write_8 : decode cX9_write 8 = .ok (.invokestatic 87, 3) := by decide +kernel
theorem dX9_write_11 : decode cX9_write 11 = .ok (.ifCond .ne 6, 3) := by decide +kernel
theorem dX9_write_14 : decode cX9_write 14 = .ok (.bipush (-2), 2) := by decide +kernel
theorem dX9_write_16 : decode cX9_write 16 = .ok (.ireturn, 1) := by decide +kernel
theorem dX9_write_17 : decode cX9_write 17 = .ok (.aload_n 0, 1) := by decide +kernel
theorem dX9_write_18 : decode cX9_write 18 = .ok (.getfield 7, 3) := by decide +kernel
theorem dX9_write_21 : decode cX9_write 21 = .ok (.iload_n 2, 1) := by decide +kernel
theorem dX9_write_22 : decode cX9_write 22 = .ok (.iaload, 1) := by decide +kernel
theorem dX9_write_23 : decode cX9_write 23 = .ok (.ifCond .ge 9, 3) := by decide +kernel
theorem dX9_write_26 : decode cX9_write 26 = .ok (.aload_n 0, 1) := by decide +kernel
theorem dX9_write_27 : decode cX9_write 27 = .ok (.iconst 1, 1) := by decide +kernel
theorem dX9_write_28 : decode cX9_write 28 = .ok (.invokevirtual 93, 3) := by decide +kernel
theorem dX9_write_31 : decode cX9_write 31 = .ok (.ireturn, 1) := by decide +kernel
theorem dX9_write_32 : decode cX9_write 32 = .ok (.aload_n 0, 1) := by decide +kernel
theorem dX9_write_33 : decode cX9_write 33 = .ok (.invokevirtual 152, 3) := by decide +kernel
theorem dX9_write_36 : decode cX9_write 36 = .ok (.aload_n 0, 1) := by decide +kernel
theorem dX9_write_37 : decode cX9_write 37 = .ok (.getfield 13, 3) := by decide +kernel
theorem dX9_write_40 : decode cX9_write 40 = .ok (.iload_n 2, 1) := by decide +kernel
theorem dX9_write_41 : decode cX9_write 41 = .ok (.iaload, 1) := by decide +kernel
theorem dX9_write_42 : decode cX9_write 42 = .ok (.bipush 40, 2) := by decide +kernel
theorem dX9_write_44 : decode cX9_write 44 = .ok (.invokestatic 77, 3) := by decide +kernel
theorem dX9_write_47 : decode cX9_write 47 = .ok (.istore_n 3, 1) := by decide +kernel
theorem dX9_write_48 : decode cX9_write 48 = .ok (.iconst 0, 1) := by decide +kernel
theorem dX9_write_49 : decode cX9_write 49 = .ok (.istore 4, 2) := by decide +kernel
theorem dX9_write_51 : decode cX9_write 51 = .ok (.iload 4, 2) := by decide +kernel
theorem dX9_write_53 : decode cX9_write 53 = .ok (.iload_n 3, 1) := by decide +kernel
theorem dX9_write_54 : decode cX9_write 54 = .ok (.if_icmp .ge 41, 3) := by decide +kernel
theorem dX9_write_57 : decode cX9_write 57 = .ok (.aload_n 0, 1) := by decide +kernel
theorem dX9_write_58 : decode cX9_write 58 = .ok (.getfield 16, 3) := by decide +kernel
theorem dX9_write_61 : decode cX9_write 61 = .ok (.bipush 60, 2) := by decide +kernel
theorem dX9_write_63 : decode cX9_write 63 = .ok (.iload_n 2, 1) := by decide +kernel
theorem dX9_write_64 : decode cX9_write 64 = .ok (.imul, 1) := by decide +kernel
theorem dX9_write_65 : decode cX9_write 65 = .ok (.iload 4, 2) := by decide +kernel
theorem dX9_write_67 : decode cX9_write 67 = .ok (.iadd, 1) := by decide +kernel
theorem dX9_write_68 : decode cX9_write 68 = .ok (.aload_n 0, 1) := by decide +kernel
theorem dX9_write_69 : decode cX9_write 69 = .ok (.getfield 7, 3) := by decide +kernel
theorem dX9_write_72 : decode cX9_write 72 = .ok (.iload_n 2, 1) := by decide +kernel
theorem dX9_write_73 : decode cX9_write 73 = .ok (.iaload, 1) := by decide +kernel
theorem dX9_write_74 : decode cX9_write 74 = .ok (.aload_n 0, 1) := by decide +kernel
theorem dX9_write_75 : decode cX9_write 75 = .ok (.getfield 44, 3) := by decide +kernel
theorem dX9_write_78 : decode cX9_write 78 = .ok (.iconst 2, 1) := by decide +kernel
theorem dX9_write_79 : decode cX9_write 79 = .ok (.iload 4, 2) := by decide +kernel
theorem dX9_write_81 : decode cX9_write 81 = .ok (.imul, 1) := by decide +kernel
theorem dX9_write_82 : decode cX9_write 82 = .ok (.iload_n 1, 1) := by decide +kernel
theorem dX9_write_83 : decode cX9_write 83 = .ok (.iadd, 1) := by decide +kernel
theorem dX9_write_84 : decode cX9_write 84 = .ok (.iaload, 1) := by decide +kernel
theorem dX9_write_85 : decode cX9_write 85 = .ok (.invokestatic 101, 3) := by decide +kernel
theorem dX9_write_88 : decode cX9_write 88 = .ok (.iastore, 1) := by decide +kernel
theorem dX9_write_89 : decode cX9_write 89 = .ok (.iinc 4 1, 3) := by decide +kernel
theorem dX9_write_92 : decode cX9_write 92 = .ok (.goto (-41), 3) := by decide +kernel
theorem dX9_write_95 : decode cX9_write 95 = .ok (.iload_n 3, 1) := by decide +kernel
theorem dX9_write_96 : decode cX9_write 96 = .ok (.ireturn, 1) := by decide +kernel
theorem dX9_count_0 : decode cX9_count 0 = .ok (.iconst 0, 1) := by decide +kernel
theorem dX9_count_1 : decode cX9_count 1 = .ok (.istore_n 2, 1) := by decide +kernel
theorem dX9_count_2 : decode cX9_count 2 = .ok (.aload_n 0, 1) := by decide +kernel
theorem dX9_count_3 : decode cX9_count 3 = .ok (.invokevirtual 128, 3) := by decide +kernel
theorem dX9_count_6 : decode cX9_count 6 = .ok (.iload_n 1, 1) := by decide +kernel
theorem dX9_count_7 : decode cX9_count 7 = .ok (.tableswitch 125 0 8 #[49, 54, 59, 59, 68, 73, 78, 113, 120], 49) := by decide +kernel
theorem dX9_count_56 : decode cX9_count 56 = .ok (.aload_n 0, 1) := by decide +kernel
theorem dX9_count_57 : decode cX9_count 57 = .ok (.getfield 110, 3) := by decide +kernel
theorem dX9_count_60 : decode cX9_count 60 = .ok (.ireturn, 1) := by decide +kernel
theorem dX9_count_61 : decode cX9_count 61 = .ok (.aload_n 0, 1) := by decide +kernel
theorem dX9_count_62 : decode cX9_count 62 = .ok (.getfield 118, 3) := by decide +kernel
theorem dX9_count_65 : decode cX9_count 65 = .ok (.ireturn, 1) := by decide +kernel
theorem dX9_count_66 : decode cX9_count 66 = .ok (.aload_n 0, 1) := by decide +kernel
theorem dX9_count_67 : decode cX9_count 67 = .ok (.getfield 25, 3) := by decide +kernel
theorem dX9_count_70 : decode cX9_count 70 = .ok (.iload_n 1, 1) := by decide +kernel
theorem dX9_count_71 : decode cX9_count 71 = .ok (.iconst 2, 1) := by decide +kernel
theorem dX9_count_72 : decode cX9_count 72 = .ok (.isub, 1) := by decide +kernel
theorem dX9_count_73 : decode cX9_count 73 = .ok (.iaload, 1) := by decide +kernel
theorem dX9_count_74 : decode cX9_count 74 = .ok (.ireturn, 1) := by decide +kernel
theorem dX9_count_75 : decode cX9_count 75 = .ok (.aload_n 0, 1) := by decide +kernel
theorem dX9_count_76 : decode cX9_count 76 = .ok (.getfield 249, 3) := by decide +kernel
theorem dX9_count_79 : decode cX9_count 79 = .ok (.ireturn, 1) := by decide +kernel
theorem dX9_count_80 : decode cX9_count 80 = .ok (.aload_n 0, 1) := by decide +kernel
theorem dX9_count_81 : decode cX9_count 81 = .ok (.getfield 113, 3) := by decide +kernel
theorem dX9_count_84 : decode cX9_count 84 = .ok (.ireturn, 1) := by decide +kernel
theorem dX9_count_85 : decode cX9_count 85 = .ok (.iconst 0, 1) := by decide +kernel
theorem dX9_count_86 : decode cX9_count 86 = .ok (.istore_n 3, 1) := by decide +kernel
theorem dX9_count_87 : decode cX9_count 87 = .ok (.iload_n 3, 1) := by decide +kernel
theorem dX9_count_88 : decode cX9_count 88 = .ok (.aload_n 0, 1) := by decide +kernel
theorem dX9_count_89 : decode cX9_count 89 = .ok (.getfield 118, 3) := by decide +kernel
theorem dX9_count_92 : decode cX9_count 92 = .ok (.if_icmp .ge 26, 3) := by decide +kernel
theorem dX9_count_95 : decode cX9_count 95 = .ok (.iload_n 2, 1) := by decide +kernel
theorem dX9_count_96 : decode cX9_count 96 = .ok (.aload_n 0, 1) := by decide +kernel
theorem dX9_count_97 : decode cX9_count 97 = .ok (.getfield 34, 3) := by decide +kernel
theorem dX9_count_100 : decode cX9_count 100 = .ok (.iload_n 3, 1) := by decide +kernel
theorem dX9_count_101 : decode cX9_count 101 = .ok (.baload, 1) := by decide +kernel
theorem dX9_count_102 : decode cX9_count 102 = .ok (.ifCond .eq 7, 3) := by decide +kernel
theorem dX9_count_105 : decode cX9_count 105 = .ok (.iconst 1, 1) := by decide +kernel
theorem dX9_count_106 : decode cX9_count 106 = .ok (.goto 4, 3) := by decide +kernel
theorem dX9_count_109 : decode cX9_count 109 = .ok (.iconst 0, 1) := by decide +kernel
theorem dX9_count_110 : decode cX9_count 110 = .ok (.iadd, 1) := by decide +kernel
theorem dX9_count_111 : decode cX9_count 111 = .ok (.istore_n 2, 1) := by decide +kernel
theorem dX9_count_112 : decode cX9_count 112 = .ok (.iinc 3 1, 3) := by decide +kernel
theorem dX9_count_115 : decode cX9_count 115 = .ok (.goto (-28), 3) := by decide +kernel
theorem dX9_count_118 : decode cX9_count 118 = .ok (.iload_n 2, 1) := by decide +kernel
theorem dX9_count_119 : decode cX9_count 119 = .ok (.ireturn, 1) := by decide +kernel
theorem dX9_count_120 : decode cX9_count 120 = .ok (.aload_n 0, 1) := by decide +kernel
theorem dX9_count_121 : decode cX9_count 121 = .ok (.getfield 41, 3) := by decide +kernel
theorem dX9_count_124 : decode cX9_count 124 = .ok (.iconst 4, 1) := by decide +kernel
theorem dX9_count_125 : decode cX9_count 125 = .ok (.iaload, 1) := by decide +kernel
theorem dX9_count_126 : decode cX9_count 126 = .ok (.ireturn, 1) := by decide +kernel
theorem dX9_count_127 : decode cX9_count 127 = .ok (.aload_n 0, 1) := by decide +kernel
theorem dX9_count_128 : decode cX9_count 128 = .ok (.getfield 81, 3) := by decide +kernel
theorem dX9_count_131 : decode cX9_count 131 = .ok (.ireturn, 1) := by decide +kernel
theorem dX9_count_132 : decode cX9_count 132 = .ok (.bipush (-2), 2) := by decide +kernel
theorem dX9_count_134 : decode cX9_count 134 = .ok (.ireturn, 1) := by decide +kernel
theorem dX9_digest_0 : decode cX9_digest 0 = .ok (.ldc2_w 272, 3) := by decide +kernel
theorem dX9_digest_3 : decode cX9_digest 3 = .ok (.lstore_n 1, 1) := by decide +kernel
theorem dX9_digest_4 : decode cX9_digest 4 = .ok (.iconst 0, 1) := by decide +kernel
theorem dX9_digest_5 : decode cX9_digest 5 = .ok (.istore_n 3, 1) := by decide +kernel
theorem dX9_digest_6 : decode cX9_digest 6 = .ok (.iload_n 3, 1) := by decide +kernel
theorem dX9_digest_7 : decode cX9_digest 7 = .ok (.bipush 8, 2) := by decide +kernel
theorem dX9_digest_9 : decode cX9_digest 9 = .ok (.if_icmp .ge 22, 3) := by decide +kernel
theorem dX9_digest_12 : decode cX9_digest 12 = .ok (.ldc2_w 274, 3) := by decide +kernel
theorem dX9_digest_15 : decode cX9_digest 15 = .ok (.lload_n 1, 1) := by decide +kernel
theorem dX9_digest_16 : decode cX9_digest 16 = .ok (.lmul, 1) := by decide +kernel
theorem dX9_digest_17 : decode cX9_digest 17 = .ok (.aload_n 0, 1) := by decide +kernel
theorem dX9_digest_18 : decode cX9_digest 18 = .ok (.iload_n 3, 1) := by decide +kernel
theorem dX9_digest_19 : decode cX9_digest 19 = .ok (.invokevirtual 276, 3) := by decide +kernel
theorem dX9_digest_22 : decode cX9_digest 22 = .ok (.i2l, 1) := by decide +kernel
theorem dX9_digest_23 : decode cX9_digest 23 = .ok (.ladd, 1) := by decide +kernel
theorem dX9_digest_24 : decode cX9_digest 24 = .ok (.lstore_n 1, 1) := by decide +kernel
theorem dX9_digest_25 : decode cX9_digest 25 = .ok (.iinc 3 1, 3) := by decide +kernel
theorem dX9_digest_28 : decode cX9_digest 28 = .ok (.goto (-22), 3) := by decide +kernel
theorem dX9_digest_31 : decode cX9_digest 31 = .ok (.ldc2_w 274, 3) := by decide +kernel
theorem dX9_digest_34 : decode cX9_digest 34 = .ok (.lload_n 1, 1) := by decide +kernel
theorem dX9_digest_35 : decode cX9_digest 35 = .ok (.lmul, 1) := by decide +kernel
theorem dX9_digest_36 : decode cX9_digest 36 = .ok (.aload_n 0, 1) := by decide +kernel
theorem dX9_digest_37 : decode cX9_digest 37 = .ok (.invokevirtual 121, 3) := by decide +kernel
theorem dX9_digest_40 : decode cX9_digest 40 = .ok (.i2l, 1) := by decide +kernel
theorem dX9_digest_41 : decode cX9_digest 41 = .ok (.ladd, 1) := by decide +kernel
theorem dX9_digest_42 : decode cX9_digest 42 = .ok (.lstore_n 1, 1) := by decide +kernel
theorem dX9_digest_43 : decode cX9_digest 43 = .ok (.ldc2_w 274, 3) := by decide +kernel
theorem dX9_digest_46 : decode cX9_digest 46 = .ok (.lload_n 1, 1) := by decide +kernel
theorem dX9_digest_47 : decode cX9_digest 47 = .ok (.lmul, 1) := by decide +kernel
theorem dX9_digest_48 : decode cX9_digest 48 = .ok (.aload_n 0, 1) := by decide +kernel
theorem dX9_digest_49 : decode cX9_digest 49 = .ok (.invokevirtual 125, 3) := by decide +kernel
theorem dX9_digest_52 : decode cX9_digest 52 = .ok (.i2l, 1) := by decide +kernel
theorem dX9_digest_53 : decode cX9_digest 53 = .ok (.ladd, 1) := by decide +kernel
theorem dX9_digest_54 : decode cX9_digest 54 = .ok (.lstore_n 1, 1) := by decide +kernel
theorem dX9_digest_55 : decode cX9_digest 55 = .ok (.aload_n 0, 1) := by decide +kernel
theorem dX9_digest_56 : decode cX9_digest 56 = .ok (.invokevirtual 152, 3) := by decide +kernel
theorem dX9_digest_59 : decode cX9_digest 59 = .ok (.iconst 0, 1) := by decide +kernel
theorem dX9_digest_60 : decode cX9_digest 60 = .ok (.istore_n 3, 1) := by decide +kernel
theorem dX9_digest_61 : decode cX9_digest 61 = .ok (.iload_n 3, 1) := by decide +kernel
theorem dX9_digest_62 : decode cX9_digest 62 = .ok (.aload_n 0, 1) := by decide +kernel
theorem dX9_digest_63 : decode cX9_digest 63 = .ok (.getfield 110, 3) := by decide +kernel
theorem dX9_digest_66 : decode cX9_digest 66 = .ok (.if_icmp .ge 69, 3) := by decide +kernel
theorem dX9_digest_69 : decode cX9_digest 69 = .ok (.ldc2_w 274, 3) := by decide +kernel
theorem dX9_digest_72 : decode cX9_digest 72 = .ok (.lload_n 1, 1) := by decide +kernel
theorem dX9_digest_73 : decode cX9_digest 73 = .ok (.lmul, 1) := by decide +kernel
theorem dX9_digest_74 : decode cX9_digest 74 = .ok (.aload_n 0, 1) := by decide +kernel
theorem dX9_digest_75 : decode cX9_digest 75 = .ok (.getfield 28, 3) := by decide +kernel
theorem dX9_digest_78 : decode cX9_digest 78 = .ok (.iload_n 3, 1) := by decide +kernel
theorem dX9_digest_79 : decode cX9_digest 79 = .ok (.iaload, 1) := by decide +kernel
theorem dX9_digest_80 : decode cX9_digest 80 = .ok (.i2l, 1) := by decide +kernel
theorem dX9_digest_81 : decode cX9_digest 81 = .ok (.ladd, 1) := by decide +kernel
theorem dX9_digest_82 : decode cX9_digest 82 = .ok (.lstore_n 1, 1) := by decide +kernel
theorem dX9_digest_83 : decode cX9_digest 83 = .ok (.ldc2_w 274, 3) := by decide +kernel
theorem dX9_digest_86 : decode cX9_digest 86 = .ok (.lload_n 1, 1) := by decide +kernel
theorem dX9_digest_87 : decode cX9_digest 87 = .ok (.lmul, 1) := by decide +kernel
theorem dX9_digest_88 : decode cX9_digest 88 = .ok (.aload_n 0, 1) := by decide +kernel
theorem dX9_digest_89 : decode cX9_digest 89 = .ok (.iconst 3, 1) := by decide +kernel
theorem dX9_digest_90 : decode cX9_digest 90 = .ok (.iload_n 3, 1) := by decide +kernel
theorem dX9_digest_91 : decode cX9_digest 91 = .ok (.invokevirtual 174, 3) := by decide +kernel
theorem dX9_digest_94 : decode cX9_digest 94 = .ok (.i2l, 1) := by decide +kernel
theorem dX9_digest_95 : decode cX9_digest 95 = .ok (.aload_n 0, 1) := by decide +kernel
theorem dX9_digest_96 : decode cX9_digest 96 = .ok (.getfield 113, 3) := by decide +kernel
theorem dX9_digest_99 : decode cX9_digest 99 = .ok (.i2l, 1) := by decide +kernel
theorem dX9_digest_100 : decode cX9_digest 100 = .ok (.iconst 0, 1) := by decide +kernel
theorem dX9_digest_101 : decode cX9_digest 101 = .ok (.invokestatic 177, 3) := by decide +kernel
theorem dX9_digest_104 : decode cX9_digest 104 = .ok (.ladd, 1) := by decide +kernel
theorem dX9_digest_105 : decode cX9_digest 105 = .ok (.lstore_n 1, 1) := by decide +kernel
theorem dX9_digest_106 : decode cX9_digest 106 = .ok (.ldc2_w 274, 3) := by decide +kernel
theorem dX9_digest_109 : decode cX9_digest 109 = .ok (.lload_n 1, 1) := by decide +kernel
theorem dX9_digest_110 : decode cX9_digest 110 = .ok (.lmul, 1) := by decide +kernel
theorem dX9_digest_111 : decode cX9_digest 111 = .ok (.aload_n 0, 1) := by decide +kernel
theorem dX9_digest_112 : decode cX9_digest 112 = .ok (.iconst 3, 1) := by decide +kernel
theorem dX9_digest_113 : decode cX9_digest 113 = .ok (.iload_n 3, 1) := by decide +kernel
theorem dX9_digest_114 : decode cX9_digest 114 = .ok (.invokevirtual 174, 3) := by decide +kernel
theorem dX9_digest_117 : decode cX9_digest 117 = .ok (.i2l, 1) := by decide +kernel
theorem dX9_digest_118 : decode cX9_digest 118 = .ok (.aload_n 0, 1) := by decide +kernel
theorem dX9_digest_119 : decode cX9_digest 119 = .ok (.getfield 113, 3) := by decide +kernel
theorem dX9_digest_122 : decode cX9_digest 122 = .ok (.i2l, 1) := by decide +kernel
theorem dX9_digest_123 : decode cX9_digest 123 = .ok (.iconst 1, 1) := by decide +kernel
theorem dX9_digest_124 : decode cX9_digest 124 = .ok (.invokestatic 177, 3) := by decide +kernel
theorem dX9_digest_127 : decode cX9_digest 127 = .ok (.ladd, 1) := by decide +kernel
theorem dX9_digest_128 : decode cX9_digest 128 = .ok (.lstore_n 1, 1) := by decide +kernel
theorem dX9_digest_129 : decode cX9_digest 129 = .ok (.iinc 3 1, 3) := by decide +kernel
theorem dX9_digest_132 : decode cX9_digest 132 = .ok (.goto (-71), 3) := by decide +kernel
theorem dX9_digest_135 : decode cX9_digest 135 = .ok (.iconst 0, 1) := by decide +kernel
theorem dX9_digest_136 : decode cX9_digest 136 = .ok (.istore_n 3, 1) := by decide +kernel
theorem dX9_digest_137 : decode cX9_digest 137 = .ok (.iload_n 3, 1) := by decide +kernel
theorem dX9_digest_138 : decode cX9_digest 138 = .ok (.aload_n 0, 1) := by decide +kernel
theorem dX9_digest_139 : decode cX9_digest 139 = .ok (.getfield 118, 3) := by decide +kernel
theorem dX9_digest_142 : decode cX9_digest 142 = .ok (.if_icmp .ge 45, 3) := by decide +kernel
theorem dX9_digest_145 : decode cX9_digest 145 = .ok (.ldc2_w 274, 3) := by decide +kernel
theorem dX9_digest_148 : decode cX9_digest 148 = .ok (.lload_n 1, 1) := by decide +kernel
theorem dX9_digest_149 : decode cX9_digest 149 = .ok (.lmul, 1) := by decide +kernel
theorem dX9_digest_150 : decode cX9_digest 150 = .ok (.aload_n 0, 1) := by decide +kernel
theorem dX9_digest_151 : decode cX9_digest 151 = .ok (.getfield 31, 3) := by decide +kernel
theorem dX9_digest_154 : decode cX9_digest 154 = .ok (.iload_n 3, 1) := by decide +kernel
theorem dX9_digest_155 : decode cX9_digest 155 = .ok (.iaload, 1) := by decide +kernel
theorem dX9_digest_156 : decode cX9_digest 156 = .ok (.i2l, 1) := by decide +kernel
theorem dX9_digest_157 : decode cX9_digest 157 = .ok (.ladd, 1) := by decide +kernel
theorem dX9_digest_158 : decode cX9_digest 158 = .ok (.lstore_n 1, 1) := by decide +kernel
theorem dX9_digest_159 : decode cX9_digest 159 = .ok (.ldc2_w 274, 3) := by decide +kernel
theorem dX9_digest_162 : decode cX9_digest 162 = .ok (.lload_n 1, 1) := by decide +kernel
theorem dX9_digest_163 : decode cX9_digest 163 = .ok (.lmul, 1) := by decide +kernel
theorem dX9_digest_164 : decode cX9_digest 164 = .ok (.aload_n 0, 1) := by decide +kernel
theorem dX9_digest_165 : decode cX9_digest 165 = .ok (.getfield 34, 3) := by decide +kernel
theorem dX9_digest_168 : decode cX9_digest 168 = .ok (.iload_n 3, 1) := by decide +kernel
theorem dX9_digest_169 : decode cX9_digest 169 = .ok (.baload, 1) := by decide +kernel
theorem dX9_digest_170 : decode cX9_digest 170 = .ok (.ifCond .eq 7, 3) := by decide +kernel
theorem dX9_digest_173 : decode cX9_digest 173 = .ok (.iconst 1, 1) := by decide +kernel
theorem dX9_digest_174 : decode cX9_digest 174 = .ok (.goto 4, 3) := by decide +kernel
theorem dX9_digest_177 : decode cX9_digest 177 = .ok (.iconst 0, 1) := by decide +kernel
theorem dX9_digest_178 : decode cX9_digest 178 = .ok (.i2l, 1) := by decide +kernel
theorem dX9_digest_179 : decode cX9_digest 179 = .ok (.ladd, 1) := by decide +kernel
theorem dX9_digest_180 : decode cX9_digest 180 = .ok (.lstore_n 1, 1) := by decide +kernel
theorem dX9_digest_181 : decode cX9_digest 181 = .ok (.iinc 3 1, 3) := by decide +kernel
theorem dX9_digest_184 : decode cX9_digest 184 = .ok (.goto (-47), 3) := by decide +kernel
theorem dX9_digest_187 : decode cX9_digest 187 = .ok (.iconst 0, 1) := by decide +kernel
theorem dX9_digest_188 : decode cX9_digest 188 = .ok (.istore_n 3, 1) := by decide +kernel
theorem dX9_digest_189 : decode cX9_digest 189 = .ok (.iload_n 3, 1) := by decide +kernel
theorem dX9_digest_190 : decode cX9_digest 190 = .ok (.iconst 4, 1) := by decide +kernel
theorem dX9_digest_191 : decode cX9_digest 191 = .ok (.if_icmp .ge 113, 3) := by decide +kernel
theorem dX9_digest_194 : decode cX9_digest 194 = .ok (.iload_n 3, 1) := by decide +kernel
theorem dX9_digest_195 : decode cX9_digest 195 = .ok (.iconst 2, 1) := by decide +kernel
theorem dX9_digest_196 : decode cX9_digest 196 = .ok (.if_icmp .ge 7, 3) := by decide +kernel
theorem dX9_digest_199 : decode cX9_digest 199 = .ok (.iload_n 3, 1) := by decide +kernel
theorem dX9_digest_200 : decode cX9_digest 200 = .ok (.goto 15, 3) := by decide +kernel
theorem dX9_digest_203 : decode cX9_digest 203 = .ok (.iload_n 3, 1) := by decide +kernel
theorem dX9_digest_204 : decode cX9_digest 204 = .ok (.iconst 2, 1) := by decide +kernel
theorem dX9_digest_205 : decode cX9_digest 205 = .ok (.if_icmp .ne 8, 3) := by decide +kernel
theorem dX9_digest_208 : decode cX9_digest 208 = .ok (.bipush 7, 2) := by decide +kernel
theorem dX9_digest_210 : decode cX9_digest 210 = .ok (.goto 5, 3) := by decide +kernel
theorem dX9_digest_213 : decode cX9_digest 213 = .ok (.bipush 39, 2) := by decide +kernel
theorem dX9_digest_215 : decode cX9_digest 215 = .ok (.istore 4, 2) := by decide +kernel
theorem dX9_digest_217 : decode cX9_digest 217 = .ok (.ldc2_w 274, 3) := by decide +kernel
theorem dX9_digest_220 : decode cX9_digest 220 = .ok (.lload_n 1, 1) := by decide +kernel
theorem dX9_digest_221 : decode cX9_digest 221 = .ok (.lmul, 1) := by decide +kernel
theorem dX9_digest_222 : decode cX9_digest 222 = .ok (.aload_n 0, 1) := by decide +kernel
theorem dX9_digest_223 : decode cX9_digest 223 = .ok (.getfield 44, 3) := by decide +kernel
theorem dX9_digest_226 : decode cX9_digest 226 = .ok (.iconst 2, 1) := by decide +kernel
theorem dX9_digest_227 : decode cX9_digest 227 = .ok (.iload 4, 2) := by decide +kernel
theorem dX9_digest_229 : decode cX9_digest 229 = .ok (.imul, 1) := by decide +kernel
theorem dX9_digest_230 : decode cX9_digest 230 = .ok (.iaload, 1) := by decide +kernel
theorem dX9_digest_231 : decode cX9_digest 231 = .ok (.i2l, 1) := by decide +kernel
theorem dX9_digest_232 : decode cX9_digest 232 = .ok (.ladd, 1) := by decide +kernel
theorem dX9_digest_233 : decode cX9_digest 233 = .ok (.lstore_n 1, 1) := by decide +kernel
theorem dX9_digest_234 : decode cX9_digest 234 = .ok (.ldc2_w 274, 3) := by decide +kernel
theorem dX9_digest_237 : decode cX9_digest 237 = .ok (.lload_n 1, 1) := by decide +kernel
theorem dX9_digest_238 : decode cX9_digest 238 = .ok (.lmul, 1) := by decide +kernel
theorem dX9_digest_239 : decode cX9_digest 239 = .ok (.aload_n 0, 1) := by decide +kernel
theorem dX9_digest_240 : decode cX9_digest 240 = .ok (.getfield 44, 3) := by decide +kernel
theorem dX9_digest_243 : decode cX9_digest 243 = .ok (.iconst 2, 1) := by decide +kernel
theorem dX9_digest_244 : decode cX9_digest 244 = .ok (.iload 4, 2) := by decide +kernel
theorem dX9_digest_246 : decode cX9_digest 246 = .ok (.imul, 1) := by decide +kernel
theorem dX9_digest_247 : decode cX9_digest 247 = .ok (.iconst 1, 1) := by decide +kernel
theorem dX9_digest_248 : decode cX9_digest 248 = .ok (.iadd, 1) := by decide +kernel
theorem dX9_digest_249 : decode cX9_digest 249 = .ok (.iaload, 1) := by decide +kernel
theorem dX9_digest_250 : decode cX9_digest 250 = .ok (.i2l, 1) := by decide +kernel
theorem dX9_digest_251 : decode cX9_digest 251 = .ok (.ladd, 1) := by decide +kernel
theorem dX9_digest_252 : decode cX9_digest 252 = .ok (.lstore_n 1, 1) := by decide +kernel
theorem dX9_digest_253 : decode cX9_digest 253 = .ok (.iconst 0, 1) := by decide +kernel
theorem dX9_digest_254 : decode cX9_digest 254 = .ok (.istore 5, 2) := by decide +kernel
theorem dX9_digest_256 : decode cX9_digest 256 = .ok (.iload 5, 2) := by decide +kernel
theorem dX9_digest_258 : decode cX9_digest 258 = .ok (.iconst 3, 1) := by decide +kernel
theorem dX9_digest_259 : decode cX9_digest 259 = .ok (.if_icmp .ge 25, 3) := by decide +kernel
theorem dX9_digest_262 : decode cX9_digest 262 = .ok (.ldc2_w 274, 3) := by decide +kernel
theorem dX9_digest_265 : decode cX9_digest 265 = .ok (.lload_n 1, 1) := by decide +kernel
theorem dX9_digest_266 : decode cX9_digest 266 = .ok (.lmul, 1) := by decide +kernel
theorem dX9_digest_267 : decode cX9_digest 267 = .ok (.aload_n 0, 1) := by decide +kernel
theorem dX9_digest_268 : decode cX9_digest 268 = .ok (.iload 4, 2) := by decide +kernel
theorem dX9_digest_270 : decode cX9_digest 270 = .ok (.iload 5, 2) := by decide +kernel
theorem dX9_digest_272 : decode cX9_digest 272 = .ok (.invokevirtual 161, 3) := by decide +kernel
theorem dX9_digest_275 : decode cX9_digest 275 = .ok (.i2l, 1) := by decide +kernel
theorem dX9_digest_276 : decode cX9_digest 276 = .ok (.ladd, 1) := by decide +kernel
theorem dX9_digest_277 : decode cX9_digest 277 = .ok (.lstore_n 1, 1) := by decide +kernel
theorem dX9_digest_278 : decode cX9_digest 278 = .ok (.iinc 5 1, 3) := by decide +kernel
theorem dX9_digest_281 : decode cX9_digest 281 = .ok (.goto (-25), 3) := by decide +kernel
theorem dX9_digest_284 : decode cX9_digest 284 = .ok (.ldc2_w 274, 3) := by decide +kernel
theorem dX9_digest_287 : decode cX9_digest 287 = .ok (.lload_n 1, 1) := by decide +kernel
theorem dX9_digest_288 : decode cX9_digest 288 = .ok (.lmul, 1) := by decide +kernel
theorem dX9_digest_289 : decode cX9_digest 289 = .ok (.aload_n 0, 1) := by decide +kernel
theorem dX9_digest_290 : decode cX9_digest 290 = .ok (.iload 4, 2) := by decide +kernel
theorem dX9_digest_292 : decode cX9_digest 292 = .ok (.invokevirtual 181, 3) := by decide +kernel
theorem dX9_digest_295 : decode cX9_digest 295 = .ok (.i2l, 1) := by decide +kernel
theorem dX9_digest_296 : decode cX9_digest 296 = .ok (.ladd, 1) := by decide +kernel
theorem dX9_digest_297 : decode cX9_digest 297 = .ok (.lstore_n 1, 1) := by decide +kernel
theorem dX9_digest_298 : decode cX9_digest 298 = .ok (.iinc 3 1, 3) := by decide +kernel
theorem dX9_digest_301 : decode cX9_digest 301 = .ok (.goto (-112), 3) := by decide +kernel
theorem dX9_digest_304 : decode cX9_digest 304 = .ok (.ldc2_w 274, 3) := by decide +kernel
theorem dX9_digest_307 : decode cX9_digest 307 = .ok (.lload_n 1, 1) := by decide +kernel
theorem dX9_digest_308 : decode cX9_digest 308 = .ok (.lmul, 1) := by decide +kernel
theorem dX9_digest_309 : decode cX9_digest 309 = .ok (.aload_n 0, 1) := by decide +kernel
theorem dX9_digest_310 : decode cX9_digest 310 = .ok (.invokevirtual 188, 3) := by decide +kernel
theorem dX9_digest_313 : decode cX9_digest 313 = .ok (.i2l, 1) := by decide +kernel
theorem dX9_digest_314 : decode cX9_digest 314 = .ok (.ladd, 1) := by decide +kernel
theorem dX9_digest_315 : decode cX9_digest 315 = .ok (.lstore_n 1, 1) := by decide +kernel
theorem dX9_digest_316 : decode cX9_digest 316 = .ok (.ldc2_w 274, 3) := by decide +kernel
theorem dX9_digest_319 : decode cX9_digest 319 = .ok (.lload_n 1, 1) := by decide +kernel
theorem dX9_digest_320 : decode cX9_digest 320 = .ok (.lmul, 1) := by decide +kernel
theorem dX9_digest_321 : decode cX9_digest 321 = .ok (.aload_n 0, 1) := by decide +kernel
theorem dX9_digest_322 : decode cX9_digest 322 = .ok (.iconst 0, 1) := by decide +kernel
theorem dX9_digest_323 : decode cX9_digest 323 = .ok (.invokevirtual 194, 3) := by decide +kernel
theorem dX9_digest_326 : decode cX9_digest 326 = .ok (.i2l, 1) := by decide +kernel
theorem dX9_digest_327 : decode cX9_digest 327 = .ok (.ladd, 1) := by decide +kernel
theorem dX9_digest_328 : decode cX9_digest 328 = .ok (.lstore_n 1, 1) := by decide +kernel
theorem dX9_digest_329 : decode cX9_digest 329 = .ok (.ldc2_w 274, 3) := by decide +kernel
theorem dX9_digest_332 : decode cX9_digest 332 = .ok (.lload_n 1, 1) := by decide +kernel
theorem dX9_digest_333 : decode cX9_digest 333 = .ok (.lmul, 1) := by decide +kernel
theorem dX9_digest_334 : decode cX9_digest 334 = .ok (.aload_n 0, 1) := by decide +kernel
theorem dX9_digest_335 : decode cX9_digest 335 = .ok (.iconst 1, 1) := by decide +kernel
theorem dX9_digest_336 : decode cX9_digest 336 = .ok (.invokevirtual 194, 3) := by decide +kernel
theorem dX9_digest_339 : decode cX9_digest 339 = .ok (.i2l, 1) := by decide +kernel
theorem dX9_digest_340 : decode cX9_digest 340 = .ok (.ladd, 1) := by decide +kernel
theorem dX9_digest_341 : decode cX9_digest 341 = .ok (.lstore_n 1, 1) := by decide +kernel
theorem dX9_digest_342 : decode cX9_digest 342 = .ok (.ldc2_w 274, 3) := by decide +kernel
theorem dX9_digest_345 : decode cX9_digest 345 = .ok (.lload_n 1, 1) := by decide +kernel
theorem dX9_digest_346 : decode cX9_digest 346 = .ok (.lmul, 1) := by decide +kernel
theorem dX9_digest_347 : decode cX9_digest 347 = .ok (.aload_n 0, 1) := by decide +kernel
theorem dX9_digest_348 : decode cX9_digest 348 = .ok (.invokevirtual 197, 3) := by decide +kernel
theorem dX9_digest_351 : decode cX9_digest 351 = .ok (.i2l, 1) := by decide +kernel
theorem dX9_digest_352 : decode cX9_digest 352 = .ok (.ladd, 1) := by decide +kernel
theorem dX9_digest_353 : decode cX9_digest 353 = .ok (.lstore_n 1, 1) := by decide +kernel
theorem dX9_digest_354 : decode cX9_digest 354 = .ok (.ldc2_w 274, 3) := by decide +kernel
theorem dX9_digest_357 : decode cX9_digest 357 = .ok (.lload_n 1, 1) := by decide +kernel
theorem dX9_digest_358 : decode cX9_digest 358 = .ok (.lmul, 1) := by decide +kernel
theorem dX9_digest_359 : decode cX9_digest 359 = .ok (.aload_n 0, 1) := by decide +kernel
theorem dX9_digest_360 : decode cX9_digest 360 = .ok (.invokevirtual 203, 3) := by decide +kernel
theorem dX9_digest_363 : decode cX9_digest 363 = .ok (.i2l, 1) := by decide +kernel
theorem dX9_digest_364 : decode cX9_digest 364 = .ok (.ladd, 1) := by decide +kernel
theorem dX9_digest_365 : decode cX9_digest 365 = .ok (.lstore_n 1, 1) := by decide +kernel
theorem dX9_digest_366 : decode cX9_digest 366 = .ok (.ldc2_w 274, 3) := by decide +kernel
theorem dX9_digest_369 : decode cX9_digest 369 = .ok (.lload_n 1, 1) := by decide +kernel
theorem dX9_digest_370 : decode cX9_digest 370 = .ok (.lmul, 1) := by decide +kernel
theorem dX9_digest_371 : decode cX9_digest 371 = .ok (.aload_n 0, 1) := by decide +kernel
theorem dX9_digest_372 : decode cX9_digest 372 = .ok (.invokevirtual 206, 3) := by decide +kernel
theorem dX9_digest_375 : decode cX9_digest 375 = .ok (.i2l, 1) := by decide +kernel
theorem dX9_digest_376 : decode cX9_digest 376 = .ok (.ladd, 1) := by decide +kernel
theorem dX9_digest_377 : decode cX9_digest 377 = .ok (.lstore_n 1, 1) := by decide +kernel
theorem dX9_digest_378 : decode cX9_digest 378 = .ok (.ldc2_w 274, 3) := by decide +kernel
theorem dX9_digest_381 : decode cX9_digest 381 = .ok (.lload_n 1, 1) := by decide +kernel
theorem dX9_digest_382 : decode cX9_digest 382 = .ok (.lmul, 1) := by decide +kernel
theorem dX9_digest_383 : decode cX9_digest 383 = .ok (.aload_n 0, 1) := by decide +kernel
theorem dX9_digest_384 : decode cX9_digest 384 = .ok (.iconst 0, 1) := by decide +kernel
theorem dX9_digest_385 : decode cX9_digest 385 = .ok (.invokevirtual 209, 3) := by decide +kernel
theorem dX9_digest_388 : decode cX9_digest 388 = .ok (.i2l, 1) := by decide +kernel
theorem dX9_digest_389 : decode cX9_digest 389 = .ok (.ladd, 1) := by decide +kernel
theorem dX9_digest_390 : decode cX9_digest 390 = .ok (.lstore_n 1, 1) := by decide +kernel
theorem dX9_digest_391 : decode cX9_digest 391 = .ok (.ldc2_w 274, 3) := by decide +kernel
theorem dX9_digest_394 : decode cX9_digest 394 = .ok (.lload_n 1, 1) := by decide +kernel
theorem dX9_digest_395 : decode cX9_digest 395 = .ok (.lmul, 1) := by decide +kernel
theorem dX9_digest_396 : decode cX9_digest 396 = .ok (.aload_n 0, 1) := by decide +kernel
theorem dX9_digest_397 : decode cX9_digest 397 = .ok (.iconst 1, 1) := by decide +kernel
theorem dX9_digest_398 : decode cX9_digest 398 = .ok (.invokevirtual 209, 3) := by decide +kernel
theorem dX9_digest_401 : decode cX9_digest 401 = .ok (.i2l, 1) := by decide +kernel
theorem dX9_digest_402 : decode cX9_digest 402 = .ok (.ladd, 1) := by decide +kernel
theorem dX9_digest_403 : decode cX9_digest 403 = .ok (.lstore_n 1, 1) := by decide +kernel
theorem dX9_digest_404 : decode cX9_digest 404 = .ok (.ldc2_w 274, 3) := by decide +kernel
theorem dX9_digest_407 : decode cX9_digest 407 = .ok (.lload_n 1, 1) := by decide +kernel
theorem dX9_digest_408 : decode cX9_digest 408 = .ok (.lmul, 1) := by decide +kernel
theorem dX9_digest_409 : decode cX9_digest 409 = .ok (.aload_n 0, 1) := by decide +kernel
theorem dX9_digest_410 : decode cX9_digest 410 = .ok (.iconst 0, 1) := by decide +kernel
theorem dX9_digest_411 : decode cX9_digest 411 = .ok (.iconst 3, 1) := by decide +kernel
theorem dX9_digest_412 : decode cX9_digest 412 = .ok (.invokevirtual 212, 3) := by decide +kernel
theorem dX9_digest_415 : decode cX9_digest 415 = .ok (.i2l, 1) := by decide +kernel
theorem dX9_digest_416 : decode cX9_digest 416 = .ok (.ladd, 1) := by decide +kernel
theorem dX9_digest_417 : decode cX9_digest 417 = .ok (.lstore_n 1, 1) := by decide +kernel
theorem dX9_digest_418 : decode cX9_digest 418 = .ok (.ldc2_w 274, 3) := by decide +kernel
theorem dX9_digest_421 : decode cX9_digest 421 = .ok (.lload_n 1, 1) := by decide +kernel
theorem dX9_digest_422 : decode cX9_digest 422 = .ok (.lmul, 1) := by decide +kernel
theorem dX9_digest_423 : decode cX9_digest 423 = .ok (.aload_n 0, 1) := by decide +kernel
theorem dX9_digest_424 : decode cX9_digest 424 = .ok (.iconst 4, 1) := by decide +kernel
theorem dX9_digest_425 : decode cX9_digest 425 = .ok (.iconst 1, 1) := by decide +kernel
theorem dX9_digest_426 : decode cX9_digest 426 = .ok (.invokevirtual 212, 3) := by decide +kernel
theorem dX9_digest_429 : decode cX9_digest 429 = .ok (.i2l, 1) := by decide +kernel
theorem dX9_digest_430 : decode cX9_digest 430 = .ok (.ladd, 1) := by decide +kernel
theorem dX9_digest_431 : decode cX9_digest 431 = .ok (.lstore_n 1, 1) := by decide +kernel
theorem dX9_digest_432 : decode cX9_digest 432 = .ok (.ldc2_w 274, 3) := by decide +kernel
theorem dX9_digest_435 : decode cX9_digest 435 = .ok (.lload_n 1, 1) := by decide +kernel
theorem dX9_digest_436 : decode cX9_digest 436 = .ok (.lmul, 1) := by decide +kernel
theorem dX9_digest_437 : decode cX9_digest 437 = .ok (.aload_n 0, 1) := by decide +kernel
theorem dX9_digest_438 : decode cX9_digest 438 = .ok (.iconst 0, 1) := by decide +kernel
theorem dX9_digest_439 : decode cX9_digest 439 = .ok (.invokevirtual 215, 3) := by decide +kernel
theorem dX9_digest_442 : decode cX9_digest 442 = .ok (.i2l, 1) := by decide +kernel
theorem dX9_digest_443 : decode cX9_digest 443 = .ok (.ladd, 1) := by decide +kernel
theorem dX9_digest_444 : decode cX9_digest 444 = .ok (.lstore_n 1, 1) := by decide +kernel
theorem dX9_digest_445 : decode cX9_digest 445 = .ok (.ldc2_w 274, 3) := by decide +kernel
theorem dX9_digest_448 : decode cX9_digest 448 = .ok (.lload_n 1, 1) := by decide +kernel
theorem dX9_digest_449 : decode cX9_digest 449 = .ok (.lmul, 1) := by decide +kernel
theorem dX9_digest_450 : decode cX9_digest 450 = .ok (.aload_n 0, 1) := by decide +kernel
theorem dX9_digest_451 : decode cX9_digest 451 = .ok (.iconst 1, 1) := by decide +kernel
theorem dX9_digest_452 : decode cX9_digest 452 = .ok (.invokevirtual 215, 3) := by decide +kernel
theorem dX9_digest_455 : decode cX9_digest 455 = .ok (.i2l, 1) := by decide +kernel
theorem dX9_digest_456 : decode cX9_digest 456 = .ok (.ladd, 1) := by decide +kernel
theorem dX9_digest_457 : decode cX9_digest 457 = .ok (.lstore_n 1, 1) := by decide +kernel
theorem dX9_digest_458 : decode cX9_digest 458 = .ok (.aload_n 0, 1) := by decide +kernel
theorem dX9_digest_459 : decode cX9_digest 459 = .ok (.invokevirtual 240, 3) := by decide +kernel
theorem dX9_digest_462 : decode cX9_digest 462 = .ok (.ldc2_w 274, 3) := by decide +kernel
theorem dX9_digest_465 : decode cX9_digest 465 = .ok (.lload_n 1, 1) := by decide +kernel
theorem dX9_digest_466 : decode cX9_digest 466 = .ok (.lmul, 1) := by decide +kernel
theorem dX9_digest_467 : decode cX9_digest 467 = .ok (.aload_n 0, 1) := by decide +kernel
theorem dX9_digest_468 : decode cX9_digest 468 = .ok (.iconst 0, 1) := by decide +kernel
theorem dX9_digest_469 : decode cX9_digest 469 = .ok (.invokevirtual 243, 3) := by decide +kernel
theorem dX9_digest_472 : decode cX9_digest 472 = .ok (.i2l, 1) := by decide +kernel
theorem dX9_digest_473 : decode cX9_digest 473 = .ok (.ladd, 1) := by decide +kernel
theorem dX9_digest_474 : decode cX9_digest 474 = .ok (.lstore_n 1, 1) := by decide +kernel
theorem dX9_digest_475 : decode cX9_digest 475 = .ok (.ldc2_w 274, 3) := by decide +kernel
theorem dX9_digest_478 : decode cX9_digest 478 = .ok (.lload_n 1, 1) := by decide +kernel
theorem dX9_digest_479 : decode cX9_digest 479 = .ok (.lmul, 1) := by decide +kernel
theorem dX9_digest_480 : decode cX9_digest 480 = .ok (.aload_n 0, 1) := by decide +kernel
theorem dX9_digest_481 : decode cX9_digest 481 = .ok (.iconst 1, 1) := by decide +kernel
theorem dX9_digest_482 : decode cX9_digest 482 = .ok (.invokevirtual 243, 3) := by decide +kernel
theorem dX9_digest_485 : decode cX9_digest 485 = .ok (.i2l, 1) := by decide +kernel
theorem dX9_digest_486 : decode cX9_digest 486 = .ok (.ladd, 1) := by decide +kernel
theorem dX9_digest_487 : decode cX9_digest 487 = .ok (.lstore_n 1, 1) := by decide +kernel
theorem dX9_digest_488 : decode cX9_digest 488 = .ok (.ldc2_w 274, 3) := by decide +kernel
theorem dX9_digest_491 : decode cX9_digest 491 = .ok (.lload_n 1, 1) := by decide +kernel
theorem dX9_digest_492 : decode cX9_digest 492 = .ok (.lmul, 1) := by decide +kernel
theorem dX9_digest_493 : decode cX9_digest 493 = .ok (.aload_n 0, 1) := by decide +kernel
theorem dX9_digest_494 : decode cX9_digest 494 = .ok (.iconst 0, 1) := by decide +kernel
theorem dX9_digest_495 : decode cX9_digest 495 = .ok (.invokevirtual 246, 3) := by decide +kernel
theorem dX9_digest_498 : decode cX9_digest 498 = .ok (.i2l, 1) := by decide +kernel
theorem dX9_digest_499 : decode cX9_digest 499 = .ok (.ladd, 1) := by decide +kernel
theorem dX9_digest_500 : decode cX9_digest 500 = .ok (.lstore_n 1, 1) := by decide +kernel
theorem dX9_digest_501 : decode cX9_digest 501 = .ok (.ldc2_w 274, 3) := by decide +kernel
theorem dX9_digest_504 : decode cX9_digest 504 = .ok (.lload_n 1, 1) := by decide +kernel
theorem dX9_digest_505 : decode cX9_digest 505 = .ok (.lmul, 1) := by decide +kernel
theorem dX9_digest_506 : decode cX9_digest 506 = .ok (.aload_n 0, 1) := by decide +kernel
theorem dX9_digest_507 : decode cX9_digest 507 = .ok (.iconst 1, 1) := by decide +kernel
theorem dX9_digest_508 : decode cX9_digest 508 = .ok (.invokevirtual 246, 3) := by decide +kernel
theorem dX9_digest_511 : decode cX9_digest 511 = .ok (.i2l, 1) := by decide +kernel
theorem dX9_digest_512 : decode cX9_digest 512 = .ok (.ladd, 1) := by decide +kernel
theorem dX9_digest_513 : decode cX9_digest 513 = .ok (.lstore_n 1, 1) := by decide +kernel
theorem dX9_digest_514 : decode cX9_digest 514 = .ok (.iconst 1, 1) := by decide +kernel
theorem dX9_digest_515 : decode cX9_digest 515 = .ok (.istore_n 3, 1) := by decide +kernel
theorem dX9_digest_516 : decode cX9_digest 516 = .ok (.iload_n 3, 1) := by decide +kernel
theorem dX9_digest_517 : decode cX9_digest 517 = .ok (.bipush 7, 2) := by decide +kernel
theorem dX9_digest_519 : decode cX9_digest 519 = .ok (.if_icmp .ge 37, 3) := by decide +kernel
theorem dX9_digest_522 : decode cX9_digest 522 = .ok (.ldc2_w 274, 3) := by decide +kernel
theorem dX9_digest_525 : decode cX9_digest 525 = .ok (.lload_n 1, 1) := by decide +kernel
theorem dX9_digest_526 : decode cX9_digest 526 = .ok (.lmul, 1) := by decide +kernel
theorem dX9_digest_527 : decode cX9_digest 527 = .ok (.aload_n 0, 1) := by decide +kernel
theorem dX9_digest_528 : decode cX9_digest 528 = .ok (.iload_n 3, 1) := by decide +kernel
theorem dX9_digest_529 : decode cX9_digest 529 = .ok (.iconst 0, 1) := by decide +kernel
theorem dX9_digest_530 : decode cX9_digest 530 = .ok (.invokevirtual 260, 3) := by decide +kernel
theorem dX9_digest_533 : decode cX9_digest 533 = .ok (.i2l, 1) := by decide +kernel
theorem dX9_digest_534 : decode cX9_digest 534 = .ok (.ladd, 1) := by decide +kernel
theorem dX9_digest_535 : decode cX9_digest 535 = .ok (.lstore_n 1, 1) := by decide +kernel
theorem dX9_digest_536 : decode cX9_digest 536 = .ok (.ldc2_w 274, 3) := by decide +kernel
theorem dX9_digest_539 : decode cX9_digest 539 = .ok (.lload_n 1, 1) := by decide +kernel
theorem dX9_digest_540 : decode cX9_digest 540 = .ok (.lmul, 1) := by decide +kernel
theorem dX9_digest_541 : decode cX9_digest 541 = .ok (.aload_n 0, 1) := by decide +kernel
theorem dX9_digest_542 : decode cX9_digest 542 = .ok (.iload_n 3, 1) := by decide +kernel
theorem dX9_digest_543 : decode cX9_digest 543 = .ok (.iconst 1, 1) := by decide +kernel
theorem dX9_digest_544 : decode cX9_digest 544 = .ok (.invokevirtual 260, 3) := by decide +kernel
theorem dX9_digest_547 : decode cX9_digest 547 = .ok (.i2l, 1) := by decide +kernel
theorem dX9_digest_548 : decode cX9_digest 548 = .ok (.ladd, 1) := by decide +kernel
theorem dX9_digest_549 : decode cX9_digest 549 = .ok (.lstore_n 1, 1) := by decide +kernel
theorem dX9_digest_550 : decode cX9_digest 550 = .ok (.iinc 3 1, 3) := by decide +kernel
theorem dX9_digest_553 : decode cX9_digest 553 = .ok (.goto (-37), 3) := by decide +kernel
theorem dX9_digest_556 : decode cX9_digest 556 = .ok (.ldc2_w 274, 3) := by decide +kernel
theorem dX9_digest_559 : decode cX9_digest 559 = .ok (.lload_n 1, 1) := by decide +kernel
theorem dX9_digest_560 : decode cX9_digest 560 = .ok (.lmul, 1) := by decide +kernel
theorem dX9_digest_561 : decode cX9_digest 561 = .ok (.aload_n 0, 1) := by decide +kernel
theorem dX9_digest_562 : decode cX9_digest 562 = .ok (.bipush 9, 2) := by decide +kernel
theorem dX9_digest_564 : decode cX9_digest 564 = .ok (.invokevirtual 263, 3) := by decide +kernel
theorem dX9_digest_567 : decode cX9_digest 567 = .ok (.i2l, 1) := by decide +kernel
theorem dX9_digest_568 : decode cX9_digest 568 = .ok (.ladd, 1) := by decide +kernel
theorem dX9_digest_569 : decode cX9_digest 569 = .ok (.lstore_n 1, 1) := by decide +kernel
theorem dX9_digest_570 : decode cX9_digest 570 = .ok (.ldc2_w 274, 3) := by decide +kernel
theorem dX9_digest_573 : decode cX9_digest 573 = .ok (.lload_n 1, 1) := by decide +kernel
theorem dX9_digest_574 : decode cX9_digest 574 = .ok (.lmul, 1) := by decide +kernel
theorem dX9_digest_575 : decode cX9_digest 575 = .ok (.iconst 5, 1) := by decide +kernel
theorem dX9_digest_576 : decode cX9_digest 576 = .ok (.bipush 7, 2) := by decide +kernel
theorem dX9_digest_578 : decode cX9_digest 578 = .ok (.iconst 3, 1) := by decide +kernel
theorem dX9_digest_579 : decode cX9_digest 579 = .ok (.iconst 0, 1) := by decide +kernel
theorem dX9_digest_580 : decode cX9_digest 580 = .ok (.invokestatic 268, 3) := by decide +kernel
theorem dX9_digest_583 : decode cX9_digest 583 = .ok (.ladd, 1) := by decide +kernel
theorem dX9_digest_584 : decode cX9_digest 584 = .ok (.lstore_n 1, 1) := by decide +kernel
theorem dX9_digest_585 : decode cX9_digest 585 = .ok (.ldc2_w 274, 3) := by decide +kernel
theorem dX9_digest_588 : decode cX9_digest 588 = .ok (.lload_n 1, 1) := by decide +kernel
theorem dX9_digest_589 : decode cX9_digest 589 = .ok (.lmul, 1) := by decide +kernel
theorem dX9_digest_590 : decode cX9_digest 590 = .ok (.iconst 5, 1) := by decide +kernel
theorem dX9_digest_591 : decode cX9_digest 591 = .ok (.bipush 7, 2) := by decide +kernel
theorem dX9_digest_593 : decode cX9_digest 593 = .ok (.iconst 3, 1) := by decide +kernel
theorem dX9_digest_594 : decode cX9_digest 594 = .ok (.iconst 1, 1) := by decide +kernel
theorem dX9_digest_595 : decode cX9_digest 595 = .ok (.invokestatic 268, 3) := by decide +kernel
theorem dX9_digest_598 : decode cX9_digest 598 = .ok (.ladd, 1) := by decide +kernel
theorem dX9_digest_599 : decode cX9_digest 599 = .ok (.lstore_n 1, 1) := by decide +kernel
theorem dX9_digest_600 : decode cX9_digest 600 = .ok (.ldc2_w 274, 3) := by decide +kernel
theorem dX9_digest_603 : decode cX9_digest 603 = .ok (.lload_n 1, 1) := by decide +kernel
theorem dX9_digest_604 : decode cX9_digest 604 = .ok (.lmul, 1) := by decide +kernel
theorem dX9_digest_605 : decode cX9_digest 605 = .ok (.aload_n 0, 1) := by decide +kernel
theorem dX9_digest_606 : decode cX9_digest 606 = .ok (.iconst 1, 1) := by decide +kernel
theorem dX9_digest_607 : decode cX9_digest 607 = .ok (.invokevirtual 279, 3) := by decide +kernel
theorem dX9_digest_610 : decode cX9_digest 610 = .ok (.i2l, 1) := by decide +kernel
theorem dX9_digest_611 : decode cX9_digest 611 = .ok (.ladd, 1) := by decide +kernel
theorem dX9_digest_612 : decode cX9_digest 612 = .ok (.lreturn, 1) := by decide +kernel
end
section
theorem dL_law_0 : decode cL_law 0 = .ok (.new 7, 3) := by decide +kernel
theorem dL_law_3 : decode cL_law 3 = .ok (.dup, 1) := by decide +kernel
theorem dL_law_4 : decode cL_law 4 = .ok (.invokespecial 9, 3) := by decide +kernel
theorem dL_law_7 : decode cL_law 7 = .ok (.astore_n 1, 1) := by decide +kernel
theorem dL_law_8 : decode cL_law 8 = .ok (.new 10, 3) := by decide +kernel
theorem dL_law_11 : decode cL_law 11 = .ok (.dup, 1) := by decide +kernel
theorem dL_law_12 : decode cL_law 12 = .ok (.invokespecial 12, 3) := by decide +kernel
theorem dL_law_15 : decode cL_law 15 = .ok (.astore_n 2, 1) := by decide +kernel
theorem dL_law_16 : decode cL_law 16 = .ok (.iconst 0, 1) := by decide +kernel
theorem dL_law_17 : decode cL_law 17 = .ok (.istore_n 3, 1) := by decide +kernel
theorem dL_law_18 : decode cL_law 18 = .ok (.iload_n 3, 1) := by decide +kernel
theorem dL_law_19 : decode cL_law 19 = .ok (.aload_n 0, 1) := by decide +kernel
theorem dL_law_20 : decode cL_law 20 = .ok (.arraylength, 1) := by decide +kernel
theorem dL_law_21 : decode cL_law 21 = .ok (.bipush 6, 2) := by decide +kernel
theorem dL_law_23 : decode cL_law 23 = .ok (.isub, 1) := by decide +kernel
theorem dL_law_24 : decode cL_law 24 = .ok (.if_icmp .gt 1232, 3) := by decide +kernel
theorem dL_law_27 : decode cL_law 27 = .ok (.aload_n 0, 1) := by decide +kernel
theorem dL_law_28 : decode cL_law 28 = .ok (.iload_n 3, 1) := by decide +kernel
theorem dL_law_29 : decode cL_law 29 = .ok (.iaload, 1) := by decide +kernel
theorem dL_law_30 : decode cL_law 30 = .ok (.bipush 63, 2) := by decide +kernel
theorem dL_law_32 : decode cL_law 32 = .ok (.iand, 1) := by decide +kernel
theorem dL_law_33 : decode cL_law 33 = .ok (.tableswitch 1217 0 36 #[163, 196, 219, 242, 265, 288, 321, 364, 397, 430, 463, 507, 530, 543, 566, 579, 592, 605, 628, 661, 684, 707, 730, 753, 766, 789, 822, 845, 899, 922, 965, 988, 1041, 1084, 1147, 1180, 1203], 163) := by decide +kernel
theorem dL_law_196 : decode cL_law 196 = .ok (.aload_n 1, 1) := by decide +kernel
theorem dL_law_197 : decode cL_law 197 = .ok (.aload_n 0, 1) := by decide +kernel
theorem dL_law_198 : decode cL_law 198 = .ok (.iload_n 3, 1) := by decide +kernel
theorem dL_law_199 : decode cL_law 199 = .ok (.iconst 1, 1) := by decide +kernel
theorem dL_law_200 : decode cL_law 200 = .ok (.iadd, 1) := by decide +kernel
theorem dL_law_201 : decode cL_law 201 = .ok (.iaload, 1) := by decide +kernel
theorem dL_law_202 : decode cL_law 202 = .ok (.aload_n 0, 1) := by decide +kernel
theorem dL_law_203 : decode cL_law 203 = .ok (.iload_n 3, 1) := by decide +kernel
theorem dL_law_204 : decode cL_law 204 = .ok (.iconst 2, 1) := by decide +kernel
theorem dL_law_205 : decode cL_law 205 = .ok (.iadd, 1) := by decide +kernel
theorem dL_law_206 : decode cL_law 206 = .ok (.iaload, 1) := by decide +kernel
theorem dL_law_207 : decode cL_law 207 = .ok (.invokevirtual 13, 3) := by decide +kernel
theorem dL_law_210 : decode cL_law 210 = .ok (.aload_n 2, 1) := by decide +kernel
theorem dL_law_211 : decode cL_law 211 = .ok (.aload_n 0, 1) := by decide +kernel
theorem dL_law_212 : decode cL_law 212 = .ok (.iload_n 3, 1) := by decide +kernel
theorem dL_law_213 : decode cL_law 213 = .ok (.iconst 1, 1) := by decide +kernel
theorem dL_law_214 : decode cL_law 214 = .ok (.iadd, 1) := by decide +kernel
theorem dL_law_215 : decode cL_law 215 = .ok (.iaload, 1) := by decide +kernel
theorem dL_law_216 : decode cL_law 216 = .ok (.aload_n 0, 1) := by decide +kernel
theorem dL_law_217 : decode cL_law 217 = .ok (.iload_n 3, 1) := by decide +kernel
theorem dL_law_218 : decode cL_law 218 = .ok (.iconst 2, 1) := by decide +kernel
theorem dL_law_219 : decode cL_law 219 = .ok (.iadd, 1) := by decide +kernel
theorem dL_law_220 : decode cL_law 220 = .ok (.iaload, 1) := by decide +kernel
theorem dL_law_221 : decode cL_law 221 = .ok (.invokevirtual 17, 3) := by decide +kernel
theorem dL_law_224 : decode cL_law 224 = .ok (.if_icmp .eq 1026, 3) := by decide +kernel
theorem dL_law_227 : decode cL_law 227 = .ok (.iconst 0, 1) := by decide +kernel
theorem dL_law_228 : decode cL_law 228 = .ok (.ireturn, 1) := by decide +kernel
theorem dL_law_229 : decode cL_law 229 = .ok (.aload_n 1, 1) := by decide +kernel
theorem dL_law_230 : decode cL_law 230 = .ok (.aload_n 0, 1) := by decide +kernel
theorem dL_law_231 : decode cL_law 231 = .ok (.iload_n 3, 1) := by decide +kernel
theorem dL_law_232 : decode cL_law 232 = .ok (.iconst 1, 1) := by decide +kernel
theorem dL_law_233 : decode cL_law 233 = .ok (.iadd, 1) := by decide +kernel
theorem dL_law_234 : decode cL_law 234 = .ok (.iaload, 1) := by decide +kernel
theorem dL_law_235 : decode cL_law 235 = .ok (.invokevirtual 18, 3) := by decide +kernel
theorem dL_law_238 : decode cL_law 238 = .ok (.aload_n 2, 1) := by decide +kernel
theorem dL_law_239 : decode cL_law 239 = .ok (.aload_n 0, 1) := by decide +kernel
theorem dL_law_240 : decode cL_law 240 = .ok (.iload_n 3, 1) := by decide +kernel
theorem dL_law_241 : decode cL_law 241 = .ok (.iconst 1, 1) := by decide +kernel
theorem dL_law_242 : decode cL_law 242 = .ok (.iadd, 1) := by decide +kernel
theorem dL_law_243 : decode cL_law 243 = .ok (.iaload, 1) := by decide +kernel
theorem dL_law_244 : decode cL_law 244 = .ok (.invokevirtual 22, 3) := by decide +kernel
theorem dL_law_247 : decode cL_law 247 = .ok (.if_icmp .eq 1003, 3) := by decide +kernel
theorem dL_law_250 : decode cL_law 250 = .ok (.iconst 0, 1) := by decide +kernel
theorem dL_law_251 : decode cL_law 251 = .ok (.ireturn, 1) := by decide +kernel
theorem dL_law_252 : decode cL_law 252 = .ok (.aload_n 1, 1) := by decide +kernel
theorem dL_law_253 : decode cL_law 253 = .ok (.aload_n 0, 1) := by decide +kernel
theorem dL_law_254 : decode cL_law 254 = .ok (.iload_n 3, 1) := by decide +kernel
theorem dL_law_255 : decode cL_law 255 = .ok (.iconst 1, 1) := by decide +kernel
theorem dL_law_256 : decode cL_law 256 = .ok (.iadd, 1) := by decide +kernel
theorem dL_law_257 : decode cL_law 257 = .ok (.iaload, 1) := by decide +kernel
theorem dL_law_258 : decode cL_law 258 = .ok (.invokevirtual 23, 3) := by decide +kernel
theorem dL_law_261 : decode cL_law 261 = .ok (.aload_n 2, 1) := by decide +kernel
theorem dL_law_262 : decode cL_law 262 = .ok (.aload_n 0, 1) := by decide +kernel
theorem dL_law_263 : decode cL_law 263 = .ok (.iload_n 3, 1) := by decide +kernel
theorem dL_law_264 : decode cL_law 264 = .ok (.iconst 1, 1) := by decide +kernel
theorem dL_law_265 : decode cL_law 265 = .ok (.iadd, 1) := by decide +kernel
theorem dL_law_266 : decode cL_law 266 = .ok (.iaload, 1) := by decide +kernel
theorem dL_law_267 : decode cL_law 267 = .ok (.invokevirtual 26, 3) := by decide +kernel
theorem dL_law_270 : decode cL_law 270 = .ok (.if_icmp .eq 980, 3) := by decide +kernel
theorem dL_law_273 : decode cL_law 273 = .ok (.iconst 0, 1) := by decide +kernel
theorem dL_law_274 : decode cL_law 274 = .ok (.ireturn, 1) := by decide +kernel
theorem dL_law_275 : decode cL_law 275 = .ok (.aload_n 1, 1) := by decide +kernel
theorem dL_law_276 : decode cL_law 276 = .ok (.aload_n 0, 1) := by decide +kernel
theorem dL_law_277 : decode cL_law 277 = .ok (.iload_n 3, 1) := by decide +kernel
theorem dL_law_278 : decode cL_law 278 = .ok (.iconst 1, 1) := by decide +kernel
theorem dL_law_279 : decode cL_law 279 = .ok (.iadd, 1) := by decide +kernel
theorem dL_law_280 : decode cL_law 280 = .ok (.iaload, 1) := by decide +kernel
theorem dL_law_281 : decode cL_law 281 = .ok (.invokevirtual 27, 3) := by decide +kernel
theorem dL_law_284 : decode cL_law 284 = .ok (.aload_n 2, 1) := by decide +kernel
theorem dL_law_285 : decode cL_law 285 = .ok (.aload_n 0, 1) := by decide +kernel
theorem dL_law_286 : decode cL_law 286 = .ok (.iload_n 3, 1) := by decide +kernel
theorem dL_law_287 : decode cL_law 287 = .ok (.iconst 1, 1) := by decide +kernel
theorem dL_law_288 : decode cL_law 288 = .ok (.iadd, 1) := by decide +kernel
theorem dL_law_289 : decode cL_law 289 = .ok (.iaload, 1) := by decide +kernel
theorem dL_law_290 : decode cL_law 290 = .ok (.invokevirtual 30, 3) := by decide +kernel
theorem dL_law_293 : decode cL_law 293 = .ok (.if_icmp .eq 957, 3) := by decide +kernel
theorem dL_law_296 : decode cL_law 296 = .ok (.iconst 0, 1) := by decide +kernel
theorem dL_law_297 : decode cL_law 297 = .ok (.ireturn, 1) := by decide +kernel
theorem dL_law_298 : decode cL_law 298 = .ok (.aload_n 1, 1) := by decide +kernel
theorem dL_law_299 : decode cL_law 299 = .ok (.aload_n 0, 1) := by decide +kernel
theorem dL_law_300 : decode cL_law 300 = .ok (.iload_n 3, 1) := by decide +kernel
theorem dL_law_301 : decode cL_law 301 = .ok (.iconst 1, 1) := by decide +kernel
theorem dL_law_302 : decode cL_law 302 = .ok (.iadd, 1) := by decide +kernel
theorem dL_law_303 : decode cL_law 303 = .ok (.iaload, 1) := by decide +kernel
theorem dL_law_304 : decode cL_law 304 = .ok (.invokevirtual 31, 3) := by decide +kernel
theorem dL_law_307 : decode cL_law 307 = .ok (.aload_n 2, 1) := by decide +kernel
theorem dL_law_308 : decode cL_law 308 = .ok (.aload_n 0, 1) := by decide +kernel
theorem dL_law_309 : decode cL_law 309 = .ok (.iload_n 3, 1) := by decide +kernel
theorem dL_law_310 : decode cL_law 310 = .ok (.iconst 1, 1) := by decide +kernel
theorem dL_law_311 : decode cL_law 311 = .ok (.iadd, 1) := by decide +kernel
theorem dL_law_312 : decode cL_law 312 = .ok (.iaload, 1) := by decide +kernel
theorem dL_law_313 : decode cL_law 313 = .ok (.invokevirtual 34, 3) := by decide +kernel
theorem dL_law_316 : decode cL_law 316 = .ok (.if_icmp .eq 934, 3) := by decide +kernel
theorem dL_law_319 : decode cL_law 319 = .ok (.iconst 0, 1) := by decide +kernel
theorem dL_law_320 : decode cL_law 320 = .ok (.ireturn, 1) := by decide +kernel
theorem dL_law_321 : decode cL_law 321 = .ok (.aload_n 1, 1) := by decide +kernel
theorem dL_law_322 : decode cL_law 322 = .ok (.aload_n 0, 1) := by decide +kernel
theorem dL_law_323 : decode cL_law 323 = .ok (.iload_n 3, 1) := by decide +kernel
theorem dL_law_324 : decode cL_law 324 = .ok (.iconst 1, 1) := by decide +kernel
theorem dL_law_325 : decode cL_law 325 = .ok (.iadd, 1) := by decide +kernel
theorem dL_law_326 : decode cL_law 326 = .ok (.iaload, 1) := by decide +kernel
theorem dL_law_327 : decode cL_law 327 = .ok (.aload_n 0, 1) := by decide +kernel
theorem dL_law_328 : decode cL_law 328 = .ok (.iload_n 3, 1) := by decide +kernel
theorem dL_law_329 : decode cL_law 329 = .ok (.iconst 2, 1) := by decide +kernel
theorem dL_law_330 : decode cL_law 330 = .ok (.iadd, 1) := by decide +kernel
theorem dL_law_331 : decode cL_law 331 = .ok (.iaload, 1) := by decide +kernel
theorem dL_law_332 : decode cL_law 332 = .ok (.invokevirtual 35, 3) := by decide +kernel
theorem dL_law_335 : decode cL_law 335 = .ok (.aload_n 2, 1) := by decide +kernel
theorem dL_law_336 : decode cL_law 336 = .ok (.aload_n 0, 1) := by decide +kernel
theorem dL_law_337 : decode cL_law 337 = .ok (.iload_n 3, 1) := by decide +kernel
theorem dL_law_338 : decode cL_law 338 = .ok (.iconst 1, 1) := by decide +kernel
theorem dL_law_339 : decode cL_law 339 = .ok (.iadd, 1) := by decide +kernel
theorem dL_law_340 : decode cL_law 340 = .ok (.iaload, 1) := by decide +kernel
theorem dL_law_341 : decode cL_law 341 = .ok (.aload_n 0, 1) := by decide +kernel
theorem dL_law_342 : decode cL_law 342 = .ok (.iload_n 3, 1) := by decide +kernel
theorem dL_law_343 : decode cL_law 343 = .ok (.iconst 2, 1) := by decide +kernel
theorem dL_law_344 : decode cL_law 344 = .ok (.iadd, 1) := by decide +kernel
theorem dL_law_345 : decode cL_law 345 = .ok (.iaload, 1) := by decide +kernel
theorem dL_law_346 : decode cL_law 346 = .ok (.invokevirtual 38, 3) := by decide +kernel
theorem dL_law_349 : decode cL_law 349 = .ok (.if_icmp .eq 901, 3) := by decide +kernel
theorem dL_law_352 : decode cL_law 352 = .ok (.iconst 0, 1) := by decide +kernel
theorem dL_law_353 : decode cL_law 353 = .ok (.ireturn, 1) := by decide +kernel
theorem dL_law_354 : decode cL_law 354 = .ok (.aload_n 1, 1) := by decide +kernel
theorem dL_law_355 : decode cL_law 355 = .ok (.aload_n 0, 1) := by decide +kernel
theorem dL_law_356 : decode cL_law 356 = .ok (.iload_n 3, 1) := by decide +kernel
theorem dL_law_357 : decode cL_law 357 = .ok (.iconst 1, 1) := by decide +kernel
theorem dL_law_358 : decode cL_law 358 = .ok (.iadd, 1) := by decide +kernel
theorem dL_law_359 : decode cL_law 359 = .ok (.iaload, 1) := by decide +kernel
theorem dL_law_360 : decode cL_law 360 = .ok (.aload_n 0, 1) := by decide +kernel
theorem dL_law_361 : decode cL_law 361 = .ok (.iload_n 3, 1) := by decide +kernel
theorem dL_law_362 : decode cL_law 362 = .ok (.iconst 2, 1) := by decide +kernel
theorem dL_law_363 : decode cL_law 363 = .ok (.iadd, 1) := by decide +kernel
theorem dL_law_364 : decode cL_law 364 = .ok (.iaload, 1) := by decide +kernel
theorem dL_law_365 : decode cL_law 365 = .ok (.aload_n 0, 1) := by decide +kernel
theorem dL_law_366 : decode cL_law 366 = .ok (.iload_n 3, 1) := by decide +kernel
theorem dL_law_367 : decode cL_law 367 = .ok (.iconst 3, 1) := by decide +kernel
theorem dL_law_368 : decode cL_law 368 = .ok (.iadd, 1) := by decide +kernel
theorem dL_law_369 : decode cL_law 369 = .ok (.iaload, 1) := by decide +kernel
theorem dL_law_370 : decode cL_law 370 = .ok (.invokevirtual 39, 3) := by decide +kernel
theorem dL_law_373 : decode cL_law 373 = .ok (.aload_n 2, 1) := by decide +kernel
theorem dL_law_374 : decode cL_law 374 = .ok (.aload_n 0, 1) := by decide +kernel
theorem dL_law_375 : decode cL_law 375 = .ok (.iload_n 3, 1) := by decide +kernel
theorem dL_law_376 : decode cL_law 376 = .ok (.iconst 1, 1) := by decide +kernel
theorem dL_law_377 : decode cL_law 377 = .ok (.iadd, 1) := by decide +kernel
theorem dL_law_378 : decode cL_law 378 = .ok (.iaload, 1) := by decide +kernel
theorem dL_law_379 : decode cL_law 379 = .ok (.aload_n 0, 1) := by decide +kernel
theorem dL_law_380 : decode cL_law 380 = .ok (.iload_n 3, 1) := by decide +kernel
theorem dL_law_381 : decode cL_law 381 = .ok (.iconst 2, 1) := by decide +kernel
theorem dL_law_382 : decode cL_law 382 = .ok (.iadd, 1) := by decide +kernel
theorem dL_law_383 : decode cL_law 383 = .ok (.iaload, 1) := by decide +kernel
theorem dL_law_384 : decode cL_law 384 = .ok (.aload_n 0, 1) := by decide +kernel
theorem dL_law_385 : decode cL_law 385 = .ok (.iload_n 3, 1) := by decide +kernel
theorem dL_law_386 : decode cL_law 386 = .ok (.iconst 3, 1) := by decide +kernel
theorem dL_law_387 : decode cL_law 387 = .ok (.iadd, 1) := by decide +kernel
theorem dL_law_388 : decode cL_law 388 = .ok (.iaload, 1) := by decide +kernel
theorem dL_law_389 : decode cL_law 389 = .ok (.invokevirtual 43, 3) := by decide +kernel
theorem dL_law_392 : decode cL_law 392 = .ok (.if_icmp .eq 858, 3) := by decide +kernel
theorem dL_law_395 : decode cL_law 395 = .ok (.iconst 0, 1) := by decide +kernel
theorem dL_law_396 : decode cL_law 396 = .ok (.ireturn, 1) := by decide +kernel
theorem dL_law_397 : decode cL_law 397 = .ok (.aload_n 1, 1) := by decide +kernel
theorem dL_law_398 : decode cL_law 398 = .ok (.aload_n 0, 1) := by decide +kernel
theorem dL_law_399 : decode cL_law 399 = .ok (.iload_n 3, 1) := by decide +kernel
theorem dL_law_400 : decode cL_law 400 = .ok (.iconst 1, 1) := by decide +kernel
theorem dL_law_401 : decode cL_law 401 = .ok (.iadd, 1) := by decide +kernel
theorem dL_law_402 : decode cL_law 402 = .ok (.iaload, 1) := by decide +kernel
theorem dL_law_403 : decode cL_law 403 = .ok (.aload_n 0, 1) := by decide +kernel
theorem dL_law_404 : decode cL_law 404 = .ok (.iload_n 3, 1) := by decide +kernel
theorem dL_law_405 : decode cL_law 405 = .ok (.iconst 2, 1) := by decide +kernel
theorem dL_law_406 : decode cL_law 406 = .ok (.iadd, 1) := by decide +kernel
theorem dL_law_407 : decode cL_law 407 = .ok (.iaload, 1) := by decide +kernel
theorem dL_law_408 : decode cL_law 408 = .ok (.invokevirtual 44, 3) := by decide +kernel
theorem dL_law_411 : decode cL_law 411 = .ok (.aload_n 2, 1) := by decide +kernel
theorem dL_law_412 : decode cL_law 412 = .ok (.aload_n 0, 1) := by decide +kernel
theorem dL_law_413 : decode cL_law 413 = .ok (.iload_n 3, 1) := by decide +kernel
theorem dL_law_414 : decode cL_law 414 = .ok (.iconst 1, 1) := by decide +kernel
theorem dL_law_415 : decode cL_law 415 = .ok (.iadd, 1) := by decide +kernel
theorem dL_law_416 : decode cL_law 416 = .ok (.iaload, 1) := by decide +kernel
theorem dL_law_417 : decode cL_law 417 = .ok (.aload_n 0, 1) := by decide +kernel
theorem dL_law_418 : decode cL_law 418 = .ok (.iload_n 3, 1) := by decide +kernel
theorem dL_law_419 : decode cL_law 419 = .ok (.iconst 2, 1) := by decide +kernel
theorem dL_law_420 : decode cL_law 420 = .ok (.iadd, 1) := by decide +kernel
theorem dL_law_421 : decode cL_law 421 = .ok (.iaload, 1) := by decide +kernel
theorem dL_law_422 : decode cL_law 422 = .ok (.invokevirtual 47, 3) := by decide +kernel
theorem dL_law_425 : decode cL_law 425 = .ok (.if_icmp .eq 825, 3) := by decide +kernel
theorem dL_law_428 : decode cL_law 428 = .ok (.iconst 0, 1) := by decide +kernel
theorem dL_law_429 : decode cL_law 429 = .ok (.ireturn, 1) := by decide +kernel
theorem dL_law_430 : decode cL_law 430 = .ok (.aload_n 1, 1) := by decide +kernel
theorem dL_law_431 : decode cL_law 431 = .ok (.aload_n 0, 1) := by decide +kernel
theorem dL_law_432 : decode cL_law 432 = .ok (.iload_n 3, 1) := by decide +kernel
theorem dL_law_433 : decode cL_law 433 = .ok (.iconst 1, 1) := by decide +kernel
theorem dL_law_434 : decode cL_law 434 = .ok (.iadd, 1) := by decide +kernel
theorem dL_law_435 : decode cL_law 435 = .ok (.iaload, 1) := by decide +kernel
theorem dL_law_436 : decode cL_law 436 = .ok (.aload_n 0, 1) := by decide +kernel
theorem dL_law_437 : decode cL_law 437 = .ok (.iload_n 3, 1) := by decide +kernel
theorem dL_law_438 : decode cL_law 438 = .ok (.iconst 2, 1) := by decide +kernel
theorem dL_law_439 : decode cL_law 439 = .ok (.iadd, 1) := by decide +kernel
theorem dL_law_440 : decode cL_law 440 = .ok (.iaload, 1) := by decide +kernel
theorem dL_law_441 : decode cL_law 441 = .ok (.invokevirtual 48, 3) := by decide +kernel
theorem dL_law_444 : decode cL_law 444 = .ok (.aload_n 2, 1) := by decide +kernel
theorem dL_law_445 : decode cL_law 445 = .ok (.aload_n 0, 1) := by decide +kernel
theorem dL_law_446 : decode cL_law 446 = .ok (.iload_n 3, 1) := by decide +kernel
theorem dL_law_447 : decode cL_law 447 = .ok (.iconst 1, 1) := by decide +kernel
theorem dL_law_448 : decode cL_law 448 = .ok (.iadd, 1) := by decide +kernel
theorem dL_law_449 : decode cL_law 449 = .ok (.iaload, 1) := by decide +kernel
theorem dL_law_450 : decode cL_law 450 = .ok (.aload_n 0, 1) := by decide +kernel
theorem dL_law_451 : decode cL_law 451 = .ok (.iload_n 3, 1) := by decide +kernel
theorem dL_law_452 : decode cL_law 452 = .ok (.iconst 2, 1) := by decide +kernel
theorem dL_law_453 : decode cL_law 453 = .ok (.iadd, 1) := by decide +kernel
theorem dL_law_454 : decode cL_law 454 = .ok (.iaload, 1) := by decide +kernel
theorem dL_law_455 : decode cL_law 455 = .ok (.invokevirtual 51, 3) := by decide +kernel
theorem dL_law_458 : decode cL_law 458 = .ok (.if_icmp .eq 792, 3) := by decide +kernel
theorem dL_law_461 : decode cL_law 461 = .ok (.iconst 0, 1) := by decide +kernel
theorem dL_law_462 : decode cL_law 462 = .ok (.ireturn, 1) := by decide +kernel
theorem dL_law_463 : decode cL_law 463 = .ok (.aload_n 1, 1) := by decide +kernel
theorem dL_law_464 : decode cL_law 464 = .ok (.aload_n 0, 1) := by decide +kernel
theorem dL_law_465 : decode cL_law 465 = .ok (.iload_n 3, 1) := by decide +kernel
theorem dL_law_466 : decode cL_law 466 = .ok (.iconst 1, 1) := by decide +kernel
theorem dL_law_467 : decode cL_law 467 = .ok (.iadd, 1) := by decide +kernel
theorem dL_law_468 : decode cL_law 468 = .ok (.iaload, 1) := by decide +kernel
theorem dL_law_469 : decode cL_law 469 = .ok (.aload_n 0, 1) := by decide +kernel
theorem dL_law_470 : decode cL_law 470 = .ok (.iload_n 3, 1) := by decide +kernel
theorem dL_law_471 : decode cL_law 471 = .ok (.iconst 2, 1) := by decide +kernel
theorem dL_law_472 : decode cL_law 472 = .ok (.iadd, 1) := by decide +kernel
theorem dL_law_473 : decode cL_law 473 = .ok (.iaload, 1) := by decide +kernel
theorem dL_law_474 : decode cL_law 474 = .ok (.invokevirtual 52, 3) := by decide +kernel
theorem dL_law_477 : decode cL_law 477 = .ok (.aload_n 2, 1) := by decide +kernel
theorem dL_law_478 : decode cL_law 478 = .ok (.aload_n 0, 1) := by decide +kernel
theorem dL_law_479 : decode cL_law 479 = .ok (.iload_n 3, 1) := by decide +kernel
theorem dL_law_480 : decode cL_law 480 = .ok (.iconst 1, 1) := by decide +kernel
theorem dL_law_481 : decode cL_law 481 = .ok (.iadd, 1) := by decide +kernel
theorem dL_law_482 : decode cL_law 482 = .ok (.iaload, 1) := by decide +kernel
theorem dL_law_483 : decode cL_law 483 = .ok (.aload_n 0, 1) := by decide +kernel
theorem dL_law_484 : decode cL_law 484 = .ok (.iload_n 3, 1) := by decide +kernel
theorem dL_law_485 : decode cL_law 485 = .ok (.iconst 2, 1) := by decide +kernel
theorem dL_law_486 : decode cL_law 486 = .ok (.iadd, 1) := by decide +kernel
theorem dL_law_487 : decode cL_law 487 = .ok (.iaload, 1) := by decide +kernel
theorem dL_law_488 : decode cL_law 488 = .ok (.invokevirtual 55, 3) := by decide +kernel
theorem dL_law_491 : decode cL_law 491 = .ok (.if_icmp .eq 759, 3) := by decide +kernel
theorem dL_law_494 : decode cL_law 494 = .ok (.iconst 0, 1) := by decide +kernel
theorem dL_law_495 : decode cL_law 495 = .ok (.ireturn, 1) := by decide +kernel
theorem dL_law_496 : decode cL_law 496 = .ok (.aload_n 1, 1) := by decide +kernel
theorem dL_law_497 : decode cL_law 497 = .ok (.aload_n 0, 1) := by decide +kernel
theorem dL_law_498 : decode cL_law 498 = .ok (.iload_n 3, 1) := by decide +kernel
theorem dL_law_499 : decode cL_law 499 = .ok (.iconst 1, 1) := by decide +kernel
theorem dL_law_500 : decode cL_law 500 = .ok (.iadd, 1) := by decide +kernel
theorem dL_law_501 : decode cL_law 501 = .ok (.iaload, 1) := by decide +kernel
theorem dL_law_502 : decode cL_law 502 = .ok (.aload_n 0, 1) := by decide +kernel
theorem dL_law_503 : decode cL_law 503 = .ok (.iload_n 3, 1) := by decide +kernel
theorem dL_law_504 : decode cL_law 504 = .ok (.iconst 2, 1) := by decide +kernel
theorem dL_law_505 : decode cL_law 505 = .ok (.iadd, 1) := by decide +kernel
theorem dL_law_506 : decode cL_law 506 = .ok (.iaload, 1) := by decide +kernel
theorem dL_law_507 : decode cL_law 507 = .ok (.aload_n 0, 1) := by decide +kernel
theorem dL_law_508 : decode cL_law 508 = .ok (.iload_n 3, 1) := by decide +kernel
theorem dL_law_509 : decode cL_law 509 = .ok (.iconst 3, 1) := by decide +kernel
theorem dL_law_510 : decode cL_law 510 = .ok (.iadd, 1) := by decide +kernel
theorem dL_law_511 : decode cL_law 511 = .ok (.iaload, 1) := by decide +kernel
theorem dL_law_512 : decode cL_law 512 = .ok (.invokevirtual 56, 3) := by decide +kernel
theorem dL_law_515 : decode cL_law 515 = .ok (.aload_n 2, 1) := by decide +kernel
theorem dL_law_516 : decode cL_law 516 = .ok (.aload_n 0, 1) := by decide +kernel
theorem dL_law_517 : decode cL_law 517 = .ok (.iload_n 3, 1) := by decide +kernel
theorem dL_law_518 : decode cL_law 518 = .ok (.iconst 1, 1) := by decide +kernel
theorem dL_law_519 : decode cL_law 519 = .ok (.iadd, 1) := by decide +kernel
theorem dL_law_520 : decode cL_law 520 = .ok (.iaload, 1) := by decide +kernel
theorem dL_law_521 : decode cL_law 521 = .ok (.aload_n 0, 1) := by decide +kernel
theorem dL_law_522 : decode cL_law 522 = .ok (.iload_n 3, 1) := by decide +kernel
theorem dL_law_523 : decode cL_law 523 = .ok (.iconst 2, 1) := by decide +kernel
theorem dL_law_524 : decode cL_law 524 = .ok (.iadd, 1) := by decide +kernel
theorem dL_law_525 : decode cL_law 525 = .ok (.iaload, 1) := by decide +kernel
theorem dL_law_526 : decode cL_law 526 = .ok (.aload_n 0, 1) := by decide +kernel
theorem dL_law_527 : decode cL_law 527 = .ok (.iload_n 3, 1) := by decide +kernel
theorem dL_law_528 : decode cL_law 528 = .ok (.iconst 3, 1) := by decide +kernel
theorem dL_law_529 : decode cL_law 529 = .ok (.iadd, 1) := by decide +kernel
theorem dL_law_530 : decode cL_law 530 = .ok (.iaload, 1) := by decide +kernel
theorem dL_law_531 : decode cL_law 531 = .ok (.invokevirtual 60, 3) := by decide +kernel
theorem dL_law_534 : decode cL_law 534 = .ok (.lcmp, 1) := by decide +kernel
theorem dL_law_535 : decode cL_law 535 = .ok (.ifCond .eq 715, 3) := by decide +kernel
theorem dL_law_538 : decode cL_law 538 = .ok (.iconst 0, 1) := by decide +kernel
theorem dL_law_539 : decode cL_law 539 = .ok (.ireturn, 1) := by decide +kernel
theorem dL_law_540 : decode cL_law 540 = .ok (.aload_n 1, 1) := by decide +kernel
theorem dL_law_541 : decode cL_law 541 = .ok (.aload_n 0, 1) := by decide +kernel
theorem dL_law_542 : decode cL_law 542 = .ok (.iload_n 3, 1) := by decide +kernel
theorem dL_law_543 : decode cL_law 543 = .ok (.iconst 1, 1) := by decide +kernel
theorem dL_law_544 : decode cL_law 544 = .ok (.iadd, 1) := by decide +kernel
theorem dL_law_545 : decode cL_law 545 = .ok (.iaload, 1) := by decide +kernel
theorem dL_law_546 : decode cL_law 546 = .ok (.invokevirtual 61, 3) := by decide +kernel
theorem dL_law_549 : decode cL_law 549 = .ok (.aload_n 2, 1) := by decide +kernel
theorem dL_law_550 : decode cL_law 550 = .ok (.aload_n 0, 1) := by decide +kernel
theorem dL_law_551 : decode cL_law 551 = .ok (.iload_n 3, 1) := by decide +kernel
theorem dL_law_552 : decode cL_law 552 = .ok (.iconst 1, 1) := by decide +kernel
theorem dL_law_553 : decode cL_law 553 = .ok (.iadd, 1) := by decide +kernel
theorem dL_law_554 : decode cL_law 554 = .ok (.iaload, 1) := by decide +kernel
theorem dL_law_555 : decode cL_law 555 = .ok (.invokevirtual 64, 3) := by decide +kernel
theorem dL_law_558 : decode cL_law 558 = .ok (.if_icmp .eq 692, 3) := by decide +kernel
theorem dL_law_561 : decode cL_law 561 = .ok (.iconst 0, 1) := by decide +kernel
theorem dL_law_562 : decode cL_law 562 = .ok (.ireturn, 1) := by decide +kernel
theorem dL_law_563 : decode cL_law 563 = .ok (.aload_n 1, 1) := by decide +kernel
theorem dL_law_564 : decode cL_law 564 = .ok (.invokevirtual 65, 3) := by decide +kernel
theorem dL_law_567 : decode cL_law 567 = .ok (.aload_n 2, 1) := by decide +kernel
theorem dL_law_568 : decode cL_law 568 = .ok (.invokevirtual 69, 3) := by decide +kernel
theorem dL_law_571 : decode cL_law 571 = .ok (.if_icmp .eq 679, 3) := by decide +kernel
theorem dL_law_574 : decode cL_law 574 = .ok (.iconst 0, 1) := by decide +kernel
theorem dL_law_575 : decode cL_law 575 = .ok (.ireturn, 1) := by decide +kernel
theorem dL_law_576 : decode cL_law 576 = .ok (.aload_n 1, 1) := by decide +kernel
theorem dL_law_577 : decode cL_law 577 = .ok (.aload_n 0, 1) := by decide +kernel
theorem dL_law_578 : decode cL_law 578 = .ok (.iload_n 3, 1) := by decide +kernel
theorem dL_law_579 : decode cL_law 579 = .ok (.iconst 1, 1) := by decide +kernel
theorem dL_law_580 : decode cL_law 580 = .ok (.iadd, 1) := by decide +kernel
theorem dL_law_581 : decode cL_law 581 = .ok (.iaload, 1) := by decide +kernel
theorem dL_law_582 : decode cL_law 582 = .ok (.invokevirtual 70, 3) := by decide +kernel
theorem dL_law_585 : decode cL_law 585 = .ok (.aload_n 2, 1) := by decide +kernel
theorem dL_law_586 : decode cL_law 586 = .ok (.aload_n 0, 1) := by decide +kernel
theorem dL_law_587 : decode cL_law 587 = .ok (.iload_n 3, 1) := by decide +kernel
theorem dL_law_588 : decode cL_law 588 = .ok (.iconst 1, 1) := by decide +kernel
theorem dL_law_589 : decode cL_law 589 = .ok (.iadd, 1) := by decide +kernel
theorem dL_law_590 : decode cL_law 590 = .ok (.iaload, 1) := by decide +kernel
theorem dL_law_591 : decode cL_law 591 = .ok (.invokevirtual 73, 3) := by decide +kernel
theorem dL_law_594 : decode cL_law 594 = .ok (.if_icmp .eq 656, 3) := by decide +kernel
theorem dL_law_597 : decode cL_law 597 = .ok (.iconst 0, 1) := by decide +kernel
theorem dL_law_598 : decode cL_law 598 = .ok (.ireturn, 1) := by decide +kernel
theorem dL_law_599 : decode cL_law 599 = .ok (.aload_n 1, 1) := by decide +kernel
theorem dL_law_600 : decode cL_law 600 = .ok (.invokevirtual 74, 3) := by decide +kernel
theorem dL_law_603 : decode cL_law 603 = .ok (.aload_n 2, 1) := by decide +kernel
theorem dL_law_604 : decode cL_law 604 = .ok (.invokevirtual 77, 3) := by decide +kernel
theorem dL_law_607 : decode cL_law 607 = .ok (.if_icmp .eq 643, 3) := by decide +kernel
theorem dL_law_610 : decode cL_law 610 = .ok (.iconst 0, 1) := by decide +kernel
theorem dL_law_611 : decode cL_law 611 = .ok (.ireturn, 1) := by decide +kernel
theorem dL_law_612 : decode cL_law 612 = .ok (.aload_n 1, 1) := by decide +kernel
theorem dL_law_613 : decode cL_law 613 = .ok (.invokevirtual 78, 3) := by decide +kernel
theorem dL_law_616 : decode cL_law 616 = .ok (.aload_n 2, 1) := by decide +kernel
theorem dL_law_617 : decode cL_law 617 = .ok (.invokevirtual 81, 3) := by decide +kernel
theorem dL_law_620 : decode cL_law 620 = .ok (.if_icmp .eq 630, 3) := by decide +kernel
theorem dL_law_623 : decode cL_law 623 = .ok (.iconst 0, 1) := by decide +kernel
theorem dL_law_624 : decode cL_law 624 = .ok (.ireturn, 1) := by decide +kernel
theorem dL_law_625 : decode cL_law 625 = .ok (.aload_n 1, 1) := by decide +kernel
theorem dL_law_626 : decode cL_law 626 = .ok (.invokevirtual 82, 3) := by decide +kernel
theorem dL_law_629 : decode cL_law 629 = .ok (.aload_n 2, 1) := by decide +kernel
theorem dL_law_630 : decode cL_law 630 = .ok (.invokevirtual 85, 3) := by decide +kernel
theorem dL_law_633 : decode cL_law 633 = .ok (.if_icmp .eq 617, 3) := by decide +kernel
theorem dL_law_636 : decode cL_law 636 = .ok (.iconst 0, 1) := by decide +kernel
theorem dL_law_637 : decode cL_law 637 = .ok (.ireturn, 1) := by decide +kernel
theorem dL_law_638 : decode cL_law 638 = .ok (.aload_n 1, 1) := by decide +kernel
theorem dL_law_639 : decode cL_law 639 = .ok (.aload_n 0, 1) := by decide +kernel
theorem dL_law_640 : decode cL_law 640 = .ok (.iload_n 3, 1) := by decide +kernel
theorem dL_law_641 : decode cL_law 641 = .ok (.iconst 1, 1) := by decide +kernel
theorem dL_law_642 : decode cL_law 642 = .ok (.iadd, 1) := by decide +kernel
theorem dL_law_643 : decode cL_law 643 = .ok (.iaload, 1) := by decide +kernel
theorem dL_law_644 : decode cL_law 644 = .ok (.invokevirtual 86, 3) := by decide +kernel
theorem dL_law_647 : decode cL_law 647 = .ok (.aload_n 2, 1) := by decide +kernel
theorem dL_law_648 : decode cL_law 648 = .ok (.aload_n 0, 1) := by decide +kernel
theorem dL_law_649 : decode cL_law 649 = .ok (.iload_n 3, 1) := by decide +kernel
theorem dL_law_650 : decode cL_law 650 = .ok (.iconst 1, 1) := by decide +kernel
theorem dL_law_651 : decode cL_law 651 = .ok (.iadd, 1) := by decide +kernel
theorem dL_law_652 : decode cL_law 652 = .ok (.iaload, 1) := by decide +kernel
theorem dL_law_653 : decode cL_law 653 = .ok (.invokevirtual 89, 3) := by decide +kernel
theorem dL_law_656 : decode cL_law 656 = .ok (.if_icmp .eq 594, 3) := by decide +kernel
theorem dL_law_659 : decode cL_law 659 = .ok (.iconst 0, 1) := by decide +kernel
theorem dL_law_660 : decode cL_law 660 = .ok (.ireturn, 1) := by decide +kernel
theorem dL_law_661 : decode cL_law 661 = .ok (.aload_n 1, 1) := by decide +kernel
theorem dL_law_662 : decode cL_law 662 = .ok (.aload_n 0, 1) := by decide +kernel
theorem dL_law_663 : decode cL_law 663 = .ok (.iload_n 3, 1) := by decide +kernel
theorem dL_law_664 : decode cL_law 664 = .ok (.iconst 1, 1) := by decide +kernel
theorem dL_law_665 : decode cL_law 665 = .ok (.iadd, 1) := by decide +kernel
theorem dL_law_666 : decode cL_law 666 = .ok (.iaload, 1) := by decide +kernel
theorem dL_law_667 : decode cL_law 667 = .ok (.aload_n 0, 1) := by decide +kernel
theorem dL_law_668 : decode cL_law 668 = .ok (.iload_n 3, 1) := by decide +kernel
theorem dL_law_669 : decode cL_law 669 = .ok (.iconst 2, 1) := by decide +kernel
theorem dL_law_670 : decode cL_law 670 = .ok (.iadd, 1) := by decide +kernel
theorem dL_law_671 : decode cL_law 671 = .ok (.iaload, 1) := by decide +kernel
theorem dL_law_672 : decode cL_law 672 = .ok (.invokevirtual 90, 3) := by decide +kernel
theorem dL_law_675 : decode cL_law 675 = .ok (.aload_n 2, 1) := by decide +kernel
theorem dL_law_676 : decode cL_law 676 = .ok (.aload_n 0, 1) := by decide +kernel
theorem dL_law_677 : decode cL_law 677 = .ok (.iload_n 3, 1) := by decide +kernel
theorem dL_law_678 : decode cL_law 678 = .ok (.iconst 1, 1) := by decide +kernel
theorem dL_law_679 : decode cL_law 679 = .ok (.iadd, 1) := by decide +kernel
theorem dL_law_680 : decode cL_law 680 = .ok (.iaload, 1) := by decide +kernel
theorem dL_law_681 : decode cL_law 681 = .ok (.aload_n 0, 1) := by decide +kernel
theorem dL_law_682 : decode cL_law 682 = .ok (.iload_n 3, 1) := by decide +kernel
theorem dL_law_683 : decode cL_law 683 = .ok (.iconst 2, 1) := by decide +kernel
theorem dL_law_684 : decode cL_law 684 = .ok (.iadd, 1) := by decide +kernel
theorem dL_law_685 : decode cL_law 685 = .ok (.iaload, 1) := by decide +kernel
theorem dL_law_686 : decode cL_law 686 = .ok (.invokevirtual 93, 3) := by decide +kernel
theorem dL_law_689 : decode cL_law 689 = .ok (.if_icmp .eq 561, 3) := by decide +kernel
theorem dL_law_692 : decode cL_law 692 = .ok (.iconst 0, 1) := by decide +kernel
theorem dL_law_693 : decode cL_law 693 = .ok (.ireturn, 1) := by decide +kernel
theorem dL_law_694 : decode cL_law 694 = .ok (.aload_n 1, 1) := by decide +kernel
theorem dL_law_695 : decode cL_law 695 = .ok (.aload_n 0, 1) := by decide +kernel
theorem dL_law_696 : decode cL_law 696 = .ok (.iload_n 3, 1) := by decide +kernel
theorem dL_law_697 : decode cL_law 697 = .ok (.iconst 1, 1) := by decide +kernel
theorem dL_law_698 : decode cL_law 698 = .ok (.iadd, 1) := by decide +kernel
theorem dL_law_699 : decode cL_law 699 = .ok (.iaload, 1) := by decide +kernel
theorem dL_law_700 : decode cL_law 700 = .ok (.invokevirtual 94, 3) := by decide +kernel
theorem dL_law_703 : decode cL_law 703 = .ok (.aload_n 2, 1) := by decide +kernel
theorem dL_law_704 : decode cL_law 704 = .ok (.aload_n 0, 1) := by decide +kernel
theorem dL_law_705 : decode cL_law 705 = .ok (.iload_n 3, 1) := by decide +kernel
theorem dL_law_706 : decode cL_law 706 = .ok (.iconst 1, 1) := by decide +kernel
theorem dL_law_707 : decode cL_law 707 = .ok (.iadd, 1) := by decide +kernel
theorem dL_law_708 : decode cL_law 708 = .ok (.iaload, 1) := by decide +kernel
theorem dL_law_709 : decode cL_law 709 = .ok (.invokevirtual 97, 3) := by decide +kernel
theorem dL_law_712 : decode cL_law 712 = .ok (.if_icmp .eq 538, 3) := by decide +kernel
theorem dL_law_715 : decode cL_law 715 = .ok (.iconst 0, 1) := by decide +kernel
theorem dL_law_716 : decode cL_law 716 = .ok (.ireturn, 1) := by decide +kernel
theorem dL_law_717 : decode cL_law 717 = .ok (.aload_n 1, 1) := by decide +kernel
theorem dL_law_718 : decode cL_law 718 = .ok (.aload_n 0, 1) := by decide +kernel
theorem dL_law_719 : decode cL_law 719 = .ok (.iload_n 3, 1) := by decide +kernel
theorem dL_law_720 : decode cL_law 720 = .ok (.iconst 1, 1) := by decide +kernel
theorem dL_law_721 : decode cL_law 721 = .ok (.iadd, 1) := by decide +kernel
theorem dL_law_722 : decode cL_law 722 = .ok (.iaload, 1) := by decide +kernel
theorem dL_law_723 : decode cL_law 723 = .ok (.invokevirtual 98, 3) := by decide +kernel
theorem dL_law_726 : decode cL_law 726 = .ok (.aload_n 2, 1) := by decide +kernel
theorem dL_law_727 : decode cL_law 727 = .ok (.aload_n 0, 1) := by decide +kernel
theorem dL_law_728 : decode cL_law 728 = .ok (.iload_n 3, 1) := by decide +kernel
theorem dL_law_729 : decode cL_law 729 = .ok (.iconst 1, 1) := by decide +kernel
theorem dL_law_730 : decode cL_law 730 = .ok (.iadd, 1) := by decide +kernel
theorem dL_law_731 : decode cL_law 731 = .ok (.iaload, 1) := by decide +kernel
theorem dL_law_732 : decode cL_law 732 = .ok (.invokevirtual 101, 3) := by decide +kernel
theorem dL_law_735 : decode cL_law 735 = .ok (.if_icmp .eq 515, 3) := by decide +kernel
theorem dL_law_738 : decode cL_law 738 = .ok (.iconst 0, 1) := by decide +kernel
theorem dL_law_739 : decode cL_law 739 = .ok (.ireturn, 1) := by decide +kernel
theorem dL_law_740 : decode cL_law 740 = .ok (.aload_n 1, 1) := by decide +kernel
theorem dL_law_741 : decode cL_law 741 = .ok (.aload_n 0, 1) := by decide +kernel
theorem dL_law_742 : decode cL_law 742 = .ok (.iload_n 3, 1) := by decide +kernel
theorem dL_law_743 : decode cL_law 743 = .ok (.iconst 1, 1) := by decide +kernel
theorem dL_law_744 : decode cL_law 744 = .ok (.iadd, 1) := by decide +kernel
theorem dL_law_745 : decode cL_law 745 = .ok (.iaload, 1) := by decide +kernel
theorem dL_law_746 : decode cL_law 746 = .ok (.invokevirtual 102, 3) := by decide +kernel
theorem dL_law_749 : decode cL_law 749 = .ok (.aload_n 2, 1) := by decide +kernel
theorem dL_law_750 : decode cL_law 750 = .ok (.aload_n 0, 1) := by decide +kernel
theorem dL_law_751 : decode cL_law 751 = .ok (.iload_n 3, 1) := by decide +kernel
theorem dL_law_752 : decode cL_law 752 = .ok (.iconst 1, 1) := by decide +kernel
theorem dL_law_753 : decode cL_law 753 = .ok (.iadd, 1) := by decide +kernel
theorem dL_law_754 : decode cL_law 754 = .ok (.iaload, 1) := by decide +kernel
theorem dL_law_755 : decode cL_law 755 = .ok (.invokevirtual 105, 3) := by decide +kernel
theorem dL_law_758 : decode cL_law 758 = .ok (.if_icmp .eq 492, 3) := by decide +kernel
theorem dL_law_761 : decode cL_law 761 = .ok (.iconst 0, 1) := by decide +kernel
theorem dL_law_762 : decode cL_law 762 = .ok (.ireturn, 1) := by decide +kernel
theorem dL_law_763 : decode cL_law 763 = .ok (.aload_n 1, 1) := by decide +kernel
theorem dL_law_764 : decode cL_law 764 = .ok (.aload_n 0, 1) := by decide +kernel
theorem dL_law_765 : decode cL_law 765 = .ok (.iload_n 3, 1) := by decide +kernel
theorem dL_law_766 : decode cL_law 766 = .ok (.iconst 1, 1) := by decide +kernel
theorem dL_law_767 : decode cL_law 767 = .ok (.iadd, 1) := by decide +kernel
theorem dL_law_768 : decode cL_law 768 = .ok (.iaload, 1) := by decide +kernel
theorem dL_law_769 : decode cL_law 769 = .ok (.invokevirtual 106, 3) := by decide +kernel
theorem dL_law_772 : decode cL_law 772 = .ok (.aload_n 2, 1) := by decide +kernel
theorem dL_law_773 : decode cL_law 773 = .ok (.aload_n 0, 1) := by decide +kernel
theorem dL_law_774 : decode cL_law 774 = .ok (.iload_n 3, 1) := by decide +kernel
theorem dL_law_775 : decode cL_law 775 = .ok (.iconst 1, 1) := by decide +kernel
theorem dL_law_776 : decode cL_law 776 = .ok (.iadd, 1) := by decide +kernel
theorem dL_law_777 : decode cL_law 777 = .ok (.iaload, 1) := by decide +kernel
theorem dL_law_778 : decode cL_law 778 = .ok (.invokevirtual 109, 3) := by decide +kernel
theorem dL_law_781 : decode cL_law 781 = .ok (.if_icmp .eq 469, 3) := by decide +kernel
theorem dL_law_784 : decode cL_law 784 = .ok (.iconst 0, 1) := by decide +kernel
theorem dL_law_785 : decode cL_law 785 = .ok (.ireturn, 1) := by decide +kernel
theorem dL_law_786 : decode cL_law 786 = .ok (.aload_n 1, 1) := by decide +kernel
theorem dL_law_787 : decode cL_law 787 = .ok (.invokevirtual 110, 3) := by decide +kernel
theorem dL_law_790 : decode cL_law 790 = .ok (.aload_n 2, 1) := by decide +kernel
theorem dL_law_791 : decode cL_law 791 = .ok (.invokevirtual 113, 3) := by decide +kernel
theorem dL_law_794 : decode cL_law 794 = .ok (.if_icmp .eq 456, 3) := by decide +kernel
theorem dL_law_797 : decode cL_law 797 = .ok (.iconst 0, 1) := by decide +kernel
theorem dL_law_798 : decode cL_law 798 = .ok (.ireturn, 1) := by decide +kernel
theorem dL_law_799 : decode cL_law 799 = .ok (.aload_n 1, 1) := by decide +kernel
theorem dL_law_800 : decode cL_law 800 = .ok (.aload_n 0, 1) := by decide +kernel
theorem dL_law_801 : decode cL_law 801 = .ok (.iload_n 3, 1) := by decide +kernel
theorem dL_law_802 : decode cL_law 802 = .ok (.iconst 1, 1) := by decide +kernel
theorem dL_law_803 : decode cL_law 803 = .ok (.iadd, 1) := by decide +kernel
theorem dL_law_804 : decode cL_law 804 = .ok (.iaload, 1) := by decide +kernel
theorem dL_law_805 : decode cL_law 805 = .ok (.invokevirtual 114, 3) := by decide +kernel
theorem dL_law_808 : decode cL_law 808 = .ok (.aload_n 2, 1) := by decide +kernel
theorem dL_law_809 : decode cL_law 809 = .ok (.aload_n 0, 1) := by decide +kernel
theorem dL_law_810 : decode cL_law 810 = .ok (.iload_n 3, 1) := by decide +kernel
theorem dL_law_811 : decode cL_law 811 = .ok (.iconst 1, 1) := by decide +kernel
theorem dL_law_812 : decode cL_law 812 = .ok (.iadd, 1) := by decide +kernel
theorem dL_law_813 : decode cL_law 813 = .ok (.iaload, 1) := by decide +kernel
theorem dL_law_814 : decode cL_law 814 = .ok (.invokevirtual 117, 3) := by decide +kernel
theorem dL_law_817 : decode cL_law 817 = .ok (.if_icmp .eq 433, 3) := by decide +kernel
theorem dL_law_820 : decode cL_law 820 = .ok (.iconst 0, 1) := by decide +kernel
theorem dL_law_821 : decode cL_law 821 = .ok (.ireturn, 1) := by decide +kernel
theorem dL_law_822 : decode cL_law 822 = .ok (.aload_n 1, 1) := by decide +kernel
theorem dL_law_823 : decode cL_law 823 = .ok (.aload_n 0, 1) := by decide +kernel
theorem dL_law_824 : decode cL_law 824 = .ok (.iload_n 3, 1) := by decide +kernel
theorem dL_law_825 : decode cL_law 825 = .ok (.iconst 1, 1) := by decide +kernel
theorem dL_law_826 : decode cL_law 826 = .ok (.iadd, 1) := by decide +kernel
theorem dL_law_827 : decode cL_law 827 = .ok (.iaload, 1) := by decide +kernel
theorem dL_law_828 : decode cL_law 828 = .ok (.aload_n 0, 1) := by decide +kernel
theorem dL_law_829 : decode cL_law 829 = .ok (.iload_n 3, 1) := by decide +kernel
theorem dL_law_830 : decode cL_law 830 = .ok (.iconst 2, 1) := by decide +kernel
theorem dL_law_831 : decode cL_law 831 = .ok (.iadd, 1) := by decide +kernel
theorem dL_law_832 : decode cL_law 832 = .ok (.iaload, 1) := by decide +kernel
theorem dL_law_833 : decode cL_law 833 = .ok (.invokevirtual 118, 3) := by decide +kernel
theorem dL_law_836 : decode cL_law 836 = .ok (.aload_n 2, 1) := by decide +kernel
theorem dL_law_837 : decode cL_law 837 = .ok (.aload_n 0, 1) := by decide +kernel
theorem dL_law_838 : decode cL_law 838 = .ok (.iload_n 3, 1) := by decide +kernel
theorem dL_law_839 : decode cL_law 839 = .ok (.iconst 1, 1) := by decide +kernel
theorem dL_law_840 : decode cL_law 840 = .ok (.iadd, 1) := by decide +kernel
theorem dL_law_841 : decode cL_law 841 = .ok (.iaload, 1) := by decide +kernel
theorem dL_law_842 : decode cL_law 842 = .ok (.aload_n 0, 1) := by decide +kernel
theorem dL_law_843 : decode cL_law 843 = .ok (.iload_n 3, 1) := by decide +kernel
theorem dL_law_844 : decode cL_law 844 = .ok (.iconst 2, 1) := by decide +kernel
theorem dL_law_845 : decode cL_law 845 = .ok (.iadd, 1) := by decide +kernel
theorem dL_law_846 : decode cL_law 846 = .ok (.iaload, 1) := by decide +kernel
theorem dL_law_847 : decode cL_law 847 = .ok (.invokevirtual 121, 3) := by decide +kernel
theorem dL_law_850 : decode cL_law 850 = .ok (.if_icmp .eq 400, 3) := by decide +kernel
theorem dL_law_853 : decode cL_law 853 = .ok (.iconst 0, 1) := by decide +kernel
theorem dL_law_854 : decode cL_law 854 = .ok (.ireturn, 1) := by decide +kernel
theorem dL_law_855 : decode cL_law 855 = .ok (.aload_n 1, 1) := by decide +kernel
theorem dL_law_856 : decode cL_law 856 = .ok (.aload_n 0, 1) := by decide +kernel
theorem dL_law_857 : decode cL_law 857 = .ok (.iload_n 3, 1) := by decide +kernel
theorem dL_law_858 : decode cL_law 858 = .ok (.iconst 1, 1) := by decide +kernel
theorem dL_law_859 : decode cL_law 859 = .ok (.iadd, 1) := by decide +kernel
theorem dL_law_860 : decode cL_law 860 = .ok (.iaload, 1) := by decide +kernel
theorem dL_law_861 : decode cL_law 861 = .ok (.invokevirtual 122, 3) := by decide +kernel
theorem dL_law_864 : decode cL_law 864 = .ok (.aload_n 2, 1) := by decide +kernel
theorem dL_law_865 : decode cL_law 865 = .ok (.aload_n 0, 1) := by decide +kernel
theorem dL_law_866 : decode cL_law 866 = .ok (.iload_n 3, 1) := by decide +kernel
theorem dL_law_867 : decode cL_law 867 = .ok (.iconst 1, 1) := by decide +kernel
theorem dL_law_868 : decode cL_law 868 = .ok (.iadd, 1) := by decide +kernel
theorem dL_law_869 : decode cL_law 869 = .ok (.iaload, 1) := by decide +kernel
theorem dL_law_870 : decode cL_law 870 = .ok (.invokevirtual 125, 3) := by decide +kernel
theorem dL_law_873 : decode cL_law 873 = .ok (.if_icmp .eq 377, 3) := by decide +kernel
theorem dL_law_876 : decode cL_law 876 = .ok (.iconst 0, 1) := by decide +kernel
theorem dL_law_877 : decode cL_law 877 = .ok (.ireturn, 1) := by decide +kernel
theorem dL_law_878 : decode cL_law 878 = .ok (.aload_n 1, 1) := by decide +kernel
theorem dL_law_879 : decode cL_law 879 = .ok (.aload_n 0, 1) := by decide +kernel
theorem dL_law_880 : decode cL_law 880 = .ok (.iload_n 3, 1) := by decide +kernel
theorem dL_law_881 : decode cL_law 881 = .ok (.iconst 1, 1) := by decide +kernel
theorem dL_law_882 : decode cL_law 882 = .ok (.iadd, 1) := by decide +kernel
theorem dL_law_883 : decode cL_law 883 = .ok (.iaload, 1) := by decide +kernel
theorem dL_law_884 : decode cL_law 884 = .ok (.aload_n 0, 1) := by decide +kernel
theorem dL_law_885 : decode cL_law 885 = .ok (.iload_n 3, 1) := by decide +kernel
theorem dL_law_886 : decode cL_law 886 = .ok (.iconst 2, 1) := by decide +kernel
theorem dL_law_887 : decode cL_law 887 = .ok (.iadd, 1) := by decide +kernel
theorem dL_law_888 : decode cL_law 888 = .ok (.iaload, 1) := by decide +kernel
theorem dL_law_889 : decode cL_law 889 = .ok (.aload_n 0, 1) := by decide +kernel
theorem dL_law_890 : decode cL_law 890 = .ok (.iload_n 3, 1) := by decide +kernel
theorem dL_law_891 : decode cL_law 891 = .ok (.iconst 3, 1) := by decide +kernel
theorem dL_law_892 : decode cL_law 892 = .ok (.iadd, 1) := by decide +kernel
theorem dL_law_893 : decode cL_law 893 = .ok (.iaload, 1) := by decide +kernel
theorem dL_law_894 : decode cL_law 894 = .ok (.aload_n 0, 1) := by decide +kernel
theorem dL_law_895 : decode cL_law 895 = .ok (.iload_n 3, 1) := by decide +kernel
theorem dL_law_896 : decode cL_law 896 = .ok (.iconst 4, 1) := by decide +kernel
theorem dL_law_897 : decode cL_law 897 = .ok (.iadd, 1) := by decide +kernel
theorem dL_law_898 : decode cL_law 898 = .ok (.iaload, 1) := by decide +kernel
theorem dL_law_899 : decode cL_law 899 = .ok (.invokevirtual 126, 3) := by decide +kernel
theorem dL_law_902 : decode cL_law 902 = .ok (.aload_n 2, 1) := by decide +kernel
theorem dL_law_903 : decode cL_law 903 = .ok (.aload_n 0, 1) := by decide +kernel
theorem dL_law_904 : decode cL_law 904 = .ok (.iload_n 3, 1) := by decide +kernel
theorem dL_law_905 : decode cL_law 905 = .ok (.iconst 1, 1) := by decide +kernel
theorem dL_law_906 : decode cL_law 906 = .ok (.iadd, 1) := by decide +kernel
theorem dL_law_907 : decode cL_law 907 = .ok (.iaload, 1) := by decide +kernel
theorem dL_law_908 : decode cL_law 908 = .ok (.aload_n 0, 1) := by decide +kernel
theorem dL_law_909 : decode cL_law 909 = .ok (.iload_n 3, 1) := by decide +kernel
theorem dL_law_910 : decode cL_law 910 = .ok (.iconst 2, 1) := by decide +kernel
theorem dL_law_911 : decode cL_law 911 = .ok (.iadd, 1) := by decide +kernel
theorem dL_law_912 : decode cL_law 912 = .ok (.iaload, 1) := by decide +kernel
theorem dL_law_913 : decode cL_law 913 = .ok (.aload_n 0, 1) := by decide +kernel
theorem dL_law_914 : decode cL_law 914 = .ok (.iload_n 3, 1) := by decide +kernel
theorem dL_law_915 : decode cL_law 915 = .ok (.iconst 3, 1) := by decide +kernel
theorem dL_law_916 : decode cL_law 916 = .ok (.iadd, 1) := by decide +kernel
theorem dL_law_917 : decode cL_law 917 = .ok (.iaload, 1) := by decide +kernel
theorem dL_law_918 : decode cL_law 918 = .ok (.aload_n 0, 1) := by decide +kernel
theorem dL_law_919 : decode cL_law 919 = .ok (.iload_n 3, 1) := by decide +kernel
theorem dL_law_920 : decode cL_law 920 = .ok (.iconst 4, 1) := by decide +kernel
theorem dL_law_921 : decode cL_law 921 = .ok (.iadd, 1) := by decide +kernel
theorem dL_law_922 : decode cL_law 922 = .ok (.iaload, 1) := by decide +kernel
theorem dL_law_923 : decode cL_law 923 = .ok (.invokevirtual 130, 3) := by decide +kernel
theorem dL_law_926 : decode cL_law 926 = .ok (.lcmp, 1) := by decide +kernel
theorem dL_law_927 : decode cL_law 927 = .ok (.ifCond .eq 323, 3) := by decide +kernel
theorem dL_law_930 : decode cL_law 930 = .ok (.iconst 0, 1) := by decide +kernel
theorem dL_law_931 : decode cL_law 931 = .ok (.ireturn, 1) := by decide +kernel
theorem dL_law_932 : decode cL_law 932 = .ok (.aload_n 1, 1) := by decide +kernel
theorem dL_law_933 : decode cL_law 933 = .ok (.aload_n 0, 1) := by decide +kernel
theorem dL_law_934 : decode cL_law 934 = .ok (.iload_n 3, 1) := by decide +kernel
theorem dL_law_935 : decode cL_law 935 = .ok (.iconst 1, 1) := by decide +kernel
theorem dL_law_936 : decode cL_law 936 = .ok (.iadd, 1) := by decide +kernel
theorem dL_law_937 : decode cL_law 937 = .ok (.iaload, 1) := by decide +kernel
theorem dL_law_938 : decode cL_law 938 = .ok (.invokevirtual 131, 3) := by decide +kernel
theorem dL_law_941 : decode cL_law 941 = .ok (.aload_n 2, 1) := by decide +kernel
theorem dL_law_942 : decode cL_law 942 = .ok (.aload_n 0, 1) := by decide +kernel
theorem dL_law_943 : decode cL_law 943 = .ok (.iload_n 3, 1) := by decide +kernel
theorem dL_law_944 : decode cL_law 944 = .ok (.iconst 1, 1) := by decide +kernel
theorem dL_law_945 : decode cL_law 945 = .ok (.iadd, 1) := by decide +kernel
theorem dL_law_946 : decode cL_law 946 = .ok (.iaload, 1) := by decide +kernel
theorem dL_law_947 : decode cL_law 947 = .ok (.invokevirtual 134, 3) := by decide +kernel
theorem dL_law_950 : decode cL_law 950 = .ok (.if_icmp .eq 300, 3) := by decide +kernel
theorem dL_law_953 : decode cL_law 953 = .ok (.iconst 0, 1) := by decide +kernel
theorem dL_law_954 : decode cL_law 954 = .ok (.ireturn, 1) := by decide +kernel
theorem dL_law_955 : decode cL_law 955 = .ok (.aload_n 1, 1) := by decide +kernel
theorem dL_law_956 : decode cL_law 956 = .ok (.aload_n 0, 1) := by decide +kernel
theorem dL_law_957 : decode cL_law 957 = .ok (.iload_n 3, 1) := by decide +kernel
theorem dL_law_958 : decode cL_law 958 = .ok (.iconst 1, 1) := by decide +kernel
theorem dL_law_959 : decode cL_law 959 = .ok (.iadd, 1) := by decide +kernel
theorem dL_law_960 : decode cL_law 960 = .ok (.iaload, 1) := by decide +kernel
theorem dL_law_961 : decode cL_law 961 = .ok (.aload_n 0, 1) := by decide +kernel
theorem dL_law_962 : decode cL_law 962 = .ok (.iload_n 3, 1) := by decide +kernel
theorem dL_law_963 : decode cL_law 963 = .ok (.iconst 2, 1) := by decide +kernel
theorem dL_law_964 : decode cL_law 964 = .ok (.iadd, 1) := by decide +kernel
theorem dL_law_965 : decode cL_law 965 = .ok (.iaload, 1) := by decide +kernel
theorem dL_law_966 : decode cL_law 966 = .ok (.aload_n 0, 1) := by decide +kernel
theorem dL_law_967 : decode cL_law 967 = .ok (.iload_n 3, 1) := by decide +kernel
theorem dL_law_968 : decode cL_law 968 = .ok (.iconst 3, 1) := by decide +kernel
theorem dL_law_969 : decode cL_law 969 = .ok (.iadd, 1) := by decide +kernel
theorem dL_law_970 : decode cL_law 970 = .ok (.iaload, 1) := by decide +kernel
theorem dL_law_971 : decode cL_law 971 = .ok (.invokevirtual 135, 3) := by decide +kernel
theorem dL_law_974 : decode cL_law 974 = .ok (.aload_n 2, 1) := by decide +kernel
theorem dL_law_975 : decode cL_law 975 = .ok (.aload_n 0, 1) := by decide +kernel
theorem dL_law_976 : decode cL_law 976 = .ok (.iload_n 3, 1) := by decide +kernel
theorem dL_law_977 : decode cL_law 977 = .ok (.iconst 1, 1) := by decide +kernel
theorem dL_law_978 : decode cL_law 978 = .ok (.iadd, 1) := by decide +kernel
theorem dL_law_979 : decode cL_law 979 = .ok (.iaload, 1) := by decide +kernel
theorem dL_law_980 : decode cL_law 980 = .ok (.aload_n 0, 1) := by decide +kernel
theorem dL_law_981 : decode cL_law 981 = .ok (.iload_n 3, 1) := by decide +kernel
theorem dL_law_982 : decode cL_law 982 = .ok (.iconst 2, 1) := by decide +kernel
theorem dL_law_983 : decode cL_law 983 = .ok (.iadd, 1) := by decide +kernel
theorem dL_law_984 : decode cL_law 984 = .ok (.iaload, 1) := by decide +kernel
theorem dL_law_985 : decode cL_law 985 = .ok (.aload_n 0, 1) := by decide +kernel
theorem dL_law_986 : decode cL_law 986 = .ok (.iload_n 3, 1) := by decide +kernel
theorem dL_law_987 : decode cL_law 987 = .ok (.iconst 3, 1) := by decide +kernel
theorem dL_law_988 : decode cL_law 988 = .ok (.iadd, 1) := by decide +kernel
theorem dL_law_989 : decode cL_law 989 = .ok (.iaload, 1) := by decide +kernel
theorem dL_law_990 : decode cL_law 990 = .ok (.invokevirtual 138, 3) := by decide +kernel
theorem dL_law_993 : decode cL_law 993 = .ok (.if_icmp .eq 257, 3) := by decide +kernel
theorem dL_law_996 : decode cL_law 996 = .ok (.iconst 0, 1) := by decide +kernel
theorem dL_law_997 : decode cL_law 997 = .ok (.ireturn, 1) := by decide +kernel
theorem dL_law_998 : decode cL_law 998 = .ok (.aload_n 1, 1) := by decide +kernel
theorem dL_law_999 : decode cL_law 999 = .ok (.aload_n 0, 1) := by decide +kernel
theorem dL_law_1000 : decode cL_law 1000 = .ok (.iload_n 3, 1) := by decide +kernel
theorem dL_law_1001 : decode cL_law 1001 = .ok (.iconst 1, 1) := by decide +kernel
theorem dL_law_1002 : decode cL_law 1002 = .ok (.iadd, 1) := by decide +kernel
theorem dL_law_1003 : decode cL_law 1003 = .ok (.iaload, 1) := by decide +kernel
theorem dL_law_1004 : decode cL_law 1004 = .ok (.invokevirtual 139, 3) := by decide +kernel
theorem dL_law_1007 : decode cL_law 1007 = .ok (.aload_n 2, 1) := by decide +kernel
theorem dL_law_1008 : decode cL_law 1008 = .ok (.aload_n 0, 1) := by decide +kernel
theorem dL_law_1009 : decode cL_law 1009 = .ok (.iload_n 3, 1) := by decide +kernel
theorem dL_law_1010 : decode cL_law 1010 = .ok (.iconst 1, 1) := by decide +kernel
theorem dL_law_1011 : decode cL_law 1011 = .ok (.iadd, 1) := by decide +kernel
theorem dL_law_1012 : decode cL_law 1012 = .ok (.iaload, 1) := by decide +kernel
theorem dL_law_1013 : decode cL_law 1013 = .ok (.invokevirtual 142, 3) := by decide +kernel
theorem dL_law_1016 : decode cL_law 1016 = .ok (.if_icmp .eq 234, 3) := by decide +kernel
theorem dL_law_1019 : decode cL_law 1019 = .ok (.iconst 0, 1) := by decide +kernel
theorem dL_law_1020 : decode cL_law 1020 = .ok (.ireturn, 1) := by decide +kernel
theorem dL_law_1021 : decode cL_law 1021 = .ok (.aload_n 1, 1) := by decide +kernel
theorem dL_law_1022 : decode cL_law 1022 = .ok (.aload_n 0, 1) := by decide +kernel
theorem dL_law_1023 : decode cL_law 1023 = .ok (.iload_n 3, 1) := by decide +kernel
theorem dL_law_1024 : decode cL_law 1024 = .ok (.iconst 1, 1) := by decide +kernel
theorem dL_law_1025 : decode cL_law 1025 = .ok (.iadd, 1) := by decide +kernel
theorem dL_law_1026 : decode cL_law 1026 = .ok (.iaload, 1) := by decide +kernel
theorem dL_law_1027 : decode cL_law 1027 = .ok (.aload_n 0, 1) := by decide +kernel
theorem dL_law_1028 : decode cL_law 1028 = .ok (.iload_n 3, 1) := by decide +kernel
theorem dL_law_1029 : decode cL_law 1029 = .ok (.iconst 2, 1) := by decide +kernel
theorem dL_law_1030 : decode cL_law 1030 = .ok (.iadd, 1) := by decide +kernel
theorem dL_law_1031 : decode cL_law 1031 = .ok (.iaload, 1) := by decide +kernel
theorem dL_law_1032 : decode cL_law 1032 = .ok (.aload_n 0, 1) := by decide +kernel
theorem dL_law_1033 : decode cL_law 1033 = .ok (.iload_n 3, 1) := by decide +kernel
theorem dL_law_1034 : decode cL_law 1034 = .ok (.iconst 3, 1) := by decide +kernel
theorem dL_law_1035 : decode cL_law 1035 = .ok (.iadd, 1) := by decide +kernel
theorem dL_law_1036 : decode cL_law 1036 = .ok (.iaload, 1) := by decide +kernel
theorem dL_law_1037 : decode cL_law 1037 = .ok (.aload_n 0, 1) := by decide +kernel
theorem dL_law_1038 : decode cL_law 1038 = .ok (.iload_n 3, 1) := by decide +kernel
theorem dL_law_1039 : decode cL_law 1039 = .ok (.iconst 4, 1) := by decide +kernel
theorem dL_law_1040 : decode cL_law 1040 = .ok (.iadd, 1) := by decide +kernel
theorem dL_law_1041 : decode cL_law 1041 = .ok (.iaload, 1) := by decide +kernel
theorem dL_law_1042 : decode cL_law 1042 = .ok (.invokevirtual 143, 3) := by decide +kernel
theorem dL_law_1045 : decode cL_law 1045 = .ok (.aload_n 2, 1) := by decide +kernel
theorem dL_law_1046 : decode cL_law 1046 = .ok (.aload_n 0, 1) := by decide +kernel
theorem dL_law_1047 : decode cL_law 1047 = .ok (.iload_n 3, 1) := by decide +kernel
theorem dL_law_1048 : decode cL_law 1048 = .ok (.iconst 1, 1) := by decide +kernel
theorem dL_law_1049 : decode cL_law 1049 = .ok (.iadd, 1) := by decide +kernel
theorem dL_law_1050 : decode cL_law 1050 = .ok (.iaload, 1) := by decide +kernel
theorem dL_law_1051 : decode cL_law 1051 = .ok (.aload_n 0, 1) := by decide +kernel
theorem dL_law_1052 : decode cL_law 1052 = .ok (.iload_n 3, 1) := by decide +kernel
theorem dL_law_1053 : decode cL_law 1053 = .ok (.iconst 2, 1) := by decide +kernel
theorem dL_law_1054 : decode cL_law 1054 = .ok (.iadd, 1) := by decide +kernel
theorem dL_law_1055 : decode cL_law 1055 = .ok (.iaload, 1) := by decide +kernel
theorem dL_law_1056 : decode cL_law 1056 = .ok (.aload_n 0, 1) := by decide +kernel
theorem dL_law_1057 : decode cL_law 1057 = .ok (.iload_n 3, 1) := by decide +kernel
theorem dL_law_1058 : decode cL_law 1058 = .ok (.iconst 3, 1) := by decide +kernel
theorem dL_law_1059 : decode cL_law 1059 = .ok (.iadd, 1) := by decide +kernel
theorem dL_law_1060 : decode cL_law 1060 = .ok (.iaload, 1) := by decide +kernel
theorem dL_law_1061 : decode cL_law 1061 = .ok (.aload_n 0, 1) := by decide +kernel
theorem dL_law_1062 : decode cL_law 1062 = .ok (.iload_n 3, 1) := by decide +kernel
theorem dL_law_1063 : decode cL_law 1063 = .ok (.iconst 4, 1) := by decide +kernel
theorem dL_law_1064 : decode cL_law 1064 = .ok (.iadd, 1) := by decide +kernel
theorem dL_law_1065 : decode cL_law 1065 = .ok (.iaload, 1) := by decide +kernel
theorem dL_law_1066 : decode cL_law 1066 = .ok (.invokevirtual 147, 3) := by decide +kernel
theorem dL_law_1069 : decode cL_law 1069 = .ok (.if_icmp .eq 181, 3) := by decide +kernel
theorem dL_law_1072 : decode cL_law 1072 = .ok (.iconst 0, 1) := by decide +kernel
theorem dL_law_1073 : decode cL_law 1073 = .ok (.ireturn, 1) := by decide +kernel
theorem dL_law_1074 : decode cL_law 1074 = .ok (.aload_n 1, 1) := by decide +kernel
theorem dL_law_1075 : decode cL_law 1075 = .ok (.aload_n 0, 1) := by decide +kernel
theorem dL_law_1076 : decode cL_law 1076 = .ok (.iload_n 3, 1) := by decide +kernel
theorem dL_law_1077 : decode cL_law 1077 = .ok (.iconst 1, 1) := by decide +kernel
theorem dL_law_1078 : decode cL_law 1078 = .ok (.iadd, 1) := by decide +kernel
theorem dL_law_1079 : decode cL_law 1079 = .ok (.iaload, 1) := by decide +kernel
theorem dL_law_1080 : decode cL_law 1080 = .ok (.aload_n 0, 1) := by decide +kernel
theorem dL_law_1081 : decode cL_law 1081 = .ok (.iload_n 3, 1) := by decide +kernel
theorem dL_law_1082 : decode cL_law 1082 = .ok (.iconst 2, 1) := by decide +kernel
theorem dL_law_1083 : decode cL_law 1083 = .ok (.iadd, 1) := by decide +kernel
theorem dL_law_1084 : decode cL_law 1084 = .ok (.iaload, 1) := by decide +kernel
theorem dL_law_1085 : decode cL_law 1085 = .ok (.aload_n 0, 1) := by decide +kernel
theorem dL_law_1086 : decode cL_law 1086 = .ok (.iload_n 3, 1) := by decide +kernel
theorem dL_law_1087 : decode cL_law 1087 = .ok (.iconst 3, 1) := by decide +kernel
theorem dL_law_1088 : decode cL_law 1088 = .ok (.iadd, 1) := by decide +kernel
theorem dL_law_1089 : decode cL_law 1089 = .ok (.iaload, 1) := by decide +kernel
theorem dL_law_1090 : decode cL_law 1090 = .ok (.invokevirtual 148, 3) := by decide +kernel
theorem dL_law_1093 : decode cL_law 1093 = .ok (.aload_n 2, 1) := by decide +kernel
theorem dL_law_1094 : decode cL_law 1094 = .ok (.aload_n 0, 1) := by decide +kernel
theorem dL_law_1095 : decode cL_law 1095 = .ok (.iload_n 3, 1) := by decide +kernel
theorem dL_law_1096 : decode cL_law 1096 = .ok (.iconst 1, 1) := by decide +kernel
theorem dL_law_1097 : decode cL_law 1097 = .ok (.iadd, 1) := by decide +kernel
theorem dL_law_1098 : decode cL_law 1098 = .ok (.iaload, 1) := by decide +kernel
theorem dL_law_1099 : decode cL_law 1099 = .ok (.aload_n 0, 1) := by decide +kernel
theorem dL_law_1100 : decode cL_law 1100 = .ok (.iload_n 3, 1) := by decide +kernel
theorem dL_law_1101 : decode cL_law 1101 = .ok (.iconst 2, 1) := by decide +kernel
theorem dL_law_1102 : decode cL_law 1102 = .ok (.iadd, 1) := by decide +kernel
theorem dL_law_1103 : decode cL_law 1103 = .ok (.iaload, 1) := by decide +kernel
theorem dL_law_1104 : decode cL_law 1104 = .ok (.aload_n 0, 1) := by decide +kernel
theorem dL_law_1105 : decode cL_law 1105 = .ok (.iload_n 3, 1) := by decide +kernel
theorem dL_law_1106 : decode cL_law 1106 = .ok (.iconst 3, 1) := by decide +kernel
theorem dL_law_1107 : decode cL_law 1107 = .ok (.iadd, 1) := by decide +kernel
theorem dL_law_1108 : decode cL_law 1108 = .ok (.iaload, 1) := by decide +kernel
theorem dL_law_1109 : decode cL_law 1109 = .ok (.invokevirtual 151, 3) := by decide +kernel
theorem dL_law_1112 : decode cL_law 1112 = .ok (.if_icmp .eq 138, 3) := by decide +kernel
theorem dL_law_1115 : decode cL_law 1115 = .ok (.iconst 0, 1) := by decide +kernel
theorem dL_law_1116 : decode cL_law 1116 = .ok (.ireturn, 1) := by decide +kernel
theorem dL_law_1117 : decode cL_law 1117 = .ok (.aload_n 1, 1) := by decide +kernel
theorem dL_law_1118 : decode cL_law 1118 = .ok (.aload_n 0, 1) := by decide +kernel
theorem dL_law_1119 : decode cL_law 1119 = .ok (.iload_n 3, 1) := by decide +kernel
theorem dL_law_1120 : decode cL_law 1120 = .ok (.iconst 1, 1) := by decide +kernel
theorem dL_law_1121 : decode cL_law 1121 = .ok (.iadd, 1) := by decide +kernel
theorem dL_law_1122 : decode cL_law 1122 = .ok (.iaload, 1) := by decide +kernel
theorem dL_law_1123 : decode cL_law 1123 = .ok (.aload_n 0, 1) := by decide +kernel
theorem dL_law_1124 : decode cL_law 1124 = .ok (.iload_n 3, 1) := by decide +kernel
theorem dL_law_1125 : decode cL_law 1125 = .ok (.iconst 2, 1) := by decide +kernel
theorem dL_law_1126 : decode cL_law 1126 = .ok (.iadd, 1) := by decide +kernel
theorem dL_law_1127 : decode cL_law 1127 = .ok (.iaload, 1) := by decide +kernel
theorem dL_law_1128 : decode cL_law 1128 = .ok (.aload_n 0, 1) := by decide +kernel
theorem dL_law_1129 : decode cL_law 1129 = .ok (.iload_n 3, 1) := by decide +kernel
theorem dL_law_1130 : decode cL_law 1130 = .ok (.iconst 3, 1) := by decide +kernel
theorem dL_law_1131 : decode cL_law 1131 = .ok (.iadd, 1) := by decide +kernel
theorem dL_law_1132 : decode cL_law 1132 = .ok (.iaload, 1) := by decide +kernel
theorem dL_law_1133 : decode cL_law 1133 = .ok (.aload_n 0, 1) := by decide +kernel
theorem dL_law_1134 : decode cL_law 1134 = .ok (.iload_n 3, 1) := by decide +kernel
theorem dL_law_1135 : decode cL_law 1135 = .ok (.iconst 4, 1) := by decide +kernel
theorem dL_law_1136 : decode cL_law 1136 = .ok (.iadd, 1) := by decide +kernel
theorem dL_law_1137 : decode cL_law 1137 = .ok (.iaload, 1) := by decide +kernel
theorem dL_law_1138 : decode cL_law 1138 = .ok (.aload_n 0, 1) := by decide +kernel
theorem dL_law_1139 : decode cL_law 1139 = .ok (.iload_n 3, 1) := by decide +kernel
theorem dL_law_1140 : decode cL_law 1140 = .ok (.iconst 5, 1) := by decide +kernel
theorem dL_law_1141 : decode cL_law 1141 = .ok (.iadd, 1) := by decide +kernel
theorem dL_law_1142 : decode cL_law 1142 = .ok (.iaload, 1) := by decide +kernel
theorem dL_law_1143 : decode cL_law 1143 = .ok (.invokevirtual 152, 3) := by decide +kernel
theorem dL_law_1146 : decode cL_law 1146 = .ok (.aload_n 2, 1) := by decide +kernel
theorem dL_law_1147 : decode cL_law 1147 = .ok (.aload_n 0, 1) := by decide +kernel
theorem dL_law_1148 : decode cL_law 1148 = .ok (.iload_n 3, 1) := by decide +kernel
theorem dL_law_1149 : decode cL_law 1149 = .ok (.iconst 1, 1) := by decide +kernel
theorem dL_law_1150 : decode cL_law 1150 = .ok (.iadd, 1) := by decide +kernel
theorem dL_law_1151 : decode cL_law 1151 = .ok (.iaload, 1) := by decide +kernel
theorem dL_law_1152 : decode cL_law 1152 = .ok (.aload_n 0, 1) := by decide +kernel
theorem dL_law_1153 : decode cL_law 1153 = .ok (.iload_n 3, 1) := by decide +kernel
theorem dL_law_1154 : decode cL_law 1154 = .ok (.iconst 2, 1) := by decide +kernel
theorem dL_law_1155 : decode cL_law 1155 = .ok (.iadd, 1) := by decide +kernel
theorem dL_law_1156 : decode cL_law 1156 = .ok (.iaload, 1) := by decide +kernel
theorem dL_law_1157 : decode cL_law 1157 = .ok (.aload_n 0, 1) := by decide +kernel
theorem dL_law_1158 : decode cL_law 1158 = .ok (.iload_n 3, 1) := by decide +kernel
theorem dL_law_1159 : decode cL_law 1159 = .ok (.iconst 3, 1) := by decide +kernel
theorem dL_law_1160 : decode cL_law 1160 = .ok (.iadd, 1) := by decide +kernel
theorem dL_law_1161 : decode cL_law 1161 = .ok (.iaload, 1) := by decide +kernel
theorem dL_law_1162 : decode cL_law 1162 = .ok (.aload_n 0, 1) := by decide +kernel
theorem dL_law_1163 : decode cL_law 1163 = .ok (.iload_n 3, 1) := by decide +kernel
theorem dL_law_1164 : decode cL_law 1164 = .ok (.iconst 4, 1) := by decide +kernel
theorem dL_law_1165 : decode cL_law 1165 = .ok (.iadd, 1) := by decide +kernel
theorem dL_law_1166 : decode cL_law 1166 = .ok (.iaload, 1) := by decide +kernel
theorem dL_law_1167 : decode cL_law 1167 = .ok (.aload_n 0, 1) := by decide +kernel
theorem dL_law_1168 : decode cL_law 1168 = .ok (.iload_n 3, 1) := by decide +kernel
theorem dL_law_1169 : decode cL_law 1169 = .ok (.iconst 5, 1) := by decide +kernel
theorem dL_law_1170 : decode cL_law 1170 = .ok (.iadd, 1) := by decide +kernel
theorem dL_law_1171 : decode cL_law 1171 = .ok (.iaload, 1) := by decide +kernel
theorem dL_law_1172 : decode cL_law 1172 = .ok (.invokevirtual 156, 3) := by decide +kernel
theorem dL_law_1175 : decode cL_law 1175 = .ok (.if_icmp .eq 75, 3) := by decide +kernel
theorem dL_law_1178 : decode cL_law 1178 = .ok (.iconst 0, 1) := by decide +kernel
theorem dL_law_1179 : decode cL_law 1179 = .ok (.ireturn, 1) := by decide +kernel
theorem dL_law_1180 : decode cL_law 1180 = .ok (.aload_n 1, 1) := by decide +kernel
theorem dL_law_1181 : decode cL_law 1181 = .ok (.aload_n 0, 1) := by decide +kernel
theorem dL_law_1182 : decode cL_law 1182 = .ok (.iload_n 3, 1) := by decide +kernel
theorem dL_law_1183 : decode cL_law 1183 = .ok (.iconst 1, 1) := by decide +kernel
theorem dL_law_1184 : decode cL_law 1184 = .ok (.iadd, 1) := by decide +kernel
theorem dL_law_1185 : decode cL_law 1185 = .ok (.iaload, 1) := by decide +kernel
theorem dL_law_1186 : decode cL_law 1186 = .ok (.aload_n 0, 1) := by decide +kernel
theorem dL_law_1187 : decode cL_law 1187 = .ok (.iload_n 3, 1) := by decide +kernel
theorem dL_law_1188 : decode cL_law 1188 = .ok (.iconst 2, 1) := by decide +kernel
theorem dL_law_1189 : decode cL_law 1189 = .ok (.iadd, 1) := by decide +kernel
theorem dL_law_1190 : decode cL_law 1190 = .ok (.iaload, 1) := by decide +kernel
theorem dL_law_1191 : decode cL_law 1191 = .ok (.invokevirtual 157, 3) := by decide +kernel
theorem dL_law_1194 : decode cL_law 1194 = .ok (.aload_n 2, 1) := by decide +kernel
theorem dL_law_1195 : decode cL_law 1195 = .ok (.aload_n 0, 1) := by decide +kernel
theorem dL_law_1196 : decode cL_law 1196 = .ok (.iload_n 3, 1) := by decide +kernel
theorem dL_law_1197 : decode cL_law 1197 = .ok (.iconst 1, 1) := by decide +kernel
theorem dL_law_1198 : decode cL_law 1198 = .ok (.iadd, 1) := by decide +kernel
theorem dL_law_1199 : decode cL_law 1199 = .ok (.iaload, 1) := by decide +kernel
theorem dL_law_1200 : decode cL_law 1200 = .ok (.aload_n 0, 1) := by decide +kernel
theorem dL_law_1201 : decode cL_law 1201 = .ok (.iload_n 3, 1) := by decide +kernel
theorem dL_law_1202 : decode cL_law 1202 = .ok (.iconst 2, 1) := by decide +kernel
theorem dL_law_1203 : decode cL_law 1203 = .ok (.iadd, 1) := by decide +kernel
theorem dL_law_1204 : decode cL_law 1204 = .ok (.iaload, 1) := by decide +kernel
theorem dL_law_1205 : decode cL_law 1205 = .ok (.invokevirtual 160, 3) := by decide +kernel
theorem dL_law_1208 : decode cL_law 1208 = .ok (.if_icmp .eq 42, 3) := by decide +kernel
theorem dL_law_1211 : decode cL_law 1211 = .ok (.iconst 0, 1) := by decide +kernel
theorem dL_law_1212 : decode cL_law 1212 = .ok (.ireturn, 1) := by decide +kernel
theorem dL_law_1213 : decode cL_law 1213 = .ok (.aload_n 1, 1) := by decide +kernel
theorem dL_law_1214 : decode cL_law 1214 = .ok (.aload_n 0, 1) := by decide +kernel
theorem dL_law_1215 : decode cL_law 1215 = .ok (.iload_n 3, 1) := by decide +kernel
theorem dL_law_1216 : decode cL_law 1216 = .ok (.iconst 1, 1) := by decide +kernel
theorem dL_law_1217 : decode cL_law 1217 = .ok (.iadd, 1) := by decide +kernel
theorem dL_law_1218 : decode cL_law 1218 = .ok (.iaload, 1) := by decide +kernel
theorem dL_law_1219 : decode cL_law 1219 = .ok (.invokevirtual 161, 3) := by decide +kernel
theorem dL_law_1222 : decode cL_law 1222 = .ok (.aload_n 2, 1) := by decide +kernel
theorem dL_law_1223 : decode cL_law 1223 = .ok (.aload_n 0, 1) := by decide +kernel
theorem dL_law_1224 : decode cL_law 1224 = .ok (.iload_n 3, 1) := by decide +kernel
theorem dL_law_1225 : decode cL_law 1225 = .ok (.iconst 1, 1) := by decide +kernel
theorem dL_law_1226 : decode cL_law 1226 = .ok (.iadd, 1) := by decide +kernel
theorem dL_law_1227 : decode cL_law 1227 = .ok (.iaload, 1) := by decide +kernel
theorem dL_law_1228 : decode cL_law 1228 = .ok (.invokevirtual 164, 3) := by decide +kernel
theorem dL_law_1231 : decode cL_law 1231 = .ok (.if_icmp .eq 19, 3) := by decide +kernel
theorem dL_law_1234 : decode cL_law 1234 = .ok (.iconst 0, 1) := by decide +kernel
theorem dL_law_1235 : decode cL_law 1235 = .ok (.ireturn, 1) := by decide +kernel
theorem dL_law_1236 : decode cL_law 1236 = .ok (.aload_n 1, 1) := by decide +kernel
theorem dL_law_1237 : decode cL_law 1237 = .ok (.invokevirtual 165, 3) := by decide +kernel
theorem dL_law_1240 : decode cL_law 1240 = .ok (.aload_n 2, 1) := by decide +kernel
theorem dL_law_1241 : decode cL_law 1241 = .ok (.invokevirtual 169, 3) := by decide +kernel
theorem dL_law_1244 : decode cL_law 1244 = .ok (.lcmp, 1) := by decide +kernel
theorem dL_law_1245 : decode cL_law 1245 = .ok (.ifCond .eq 5, 3) := by decide +kernel
theorem dL_law_1248 : decode cL_law 1248 = .ok (.iconst 0, 1) := by decide +kernel
theorem dL_law_1249 : decode cL_law 1249 = .ok (.ireturn, 1) := by decide +kernel
theorem dL_law_1250 : decode cL_law 1250 = .ok (.iinc 3 6, 3) := by decide +kernel
theorem dL_law_1253 : decode cL_law 1253 = .ok (.goto (-1235), 3) := by decide +kernel
theorem dL_law_1256 : decode cL_law 1256 = .ok (.iconst 1, 1) := by decide +kernel
theorem dL_law_1257 : decode cL_law 1257 = .ok (.ireturn, 1) := by decide +kernel
end
section
/-! ===== the frame of the whole proof: a world by its shape, memory as a function, one judgement WP over it ===== -/
abbrev Mem : Type := Nat → Nat → Int32
def mst (σ : Mem) (a j : Nat) (v : Int32) : Mem := fun b => if b = a then upd (σ a) j v else σ b
theorem mst_eq (σ : Mem) (a j : Nat) (v : Int32) : mst σ a j v a j = v := by simp [mst, upd]
theorem mst_ne (σ : Mem) {a b : Nat} (j : Nat) (v : Int32) (h : b ≠ a) : mst σ a j v b = σ b := by simp [mst, h]
theorem mst_at (σ : Mem) (a j b i : Nat) (v : Int32) : mst σ a j v b i = if b = a ∧ i = j then v else σ b i := by
  unfold mst upd
  by_cases h : b = a
  · subst h; by_cases h2 : i = j <;> simp [h2]
  · simp [h]
/-- a cell's shape: an object of a class (by its number), each field an int or a reference to a cell; or an array (0: int, 1: boolean) of a length; class number 99: the row of sheets -/
abbrev Shc : Type := (Nat × List (Option Nat)) ⊕ (Nat × Nat)
/-- what stays over a whole run: the launch, the cells' addresses, the array classes, the classes' numbers and slots -/
abbrev Amb : Type := Launch × (Nat → Nat) × (Nat → ClassId) × va_G
def adr (X : Amb) (k : Nat) : Nat := X.2.1 k
def flds (X : Amb) (f : Nat → Int32) : Nat → List (Option Nat) → List Value
  | _, [] => []
  | j, none :: r => .int (f j) :: flds X f (j + 1) r
  | j, some k :: r => .ref (adr X k) :: flds X f (j + 1) r
theorem flds_get (X : Amb) (f : Nat → Int32) (fl : List (Option Nat)) : ∀ i j : Nat, (flds X f i fl)[j]? = fl[j]?.map (fun o => match o with | none => Value.int (f (i + j)) | some k => Value.ref (adr X k)) := by
  induction fl with
  | nil => intro i j; simp [flds]
  | cons o r ih =>
    intro i j
    cases o with
    | none =>
      cases j with
      | zero => simp [flds]
      | succ j => simp only [flds, List.getElem?_cons_succ, ih (i + 1) j]; rw [show i + 1 + j = i + (j + 1) by omega]
    | some k =>
      cases j with
      | zero => simp [flds]
      | succ j => simp only [flds, List.getElem?_cons_succ, ih (i + 1) j]; rw [show i + 1 + j = i + (j + 1) by omega]
theorem flds_len (X : Amb) (f : Nat → Int32) (fl : List (Option Nat)) : ∀ i : Nat, (flds X f i fl).length = fl.length := by
  induction fl with
  | nil => intro i; rfl
  | cons o r ih => intro i; cases o <;> simp [flds, ih]
theorem flds_above (X : Amb) (f : Nat → Int32) (v : Int32) (fl : List (Option Nat)) : ∀ (i j : Nat), j < i → flds X (upd f j v) i fl = flds X f i fl := by
  induction fl with
  | nil => intro i j h; rfl
  | cons o r ih =>
    intro i j h
    cases o with
    | none => simp only [flds, ih (i + 1) j (by omega)]; simp [upd, show ¬ i = j by omega]
    | some k => simp only [flds, ih (i + 1) j (by omega)]
theorem flds_set (X : Amb) (f : Nat → Int32) (v : Int32) (fl : List (Option Nat)) : ∀ (i j : Nat), fl[j]? = some none → (flds X f i fl).set j (.int v) = flds X (upd f (i + j) v) i fl := by
  induction fl with
  | nil => intro i j h; simp at h
  | cons o r ih =>
    intro i j h
    cases j with
    | zero =>
      simp at h
      subst h
      simp only [flds, List.set_cons_zero, Nat.add_zero, flds_above X f v r (i + 1) i (by omega)]
      simp [upd]
    | succ j =>
      rw [List.getElem?_cons_succ] at h
      have h2 := ih (i + 1) j h
      rw [show i + 1 + j = i + (j + 1) by omega] at h2
      cases o with
      | none => simp only [flds, List.set_cons_succ, h2]; simp [upd]
      | some k => simp only [flds, List.set_cons_succ, h2]
def cel (X : Amb) (f : Nat → Int32) (c : Shc) : va_E := match c with
  | .inl q => if q.1 = 99 then .inl (X.2.2.1 2, q.2.length, .inr (.inr (.inr (.inr (fun i => (q.2.getD i none).map (adr X)))))) else .inr (q.1, flds X f 0 q.2)
  | .inr q => .inl (X.2.2.1 q.1, q.2, .inl f)
def wl (X : Amb) (σ : Mem) : Nat → List Shc → va_W
  | _, [] => []
  | k, c :: r => (adr X k, cel X (σ k) c) :: wl X σ (k + 1) r
theorem wl_get (X : Amb) (σ : Mem) (sh : List Shc) : ∀ i k : Nat, (wl X σ i sh)[k]? = sh[k]?.map (fun c => (adr X (i + k), cel X (σ (i + k)) c)) := by
  induction sh with
  | nil => intro i k; simp [wl]
  | cons o r ih =>
    intro i k
    cases k with
    | zero => simp [wl]
    | succ k => simp only [wl, List.getElem?_cons_succ, ih (i + 1) k]; rw [show i + 1 + k = i + (k + 1) by omega]
theorem wl_at {X : Amb} {σ : Mem} {sh : List Shc} {k : Nat} {c : Shc} (h : sh[k]? = some c) : (wl X σ 0 sh)[k]? = some (adr X k, cel X (σ k) c) := by
  rw [wl_get, h, Nat.zero_add]; rfl
theorem wl_above (X : Amb) (σ τ : Mem) (sh : List Shc) : ∀ i : Nat, (∀ b, i ≤ b → τ b = σ b) → wl X τ i sh = wl X σ i sh := by
  induction sh with
  | nil => intro i h; rfl
  | cons o r ih => intro i h; simp only [wl, ih (i + 1) (fun b hb => h b (by omega)), h i (Nat.le_refl i)]
theorem wl_set_aux (X : Amb) (σ : Mem) (f' : Nat → Int32) (sh : List Shc) : ∀ (i k : Nat) (c : Shc), sh[k]? = some c → (wl X σ i sh).set k (adr X (i + k), cel X f' c) = wl X (fun b => if b = i + k then f' else σ b) i sh := by
  induction sh with
  | nil => intro i k c h; simp at h
  | cons o r ih =>
    intro i k c h
    cases k with
    | zero =>
      simp at h
      subst h
      simp only [wl, List.set_cons_zero, Nat.add_zero, if_true]
      congr 1
      exact (wl_above X σ _ r (i + 1) (fun b hb => if_neg (by omega))).symm
    | succ k =>
      rw [List.getElem?_cons_succ] at h
      have h2 := ih (i + 1) k c h
      rw [show i + 1 + k = i + (k + 1) by omega] at h2
      simp only [wl, List.set_cons_succ, h2]
      rw [if_neg (by omega)]
theorem wl_set {X : Amb} {σ : Mem} {sh : List Shc} {k : Nat} {c : Shc} (h : sh[k]? = some c) (j : Nat) (v : Int32) : (wl X σ 0 sh).set k (adr X k, cel X (upd (σ k) j v) c) = wl X (mst σ k j v) 0 sh := by
  have := wl_set_aux X σ (upd (σ k) j v) sh 0 k c h
  rw [Nat.zero_add] at this
  rw [this]
  rfl
/-! the classes whose objects the worlds hold; the static tables -/
abbrev cls : List vw_C := [(RX0, TX0, 8), (RX1, TX1, 5), (RX2, TX2, 6), (RX3, TX3, 3), (RX4, TX4, 5), (RX5, TX5, 3), (RX6, TX6, 5), (RX7, TX7, 3), (RX8, TX8, 13), (RX9, TX9, 29)]
def shC : List Shc := [
  .inl (8, [some 1, some 3, some 5, some 8, some 11, some 13, some 15, some 17, some 23, some 26, some 30, none, none]),
  .inl (7, [some 2, none, none]), .inr (0, 32), .inl (7, [some 4, none, none]), .inr (0, 32),
  .inl (1, [some 6, some 7, none, none, none]), .inr (0, 12), .inr (0, 13),
  .inl (6, [some 9, some 10, none, none, none]), .inr (0, 16), .inr (1, 16),
  .inl (3, [some 100, some 101, some 12]), .inr (0, 3), .inl (3, [some 100, some 101, some 14]), .inr (0, 3), .inl (3, [some 103, some 104, some 16]), .inr (0, 5),
  .inl (4, [some 18, some 19, some 20, some 21, some 22]), .inr (0, 40), .inr (0, 40), .inr (0, 40), .inr (0, 40), .inr (0, 40),
  .inl (0, [some 24, some 25, none, none, none, none, none, none]), .inr (0, 6), .inr (0, 6),
  .inl (2, [some 27, some 28, some 29, none, none, none]), .inr (0, 12), .inr (0, 12), .inr (0, 6),
  .inl (99, [some 31, some 33, some 35, some 37]),
  .inl (5, [some 32, none, none]), .inr (0, 60), .inl (5, [some 34, none, none]), .inr (0, 60), .inl (5, [some 36, none, none]), .inr (0, 60), .inl (5, [some 38, none, none]), .inr (0, 60)]
def shM : List Shc := [
  .inl (9, [some 1, some 2, some 3, some 4, none, some 5, some 6, none, some 7, none, none, some 8, some 9, some 10, some 11, some 12, some 13, some 14, some 15, some 16, some 17, none, none, none, none, none, some 18, some 19, some 20]),
  .inr (0, 4), .inr (0, 4), .inr (0, 240), .inr (0, 60), .inr (0, 44), .inr (0, 2), .inr (0, 12), .inr (0, 16), .inr (1, 16), .inr (0, 6), .inr (0, 5), .inr (0, 80), .inr (0, 40), .inr (0, 40), .inr (0, 40), .inr (0, 6), .inr (0, 6), .inr (0, 12), .inr (0, 12), .inr (0, 6)]
/-- static table j of the class: its name, its values -/
def stn (j : Nat) : String := match j with
  | 0 => "ENGINE_LEAST" | 1 => "ENGINE_MOST" | 2 => "ENGINE_FIRST" | 3 => "SETTING_LEAST" | 4 => "SETTING_MOST" | 5 => "SETTING_FIRST" | _ => "DIGEST_MINUTES"
def stv (j : Nat) : List Int32 := match j with
  | 0 => [0, 0, 1] | 1 => [999, 3, 5] | 2 => [100, 0, 1] | 3 => [1, 1, 1, 1, 0] | 4 => [999, 99, 99, 99, 20] | 5 => [300, 20, 10, 5, 5] | _ => [0, 1, 7, 39]
def AX (X : Amb) (sh : List Shc) : Nat → Prop := fun q => ∃ k, k < sh.length ∧ q = adr X k
def tysX (X : Amb) : List (ClassId × FieldType) := [(X.2.2.1 0, .int), (X.2.2.1 1, .boolean), (X.2.2.1 2, .object "PushedOver$Sheet")]
def Dok (X : Amb) (sh : List Shc) : Prop := ∀ σ : Mem, va_D (AX X sh) (wl X σ 0 sh)
def Stc (X : Amb) (sh : List Shc) (U : State) (H : Heap) : Prop := sh.length = 39 → ∀ j : Nat, j < 7 →
  va_Z RX8 (stn j) "[I" (.ref (adr X (100 + j))) (AX X sh) U H ∧ va_T .int (adr X (100 + j)) (stv j).length (fun i => .int ((stv j).getD i 0)) (AX X sh) U H
theorem Stc.moved {X : Amb} {sh : List Shc} {u U : State} {H : Heap} (hvm : u.vm.Alike U.vm) (h : Stc X sh u H) : Stc X sh U H := fun hl j hj => ⟨va_Z.moved hvm (h hl j hj).1, va_T.moved hvm (h hl j hj).2⟩
theorem Stc.kept {X : Amb} {sh : List Shc} {U : State} {H H1 : Heap} (h : Stc X sh U H) (hq : ∀ a : Nat, a < H.size → ¬ AX X sh a → H1[a]? = H[a]?) : Stc X sh U H1 := fun hl j hj => ⟨va_Z.kept (h hl j hj).1 hq, va_T.kept (h hl j hj).2 hq⟩
/-! methods: name, code, locals, answer, frames and words below it, the shape of its world -/
abbrev MT : Type := MethodName × ByteArray × Nat × Option FieldType × Nat × Nat × List Shc
abbrev mtY (M : MT) : MethodName := M.1
abbrev mtC (M : MT) : ByteArray := M.2.1
abbrev mtN (M : MT) : Nat := M.2.2.1
abbrev mtR (M : MT) : Option FieldType := M.2.2.2.1
abbrev mtF (M : MT) : Nat := M.2.2.2.2.1
abbrev mtLo (M : MT) : Nat := M.2.2.2.2.2.1
abbrev mtS (M : MT) : List Shc := M.2.2.2.2.2.2
def rmM (M : MT) : Room := { frames := mtF M, cells := 0, slots := 0, locals := mtLo M }
/-- the tables' words that a callee may take over -/
def gtb : List Cond := lw_tbl.filter goodWord
def wsM (M : MT) : List Cond := Cond.code (mtY M) (mtC M) (mtN M) (mtR M) :: gtb
def PcM (X : Amb) (M : MT) (As : List Value) (σ : Mem) : Array Value → State → Prop := va_Pc As (fun U => va_P X.2.2.2 cls (wl X σ 0 (mtS M)) U.heap ∧ va_K X.2.2.2 cls (tysX X) U ∧ Dok X (mtS M) ∧ Stc X (mtS M) U U.heap)
def QcM (X : Amb) (sh : List Shc) (post : Option Value → Mem → Prop) : Array Value → State → Outcome → State → Prop := fun _ st oc t => ∃ (v : Option Value) (σ' : Mem), oc = .returned v ∧ post v σ' ∧ va_P X.2.2.2 cls (wl X σ' 0 sh) t.heap ∧ va_F (AX X sh) st t
/-- a method's contract: called with As over the memory σ it returns, and post holds of the answer and the memory then -/
def Sp (X : Amb) (M : MT) (As : List Value) (σ : Mem) (post : Option Value → Mem → Prop) : Prop := Met X.1 (mtY M) (wsM M) (rmM M) (PcM X M As σ) (QcM X (mtS M) post) 0 0 (AX X (mtS M))
/-- what holds in a method's body from its entry on -/
def Bd (X : Amb) (M : MT) (p : Program) (s : State) (m : MethodId) (args : Array Value) (meth : Method) (c : Code) : Prop :=
  p.tables.exec = Jvm.exec ∧ c.code = mtC M ∧ c.maxLocals = mtN M ∧ s.vm.findClass (mtY M).cls = some m.cls ∧ (∀ w ∈ gtb, w.before args s = true) ∧ meth.locks = false ∧ meth.sig.returnType = mtR M ∧ va_K X.2.2.2 cls (tysX X) s ∧ Dok X (mtS M) ∧ Stc X (mtS M) s s.heap
/-- THE JUDGEMENT: at pc, with locals L, operands S, memory σ the method comes to its end with post -/
def WP (X : Amb) (M : MT) (pc : Nat) (L : List (Nat × Value)) (S : List Value) (σ : Mem) (post : Option Value → Mem → Prop) : Prop :=
  ∀ (p : Program) (e : Env) (s : State) (m : MethodId) (args : Array Value) (below : List Frame) (meth : Method) (c : Code) (H : Heap) (locs : List Loc) (ls : Array Slot), Bd X M p s m args meth c → va_P X.2.2.2 cls (wl X σ 0 (mtS M)) H → va_S (AX X (mtS M)) s.heap H locs → lv_has ls (mtN M) L →
    W p X.1 e (rmM M) s m args below meth c H locs 0 0 (MQ below (QcM X (mtS M) post) args s 0 0 (AX X (mtS M))) (F0 m pc ls S)
theorem sp_of {X : Amb} {M : MT} {As : List Value} {σ : Mem} {post : Option Value → Mem → Prop} (hy : plainName (mtY M).cls = true) (hn : Nat.ble (lg_sl As).length (mtN M) = true) (h : WP X M 0 (lv_args 0 As) [] σ post) : Sp X M As σ post := by
  refine Met.ofW (cc := mtC M) (maxL := mtN M) (ret := mtR M) hy rfl ?_
  intro p e s m args below meth c s₁ B hml hv
  obtain ⟨rfl, hP, hK, hD, hSt⟩ := hv
  have hts := atoms_spec (ws := wsM M) B.pre
  have hown : s.vm.findClass (mtY M).cls = some m.cls := findClass_of_methodNamed B.named
  have hl := lv_entry As (n := mtN M) (Nat.le_of_ble_eq_true hn)
  rw [lg_entry_eq]
  exact h p e s m As.toArray below meth c s.heap [] _ ⟨B.exec, B.bytes, hml, hown, fun w hw => hts w (List.mem_cons_of_mem _ hw), B.notSynchronized, B.returns, hK, hD, hSt⟩ hP va_S.rf hl
/-- fewer known locals -/
theorem wp_drop {X : Amb} {M : MT} {pc : Nat} {L L' : List (Nat × Value)} {S : List Value} {σ : Mem} {post : Option Value → Mem → Prop} (ks : List Nat) (hL : lv_pick L ks = L') (k : WP X M pc L' S σ post) : WP X M pc L S σ post :=
  fun p e s m args below meth c H locs ls B hP hS hl => k p e s m args below meth c H locs ls B hP hS (lv_sub hl ks hL)
theorem wp_mono {X : Amb} {M : MT} {pc : Nat} {L : List (Nat × Value)} {S : List Value} {σ : Mem} {post post' : Option Value → Mem → Prop} (h : ∀ v σ', post v σ' → post' v σ') (k : WP X M pc L S σ post) : WP X M pc L S σ post' := by
  intro p e s m args below meth c H locs ls B hP hS hl T hT XX
  obtain ⟨t, a, o, b1, b2, ⟨v, σ', b3, b4, b5⟩, b6⟩ := k p e s m args below meth c H locs ls B hP hS hl T hT XX
  exact ⟨t, a, o, b1, b2, ⟨v, σ', b3, h v σ' b4, b5⟩, b6⟩
theorem wp_mem {X : Amb} {M : MT} {pc : Nat} {L : List (Nat × Value)} {S : List Value} {σ σ' : Mem} {post : Option Value → Mem → Prop} (e : σ = σ') (k : WP X M pc L S σ' post) : WP X M pc L S σ post := e ▸ k
theorem sp_mono {X : Amb} {M : MT} {As : List Value} {σ : Mem} {post post' : Option Value → Mem → Prop} (hq : ∀ v σ', post v σ' → post' v σ') (h : Sp X M As σ post) : Sp X M As σ post' := by
  intro p e ha hc hk s m args below hf hfit hP hK
  obtain ⟨k, o, h1, h2, h3, ⟨v, σ', b3, b4, b5⟩, h5⟩ := h p e ha hc hk s m args below hf hfit hP hK
  exact ⟨k, o, h1, h2, h3, ⟨v, σ', b3, hq v σ' b4, b5⟩, h5⟩
end
section
theorem dJ9_abs_067f4_0 : decode cJ9_abs_067f4 0 = .ok (.lload_n 0, 1) := by decide +kernel
theorem dJ9_abs_067f4_1 : decode cJ9_abs_067f4 1 = .ok (.lconst 0, 1) := by decide +kernel
theorem dJ9_abs_067f4_2 : decode cJ9_abs_067f4 2 = .ok (.lcmp, 1) := by decide +kernel
theorem dJ9_abs_067f4_3 : decode cJ9_abs_067f4 3 = .ok (.ifCond .ge 8, 3) := by decide +kernel
theorem dJ9_abs_067f4_6 : decode cJ9_abs_067f4 6 = .ok (.lload_n 0, 1) := by decide +kernel
theorem dJ9_abs_067f4_7 : decode cJ9_abs_067f4 7 = .ok (.lneg, 1) := by decide +kernel
theorem dJ9_abs_067f4_8 : decode cJ9_abs_067f4 8 = .ok (.goto 4, 3) := by decide +kernel
theorem dJ9_abs_067f4_11 : decode cJ9_abs_067f4 11 = .ok (.lload_n 0, 1) := by decide +kernel
theorem dJ9_abs_067f4_12 : decode cJ9_abs_067f4 12 = .ok (.lreturn, 1) := by decide +kernel
theorem dJ9_max_7cf53_0 : decode cJ9_max_7cf53 0 = .ok (.iload_n 0, 1) := by decide +kernel
theorem dJ9_max_7cf53_1 : decode cJ9_max_7cf53 1 = .ok (.iload_n 1, 1) := by decide +kernel
theorem dJ9_max_7cf53_2 : decode cJ9_max_7cf53 2 = .ok (.if_icmp .lt 7, 3) := by decide +kernel
theorem dJ9_max_7cf53_5 : decode cJ9_max_7cf53 5 = .ok (.iload_n 0, 1) := by decide +kernel
theorem dJ9_max_7cf53_6 : decode cJ9_max_7cf53 6 = .ok (.goto 4, 3) := by decide +kernel
theorem dJ9_max_7cf53_9 : decode cJ9_max_7cf53 9 = .ok (.iload_n 1, 1) := by decide +kernel
theorem dJ9_max_7cf53_10 : decode cJ9_max_7cf53 10 = .ok (.ireturn, 1) := by decide +kernel
theorem dJ9_min_7cf53_0 : decode cJ9_min_7cf53 0 = .ok (.iload_n 0, 1) := by decide +kernel
theorem dJ9_min_7cf53_1 : decode cJ9_min_7cf53 1 = .ok (.iload_n 1, 1) := by decide +kernel
theorem dJ9_min_7cf53_2 : decode cJ9_min_7cf53 2 = .ok (.if_icmp .gt 7, 3) := by decide +kernel
theorem dJ9_min_7cf53_5 : decode cJ9_min_7cf53 5 = .ok (.iload_n 0, 1) := by decide +kernel
theorem dJ9_min_7cf53_6 : decode cJ9_min_7cf53 6 = .ok (.goto 4, 3) := by decide +kernel
theorem dJ9_min_7cf53_9 : decode cJ9_min_7cf53 9 = .ok (.iload_n 1, 1) := by decide +kernel
theorem dJ9_min_7cf53_10 : decode cJ9_min_7cf53 10 = .ok (.ireturn, 1) := by decide +kernel
section ROWS
variable {X : Amb} {M : MT} {pc : Nat} {L : List (Nat × Value)} {S : List Value} {σ : Mem} {post : Option Value → Mem → Prop}
theorem wp_iconst {n : Int} {v : Int32} (hd : decode (mtC M) pc = .ok (.iconst n, 1)) (hv : Int32.ofInt n = v) (k : WP X M (pc + 1) L (.int v :: S) σ post) : WP X M pc L (S) σ post := fun p e s m args below meth c H locs ls B hP hS hl => lv_iconst B.1 B.2.1 hd hv (k p e s m args below meth c H locs ls B hP hS hl)
theorem wp_bipush {n : Int} {v : Int32} (hd : decode (mtC M) pc = .ok (.bipush n, 2)) (hv : (Int8.ofInt n).toInt32 = v) (k : WP X M (pc + 2) L (.int v :: S) σ post) : WP X M pc L (S) σ post := fun p e s m args below meth c H locs ls B hP hS hl => lv_bipush B.1 B.2.1 hd hv (k p e s m args below meth c H locs ls B hP hS hl)
theorem wp_sipush {n : Int} {v : Int32} (hd : decode (mtC M) pc = .ok (.sipush n, 3)) (hv : (Int16.ofInt n).toInt32 = v) (k : WP X M (pc + 3) L (.int v :: S) σ post) : WP X M pc L (S) σ post := fun p e s m args below meth c H locs ls B hP hS hl => lv_sipush B.1 B.2.1 hd hv (k p e s m args below meth c H locs ls B hP hS hl)
theorem wp_lconst {n : Fin 2} {v : Int64} (hd : decode (mtC M) pc = .ok (.lconst n, 1)) (hv : Int64.ofNat (n : Nat) = v) (k : WP X M (pc + 1) L (.long v :: S) σ post) : WP X M pc L (S) σ post := fun p e s m args below meth c H locs ls B hP hS hl => lv_lconst B.1 B.2.1 hd hv (k p e s m args below meth c H locs ls B hP hS hl)
theorem wp_iload_n {n : Fin 4} {x : Int32} (hd : decode (mtC M) pc = .ok (.iload_n n, 1)) (i : Nat) (hL : L[i]? = some ((n : Nat), .int x)) (k : WP X M (pc + 1) L (.int x :: S) σ post) : WP X M pc L (S) σ post := fun p e s m args below meth c H locs ls B hP hS hl => lv_iload_n B.1 B.2.1 hd rfl (lv_at hl i hL) (k p e s m args below meth c H locs ls B hP hS hl)
theorem wp_iload {n : Nat} {x : Int32} (hd : decode (mtC M) pc = .ok (.iload n, 2)) (i : Nat) (hL : L[i]? = some (n, .int x)) (k : WP X M (pc + 2) L (.int x :: S) σ post) : WP X M pc L (S) σ post := fun p e s m args below meth c H locs ls B hP hS hl => lv_iload B.1 B.2.1 hd (lv_at hl i hL) (k p e s m args below meth c H locs ls B hP hS hl)
theorem wp_lload_n {n : Fin 4} {x : Int64} (hd : decode (mtC M) pc = .ok (.lload_n n, 1)) (i : Nat) (hL : L[i]? = some ((n : Nat), .long x)) (k : WP X M (pc + 1) L (.long x :: S) σ post) : WP X M pc L (S) σ post := fun p e s m args below meth c H locs ls B hP hS hl => lv_lload_n B.1 B.2.1 hd rfl (lv_at hl i hL) (k p e s m args below meth c H locs ls B hP hS hl)
theorem wp_lload {n : Nat} {x : Int64} (hd : decode (mtC M) pc = .ok (.lload n, 2)) (i : Nat) (hL : L[i]? = some (n, .long x)) (k : WP X M (pc + 2) L (.long x :: S) σ post) : WP X M pc L (S) σ post := fun p e s m args below meth c H locs ls B hP hS hl => lv_lload B.1 B.2.1 hd (lv_at hl i hL) (k p e s m args below meth c H locs ls B hP hS hl)
theorem wp_aload_n {n : Fin 4} {x : Nat} (hd : decode (mtC M) pc = .ok (.aload_n n, 1)) (i : Nat) (hL : L[i]? = some ((n : Nat), .ref x)) (k : WP X M (pc + 1) L (.ref x :: S) σ post) : WP X M pc L (S) σ post := fun p e s m args below meth c H locs ls B hP hS hl => lv_aload_n B.1 B.2.1 hd rfl (lv_at hl i hL) (k p e s m args below meth c H locs ls B hP hS hl)
theorem wp_aload {n : Nat} {x : Nat} (hd : decode (mtC M) pc = .ok (.aload n, 2)) (i : Nat) (hL : L[i]? = some (n, .ref x)) (k : WP X M (pc + 2) L (.ref x :: S) σ post) : WP X M pc L (S) σ post := fun p e s m args below meth c H locs ls B hP hS hl => lv_aload B.1 B.2.1 hd (lv_at hl i hL) (k p e s m args below meth c H locs ls B hP hS hl)
theorem wp_aload_nN {n : Fin 4} (hd : decode (mtC M) pc = .ok (.aload_n n, 1)) (i : Nat) (hL : L[i]? = some ((n : Nat), .null)) (k : WP X M (pc + 1) L (.null :: S) σ post) : WP X M pc L (S) σ post := fun p e s m args below meth c H locs ls B hP hS hl => lv_aload_nN B.1 B.2.1 hd rfl (lv_at hl i hL) (k p e s m args below meth c H locs ls B hP hS hl)
theorem wp_aloadN {n : Nat} (hd : decode (mtC M) pc = .ok (.aload n, 2)) (i : Nat) (hL : L[i]? = some (n, .null)) (k : WP X M (pc + 2) L (.null :: S) σ post) : WP X M pc L (S) σ post := fun p e s m args below meth c H locs ls B hP hS hl => lv_aloadN B.1 B.2.1 hd (lv_at hl i hL) (k p e s m args below meth c H locs ls B hP hS hl)
theorem wp_istore_n {n : Fin 4} {x : Int32} {L' : List (Nat × Value)} (hd : decode (mtC M) pc = .ok (.istore_n n, 1)) (hn : Nat.ble ((n : Nat) + 1) (mtN M) = true) (hL : ((n : Nat), Value.int x) :: L.filter (fun q => !(q.1 == (n : Nat)) && !(q.1 + 1 == (n : Nat) && q.2.category == 2)) = L') (k : WP X M (pc + 1) L' S σ post) : WP X M pc L (Value.int x :: S) σ post := fun p e s m args below meth c H locs ls B hP hS hl => lv_istore_n B.1 B.2.1 hd rfl hl (Nat.le_of_ble_eq_true hn) hL (fun ls hl => k p e s m args below meth c H locs ls B hP hS hl)
theorem wp_istore {n : Nat} {x : Int32} {L' : List (Nat × Value)} (hd : decode (mtC M) pc = .ok (.istore n, 2)) (hn : Nat.ble (n + 1) (mtN M) = true) (hL : (n, Value.int x) :: L.filter (fun q => !(q.1 == n) && !(q.1 + 1 == n && q.2.category == 2)) = L') (k : WP X M (pc + 2) L' S σ post) : WP X M pc L (Value.int x :: S) σ post := fun p e s m args below meth c H locs ls B hP hS hl => lv_istore B.1 B.2.1 hd  hl (Nat.le_of_ble_eq_true hn) hL (fun ls hl => k p e s m args below meth c H locs ls B hP hS hl)
theorem wp_lstore_n {n : Fin 4} {x : Int64} {L' : List (Nat × Value)} (hd : decode (mtC M) pc = .ok (.lstore_n n, 1)) (hn : Nat.ble ((n : Nat) + 2) (mtN M) = true) (hL : ((n : Nat), Value.long x) :: L.filter (fun q => !(q.1 == (n : Nat)) && (!(q.1 == (n : Nat) + 1) && !(q.1 + 1 == (n : Nat) && q.2.category == 2))) = L') (k : WP X M (pc + 1) L' S σ post) : WP X M pc L (Value.long x :: S) σ post := fun p e s m args below meth c H locs ls B hP hS hl => lv_lstore_n B.1 B.2.1 hd rfl hl (Nat.le_of_ble_eq_true hn) hL (fun ls hl => k p e s m args below meth c H locs ls B hP hS hl)
theorem wp_lstore {n : Nat} {x : Int64} {L' : List (Nat × Value)} (hd : decode (mtC M) pc = .ok (.lstore n, 2)) (hn : Nat.ble (n + 2) (mtN M) = true) (hL : (n, Value.long x) :: L.filter (fun q => !(q.1 == n) && (!(q.1 == n + 1) && !(q.1 + 1 == n && q.2.category == 2))) = L') (k : WP X M (pc + 2) L' S σ post) : WP X M pc L (Value.long x :: S) σ post := fun p e s m args below meth c H locs ls B hP hS hl => lv_lstore B.1 B.2.1 hd  hl (Nat.le_of_ble_eq_true hn) hL (fun ls hl => k p e s m args below meth c H locs ls B hP hS hl)
theorem wp_astore_n {n : Fin 4} {x : Nat} {L' : List (Nat × Value)} (hd : decode (mtC M) pc = .ok (.astore_n n, 1)) (hn : Nat.ble ((n : Nat) + 1) (mtN M) = true) (hL : ((n : Nat), Value.ref x) :: L.filter (fun q => !(q.1 == (n : Nat)) && !(q.1 + 1 == (n : Nat) && q.2.category == 2)) = L') (k : WP X M (pc + 1) L' S σ post) : WP X M pc L (Value.ref x :: S) σ post := fun p e s m args below meth c H locs ls B hP hS hl => lv_astore_n B.1 B.2.1 hd rfl hl (Nat.le_of_ble_eq_true hn) hL (fun ls hl => k p e s m args below meth c H locs ls B hP hS hl)
theorem wp_astore {n : Nat} {x : Nat} {L' : List (Nat × Value)} (hd : decode (mtC M) pc = .ok (.astore n, 2)) (hn : Nat.ble (n + 1) (mtN M) = true) (hL : (n, Value.ref x) :: L.filter (fun q => !(q.1 == n) && !(q.1 + 1 == n && q.2.category == 2)) = L') (k : WP X M (pc + 2) L' S σ post) : WP X M pc L (Value.ref x :: S) σ post := fun p e s m args below meth c H locs ls B hP hS hl => lv_astore B.1 B.2.1 hd  hl (Nat.le_of_ble_eq_true hn) hL (fun ls hl => k p e s m args below meth c H locs ls B hP hS hl)
theorem wp_astore_nN {n : Fin 4} {L' : List (Nat × Value)} (hd : decode (mtC M) pc = .ok (.astore_n n, 1)) (hn : Nat.ble ((n : Nat) + 1) (mtN M) = true) (hL : ((n : Nat), Value.null) :: L.filter (fun q => !(q.1 == (n : Nat)) && !(q.1 + 1 == (n : Nat) && q.2.category == 2)) = L') (k : WP X M (pc + 1) L' S σ post) : WP X M pc L (Value.null :: S) σ post := fun p e s m args below meth c H locs ls B hP hS hl => lv_astore_nN B.1 B.2.1 hd rfl hl (Nat.le_of_ble_eq_true hn) hL (fun ls hl => k p e s m args below meth c H locs ls B hP hS hl)
theorem wp_astoreN {n : Nat} {L' : List (Nat × Value)} (hd : decode (mtC M) pc = .ok (.astore n, 2)) (hn : Nat.ble (n + 1) (mtN M) = true) (hL : (n, Value.null) :: L.filter (fun q => !(q.1 == n) && !(q.1 + 1 == n && q.2.category == 2)) = L') (k : WP X M (pc + 2) L' S σ post) : WP X M pc L (Value.null :: S) σ post := fun p e s m args below meth c H locs ls B hP hS hl => lv_astoreN B.1 B.2.1 hd  hl (Nat.le_of_ble_eq_true hn) hL (fun ls hl => k p e s m args below meth c H locs ls B hP hS hl)
theorem wp_iinc {i : Nat} {n : Int} {x v : Int32} {L' : List (Nat × Value)} (hd : decode (mtC M) pc = .ok (.iinc i n, 3)) (hn : Nat.ble (i + 1) (mtN M) = true) (j : Nat) (hj : L[j]? = some (i, .int x)) (hv : x + Int32.ofInt n = v) (hL : (i, Value.int v) :: L.filter (fun q => !(q.1 == i) && !(q.1 + 1 == i && q.2.category == 2)) = L') (k : WP X M (pc + 3) L' S σ post) : WP X M pc L S σ post := fun p e s m args below meth c H locs ls B hP hS hl => lv_iinc B.1 B.2.1 hd hl hj hv (Nat.le_of_ble_eq_true hn) hL (fun ls hl => k p e s m args below meth c H locs ls B hP hS hl)
theorem wp_iadd {x y : Int32} (hd : decode (mtC M) pc = .ok (.iadd, 1))  (k : WP X M (pc + 1) L (.int (x + y) :: S) σ post) : WP X M pc L (.int y :: .int x :: S) σ post := fun p e s m args below meth c H locs ls B hP hS hl => lv_iadd B.1 B.2.1 hd  (k p e s m args below meth c H locs ls B hP hS hl)
theorem wp_isub {x y : Int32} (hd : decode (mtC M) pc = .ok (.isub, 1))  (k : WP X M (pc + 1) L (.int (x - y) :: S) σ post) : WP X M pc L (.int y :: .int x :: S) σ post := fun p e s m args below meth c H locs ls B hP hS hl => lv_isub B.1 B.2.1 hd  (k p e s m args below meth c H locs ls B hP hS hl)
theorem wp_imul {x y : Int32} (hd : decode (mtC M) pc = .ok (.imul, 1))  (k : WP X M (pc + 1) L (.int (x * y) :: S) σ post) : WP X M pc L (.int y :: .int x :: S) σ post := fun p e s m args below meth c H locs ls B hP hS hl => lv_imul B.1 B.2.1 hd  (k p e s m args below meth c H locs ls B hP hS hl)
theorem wp_iand {x y : Int32} (hd : decode (mtC M) pc = .ok (.iand, 1))  (k : WP X M (pc + 1) L (.int (x &&& y) :: S) σ post) : WP X M pc L (.int y :: .int x :: S) σ post := fun p e s m args below meth c H locs ls B hP hS hl => lv_iand B.1 B.2.1 hd  (k p e s m args below meth c H locs ls B hP hS hl)
theorem wp_ladd {x y : Int64} (hd : decode (mtC M) pc = .ok (.ladd, 1))  (k : WP X M (pc + 1) L (.long (x + y) :: S) σ post) : WP X M pc L (.long y :: .long x :: S) σ post := fun p e s m args below meth c H locs ls B hP hS hl => lv_ladd B.1 B.2.1 hd  (k p e s m args below meth c H locs ls B hP hS hl)
theorem wp_lsub {x y : Int64} (hd : decode (mtC M) pc = .ok (.lsub, 1))  (k : WP X M (pc + 1) L (.long (x - y) :: S) σ post) : WP X M pc L (.long y :: .long x :: S) σ post := fun p e s m args below meth c H locs ls B hP hS hl => lv_lsub B.1 B.2.1 hd  (k p e s m args below meth c H locs ls B hP hS hl)
theorem wp_lmul {x y : Int64} (hd : decode (mtC M) pc = .ok (.lmul, 1))  (k : WP X M (pc + 1) L (.long (x * y) :: S) σ post) : WP X M pc L (.long y :: .long x :: S) σ post := fun p e s m args below meth c H locs ls B hP hS hl => lv_lmul B.1 B.2.1 hd  (k p e s m args below meth c H locs ls B hP hS hl)
theorem wp_idiv {x y : Int32} (hd : decode (mtC M) pc = .ok (.idiv, 1)) (hne : ¬ y = 0) (k : WP X M (pc + 1) L (.int (x / y) :: S) σ post) : WP X M pc L (.int y :: .int x :: S) σ post := fun p e s m args below meth c H locs ls B hP hS hl => lv_idiv B.1 B.2.1 hd hne (k p e s m args below meth c H locs ls B hP hS hl)
theorem wp_irem {x y : Int32} (hd : decode (mtC M) pc = .ok (.irem, 1)) (hne : ¬ y = 0) (k : WP X M (pc + 1) L (.int (x - x / y * y) :: S) σ post) : WP X M pc L (.int y :: .int x :: S) σ post := fun p e s m args below meth c H locs ls B hP hS hl => lv_irem B.1 B.2.1 hd hne (k p e s m args below meth c H locs ls B hP hS hl)
theorem wp_ldiv {x y : Int64} (hd : decode (mtC M) pc = .ok (.ldiv, 1)) (hne : ¬ y = 0) (k : WP X M (pc + 1) L (.long (x / y) :: S) σ post) : WP X M pc L (.long y :: .long x :: S) σ post := fun p e s m args below meth c H locs ls B hP hS hl => lv_ldiv B.1 B.2.1 hd hne (k p e s m args below meth c H locs ls B hP hS hl)
theorem wp_lrem {x y : Int64} (hd : decode (mtC M) pc = .ok (.lrem, 1)) (hne : ¬ y = 0) (k : WP X M (pc + 1) L (.long (x - x / y * y) :: S) σ post) : WP X M pc L (.long y :: .long x :: S) σ post := fun p e s m args below meth c H locs ls B hP hS hl => lv_lrem B.1 B.2.1 hd hne (k p e s m args below meth c H locs ls B hP hS hl)
theorem wp_ineg {x : Int32} (hd : decode (mtC M) pc = .ok (.ineg, 1))  (k : WP X M (pc + 1) L (.int (-x) :: S) σ post) : WP X M pc L (.int x :: S) σ post := fun p e s m args below meth c H locs ls B hP hS hl => lv_ineg B.1 B.2.1 hd  (k p e s m args below meth c H locs ls B hP hS hl)
theorem wp_lneg {x : Int64} (hd : decode (mtC M) pc = .ok (.lneg, 1))  (k : WP X M (pc + 1) L (.long (-x) :: S) σ post) : WP X M pc L (.long x :: S) σ post := fun p e s m args below meth c H locs ls B hP hS hl => lv_lneg B.1 B.2.1 hd  (k p e s m args below meth c H locs ls B hP hS hl)
theorem wp_lcmp {x y : Int64} (hd : decode (mtC M) pc = .ok (.lcmp, 1))  (k : WP X M (pc + 1) L (.int (lg_cmp x y) :: S) σ post) : WP X M pc L (.long y :: .long x :: S) σ post := fun p e s m args below meth c H locs ls B hP hS hl => W.lcmp B.1 B.2.1 hd  (k p e s m args below meth c H locs ls B hP hS hl)
theorem wp_i2l {x : Int32} (hd : decode (mtC M) pc = .ok (.i2l, 1))  (k : WP X M (pc + 1) L (.long x.toInt64 :: S) σ post) : WP X M pc L (.int x :: S) σ post := fun p e s m args below meth c H locs ls B hP hS hl => lv_i2l B.1 B.2.1 hd rfl (k p e s m args below meth c H locs ls B hP hS hl)
theorem wp_l2i {x : Int64} (hd : decode (mtC M) pc = .ok (.l2i, 1))  (k : WP X M (pc + 1) L (.int x.toInt32 :: S) σ post) : WP X M pc L (.long x :: S) σ post := fun p e s m args below meth c H locs ls B hP hS hl => lv_l2i B.1 B.2.1 hd rfl (k p e s m args below meth c H locs ls B hP hS hl)
theorem wp_i2b {x : Int32} (hd : decode (mtC M) pc = .ok (.i2b, 1))  (k : WP X M (pc + 1) L (.int x.toInt8.toInt32 :: S) σ post) : WP X M pc L (.int x :: S) σ post := fun p e s m args below meth c H locs ls B hP hS hl => lv_i2b B.1 B.2.1 hd rfl (k p e s m args below meth c H locs ls B hP hS hl)
theorem wp_i2s {x : Int32} (hd : decode (mtC M) pc = .ok (.i2s, 1))  (k : WP X M (pc + 1) L (.int x.toInt16.toInt32 :: S) σ post) : WP X M pc L (.int x :: S) σ post := fun p e s m args below meth c H locs ls B hP hS hl => lv_i2s B.1 B.2.1 hd rfl (k p e s m args below meth c H locs ls B hP hS hl)
theorem wp_dup {v : Value} (hd : decode (mtC M) pc = .ok (.dup, 1)) (hv : v.category = 1) (k : WP X M (pc + 1) L (v :: v :: S) σ post) : WP X M pc L (v :: S) σ post := fun p e s m args below meth c H locs ls B hP hS hl => lv_dup B.1 B.2.1 hd hv (k p e s m args below meth c H locs ls B hP hS hl)
theorem wp_pop {v : Value} (hd : decode (mtC M) pc = .ok (.pop, 1)) (hv : v.category = 1) (k : WP X M (pc + 1) L (S) σ post) : WP X M pc L (v :: S) σ post := fun p e s m args below meth c H locs ls B hP hS hl => lv_pop B.1 B.2.1 hd hv (k p e s m args below meth c H locs ls B hP hS hl)
theorem wp_dup2 {v w : Value} (hd : decode (mtC M) pc = .ok (.dup2, 1)) (hv : v.category = 1) (hw : w.category = 1) (k : WP X M (pc + 1) L (v :: w :: v :: w :: S) σ post) : WP X M pc L (v :: w :: S) σ post := fun p e s m args below meth c H locs ls B hP hS hl => lv_dup2_11 B.1 B.2.1 hd hv hw (k p e s m args below meth c H locs ls B hP hS hl)
theorem wp_null  (hd : decode (mtC M) pc = .ok (.aconst_null, 1))  (k : WP X M (pc + 1) L (.null :: S) σ post) : WP X M pc L (S) σ post := fun p e s m args below meth c H locs ls B hP hS hl => lv_null B.1 B.2.1 hd  (k p e s m args below meth c H locs ls B hP hS hl)
theorem wp_ldc {idx : Nat} {v : Int32} (hd : decode (mtC M) pc = .ok (.ldc idx, 2)) (hw : Cond.constant (mtY M).cls idx v ∈ gtb) (k : WP X M (pc + 2) L (.int v :: S) σ post) : WP X M pc L S σ post := fun p e s m args below meth c H locs ls B hP hS hl => lv_ldc B.1 B.2.1 B.2.2.2.1 (B.2.2.2.2.1 _ hw) hd (k p e s m args below meth c H locs ls B hP hS hl)
theorem wp_ldcw {idx : Nat} {v : Int32} (hd : decode (mtC M) pc = .ok (.ldc_w idx, 3)) (hw : Cond.constant (mtY M).cls idx v ∈ gtb) (k : WP X M (pc + 3) L (.int v :: S) σ post) : WP X M pc L S σ post := fun p e s m args below meth c H locs ls B hP hS hl => lv_ldcw B.1 B.2.1 B.2.2.2.1 (B.2.2.2.2.1 _ hw) hd (k p e s m args below meth c H locs ls B hP hS hl)
theorem wp_ldc2 {idx : Nat} {v : Int64} (hd : decode (mtC M) pc = .ok (.ldc2_w idx, 3)) (hw : Cond.constantLong (mtY M).cls idx v ∈ gtb) (k : WP X M (pc + 3) L (.long v :: S) σ post) : WP X M pc L S σ post := fun p e s m args below meth c H locs ls B hP hS hl => lv_ldc2 B.1 B.2.1 B.2.2.2.1 (B.2.2.2.2.1 _ hw) hd (k p e s m args below meth c H locs ls B hP hS hl)
theorem wp_if_eq {x : Int32} {off : Int} (tgt : Nat) (hd : decode (mtC M) pc = .ok (.ifCond .eq off, 3)) (ht : (pc : Int) + off = (tgt : Int)) (kt : x = 0 → WP X M tgt L S σ post) (kf : ¬ (x = 0) → WP X M (pc + 3) L S σ post) : WP X M pc L (.int x :: S) σ post := fun p e s m args below meth c H locs ls B hP hS hl => lv_if_eq B.1 B.2.1 hd ht (fun h => kt h p e s m args below meth c H locs ls B hP hS hl) (fun h => kf h p e s m args below meth c H locs ls B hP hS hl)
theorem wp_icmp_eq {x y : Int32} {off : Int} (tgt : Nat) (hd : decode (mtC M) pc = .ok (.if_icmp .eq off, 3)) (ht : (pc : Int) + off = (tgt : Int)) (kt : x = y → WP X M tgt L S σ post) (kf : ¬ (x = y) → WP X M (pc + 3) L S σ post) : WP X M pc L (.int y :: .int x :: S) σ post := fun p e s m args below meth c H locs ls B hP hS hl => lv_icmp_eq B.1 B.2.1 hd ht (fun h => kt h p e s m args below meth c H locs ls B hP hS hl) (fun h => kf h p e s m args below meth c H locs ls B hP hS hl)
theorem wp_if_ne {x : Int32} {off : Int} (tgt : Nat) (hd : decode (mtC M) pc = .ok (.ifCond .ne off, 3)) (ht : (pc : Int) + off = (tgt : Int)) (kt : ¬ x = 0 → WP X M tgt L S σ post) (kf : x = 0 → WP X M (pc + 3) L S σ post) : WP X M pc L (.int x :: S) σ post := fun p e s m args below meth c H locs ls B hP hS hl => lv_if_ne B.1 B.2.1 hd ht (fun h => kt h p e s m args below meth c H locs ls B hP hS hl) (fun h => kf h p e s m args below meth c H locs ls B hP hS hl)
theorem wp_icmp_ne {x y : Int32} {off : Int} (tgt : Nat) (hd : decode (mtC M) pc = .ok (.if_icmp .ne off, 3)) (ht : (pc : Int) + off = (tgt : Int)) (kt : ¬ x = y → WP X M tgt L S σ post) (kf : x = y → WP X M (pc + 3) L S σ post) : WP X M pc L (.int y :: .int x :: S) σ post := fun p e s m args below meth c H locs ls B hP hS hl => lv_icmp_ne B.1 B.2.1 hd ht (fun h => kt h p e s m args below meth c H locs ls B hP hS hl) (fun h => kf h p e s m args below meth c H locs ls B hP hS hl)
theorem wp_if_lt {x : Int32} {off : Int} (tgt : Nat) (hd : decode (mtC M) pc = .ok (.ifCond .lt off, 3)) (ht : (pc : Int) + off = (tgt : Int)) (kt : x < 0 → WP X M tgt L S σ post) (kf : ¬ (x < 0) → WP X M (pc + 3) L S σ post) : WP X M pc L (.int x :: S) σ post := fun p e s m args below meth c H locs ls B hP hS hl => lv_if_lt B.1 B.2.1 hd ht (fun h => kt h p e s m args below meth c H locs ls B hP hS hl) (fun h => kf h p e s m args below meth c H locs ls B hP hS hl)
theorem wp_icmp_lt {x y : Int32} {off : Int} (tgt : Nat) (hd : decode (mtC M) pc = .ok (.if_icmp .lt off, 3)) (ht : (pc : Int) + off = (tgt : Int)) (kt : x < y → WP X M tgt L S σ post) (kf : ¬ (x < y) → WP X M (pc + 3) L S σ post) : WP X M pc L (.int y :: .int x :: S) σ post := fun p e s m args below meth c H locs ls B hP hS hl => lv_icmp_lt B.1 B.2.1 hd ht (fun h => kt h p e s m args below meth c H locs ls B hP hS hl) (fun h => kf h p e s m args below meth c H locs ls B hP hS hl)
theorem wp_if_ge {x : Int32} {off : Int} (tgt : Nat) (hd : decode (mtC M) pc = .ok (.ifCond .ge off, 3)) (ht : (pc : Int) + off = (tgt : Int)) (kt : 0 ≤ x → WP X M tgt L S σ post) (kf : ¬ (0 ≤ x) → WP X M (pc + 3) L S σ post) : WP X M pc L (.int x :: S) σ post := fun p e s m args below meth c H locs ls B hP hS hl => lv_if_ge B.1 B.2.1 hd ht (fun h => kt h p e s m args below meth c H locs ls B hP hS hl) (fun h => kf h p e s m args below meth c H locs ls B hP hS hl)
theorem wp_icmp_ge {x y : Int32} {off : Int} (tgt : Nat) (hd : decode (mtC M) pc = .ok (.if_icmp .ge off, 3)) (ht : (pc : Int) + off = (tgt : Int)) (kt : y ≤ x → WP X M tgt L S σ post) (kf : ¬ (y ≤ x) → WP X M (pc + 3) L S σ post) : WP X M pc L (.int y :: .int x :: S) σ post := fun p e s m args below meth c H locs ls B hP hS hl => lv_icmp_ge B.1 B.2.1 hd ht (fun h => kt h p e s m args below meth c H locs ls B hP hS hl) (fun h => kf h p e s m args below meth c H locs ls B hP hS hl)
theorem wp_if_gt {x : Int32} {off : Int} (tgt : Nat) (hd : decode (mtC M) pc = .ok (.ifCond .gt off, 3)) (ht : (pc : Int) + off = (tgt : Int)) (kt : 0 < x → WP X M tgt L S σ post) (kf : ¬ (0 < x) → WP X M (pc + 3) L S σ post) : WP X M pc L (.int x :: S) σ post := fun p e s m args below meth c H locs ls B hP hS hl => lv_if_gt B.1 B.2.1 hd ht (fun h => kt h p e s m args below meth c H locs ls B hP hS hl) (fun h => kf h p e s m args below meth c H locs ls B hP hS hl)
theorem wp_icmp_gt {x y : Int32} {off : Int} (tgt : Nat) (hd : decode (mtC M) pc = .ok (.if_icmp .gt off, 3)) (ht : (pc : Int) + off = (tgt : Int)) (kt : y < x → WP X M tgt L S σ post) (kf : ¬ (y < x) → WP X M (pc + 3) L S σ post) : WP X M pc L (.int y :: .int x :: S) σ post := fun p e s m args below meth c H locs ls B hP hS hl => lv_icmp_gt B.1 B.2.1 hd ht (fun h => kt h p e s m args below meth c H locs ls B hP hS hl) (fun h => kf h p e s m args below meth c H locs ls B hP hS hl)
theorem wp_if_le {x : Int32} {off : Int} (tgt : Nat) (hd : decode (mtC M) pc = .ok (.ifCond .le off, 3)) (ht : (pc : Int) + off = (tgt : Int)) (kt : x ≤ 0 → WP X M tgt L S σ post) (kf : ¬ (x ≤ 0) → WP X M (pc + 3) L S σ post) : WP X M pc L (.int x :: S) σ post := fun p e s m args below meth c H locs ls B hP hS hl => lv_if_le B.1 B.2.1 hd ht (fun h => kt h p e s m args below meth c H locs ls B hP hS hl) (fun h => kf h p e s m args below meth c H locs ls B hP hS hl)
theorem wp_icmp_le {x y : Int32} {off : Int} (tgt : Nat) (hd : decode (mtC M) pc = .ok (.if_icmp .le off, 3)) (ht : (pc : Int) + off = (tgt : Int)) (kt : x ≤ y → WP X M tgt L S σ post) (kf : ¬ (x ≤ y) → WP X M (pc + 3) L S σ post) : WP X M pc L (.int y :: .int x :: S) σ post := fun p e s m args below meth c H locs ls B hP hS hl => lv_icmp_le B.1 B.2.1 hd ht (fun h => kt h p e s m args below meth c H locs ls B hP hS hl) (fun h => kf h p e s m args below meth c H locs ls B hP hS hl)
theorem wp_goto {off : Int} (tgt : Nat) (hd : decode (mtC M) pc = .ok (.goto off, 3)) (ht : (pc : Int) + off = (tgt : Int)) (k : WP X M tgt L S σ post) : WP X M pc L S σ post := fun p e s m args below meth c H locs ls B hP hS hl => lv_goto B.1 B.2.1 hd ht (k p e s m args below meth c H locs ls B hP hS hl)
theorem wp_ifnull {x : Nat} {off : Int} (hd : decode (mtC M) pc = .ok (.ifnull off, 3)) (k : WP X M (pc + 3) L S σ post) : WP X M pc L (.ref x :: S) σ post := fun p e s m args below meth c H locs ls B hP hS hl => lv_ifnull B.1 B.2.1 hd (k p e s m args below meth c H locs ls B hP hS hl)
theorem wp_ifnullN {off : Int} (tgt : Nat) (hd : decode (mtC M) pc = .ok (.ifnull off, 3)) (ht : (pc : Int) + off = (tgt : Int)) (k : WP X M tgt L S σ post) : WP X M pc L (.null :: S) σ post := fun p e s m args below meth c H locs ls B hP hS hl => lv_ifnullN B.1 B.2.1 hd ht (k p e s m args below meth c H locs ls B hP hS hl)
theorem wp_ifnonnull {x : Nat} {off : Int} (tgt : Nat) (hd : decode (mtC M) pc = .ok (.ifnonnull off, 3)) (ht : (pc : Int) + off = (tgt : Int)) (k : WP X M tgt L S σ post) : WP X M pc L (.ref x :: S) σ post := fun p e s m args below meth c H locs ls B hP hS hl => lv_ifnonnull B.1 B.2.1 hd ht (k p e s m args below meth c H locs ls B hP hS hl)
theorem wp_ifnonnullN {off : Int} (hd : decode (mtC M) pc = .ok (.ifnonnull off, 3)) (k : WP X M (pc + 3) L S σ post) : WP X M pc L (.null :: S) σ post := fun p e s m args below meth c H locs ls B hP hS hl => lv_ifnonnullN B.1 B.2.1 hd (k p e s m args below meth c H locs ls B hP hS hl)
theorem wp_tableOut {dflt lo hi : Int} {offs : Array Int} {len : Nat} {x : Int32} (tgt : Nat) (hd : decode (mtC M) pc = .ok (.tableswitch dflt lo hi offs, len)) (h : x.toInt < lo ∨ hi < x.toInt) (ht : (pc : Int) + dflt = (tgt : Int)) (k : WP X M tgt L S σ post) : WP X M pc L (.int x :: S) σ post := fun p e s m args below meth c H locs ls B hP hS hl => lv_tableOut B.1 B.2.1 hd h ht (k p e s m args below meth c H locs ls B hP hS hl)
theorem wp_tableIn {dflt lo hi : Int} {offs : Array Int} {len : Nat} {x : Int32} {off : Int} (tgt : Nat) (hd : decode (mtC M) pc = .ok (.tableswitch dflt lo hi offs, len)) (h1 : ¬ x.toInt < lo) (h2 : ¬ hi < x.toInt) (ho : offs[(x.toInt - lo).toNat]? = some off) (ht : (pc : Int) + off = (tgt : Int)) (k : WP X M tgt L S σ post) : WP X M pc L (.int x :: S) σ post := fun p e s m args below meth c H locs ls B hP hS hl => lv_tableIn B.1 B.2.1 hd h1 h2 ho ht (k p e s m args below meth c H locs ls B hP hS hl)
theorem wp_ireturn {x : Int32} (hd : decode (mtC M) pc = .ok (.ireturn, 1)) (hr : mtR M = some .int) (h : post (some (.int x)) σ) : WP X M pc L [.int x] σ post := fun p e s m args below meth c H locs ls B hP hS hl => W.iret B.1 B.2.1 (B.2.2.2.2.2.2.1.trans hr) (fun t ht _ => ⟨_, σ, rfl, h, by rw [ht]; exact hP, hS.F ht⟩) hS.2.2 hd B.2.2.2.2.2.1
theorem wp_zreturn {x : Int32} (hd : decode (mtC M) pc = .ok (.ireturn, 1)) (hr : mtR M = some .boolean) (hn : x = 0 ∨ x = 1) (h : post (some (.int x)) σ) : WP X M pc L [.int x] σ post := fun p e s m args below meth c H locs ls B hP hS hl => W.zret B.1 B.2.1 (B.2.2.2.2.2.2.1.trans hr) (by rcases hn with rfl | rfl <;> rfl) (fun t ht _ => ⟨_, σ, rfl, h, by rw [ht]; exact hP, hS.F ht⟩) hS.2.2 hd B.2.2.2.2.2.1
theorem wp_lreturn {x : Int64} (hd : decode (mtC M) pc = .ok (.lreturn, 1)) (hr : mtR M = some .long) (h : post (some (.long x)) σ) : WP X M pc L [.long x] σ post := fun p e s m args below meth c H locs ls B hP hS hl => W.lret B.1 B.2.1 (B.2.2.2.2.2.2.1.trans hr) (fun t ht _ => ⟨_, σ, rfl, h, by rw [ht]; exact hP, hS.F ht⟩) hS.2.2 hd B.2.2.2.2.2.1
theorem wp_return (hd : decode (mtC M) pc = .ok (.return_, 1)) (hr : mtR M = none) (h : post none σ) : WP X M pc L [] σ post := fun p e s m args below meth c H locs ls B hP hS hl => W.vret B.1 B.2.1 (B.2.2.2.2.2.2.1.trans hr) (fun t ht _ => ⟨_, σ, rfl, h, by rw [ht]; exact hP, hS.F ht⟩) hS.2.2 hd B.2.2.2.2.2.1
theorem wp_areturn {x : Nat} {n : String} (hd : decode (mtC M) pc = .ok (.areturn, 1)) (hr : mtR M = some (.object n)) (h : post (some (.ref x)) σ) : WP X M pc L [.ref x] σ post := fun p e s m args below meth c H locs ls B hP hS hl => W.aret B.1 B.2.1 (B.2.2.2.2.2.2.1.trans hr) (Or.inl ⟨n, rfl⟩) (Or.inr ⟨x, rfl⟩) (fun t ht _ => ⟨_, σ, rfl, h, by rw [ht]; exact hP, hS.F ht⟩) hS.2.2 hd B.2.2.2.2.2.1
theorem wp_areturnN {n : String} (hd : decode (mtC M) pc = .ok (.areturn, 1)) (hr : mtR M = some (.object n)) (h : post (some .null) σ) : WP X M pc L [.null] σ post := fun p e s m args below meth c H locs ls B hP hS hl => W.aret B.1 B.2.1 (B.2.2.2.2.2.2.1.trans hr) (Or.inl ⟨n, rfl⟩) (Or.inl rfl) (fun t ht _ => ⟨_, σ, rfl, h, by rw [ht]; exact hP, hS.F ht⟩) hS.2.2 hd B.2.2.2.2.2.1
/-- class number ci, with its table: its words stand in the tables -/
def Cok (ci : Nat) (C : String) (T : u_T) (N : Nat) : Prop := cls[ci]? = some (C, T, N) ∧ (∀ w ∈ u_ws C T N, w ∈ gtb) ∧ (∀ a, a < N → ∀ b, b < N → a ≠ b → (T a).2.1 ≠ (T b).2.1) ∧ ∃ ty : Nat → FieldType, ∀ k, k < N → parseFieldDescriptor (T k).2.2.1 = some (ty k)
/-- entry idx of class own's pool names field j of class ci -/
def FA (own : String) (idx ci j : Nat) : Prop := ∃ (C : String) (T : u_T) (N : Nat), Cok ci C T N ∧ j < N ∧ ci ≠ 99 ∧ Cond.fieldLink own idx (T j).1 (T j).2.1 (T j).2.2.1 ∈ gtb
/-- it is an int (a boolean) that may be written -/
def FW (own : String) (idx ci j : Nat) (ty : FieldType) : Prop := ∃ (C : String) (T : u_T) (N : Nat), Cok ci C T N ∧ j < N ∧ ci ≠ 99 ∧ Cond.fieldLink own idx (T j).1 (T j).2.1 (T j).2.2.1 ∈ gtb ∧ (T j).2.2.2 = false ∧ parseFieldDescriptor (T j).2.2.1 = some ty
theorem cel_obj {f : Nat → Int32} {ci : Nat} {fl : List (Option Nat)} (h : ci ≠ 99) : cel X f (.inl (ci, fl)) = .inr (ci, flds X f 0 fl) := by simp [cel, h]
theorem wp_getI {idx ci j a : Nat} {fl : List (Option Nat)} (hd : decode (mtC M) pc = .ok (.getfield idx, 3)) (hf : FA (mtY M).cls idx ci j) (hs : (mtS M)[a]? = some (.inl (ci, fl))) (hj : fl[j]? = some none) (k : WP X M (pc + 3) L (.int (σ a j) :: S) σ post) : WP X M pc L (.ref (adr X a) :: S) σ post := by
  intro p e s m args below meth c H locs ls B hP hS hl
  obtain ⟨C, T, N, ⟨c1, c2, c3, ty, c4⟩, hjN, h99, hw⟩ := hf
  have he := wl_at (X := X) (σ := σ) hs
  rw [cel_obj h99] at he
  refine va_get (D := X.2.2.2) (ci := ci) (v := .int (σ a j)) (C := C) (T := T) (N := N) B.1 B.2.1 B.2.2.2.2.1 c2 B.2.2.2.1 B.2.2.2.2.2.2.2.1 hP a he c1 j hjN (B.2.2.2.2.1 _ hw) (fun _ h9 => h9) ?_ hd (k p e s m args below meth c H locs ls B hP hS hl)
  rw [flds_get, hj, Nat.zero_add]; rfl
theorem wp_getR {idx ci j b a : Nat} {fl : List (Option Nat)} (hd : decode (mtC M) pc = .ok (.getfield idx, 3)) (hf : FA (mtY M).cls idx ci j) (hs : (mtS M)[a]? = some (.inl (ci, fl))) (hj : fl[j]? = some (some b)) (k : WP X M (pc + 3) L (.ref (adr X b) :: S) σ post) : WP X M pc L (.ref (adr X a) :: S) σ post := by
  intro p e s m args below meth c H locs ls B hP hS hl
  obtain ⟨C, T, N, ⟨c1, c2, c3, ty, c4⟩, hjN, h99, hw⟩ := hf
  have he := wl_at (X := X) (σ := σ) hs
  rw [cel_obj h99] at he
  refine va_get (D := X.2.2.2) (ci := ci) (v := .ref (adr X b)) (C := C) (T := T) (N := N) B.1 B.2.1 B.2.2.2.2.1 c2 B.2.2.2.1 B.2.2.2.2.2.2.2.1 hP a he c1 j hjN (B.2.2.2.2.1 _ hw) (fun _ h9 => h9) ?_ hd (k p e s m args below meth c H locs ls B hP hS hl)
  rw [flds_get, hj, Nat.zero_add]; rfl
theorem wp_putI {idx ci j a : Nat} {v : Int32} {fl : List (Option Nat)} (hd : decode (mtC M) pc = .ok (.putfield idx, 3)) (hf : FW (mtY M).cls idx ci j .int) (hs : (mtS M)[a]? = some (.inl (ci, fl))) (hj : fl[j]? = some none)  (k : WP X M (pc + 3) L S (mst σ a j v) post) : WP X M pc L (.int v :: .ref (adr X a) :: S) σ post := by
  intro p e s m args below meth c H locs ls B hP hS hl
  obtain ⟨C, T, N, ⟨c1, c2, c3, ty, c4⟩, hjN, h99, hw, hfin, hty⟩ := hf
  have he := wl_at (X := X) (σ := σ) hs
  rw [cel_obj h99] at he
  have hD : va_D (AX X (mtS M)) (wl X σ 0 (mtS M)) := B.2.2.2.2.2.2.2.2.1 σ
  refine va_put (D := X.2.2.2) (ci := ci) (v := .int v) (ty := .int) (C := C) (T := T) (N := N) B.1 B.2.1 B.2.2.2.2.1 c2 ty c4 c3 B.2.2.2.1 B.2.2.2.2.2.2.2.1 hP hD hS a he c1 j hjN (B.2.2.2.2.1 _ hw) (fun _ h9 => h9) hfin hty rfl rfl (by rw [flds_len]; exact (List.getElem?_eq_some_iff.mp hj).1) hd (fun H1 locs1 hP1 hD1 hS1 => ?_)
  rw [flds_set X (σ a) v fl 0 j hj, Nat.zero_add, ← cel_obj h99, wl_set hs] at hP1
  exact k p e s m args below meth c H1 locs1 ls B hP1 hS1 hl
theorem wp_putZ {idx ci j a : Nat} {v : Int32} {fl : List (Option Nat)} (hd : decode (mtC M) pc = .ok (.putfield idx, 3)) (hf : FW (mtY M).cls idx ci j .boolean) (hs : (mtS M)[a]? = some (.inl (ci, fl))) (hj : fl[j]? = some none) (hv : v = 0 ∨ v = 1) (k : WP X M (pc + 3) L S (mst σ a j v) post) : WP X M pc L (.int v :: .ref (adr X a) :: S) σ post := by
  intro p e s m args below meth c H locs ls B hP hS hl
  obtain ⟨C, T, N, ⟨c1, c2, c3, ty, c4⟩, hjN, h99, hw, hfin, hty⟩ := hf
  have he := wl_at (X := X) (σ := σ) hs
  rw [cel_obj h99] at he
  have hD : va_D (AX X (mtS M)) (wl X σ 0 (mtS M)) := B.2.2.2.2.2.2.2.2.1 σ
  refine va_put (D := X.2.2.2) (ci := ci) (v := .int v) (ty := .boolean) (C := C) (T := T) (N := N) B.1 B.2.1 B.2.2.2.2.1 c2 ty c4 c3 B.2.2.2.1 B.2.2.2.2.2.2.2.1 hP hD hS a he c1 j hjN (B.2.2.2.2.1 _ hw) (fun _ h9 => h9) hfin hty (by rcases hv with rfl | rfl <;> rfl) (by rcases hv with rfl | rfl <;> rfl) (by rw [flds_len]; exact (List.getElem?_eq_some_iff.mp hj).1) hd (fun H1 locs1 hP1 hD1 hS1 => ?_)
  rw [flds_set X (σ a) v fl 0 j hj, Nat.zero_add, ← cel_obj h99, wl_set hs] at hP1
  exact k p e s m args below meth c H1 locs1 ls B hP1 hS1 hl
theorem wp_iald {a n : Nat} {i : Int32} (hd : decode (mtC M) pc = .ok (.iaload, 1)) (hs : (mtS M)[a]? = some (.inr (0, n))) (hi : vp_in i n) (k : WP X M (pc + 1) L (.int (σ a i.toNatClampNeg) :: S) σ post) : WP X M pc L (.int i :: .ref (adr X a) :: S) σ post :=
  fun p e s m args below meth c H locs ls B hP hS hl => va_iald (D := X.2.2.2) B.1 B.2.1 B.2.2.2.2.2.2.2.1 hP a 0 (wl_at (X := X) (σ := σ) hs) rfl hi hd (k p e s m args below meth c H locs ls B hP hS hl)
theorem wp_zald {a n : Nat} {i : Int32} (hd : decode (mtC M) pc = .ok (.baload, 1)) (hs : (mtS M)[a]? = some (.inr (1, n))) (hi : vp_in i n) (k : WP X M (pc + 1) L (.int (σ a i.toNatClampNeg) :: S) σ post) : WP X M pc L (.int i :: .ref (adr X a) :: S) σ post :=
  fun p e s m args below meth c H locs ls B hP hS hl => va_zald (D := X.2.2.2) B.1 B.2.1 B.2.2.2.2.2.2.2.1 hP a 1 (wl_at (X := X) (σ := σ) hs) rfl hi hd (k p e s m args below meth c H locs ls B hP hS hl)
theorem wp_iast {a n : Nat} {i x : Int32} (hd : decode (mtC M) pc = .ok (.iastore, 1)) (hs : (mtS M)[a]? = some (.inr (0, n))) (hi : vp_in i n) (k : WP X M (pc + 1) L S (mst σ a i.toNatClampNeg x) post) : WP X M pc L (.int x :: .int i :: .ref (adr X a) :: S) σ post := by
  intro p e s m args below meth c H locs ls B hP hS hl
  have hD : va_D (AX X (mtS M)) (wl X σ 0 (mtS M)) := B.2.2.2.2.2.2.2.2.1 σ
  refine va_iast (D := X.2.2.2) B.1 B.2.1 B.2.2.2.2.2.2.2.1 hP hD hS a 0 (wl_at (X := X) (σ := σ) hs) rfl hi hd (fun H1 locs1 hP1 hD1 hS1 => ?_)
  exact k p e s m args below meth c H1 locs1 ls B (wl_set (X := X) (σ := σ) hs i.toNatClampNeg x ▸ hP1) hS1 hl
theorem wp_zast {a n : Nat} {i x : Int32} (hd : decode (mtC M) pc = .ok (.bastore, 1)) (hs : (mtS M)[a]? = some (.inr (1, n))) (hi : vp_in i n) (hx : x = 0 ∨ x = 1) (k : WP X M (pc + 1) L S (mst σ a i.toNatClampNeg x) post) : WP X M pc L (.int x :: .int i :: .ref (adr X a) :: S) σ post := by
  intro p e s m args below meth c H locs ls B hP hS hl
  have hD : va_D (AX X (mtS M)) (wl X σ 0 (mtS M)) := B.2.2.2.2.2.2.2.2.1 σ
  refine va_zast (D := X.2.2.2) B.1 B.2.1 B.2.2.2.2.2.2.2.1 hP hD hS a 1 (wl_at (X := X) (σ := σ) hs) rfl hi hd (fun H1 locs1 hP1 hD1 hS1 => ?_)
  have hn : vp_nar .boolean x = x := by rcases hx with rfl | rfl <;> rfl
  rw [hn] at hP1
  exact k p e s m args below meth c H1 locs1 ls B (wl_set (X := X) (σ := σ) hs i.toNatClampNeg x ▸ hP1) hS1 hl
theorem wp_alen {a t n : Nat} {v : Int32} (hd : decode (mtC M) pc = .ok (.arraylength, 1)) (hs : (mtS M)[a]? = some (.inr (t, n))) (ht : t = 0 ∨ t = 1) (hv : Int32.ofNat n = v) (k : WP X M (pc + 1) L (.int v :: S) σ post) : WP X M pc L (.ref (adr X a) :: S) σ post := by
  intro p e s m args below meth c H locs ls B hP hS hl
  rcases ht with rfl | rfl
  · exact va_alen (D := X.2.2.2) B.1 B.2.1 B.2.2.2.2.2.2.2.1 hP a 0 (wl_at (X := X) (σ := σ) hs) rfl hv hd (k p e s m args below meth c H locs ls B hP hS hl)
  · exact va_alen (D := X.2.2.2) B.1 B.2.1 B.2.2.2.2.2.2.2.1 hP a 1 (wl_at (X := X) (σ := σ) hs) rfl hv hd (k p e s m args below meth c H locs ls B hP hS hl)
/-- the row of sheets -/
theorem wp_alenQ {a : Nat} {fl : List (Option Nat)} {v : Int32} (hd : decode (mtC M) pc = .ok (.arraylength, 1)) (hs : (mtS M)[a]? = some (.inl (99, fl))) (hv : Int32.ofNat fl.length = v) (k : WP X M (pc + 1) L (.int v :: S) σ post) : WP X M pc L (.ref (adr X a) :: S) σ post :=
  fun p e s m args below meth c H locs ls B hP hS hl => va_alen (D := X.2.2.2) B.1 B.2.1 B.2.2.2.2.2.2.2.1 hP a 2 (wl_at (X := X) (σ := σ) hs) rfl hv hd (k p e s m args below meth c H locs ls B hP hS hl)
theorem wp_aldQ {a b : Nat} {fl : List (Option Nat)} {i : Int32} (hd : decode (mtC M) pc = .ok (.aaload, 1)) (hs : (mtS M)[a]? = some (.inl (99, fl))) (hi : vp_in i fl.length) (hb : fl.getD i.toNatClampNeg none = some b) (k : WP X M (pc + 1) L (.ref (adr X b) :: S) σ post) : WP X M pc L (.int i :: .ref (adr X a) :: S) σ post := by
  intro p e s m args below meth c H locs ls B hP hS hl
  refine va_aldq (D := X.2.2.2) B.1 B.2.1 B.2.2.2.2.2.2.2.1 hP a 2 (wl_at (X := X) (σ := σ) hs) rfl hi hd ?_
  dsimp only
  rw [hb]
  exact k p e s m args below meth c H locs ls B hP hS hl
/-- static tables -/
theorem wp_gets {idx : Nat} (j : Nat) (hd : decode (mtC M) pc = .ok (.getstatic idx, 3)) (h39 : (mtS M).length = 39) (hj : Nat.ble (j + 1) 7 = true) (hw : Cond.fieldLink (mtY M).cls idx RX8 (stn j) "[I" ∈ gtb) (k : WP X M (pc + 3) L (.ref (adr X (100 + j)) :: S) σ post) : WP X M pc L S σ post :=
  fun p e s m args below meth c H locs ls B hP hS hl => va_gets B.1 B.2.1 (B.2.2.2.2.2.2.2.2.2 h39 j (Nat.le_of_ble_eq_true hj)).1 hS B.2.2.2.1 (B.2.2.2.2.1 _ hw) (fun _ h9 => h9) hd (k p e s m args below meth c H locs ls B hP hS hl)
theorem wp_sald {i : Int32} (j : Nat) (hd : decode (mtC M) pc = .ok (.iaload, 1)) (h39 : (mtS M).length = 39) (hj : Nat.ble (j + 1) 7 = true) (hi : vp_in i (stv j).length) (k : WP X M (pc + 1) L (.int ((stv j).getD i.toNatClampNeg 0) :: S) σ post) : WP X M pc L (.int i :: .ref (adr X (100 + j)) :: S) σ post :=
  fun p e s m args below meth c H locs ls B hP hS hl => va_ti B.1 B.2.1 (B.2.2.2.2.2.2.2.2.2 h39 j (Nat.le_of_ble_eq_true hj)).2 hS hi rfl hd (k p e s m args below meth c H locs ls B hP hS hl)
theorem wp_slen {v : Int32} (j : Nat) (hd : decode (mtC M) pc = .ok (.arraylength, 1)) (h39 : (mtS M).length = 39) (hj : Nat.ble (j + 1) 7 = true) (hv : Int32.ofNat (stv j).length = v) (k : WP X M (pc + 1) L (.int v :: S) σ post) : WP X M pc L (.ref (adr X (100 + j)) :: S) σ post :=
  fun p e s m args below meth c H locs ls B hP hS hl => va_tlen B.1 B.2.1 (B.2.2.2.2.2.2.2.2.2 h39 j (Nat.le_of_ble_eq_true hj)).2 hS hv hd (k p e s m args below meth c H locs ls B hP hS hl)
/-! calls -/
theorem tbl_good : ∀ w ∈ gtb, goodWord w = true := fun w h => (List.mem_filter.mp h).2
theorem gtb_in {w : Cond} (h : w ∈ lw_tbl) (hg : goodWord w = true) : w ∈ gtb := List.mem_filter.mpr ⟨h, hg⟩
/-- a method that can be called: what the tables say of it, n its arguments without the receiver -/
def Mok (N : MT) (n : Nat) : Prop := Cond.code (mtY N) (mtC N) (mtN N) (mtR N) ∈ gtb ∧ Cond.initialized (mtY N).cls ∈ gtb ∧ ((mtY N).cls ≠ "java/lang/invoke/MethodHandle" ∧ (mtY N).cls ≠ "java/lang/invoke/VarHandle" ∧ (parseMethodDescriptor (mtY N).desc).map (fun d => d.parameters.length) = some n)
def MokV (N : MT) (n : Nat) : Prop := Mok N n ∧ Cond.instanceMethod (mtY N) ∈ gtb ∧ Cond.selects (mtY N).cls (mtY N) (mtY N) ∈ gtb
def MokS (N : MT) (n : Nat) : Prop := Mok N n ∧ Cond.static (mtY N) ∈ gtb
theorem mok_good {N : MT} {n : Nat} (h : Mok N n) : GoodIn gtb (wsM N) := by
  intro w hw
  rcases List.mem_cons.mp hw with rfl | hw
  · exact ⟨h.1, good_of_word (tbl_good _ h.1)⟩
  · exact ⟨hw, good_of_word (tbl_good _ hw)⟩
theorem pcm_blind {N : MT} {As : List Value} : FrameBlind (PcM X N As σ) := by
  intro a U g mk q
  obtain ⟨q0, qP, qK, qD, qS⟩ := q
  exact ⟨q0, qP, va_K.moved (u := U) (U := U.calling g mk a) (Vm.Alike.refl U.vm) qK, qD, Stc.moved (u := U) (U := U.calling g mk a) (Vm.Alike.refl U.vm) qS⟩
theorem wcall {N : MT} {rest st0 : List Value} {post1 : Option Value → Mem → Prop} {p : Program} {e : Env} {s : State} {m : MethodId} {args : Array Value} {below : List Frame} {meth : Method} {c : Code} {H : Heap} {locs : List Loc} {ls : Array Slot} {a : Array Value}
    (hr : va_Run p X.1 e (rmM M) s m args below meth c H locs 0 0 0 0 (F0 m pc ls st0) rest (QcM X (mtS N) post1 a) (AX X (mtS N))) (hN : mtS N = mtS M) (B : Bd X M p s m args meth c) (hS : va_S (AX X (mtS M)) s.heap H locs) (hl : lv_has ls (mtN M) L)
    (kk : ∀ v σ', post1 v σ' → WP X M (pc + 3) L (v.toList ++ rest) σ' post) : W p X.1 e (rmM M) s m args below meth c H locs 0 0 (MQ below (QcM X (mtS M) post) args s 0 0 (AX X (mtS M))) (F0 m pc ls st0) := by
  intro T hT XX
  obtain ⟨v, st₀, t, T', L1, h0, X', hL, e1, e2, ⟨v', σ', hv, hp, hPn, hz, hk⟩, st⟩ := hr T hT XX
  cases hv
  rw [h0] at hz hk
  rw [hN] at hPn hk hL
  obtain ⟨t2, a1, b1⟩ := kk v σ' hp p e s m args below meth c T'.heap (locs ++ L1) ls B (by rw [e1]; exact hPn)
    ⟨Nat.le_trans hS.1 (by rw [e1]; exact hz), fun q h1 h2 => by rw [e1, hk q (Nat.lt_of_lt_of_le h1 hS.1) h2]; exact hS.2.1 q h1 h2, fun q hq => by
      rcases List.mem_append.mp hq with h | h
      · exact hS.2.2 q h
      · exact hL q h⟩ hl T' rfl X'
  exact ⟨t2, st t2 a1, b1⟩
theorem pcm_at {N : MT} {As : List Value} {p : Program} {s : State} {m : MethodId} {args : Array Value} {meth : Method} {c : Code} {H : Heap} {locs : List Loc} (hN : mtS N = mtS M) (B : Bd X M p s m args meth c) (hP : va_P X.2.2.2 cls (wl X σ 0 (mtS M)) H) (hS : va_S (AX X (mtS M)) s.heap H locs) : ∀ U : State, U.heap = H → s.WarmedH U.vm → PcM X N As σ As.toArray U := by
  intro U hU hW
  refine ⟨rfl, ?_, va_K.moved hW.alike B.2.2.2.2.2.2.2.1, ?_, ?_⟩
  · rw [hU, hN]; exact hP
  · rw [hN]; exact B.2.2.2.2.2.2.2.2.1
  · rw [hU, hN]; exact Stc.moved hW.alike (Stc.kept B.2.2.2.2.2.2.2.2.2 (fun q h1 h2 => hS.2.1 q h1 h2))
theorem wp_callV {N : MT} {idx n ka : Nat} {fl : List (Option Nat)} {ci : Nat} {C : vw_C} {As rest : List Value} {post1 : Option Value → Mem → Prop} (hd : decode (mtC M) pc = .ok (.invokevirtual idx, 3)) (hk : Cond.methodLink (mtY M).cls idx (mtY N) ∈ gtb) (hM : MokV N n) (hn : As.length = n) (hN : mtS N = mtS M) (hs : (mtS M)[ka]? = some (.inl (ci, fl))) (h99 : ci ≠ 99) (hc : cls[ci]? = some C) (hC : C.1 = (mtY N).cls)
    (hR : Nat.ble (mtF N + 1) (mtF M) = true) (hR2 : Nat.ble (8 + (mtN N + 11) + mtLo N) (mtLo M) = true) (hw : Nat.ble ((rest.map fun v => v.category).sum) 8 = true) (hSp : Sp X N (.ref (adr X ka) :: As) σ post1)
    (kk : ∀ v σ', post1 v σ' → WP X M (pc + 3) L (v.toList ++ rest) σ' post) : WP X M pc L (As.reverse ++ .ref (adr X ka) :: rest) σ post := by
  intro p e s m args below meth c H locs ls B hP hS hl
  have he := wl_at (X := X) (σ := σ) hs
  rw [cel_obj h99] at he
  have hts := B.2.2.2.2.1
  have hrec := va_recv B.2.2.2.2.2.2.2.1 hP hc he
  rw [hC] at hrec
  exact wcall (N := N) (va_runV (As := As) (rest := rest) ⟨B.1, B.2.1, B.2.2.1, B.2.2.2.1, hts⟩ hSp ⟨callB_of n hts (mok_good hM.1) rfl rfl rfl (hts _ hM.1.2.1) (hts _ hk) hM.1.2.2 ⟨Nat.le_of_ble_eq_true hR, Nat.le_of_ble_eq_true hR2⟩, hts _ hM.2.1, hts _ hM.2.2⟩ ⟨pcm_blind, hrec, pcm_at hN B hP hS⟩ rfl hn hl.1 rfl (lv_room (Nat.le_of_ble_eq_true hw)) hd ⟨Nat.zero_le _, Nat.zero_le _⟩) hN B hS hl kk
theorem wp_callS {N : MT} {idx n : Nat} {As rest : List Value} {post1 : Option Value → Mem → Prop} (hd : decode (mtC M) pc = .ok (.invokestatic idx, 3)) (hk : Cond.methodLink (mtY M).cls idx (mtY N) ∈ gtb) (hM : MokS N n) (hn : As.length = n) (hN : mtS N = mtS M)
    (hR : Nat.ble (mtF N + 1) (mtF M) = true) (hR2 : Nat.ble (8 + (mtN N + 11) + mtLo N) (mtLo M) = true) (hw : Nat.ble ((rest.map fun v => v.category).sum) 8 = true) (hSp : Sp X N As σ post1)
    (kk : ∀ v σ', post1 v σ' → WP X M (pc + 3) L (v.toList ++ rest) σ' post) : WP X M pc L (As.reverse ++ rest) σ post := by
  intro p e s m args below meth c H locs ls B hP hS hl
  have hts := B.2.2.2.2.1
  exact wcall (N := N) (va_runS (As := As) (rest := rest) ⟨B.1, B.2.1, B.2.2.1, B.2.2.2.1, hts⟩ hSp ⟨callB_of n hts (mok_good hM.1) rfl rfl rfl (hts _ hM.1.2.1) (hts _ hk) hM.1.2.2 ⟨Nat.le_of_ble_eq_true hR, Nat.le_of_ble_eq_true hR2⟩, hts _ hM.2⟩ ⟨pcm_blind, pcm_at hN B hP hS⟩ rfl hn hl.1 rfl (lv_room (Nat.le_of_ble_eq_true hw)) hd ⟨Nat.zero_le _, Nat.zero_le _⟩) hN B hS hl kk
/-- contracts that are equations: the answer w and the memory τ behind it -/
def SpW (X : Amb) (M : MT) (As : List Value) (σ : Mem) (w : Value) (τ : Mem) : Prop := Sp X M As σ (fun v σ' => v = some w ∧ σ' = τ)
def SpV (X : Amb) (M : MT) (As : List Value) (σ : Mem) (τ : Mem) : Prop := Sp X M As σ (fun v σ' => v = none ∧ σ' = τ)
theorem wp_cV0 {N : MT} {idx ka ci : Nat} {fl : List (Option Nat)} {C : vw_C} {rest : List Value} {post1 : Option Value → Mem → Prop} (hd : decode (mtC M) pc = .ok (.invokevirtual idx, 3)) (hk : Cond.methodLink (mtY M).cls idx (mtY N) ∈ gtb) (hM : MokV N 0) (hN : mtS N = mtS M) (hs : (mtS M)[ka]? = some (.inl (ci, fl))) (h99 : Nat.beq ci 99 = false) (hc : cls[ci]? = some C) (hC : C.1 = (mtY N).cls) (hR : Nat.ble (mtF N + 1) (mtF M) = true) (hR2 : Nat.ble (8 + (mtN N + 11) + mtLo N) (mtLo M) = true) (hw : Nat.ble ((rest.map fun v => v.category).sum) 8 = true) (hSp : Sp X N (.ref (adr X ka) :: []) σ post1) (kk : ∀ v σ', post1 v σ' → WP X M (pc + 3) L (v.toList ++ rest) σ' post) : WP X M pc L (.ref (adr X ka) :: rest) σ post := wp_callV (As := []) (rest := rest) hd hk hM rfl hN hs (fun h => by subst h; exact absurd h99 (by decide)) hc hC hR hR2 hw hSp kk
theorem wp_cV0w {N : MT} {idx ka ci : Nat} {fl : List (Option Nat)} {C : vw_C} {rest : List Value} {w : Value} {τ : Mem} (hd : decode (mtC M) pc = .ok (.invokevirtual idx, 3)) (hk : Cond.methodLink (mtY M).cls idx (mtY N) ∈ gtb) (hM : MokV N 0) (hN : mtS N = mtS M) (hs : (mtS M)[ka]? = some (.inl (ci, fl))) (h99 : Nat.beq ci 99 = false) (hc : cls[ci]? = some C) (hC : C.1 = (mtY N).cls) (hR : Nat.ble (mtF N + 1) (mtF M) = true) (hR2 : Nat.ble (8 + (mtN N + 11) + mtLo N) (mtLo M) = true) (hw : Nat.ble ((rest.map fun v => v.category).sum) 8 = true) (hSp : SpW X N (.ref (adr X ka) :: []) σ w τ) (k : WP X M (pc + 3) L (w :: rest) τ post) : WP X M pc L (.ref (adr X ka) :: rest) σ post := wp_cV0 hd hk hM hN hs h99 hc hC hR hR2 hw hSp (fun v σ' h => by obtain ⟨rfl, rfl⟩ := h; exact k)
theorem wp_cV0v {N : MT} {idx ka ci : Nat} {fl : List (Option Nat)} {C : vw_C} {rest : List Value} {τ : Mem} (hd : decode (mtC M) pc = .ok (.invokevirtual idx, 3)) (hk : Cond.methodLink (mtY M).cls idx (mtY N) ∈ gtb) (hM : MokV N 0) (hN : mtS N = mtS M) (hs : (mtS M)[ka]? = some (.inl (ci, fl))) (h99 : Nat.beq ci 99 = false) (hc : cls[ci]? = some C) (hC : C.1 = (mtY N).cls) (hR : Nat.ble (mtF N + 1) (mtF M) = true) (hR2 : Nat.ble (8 + (mtN N + 11) + mtLo N) (mtLo M) = true) (hw : Nat.ble ((rest.map fun v => v.category).sum) 8 = true) (hSp : SpV X N (.ref (adr X ka) :: []) σ τ) (k : WP X M (pc + 3) L rest τ post) : WP X M pc L (.ref (adr X ka) :: rest) σ post := wp_cV0 hd hk hM hN hs h99 hc hC hR hR2 hw hSp (fun v σ' h => by obtain ⟨rfl, rfl⟩ := h; exact k)
theorem wp_cS0 {N : MT} {idx : Nat} {rest : List Value} {post1 : Option Value → Mem → Prop} (hd : decode (mtC M) pc = .ok (.invokestatic idx, 3)) (hk : Cond.methodLink (mtY M).cls idx (mtY N) ∈ gtb) (hM : MokS N 0) (hN : mtS N = mtS M) (hR : Nat.ble (mtF N + 1) (mtF M) = true) (hR2 : Nat.ble (8 + (mtN N + 11) + mtLo N) (mtLo M) = true) (hw : Nat.ble ((rest.map fun v => v.category).sum) 8 = true) (hSp : Sp X N [] σ post1) (kk : ∀ v σ', post1 v σ' → WP X M (pc + 3) L (v.toList ++ rest) σ' post) : WP X M pc L (rest) σ post := wp_callS (As := []) (rest := rest) hd hk hM rfl hN hR hR2 hw hSp kk
theorem wp_cS0w {N : MT} {idx : Nat} {rest : List Value} {w : Value} {τ : Mem} (hd : decode (mtC M) pc = .ok (.invokestatic idx, 3)) (hk : Cond.methodLink (mtY M).cls idx (mtY N) ∈ gtb) (hM : MokS N 0) (hN : mtS N = mtS M) (hR : Nat.ble (mtF N + 1) (mtF M) = true) (hR2 : Nat.ble (8 + (mtN N + 11) + mtLo N) (mtLo M) = true) (hw : Nat.ble ((rest.map fun v => v.category).sum) 8 = true) (hSp : SpW X N [] σ w τ) (k : WP X M (pc + 3) L (w :: rest) τ post) : WP X M pc L (rest) σ post := wp_cS0 hd hk hM hN hR hR2 hw hSp (fun v σ' h => by obtain ⟨rfl, rfl⟩ := h; exact k)
theorem wp_cV1 {N : MT} {idx ka ci : Nat} {fl : List (Option Nat)} {C : vw_C} {a1 : Value} {rest : List Value} {post1 : Option Value → Mem → Prop} (hd : decode (mtC M) pc = .ok (.invokevirtual idx, 3)) (hk : Cond.methodLink (mtY M).cls idx (mtY N) ∈ gtb) (hM : MokV N 1) (hN : mtS N = mtS M) (hs : (mtS M)[ka]? = some (.inl (ci, fl))) (h99 : Nat.beq ci 99 = false) (hc : cls[ci]? = some C) (hC : C.1 = (mtY N).cls) (hR : Nat.ble (mtF N + 1) (mtF M) = true) (hR2 : Nat.ble (8 + (mtN N + 11) + mtLo N) (mtLo M) = true) (hw : Nat.ble ((rest.map fun v => v.category).sum) 8 = true) (hSp : Sp X N (.ref (adr X ka) :: [a1]) σ post1) (kk : ∀ v σ', post1 v σ' → WP X M (pc + 3) L (v.toList ++ rest) σ' post) : WP X M pc L (a1 :: .ref (adr X ka) :: rest) σ post := wp_callV (As := [a1]) (rest := rest) hd hk hM rfl hN hs (fun h => by subst h; exact absurd h99 (by decide)) hc hC hR hR2 hw hSp kk
theorem wp_cV1w {N : MT} {idx ka ci : Nat} {fl : List (Option Nat)} {C : vw_C} {a1 : Value} {rest : List Value} {w : Value} {τ : Mem} (hd : decode (mtC M) pc = .ok (.invokevirtual idx, 3)) (hk : Cond.methodLink (mtY M).cls idx (mtY N) ∈ gtb) (hM : MokV N 1) (hN : mtS N = mtS M) (hs : (mtS M)[ka]? = some (.inl (ci, fl))) (h99 : Nat.beq ci 99 = false) (hc : cls[ci]? = some C) (hC : C.1 = (mtY N).cls) (hR : Nat.ble (mtF N + 1) (mtF M) = true) (hR2 : Nat.ble (8 + (mtN N + 11) + mtLo N) (mtLo M) = true) (hw : Nat.ble ((rest.map fun v => v.category).sum) 8 = true) (hSp : SpW X N (.ref (adr X ka) :: [a1]) σ w τ) (k : WP X M (pc + 3) L (w :: rest) τ post) : WP X M pc L (a1 :: .ref (adr X ka) :: rest) σ post := wp_cV1 hd hk hM hN hs h99 hc hC hR hR2 hw hSp (fun v σ' h => by obtain ⟨rfl, rfl⟩ := h; exact k)
theorem wp_cV1v {N : MT} {idx ka ci : Nat} {fl : List (Option Nat)} {C : vw_C} {a1 : Value} {rest : List Value} {τ : Mem} (hd : decode (mtC M) pc = .ok (.invokevirtual idx, 3)) (hk : Cond.methodLink (mtY M).cls idx (mtY N) ∈ gtb) (hM : MokV N 1) (hN : mtS N = mtS M) (hs : (mtS M)[ka]? = some (.inl (ci, fl))) (h99 : Nat.beq ci 99 = false) (hc : cls[ci]? = some C) (hC : C.1 = (mtY N).cls) (hR : Nat.ble (mtF N + 1) (mtF M) = true) (hR2 : Nat.ble (8 + (mtN N + 11) + mtLo N) (mtLo M) = true) (hw : Nat.ble ((rest.map fun v => v.category).sum) 8 = true) (hSp : SpV X N (.ref (adr X ka) :: [a1]) σ τ) (k : WP X M (pc + 3) L rest τ post) : WP X M pc L (a1 :: .ref (adr X ka) :: rest) σ post := wp_cV1 hd hk hM hN hs h99 hc hC hR hR2 hw hSp (fun v σ' h => by obtain ⟨rfl, rfl⟩ := h; exact k)
theorem wp_cS1 {N : MT} {idx : Nat} {a1 : Value} {rest : List Value} {post1 : Option Value → Mem → Prop} (hd : decode (mtC M) pc = .ok (.invokestatic idx, 3)) (hk : Cond.methodLink (mtY M).cls idx (mtY N) ∈ gtb) (hM : MokS N 1) (hN : mtS N = mtS M) (hR : Nat.ble (mtF N + 1) (mtF M) = true) (hR2 : Nat.ble (8 + (mtN N + 11) + mtLo N) (mtLo M) = true) (hw : Nat.ble ((rest.map fun v => v.category).sum) 8 = true) (hSp : Sp X N [a1] σ post1) (kk : ∀ v σ', post1 v σ' → WP X M (pc + 3) L (v.toList ++ rest) σ' post) : WP X M pc L (a1 :: rest) σ post := wp_callS (As := [a1]) (rest := rest) hd hk hM rfl hN hR hR2 hw hSp kk
theorem wp_cS1w {N : MT} {idx : Nat} {a1 : Value} {rest : List Value} {w : Value} {τ : Mem} (hd : decode (mtC M) pc = .ok (.invokestatic idx, 3)) (hk : Cond.methodLink (mtY M).cls idx (mtY N) ∈ gtb) (hM : MokS N 1) (hN : mtS N = mtS M) (hR : Nat.ble (mtF N + 1) (mtF M) = true) (hR2 : Nat.ble (8 + (mtN N + 11) + mtLo N) (mtLo M) = true) (hw : Nat.ble ((rest.map fun v => v.category).sum) 8 = true) (hSp : SpW X N [a1] σ w τ) (k : WP X M (pc + 3) L (w :: rest) τ post) : WP X M pc L (a1 :: rest) σ post := wp_cS1 hd hk hM hN hR hR2 hw hSp (fun v σ' h => by obtain ⟨rfl, rfl⟩ := h; exact k)
theorem wp_cV2 {N : MT} {idx ka ci : Nat} {fl : List (Option Nat)} {C : vw_C} {a1 a2 : Value} {rest : List Value} {post1 : Option Value → Mem → Prop} (hd : decode (mtC M) pc = .ok (.invokevirtual idx, 3)) (hk : Cond.methodLink (mtY M).cls idx (mtY N) ∈ gtb) (hM : MokV N 2) (hN : mtS N = mtS M) (hs : (mtS M)[ka]? = some (.inl (ci, fl))) (h99 : Nat.beq ci 99 = false) (hc : cls[ci]? = some C) (hC : C.1 = (mtY N).cls) (hR : Nat.ble (mtF N + 1) (mtF M) = true) (hR2 : Nat.ble (8 + (mtN N + 11) + mtLo N) (mtLo M) = true) (hw : Nat.ble ((rest.map fun v => v.category).sum) 8 = true) (hSp : Sp X N (.ref (adr X ka) :: [a1, a2]) σ post1) (kk : ∀ v σ', post1 v σ' → WP X M (pc + 3) L (v.toList ++ rest) σ' post) : WP X M pc L (a2 :: a1 :: .ref (adr X ka) :: rest) σ post := wp_callV (As := [a1, a2]) (rest := rest) hd hk hM rfl hN hs (fun h => by subst h; exact absurd h99 (by decide)) hc hC hR hR2 hw hSp kk
theorem wp_cV2w {N : MT} {idx ka ci : Nat} {fl : List (Option Nat)} {C : vw_C} {a1 a2 : Value} {rest : List Value} {w : Value} {τ : Mem} (hd : decode (mtC M) pc = .ok (.invokevirtual idx, 3)) (hk : Cond.methodLink (mtY M).cls idx (mtY N) ∈ gtb) (hM : MokV N 2) (hN : mtS N = mtS M) (hs : (mtS M)[ka]? = some (.inl (ci, fl))) (h99 : Nat.beq ci 99 = false) (hc : cls[ci]? = some C) (hC : C.1 = (mtY N).cls) (hR : Nat.ble (mtF N + 1) (mtF M) = true) (hR2 : Nat.ble (8 + (mtN N + 11) + mtLo N) (mtLo M) = true) (hw : Nat.ble ((rest.map fun v => v.category).sum) 8 = true) (hSp : SpW X N (.ref (adr X ka) :: [a1, a2]) σ w τ) (k : WP X M (pc + 3) L (w :: rest) τ post) : WP X M pc L (a2 :: a1 :: .ref (adr X ka) :: rest) σ post := wp_cV2 hd hk hM hN hs h99 hc hC hR hR2 hw hSp (fun v σ' h => by obtain ⟨rfl, rfl⟩ := h; exact k)
theorem wp_cV2v {N : MT} {idx ka ci : Nat} {fl : List (Option Nat)} {C : vw_C} {a1 a2 : Value} {rest : List Value} {τ : Mem} (hd : decode (mtC M) pc = .ok (.invokevirtual idx, 3)) (hk : Cond.methodLink (mtY M).cls idx (mtY N) ∈ gtb) (hM : MokV N 2) (hN : mtS N = mtS M) (hs : (mtS M)[ka]? = some (.inl (ci, fl))) (h99 : Nat.beq ci 99 = false) (hc : cls[ci]? = some C) (hC : C.1 = (mtY N).cls) (hR : Nat.ble (mtF N + 1) (mtF M) = true) (hR2 : Nat.ble (8 + (mtN N + 11) + mtLo N) (mtLo M) = true) (hw : Nat.ble ((rest.map fun v => v.category).sum) 8 = true) (hSp : SpV X N (.ref (adr X ka) :: [a1, a2]) σ τ) (k : WP X M (pc + 3) L rest τ post) : WP X M pc L (a2 :: a1 :: .ref (adr X ka) :: rest) σ post := wp_cV2 hd hk hM hN hs h99 hc hC hR hR2 hw hSp (fun v σ' h => by obtain ⟨rfl, rfl⟩ := h; exact k)
theorem wp_cS2 {N : MT} {idx : Nat} {a1 a2 : Value} {rest : List Value} {post1 : Option Value → Mem → Prop} (hd : decode (mtC M) pc = .ok (.invokestatic idx, 3)) (hk : Cond.methodLink (mtY M).cls idx (mtY N) ∈ gtb) (hM : MokS N 2) (hN : mtS N = mtS M) (hR : Nat.ble (mtF N + 1) (mtF M) = true) (hR2 : Nat.ble (8 + (mtN N + 11) + mtLo N) (mtLo M) = true) (hw : Nat.ble ((rest.map fun v => v.category).sum) 8 = true) (hSp : Sp X N [a1, a2] σ post1) (kk : ∀ v σ', post1 v σ' → WP X M (pc + 3) L (v.toList ++ rest) σ' post) : WP X M pc L (a2 :: a1 :: rest) σ post := wp_callS (As := [a1, a2]) (rest := rest) hd hk hM rfl hN hR hR2 hw hSp kk
theorem wp_cS2w {N : MT} {idx : Nat} {a1 a2 : Value} {rest : List Value} {w : Value} {τ : Mem} (hd : decode (mtC M) pc = .ok (.invokestatic idx, 3)) (hk : Cond.methodLink (mtY M).cls idx (mtY N) ∈ gtb) (hM : MokS N 2) (hN : mtS N = mtS M) (hR : Nat.ble (mtF N + 1) (mtF M) = true) (hR2 : Nat.ble (8 + (mtN N + 11) + mtLo N) (mtLo M) = true) (hw : Nat.ble ((rest.map fun v => v.category).sum) 8 = true) (hSp : SpW X N [a1, a2] σ w τ) (k : WP X M (pc + 3) L (w :: rest) τ post) : WP X M pc L (a2 :: a1 :: rest) σ post := wp_cS2 hd hk hM hN hR hR2 hw hSp (fun v σ' h => by obtain ⟨rfl, rfl⟩ := h; exact k)
theorem wp_cV3 {N : MT} {idx ka ci : Nat} {fl : List (Option Nat)} {C : vw_C} {a1 a2 a3 : Value} {rest : List Value} {post1 : Option Value → Mem → Prop} (hd : decode (mtC M) pc = .ok (.invokevirtual idx, 3)) (hk : Cond.methodLink (mtY M).cls idx (mtY N) ∈ gtb) (hM : MokV N 3) (hN : mtS N = mtS M) (hs : (mtS M)[ka]? = some (.inl (ci, fl))) (h99 : Nat.beq ci 99 = false) (hc : cls[ci]? = some C) (hC : C.1 = (mtY N).cls) (hR : Nat.ble (mtF N + 1) (mtF M) = true) (hR2 : Nat.ble (8 + (mtN N + 11) + mtLo N) (mtLo M) = true) (hw : Nat.ble ((rest.map fun v => v.category).sum) 8 = true) (hSp : Sp X N (.ref (adr X ka) :: [a1, a2, a3]) σ post1) (kk : ∀ v σ', post1 v σ' → WP X M (pc + 3) L (v.toList ++ rest) σ' post) : WP X M pc L (a3 :: a2 :: a1 :: .ref (adr X ka) :: rest) σ post := wp_callV (As := [a1, a2, a3]) (rest := rest) hd hk hM rfl hN hs (fun h => by subst h; exact absurd h99 (by decide)) hc hC hR hR2 hw hSp kk
theorem wp_cV3w {N : MT} {idx ka ci : Nat} {fl : List (Option Nat)} {C : vw_C} {a1 a2 a3 : Value} {rest : List Value} {w : Value} {τ : Mem} (hd : decode (mtC M) pc = .ok (.invokevirtual idx, 3)) (hk : Cond.methodLink (mtY M).cls idx (mtY N) ∈ gtb) (hM : MokV N 3) (hN : mtS N = mtS M) (hs : (mtS M)[ka]? = some (.inl (ci, fl))) (h99 : Nat.beq ci 99 = false) (hc : cls[ci]? = some C) (hC : C.1 = (mtY N).cls) (hR : Nat.ble (mtF N + 1) (mtF M) = true) (hR2 : Nat.ble (8 + (mtN N + 11) + mtLo N) (mtLo M) = true) (hw : Nat.ble ((rest.map fun v => v.category).sum) 8 = true) (hSp : SpW X N (.ref (adr X ka) :: [a1, a2, a3]) σ w τ) (k : WP X M (pc + 3) L (w :: rest) τ post) : WP X M pc L (a3 :: a2 :: a1 :: .ref (adr X ka) :: rest) σ post := wp_cV3 hd hk hM hN hs h99 hc hC hR hR2 hw hSp (fun v σ' h => by obtain ⟨rfl, rfl⟩ := h; exact k)
theorem wp_cV3v {N : MT} {idx ka ci : Nat} {fl : List (Option Nat)} {C : vw_C} {a1 a2 a3 : Value} {rest : List Value} {τ : Mem} (hd : decode (mtC M) pc = .ok (.invokevirtual idx, 3)) (hk : Cond.methodLink (mtY M).cls idx (mtY N) ∈ gtb) (hM : MokV N 3) (hN : mtS N = mtS M) (hs : (mtS M)[ka]? = some (.inl (ci, fl))) (h99 : Nat.beq ci 99 = false) (hc : cls[ci]? = some C) (hC : C.1 = (mtY N).cls) (hR : Nat.ble (mtF N + 1) (mtF M) = true) (hR2 : Nat.ble (8 + (mtN N + 11) + mtLo N) (mtLo M) = true) (hw : Nat.ble ((rest.map fun v => v.category).sum) 8 = true) (hSp : SpV X N (.ref (adr X ka) :: [a1, a2, a3]) σ τ) (k : WP X M (pc + 3) L rest τ post) : WP X M pc L (a3 :: a2 :: a1 :: .ref (adr X ka) :: rest) σ post := wp_cV3 hd hk hM hN hs h99 hc hC hR hR2 hw hSp (fun v σ' h => by obtain ⟨rfl, rfl⟩ := h; exact k)
theorem wp_cS3 {N : MT} {idx : Nat} {a1 a2 a3 : Value} {rest : List Value} {post1 : Option Value → Mem → Prop} (hd : decode (mtC M) pc = .ok (.invokestatic idx, 3)) (hk : Cond.methodLink (mtY M).cls idx (mtY N) ∈ gtb) (hM : MokS N 3) (hN : mtS N = mtS M) (hR : Nat.ble (mtF N + 1) (mtF M) = true) (hR2 : Nat.ble (8 + (mtN N + 11) + mtLo N) (mtLo M) = true) (hw : Nat.ble ((rest.map fun v => v.category).sum) 8 = true) (hSp : Sp X N [a1, a2, a3] σ post1) (kk : ∀ v σ', post1 v σ' → WP X M (pc + 3) L (v.toList ++ rest) σ' post) : WP X M pc L (a3 :: a2 :: a1 :: rest) σ post := wp_callS (As := [a1, a2, a3]) (rest := rest) hd hk hM rfl hN hR hR2 hw hSp kk
theorem wp_cS3w {N : MT} {idx : Nat} {a1 a2 a3 : Value} {rest : List Value} {w : Value} {τ : Mem} (hd : decode (mtC M) pc = .ok (.invokestatic idx, 3)) (hk : Cond.methodLink (mtY M).cls idx (mtY N) ∈ gtb) (hM : MokS N 3) (hN : mtS N = mtS M) (hR : Nat.ble (mtF N + 1) (mtF M) = true) (hR2 : Nat.ble (8 + (mtN N + 11) + mtLo N) (mtLo M) = true) (hw : Nat.ble ((rest.map fun v => v.category).sum) 8 = true) (hSp : SpW X N [a1, a2, a3] σ w τ) (k : WP X M (pc + 3) L (w :: rest) τ post) : WP X M pc L (a3 :: a2 :: a1 :: rest) σ post := wp_cS3 hd hk hM hN hR hR2 hw hSp (fun v σ' h => by obtain ⟨rfl, rfl⟩ := h; exact k)
theorem wp_cV4 {N : MT} {idx ka ci : Nat} {fl : List (Option Nat)} {C : vw_C} {a1 a2 a3 a4 : Value} {rest : List Value} {post1 : Option Value → Mem → Prop} (hd : decode (mtC M) pc = .ok (.invokevirtual idx, 3)) (hk : Cond.methodLink (mtY M).cls idx (mtY N) ∈ gtb) (hM : MokV N 4) (hN : mtS N = mtS M) (hs : (mtS M)[ka]? = some (.inl (ci, fl))) (h99 : Nat.beq ci 99 = false) (hc : cls[ci]? = some C) (hC : C.1 = (mtY N).cls) (hR : Nat.ble (mtF N + 1) (mtF M) = true) (hR2 : Nat.ble (8 + (mtN N + 11) + mtLo N) (mtLo M) = true) (hw : Nat.ble ((rest.map fun v => v.category).sum) 8 = true) (hSp : Sp X N (.ref (adr X ka) :: [a1, a2, a3, a4]) σ post1) (kk : ∀ v σ', post1 v σ' → WP X M (pc + 3) L (v.toList ++ rest) σ' post) : WP X M pc L (a4 :: a3 :: a2 :: a1 :: .ref (adr X ka) :: rest) σ post := wp_callV (As := [a1, a2, a3, a4]) (rest := rest) hd hk hM rfl hN hs (fun h => by subst h; exact absurd h99 (by decide)) hc hC hR hR2 hw hSp kk
theorem wp_cV4w {N : MT} {idx ka ci : Nat} {fl : List (Option Nat)} {C : vw_C} {a1 a2 a3 a4 : Value} {rest : List Value} {w : Value} {τ : Mem} (hd : decode (mtC M) pc = .ok (.invokevirtual idx, 3)) (hk : Cond.methodLink (mtY M).cls idx (mtY N) ∈ gtb) (hM : MokV N 4) (hN : mtS N = mtS M) (hs : (mtS M)[ka]? = some (.inl (ci, fl))) (h99 : Nat.beq ci 99 = false) (hc : cls[ci]? = some C) (hC : C.1 = (mtY N).cls) (hR : Nat.ble (mtF N + 1) (mtF M) = true) (hR2 : Nat.ble (8 + (mtN N + 11) + mtLo N) (mtLo M) = true) (hw : Nat.ble ((rest.map fun v => v.category).sum) 8 = true) (hSp : SpW X N (.ref (adr X ka) :: [a1, a2, a3, a4]) σ w τ) (k : WP X M (pc + 3) L (w :: rest) τ post) : WP X M pc L (a4 :: a3 :: a2 :: a1 :: .ref (adr X ka) :: rest) σ post := wp_cV4 hd hk hM hN hs h99 hc hC hR hR2 hw hSp (fun v σ' h => by obtain ⟨rfl, rfl⟩ := h; exact k)
theorem wp_cV4v {N : MT} {idx ka ci : Nat} {fl : List (Option Nat)} {C : vw_C} {a1 a2 a3 a4 : Value} {rest : List Value} {τ : Mem} (hd : decode (mtC M) pc = .ok (.invokevirtual idx, 3)) (hk : Cond.methodLink (mtY M).cls idx (mtY N) ∈ gtb) (hM : MokV N 4) (hN : mtS N = mtS M) (hs : (mtS M)[ka]? = some (.inl (ci, fl))) (h99 : Nat.beq ci 99 = false) (hc : cls[ci]? = some C) (hC : C.1 = (mtY N).cls) (hR : Nat.ble (mtF N + 1) (mtF M) = true) (hR2 : Nat.ble (8 + (mtN N + 11) + mtLo N) (mtLo M) = true) (hw : Nat.ble ((rest.map fun v => v.category).sum) 8 = true) (hSp : SpV X N (.ref (adr X ka) :: [a1, a2, a3, a4]) σ τ) (k : WP X M (pc + 3) L rest τ post) : WP X M pc L (a4 :: a3 :: a2 :: a1 :: .ref (adr X ka) :: rest) σ post := wp_cV4 hd hk hM hN hs h99 hc hC hR hR2 hw hSp (fun v σ' h => by obtain ⟨rfl, rfl⟩ := h; exact k)
theorem wp_cS4 {N : MT} {idx : Nat} {a1 a2 a3 a4 : Value} {rest : List Value} {post1 : Option Value → Mem → Prop} (hd : decode (mtC M) pc = .ok (.invokestatic idx, 3)) (hk : Cond.methodLink (mtY M).cls idx (mtY N) ∈ gtb) (hM : MokS N 4) (hN : mtS N = mtS M) (hR : Nat.ble (mtF N + 1) (mtF M) = true) (hR2 : Nat.ble (8 + (mtN N + 11) + mtLo N) (mtLo M) = true) (hw : Nat.ble ((rest.map fun v => v.category).sum) 8 = true) (hSp : Sp X N [a1, a2, a3, a4] σ post1) (kk : ∀ v σ', post1 v σ' → WP X M (pc + 3) L (v.toList ++ rest) σ' post) : WP X M pc L (a4 :: a3 :: a2 :: a1 :: rest) σ post := wp_callS (As := [a1, a2, a3, a4]) (rest := rest) hd hk hM rfl hN hR hR2 hw hSp kk
theorem wp_cS4w {N : MT} {idx : Nat} {a1 a2 a3 a4 : Value} {rest : List Value} {w : Value} {τ : Mem} (hd : decode (mtC M) pc = .ok (.invokestatic idx, 3)) (hk : Cond.methodLink (mtY M).cls idx (mtY N) ∈ gtb) (hM : MokS N 4) (hN : mtS N = mtS M) (hR : Nat.ble (mtF N + 1) (mtF M) = true) (hR2 : Nat.ble (8 + (mtN N + 11) + mtLo N) (mtLo M) = true) (hw : Nat.ble ((rest.map fun v => v.category).sum) 8 = true) (hSp : SpW X N [a1, a2, a3, a4] σ w τ) (k : WP X M (pc + 3) L (w :: rest) τ post) : WP X M pc L (a4 :: a3 :: a2 :: a1 :: rest) σ post := wp_cS4 hd hk hM hN hR hR2 hw hSp (fun v σ' h => by obtain ⟨rfl, rfl⟩ := h; exact k)
theorem wp_cV5 {N : MT} {idx ka ci : Nat} {fl : List (Option Nat)} {C : vw_C} {a1 a2 a3 a4 a5 : Value} {rest : List Value} {post1 : Option Value → Mem → Prop} (hd : decode (mtC M) pc = .ok (.invokevirtual idx, 3)) (hk : Cond.methodLink (mtY M).cls idx (mtY N) ∈ gtb) (hM : MokV N 5) (hN : mtS N = mtS M) (hs : (mtS M)[ka]? = some (.inl (ci, fl))) (h99 : Nat.beq ci 99 = false) (hc : cls[ci]? = some C) (hC : C.1 = (mtY N).cls) (hR : Nat.ble (mtF N + 1) (mtF M) = true) (hR2 : Nat.ble (8 + (mtN N + 11) + mtLo N) (mtLo M) = true) (hw : Nat.ble ((rest.map fun v => v.category).sum) 8 = true) (hSp : Sp X N (.ref (adr X ka) :: [a1, a2, a3, a4, a5]) σ post1) (kk : ∀ v σ', post1 v σ' → WP X M (pc + 3) L (v.toList ++ rest) σ' post) : WP X M pc L (a5 :: a4 :: a3 :: a2 :: a1 :: .ref (adr X ka) :: rest) σ post := wp_callV (As := [a1, a2, a3, a4, a5]) (rest := rest) hd hk hM rfl hN hs (fun h => by subst h; exact absurd h99 (by decide)) hc hC hR hR2 hw hSp kk
theorem wp_cV5w {N : MT} {idx ka ci : Nat} {fl : List (Option Nat)} {C : vw_C} {a1 a2 a3 a4 a5 : Value} {rest : List Value} {w : Value} {τ : Mem} (hd : decode (mtC M) pc = .ok (.invokevirtual idx, 3)) (hk : Cond.methodLink (mtY M).cls idx (mtY N) ∈ gtb) (hM : MokV N 5) (hN : mtS N = mtS M) (hs : (mtS M)[ka]? = some (.inl (ci, fl))) (h99 : Nat.beq ci 99 = false) (hc : cls[ci]? = some C) (hC : C.1 = (mtY N).cls) (hR : Nat.ble (mtF N + 1) (mtF M) = true) (hR2 : Nat.ble (8 + (mtN N + 11) + mtLo N) (mtLo M) = true) (hw : Nat.ble ((rest.map fun v => v.category).sum) 8 = true) (hSp : SpW X N (.ref (adr X ka) :: [a1, a2, a3, a4, a5]) σ w τ) (k : WP X M (pc + 3) L (w :: rest) τ post) : WP X M pc L (a5 :: a4 :: a3 :: a2 :: a1 :: .ref (adr X ka) :: rest) σ post := wp_cV5 hd hk hM hN hs h99 hc hC hR hR2 hw hSp (fun v σ' h => by obtain ⟨rfl, rfl⟩ := h; exact k)
theorem wp_cV5v {N : MT} {idx ka ci : Nat} {fl : List (Option Nat)} {C : vw_C} {a1 a2 a3 a4 a5 : Value} {rest : List Value} {τ : Mem} (hd : decode (mtC M) pc = .ok (.invokevirtual idx, 3)) (hk : Cond.methodLink (mtY M).cls idx (mtY N) ∈ gtb) (hM : MokV N 5) (hN : mtS N = mtS M) (hs : (mtS M)[ka]? = some (.inl (ci, fl))) (h99 : Nat.beq ci 99 = false) (hc : cls[ci]? = some C) (hC : C.1 = (mtY N).cls) (hR : Nat.ble (mtF N + 1) (mtF M) = true) (hR2 : Nat.ble (8 + (mtN N + 11) + mtLo N) (mtLo M) = true) (hw : Nat.ble ((rest.map fun v => v.category).sum) 8 = true) (hSp : SpV X N (.ref (adr X ka) :: [a1, a2, a3, a4, a5]) σ τ) (k : WP X M (pc + 3) L rest τ post) : WP X M pc L (a5 :: a4 :: a3 :: a2 :: a1 :: .ref (adr X ka) :: rest) σ post := wp_cV5 hd hk hM hN hs h99 hc hC hR hR2 hw hSp (fun v σ' h => by obtain ⟨rfl, rfl⟩ := h; exact k)
theorem wp_cS5 {N : MT} {idx : Nat} {a1 a2 a3 a4 a5 : Value} {rest : List Value} {post1 : Option Value → Mem → Prop} (hd : decode (mtC M) pc = .ok (.invokestatic idx, 3)) (hk : Cond.methodLink (mtY M).cls idx (mtY N) ∈ gtb) (hM : MokS N 5) (hN : mtS N = mtS M) (hR : Nat.ble (mtF N + 1) (mtF M) = true) (hR2 : Nat.ble (8 + (mtN N + 11) + mtLo N) (mtLo M) = true) (hw : Nat.ble ((rest.map fun v => v.category).sum) 8 = true) (hSp : Sp X N [a1, a2, a3, a4, a5] σ post1) (kk : ∀ v σ', post1 v σ' → WP X M (pc + 3) L (v.toList ++ rest) σ' post) : WP X M pc L (a5 :: a4 :: a3 :: a2 :: a1 :: rest) σ post := wp_callS (As := [a1, a2, a3, a4, a5]) (rest := rest) hd hk hM rfl hN hR hR2 hw hSp kk
theorem wp_cS5w {N : MT} {idx : Nat} {a1 a2 a3 a4 a5 : Value} {rest : List Value} {w : Value} {τ : Mem} (hd : decode (mtC M) pc = .ok (.invokestatic idx, 3)) (hk : Cond.methodLink (mtY M).cls idx (mtY N) ∈ gtb) (hM : MokS N 5) (hN : mtS N = mtS M) (hR : Nat.ble (mtF N + 1) (mtF M) = true) (hR2 : Nat.ble (8 + (mtN N + 11) + mtLo N) (mtLo M) = true) (hw : Nat.ble ((rest.map fun v => v.category).sum) 8 = true) (hSp : SpW X N [a1, a2, a3, a4, a5] σ w τ) (k : WP X M (pc + 3) L (w :: rest) τ post) : WP X M pc L (a5 :: a4 :: a3 :: a2 :: a1 :: rest) σ post := wp_cS5 hd hk hM hN hR hR2 hw hSp (fun v σ' h => by obtain ⟨rfl, rfl⟩ := h; exact k)
end ROWS
end
