theorem cok0 : Cok 0 RX0 TX0 8 := ⟨rfl, by decide +kernel, nmX0, tyX0, tyX0_ok⟩
theorem cok1 : Cok 1 RX1 TX1 5 := ⟨rfl, by decide +kernel, nmX1, tyX1, tyX1_ok⟩
theorem cok2 : Cok 2 RX2 TX2 6 := ⟨rfl, by decide +kernel, nmX2, tyX2, tyX2_ok⟩
theorem cok3 : Cok 3 RX3 TX3 3 := ⟨rfl, by decide +kernel, nmX3, tyX3, tyX3_ok⟩
theorem cok4 : Cok 4 RX4 TX4 5 := ⟨rfl, by decide +kernel, nmX4, tyX4, tyX4_ok⟩
theorem cok5 : Cok 5 RX5 TX5 3 := ⟨rfl, by decide +kernel, nmX5, tyX5, tyX5_ok⟩
theorem cok6 : Cok 6 RX6 TX6 5 := ⟨rfl, by decide +kernel, nmX6, tyX6, tyX6_ok⟩
theorem cok7 : Cok 7 RX7 TX7 3 := ⟨rfl, by decide +kernel, nmX7, tyX7, tyX7_ok⟩
theorem cok8 : Cok 8 RX8 TX8 13 := ⟨rfl, by decide +kernel, nmX8, tyX8, tyX8_ok⟩
theorem cok9 : Cok 9 RX9 TX9 29 := ⟨rfl, by decide +kernel, nmX9, tyX9, tyX9_ok⟩
theorem tfX8_14 : Cond.fieldLink RX8 14 (TX8 0).1 (TX8 0).2.1 (TX8 0).2.2.1 ∈ gtb := gtb_in (List.mem_append_right _ (List.mem_of_getElem? (i := 278) (by decide +kernel))) rfl
theorem faX8_14 : FA RX8 14 8 0 := ⟨RX8, TX8, 13, cok8, by decide, by decide, tfX8_14⟩
theorem tfX8_18 : Cond.fieldLink RX8 18 (TX8 1).1 (TX8 1).2.1 (TX8 1).2.2.1 ∈ gtb := gtb_in (List.mem_append_right _ (List.mem_of_getElem? (i := 279) (by decide +kernel))) rfl
theorem faX8_18 : FA RX8 18 8 1 := ⟨RX8, TX8, 13, cok8, by decide, by decide, tfX8_18⟩
theorem tfX8_24 : Cond.fieldLink RX8 24 (TX8 2).1 (TX8 2).2.1 (TX8 2).2.2.1 ∈ gtb := gtb_in (List.mem_append_right _ (List.mem_of_getElem? (i := 280) (by decide +kernel))) rfl
theorem faX8_24 : FA RX8 24 8 2 := ⟨RX8, TX8, 13, cok8, by decide, by decide, tfX8_24⟩
theorem tfX8_31 : Cond.fieldLink RX8 31 (TX8 3).1 (TX8 3).2.1 (TX8 3).2.2.1 ∈ gtb := gtb_in (List.mem_append_right _ (List.mem_of_getElem? (i := 281) (by decide +kernel))) rfl
theorem faX8_31 : FA RX8 31 8 3 := ⟨RX8, TX8, 13, cok8, by decide, by decide, tfX8_31⟩
theorem tfX8_50 : Cond.fieldLink RX8 50 (TX8 4).1 (TX8 4).2.1 (TX8 4).2.2.1 ∈ gtb := gtb_in (List.mem_append_right _ (List.mem_of_getElem? (i := 282) (by decide +kernel))) rfl
theorem faX8_50 : FA RX8 50 8 4 := ⟨RX8, TX8, 13, cok8, by decide, by decide, tfX8_50⟩
theorem tfX8_54 : Cond.fieldLink RX8 54 (TX8 5).1 (TX8 5).2.1 (TX8 5).2.2.1 ∈ gtb := gtb_in (List.mem_append_right _ (List.mem_of_getElem? (i := 283) (by decide +kernel))) rfl
theorem faX8_54 : FA RX8 54 8 5 := ⟨RX8, TX8, 13, cok8, by decide, by decide, tfX8_54⟩
theorem tfX8_66 : Cond.fieldLink RX8 66 (TX8 6).1 (TX8 6).2.1 (TX8 6).2.2.1 ∈ gtb := gtb_in (List.mem_append_right _ (List.mem_of_getElem? (i := 284) (by decide +kernel))) rfl
theorem faX8_66 : FA RX8 66 8 6 := ⟨RX8, TX8, 13, cok8, by decide, by decide, tfX8_66⟩
theorem tfX8_72 : Cond.fieldLink RX8 72 (TX8 7).1 (TX8 7).2.1 (TX8 7).2.2.1 ∈ gtb := gtb_in (List.mem_append_right _ (List.mem_of_getElem? (i := 285) (by decide +kernel))) rfl
theorem faX8_72 : FA RX8 72 8 7 := ⟨RX8, TX8, 13, cok8, by decide, by decide, tfX8_72⟩
theorem tfX8_79 : Cond.fieldLink RX8 79 (TX8 8).1 (TX8 8).2.1 (TX8 8).2.2.1 ∈ gtb := gtb_in (List.mem_append_right _ (List.mem_of_getElem? (i := 286) (by decide +kernel))) rfl
theorem faX8_79 : FA RX8 79 8 8 := ⟨RX8, TX8, 13, cok8, by decide, by decide, tfX8_79⟩
theorem tfX8_86 : Cond.fieldLink RX8 86 (TX8 9).1 (TX8 9).2.1 (TX8 9).2.2.1 ∈ gtb := gtb_in (List.mem_append_right _ (List.mem_of_getElem? (i := 287) (by decide +kernel))) rfl
theorem faX8_86 : FA RX8 86 8 9 := ⟨RX8, TX8, 13, cok8, by decide, by decide, tfX8_86⟩
theorem tfX8_92 : Cond.fieldLink RX8 92 (TX8 10).1 (TX8 10).2.1 (TX8 10).2.2.1 ∈ gtb := gtb_in (List.mem_append_right _ (List.mem_of_getElem? (i := 288) (by decide +kernel))) rfl
theorem faX8_92 : FA RX8 92 8 10 := ⟨RX8, TX8, 13, cok8, by decide, by decide, tfX8_92⟩
theorem tfX8_97 : Cond.fieldLink RX8 97 (TX8 12).1 (TX8 12).2.1 (TX8 12).2.2.1 ∈ gtb := gtb_in (List.mem_append_right _ (List.mem_of_getElem? (i := 290) (by decide +kernel))) rfl
theorem faX8_97 : FA RX8 97 8 12 := ⟨RX8, TX8, 13, cok8, by decide, by decide, tfX8_97⟩
theorem fwX8_97 : FW RX8 97 8 12 .int := ⟨RX8, TX8, 13, cok8, by decide, by decide, tfX8_97, rfl, by decide +kernel⟩
theorem tfX8_417 : Cond.fieldLink RX8 417 (TX8 11).1 (TX8 11).2.1 (TX8 11).2.2.1 ∈ gtb := gtb_in (List.mem_append_right _ (List.mem_of_getElem? (i := 289) (by decide +kernel))) rfl
theorem faX8_417 : FA RX8 417 8 11 := ⟨RX8, TX8, 13, cok8, by decide, by decide, tfX8_417⟩
theorem fwX8_417 : FW RX8 417 8 11 .boolean := ⟨RX8, TX8, 13, cok8, by decide, by decide, tfX8_417, rfl, by decide +kernel⟩
theorem tfX0_9 : Cond.fieldLink RX0 9 (TX0 0).1 (TX0 0).2.1 (TX0 0).2.2.1 ∈ gtb := gtb_in (List.mem_append_right _ (List.mem_of_getElem? (i := 146) (by decide +kernel))) rfl
theorem faX0_9 : FA RX0 9 0 0 := ⟨RX0, TX0, 8, cok0, by decide, by decide, tfX0_9⟩
theorem tfX0_15 : Cond.fieldLink RX0 15 (TX0 1).1 (TX0 1).2.1 (TX0 1).2.2.1 ∈ gtb := gtb_in (List.mem_append_right _ (List.mem_of_getElem? (i := 147) (by decide +kernel))) rfl
theorem faX0_15 : FA RX0 15 0 1 := ⟨RX0, TX0, 8, cok0, by decide, by decide, tfX0_15⟩
theorem tfX0_18 : Cond.fieldLink RX0 18 (TX0 2).1 (TX0 2).2.1 (TX0 2).2.2.1 ∈ gtb := gtb_in (List.mem_append_right _ (List.mem_of_getElem? (i := 148) (by decide +kernel))) rfl
theorem faX0_18 : FA RX0 18 0 2 := ⟨RX0, TX0, 8, cok0, by decide, by decide, tfX0_18⟩
theorem fwX0_18 : FW RX0 18 0 2 .int := ⟨RX0, TX0, 8, cok0, by decide, by decide, tfX0_18, rfl, by decide +kernel⟩
theorem tfX0_22 : Cond.fieldLink RX0 22 (TX0 3).1 (TX0 3).2.1 (TX0 3).2.2.1 ∈ gtb := gtb_in (List.mem_append_right _ (List.mem_of_getElem? (i := 149) (by decide +kernel))) rfl
theorem faX0_22 : FA RX0 22 0 3 := ⟨RX0, TX0, 8, cok0, by decide, by decide, tfX0_22⟩
theorem fwX0_22 : FW RX0 22 0 3 .int := ⟨RX0, TX0, 8, cok0, by decide, by decide, tfX0_22, rfl, by decide +kernel⟩
theorem tfX0_25 : Cond.fieldLink RX0 25 (TX0 4).1 (TX0 4).2.1 (TX0 4).2.2.1 ∈ gtb := gtb_in (List.mem_append_right _ (List.mem_of_getElem? (i := 150) (by decide +kernel))) rfl
theorem faX0_25 : FA RX0 25 0 4 := ⟨RX0, TX0, 8, cok0, by decide, by decide, tfX0_25⟩
theorem fwX0_25 : FW RX0 25 0 4 .int := ⟨RX0, TX0, 8, cok0, by decide, by decide, tfX0_25, rfl, by decide +kernel⟩
theorem tfX0_28 : Cond.fieldLink RX0 28 (TX0 5).1 (TX0 5).2.1 (TX0 5).2.2.1 ∈ gtb := gtb_in (List.mem_append_right _ (List.mem_of_getElem? (i := 151) (by decide +kernel))) rfl
theorem faX0_28 : FA RX0 28 0 5 := ⟨RX0, TX0, 8, cok0, by decide, by decide, tfX0_28⟩
theorem fwX0_28 : FW RX0 28 0 5 .int := ⟨RX0, TX0, 8, cok0, by decide, by decide, tfX0_28, rfl, by decide +kernel⟩
theorem tfX0_31 : Cond.fieldLink RX0 31 (TX0 6).1 (TX0 6).2.1 (TX0 6).2.2.1 ∈ gtb := gtb_in (List.mem_append_right _ (List.mem_of_getElem? (i := 152) (by decide +kernel))) rfl
theorem faX0_31 : FA RX0 31 0 6 := ⟨RX0, TX0, 8, cok0, by decide, by decide, tfX0_31⟩
theorem fwX0_31 : FW RX0 31 0 6 .int := ⟨RX0, TX0, 8, cok0, by decide, by decide, tfX0_31, rfl, by decide +kernel⟩
theorem tfX0_34 : Cond.fieldLink RX0 34 (TX0 7).1 (TX0 7).2.1 (TX0 7).2.2.1 ∈ gtb := gtb_in (List.mem_append_right _ (List.mem_of_getElem? (i := 153) (by decide +kernel))) rfl
theorem faX0_34 : FA RX0 34 0 7 := ⟨RX0, TX0, 8, cok0, by decide, by decide, tfX0_34⟩
theorem fwX0_34 : FW RX0 34 0 7 .int := ⟨RX0, TX0, 8, cok0, by decide, by decide, tfX0_34, rfl, by decide +kernel⟩
theorem tfX1_9 : Cond.fieldLink RX1 9 (TX1 0).1 (TX1 0).2.1 (TX1 0).2.2.1 ∈ gtb := gtb_in (List.mem_append_right _ (List.mem_of_getElem? (i := 44) (by decide +kernel))) rfl
theorem faX1_9 : FA RX1 9 1 0 := ⟨RX1, TX1, 5, cok1, by decide, by decide, tfX1_9⟩
theorem tfX1_15 : Cond.fieldLink RX1 15 (TX1 1).1 (TX1 1).2.1 (TX1 1).2.2.1 ∈ gtb := gtb_in (List.mem_append_right _ (List.mem_of_getElem? (i := 45) (by decide +kernel))) rfl
theorem faX1_15 : FA RX1 15 1 1 := ⟨RX1, TX1, 5, cok1, by decide, by decide, tfX1_15⟩
theorem tfX1_18 : Cond.fieldLink RX1 18 (TX1 2).1 (TX1 2).2.1 (TX1 2).2.2.1 ∈ gtb := gtb_in (List.mem_append_right _ (List.mem_of_getElem? (i := 46) (by decide +kernel))) rfl
theorem faX1_18 : FA RX1 18 1 2 := ⟨RX1, TX1, 5, cok1, by decide, by decide, tfX1_18⟩
theorem fwX1_18 : FW RX1 18 1 2 .int := ⟨RX1, TX1, 5, cok1, by decide, by decide, tfX1_18, rfl, by decide +kernel⟩
theorem tfX1_22 : Cond.fieldLink RX1 22 (TX1 3).1 (TX1 3).2.1 (TX1 3).2.2.1 ∈ gtb := gtb_in (List.mem_append_right _ (List.mem_of_getElem? (i := 47) (by decide +kernel))) rfl
theorem faX1_22 : FA RX1 22 1 3 := ⟨RX1, TX1, 5, cok1, by decide, by decide, tfX1_22⟩
theorem fwX1_22 : FW RX1 22 1 3 .int := ⟨RX1, TX1, 5, cok1, by decide, by decide, tfX1_22, rfl, by decide +kernel⟩
theorem tfX1_25 : Cond.fieldLink RX1 25 (TX1 4).1 (TX1 4).2.1 (TX1 4).2.2.1 ∈ gtb := gtb_in (List.mem_append_right _ (List.mem_of_getElem? (i := 48) (by decide +kernel))) rfl
theorem faX1_25 : FA RX1 25 1 4 := ⟨RX1, TX1, 5, cok1, by decide, by decide, tfX1_25⟩
theorem fwX1_25 : FW RX1 25 1 4 .int := ⟨RX1, TX1, 5, cok1, by decide, by decide, tfX1_25, rfl, by decide +kernel⟩
theorem tfX2_9 : Cond.fieldLink RX2 9 (TX2 0).1 (TX2 0).2.1 (TX2 0).2.2.1 ∈ gtb := gtb_in (List.mem_append_right _ (List.mem_of_getElem? (i := 177) (by decide +kernel))) rfl
theorem faX2_9 : FA RX2 9 2 0 := ⟨RX2, TX2, 6, cok2, by decide, by decide, tfX2_9⟩
theorem tfX2_15 : Cond.fieldLink RX2 15 (TX2 1).1 (TX2 1).2.1 (TX2 1).2.2.1 ∈ gtb := gtb_in (List.mem_append_right _ (List.mem_of_getElem? (i := 178) (by decide +kernel))) rfl
theorem faX2_15 : FA RX2 15 2 1 := ⟨RX2, TX2, 6, cok2, by decide, by decide, tfX2_15⟩
theorem tfX2_18 : Cond.fieldLink RX2 18 (TX2 2).1 (TX2 2).2.1 (TX2 2).2.2.1 ∈ gtb := gtb_in (List.mem_append_right _ (List.mem_of_getElem? (i := 179) (by decide +kernel))) rfl
theorem faX2_18 : FA RX2 18 2 2 := ⟨RX2, TX2, 6, cok2, by decide, by decide, tfX2_18⟩
theorem tfX2_21 : Cond.fieldLink RX2 21 (TX2 3).1 (TX2 3).2.1 (TX2 3).2.2.1 ∈ gtb := gtb_in (List.mem_append_right _ (List.mem_of_getElem? (i := 180) (by decide +kernel))) rfl
theorem faX2_21 : FA RX2 21 2 3 := ⟨RX2, TX2, 6, cok2, by decide, by decide, tfX2_21⟩
theorem fwX2_21 : FW RX2 21 2 3 .int := ⟨RX2, TX2, 6, cok2, by decide, by decide, tfX2_21, rfl, by decide +kernel⟩
theorem tfX2_25 : Cond.fieldLink RX2 25 (TX2 4).1 (TX2 4).2.1 (TX2 4).2.2.1 ∈ gtb := gtb_in (List.mem_append_right _ (List.mem_of_getElem? (i := 181) (by decide +kernel))) rfl
theorem faX2_25 : FA RX2 25 2 4 := ⟨RX2, TX2, 6, cok2, by decide, by decide, tfX2_25⟩
theorem fwX2_25 : FW RX2 25 2 4 .int := ⟨RX2, TX2, 6, cok2, by decide, by decide, tfX2_25, rfl, by decide +kernel⟩
theorem tfX2_28 : Cond.fieldLink RX2 28 (TX2 5).1 (TX2 5).2.1 (TX2 5).2.2.1 ∈ gtb := gtb_in (List.mem_append_right _ (List.mem_of_getElem? (i := 182) (by decide +kernel))) rfl
theorem faX2_28 : FA RX2 28 2 5 := ⟨RX2, TX2, 6, cok2, by decide, by decide, tfX2_28⟩
theorem fwX2_28 : FW RX2 28 2 5 .int := ⟨RX2, TX2, 6, cok2, by decide, by decide, tfX2_28, rfl, by decide +kernel⟩
theorem tfX3_7 : Cond.fieldLink RX3 7 (TX3 0).1 (TX3 0).2.1 (TX3 0).2.2.1 ∈ gtb := gtb_in (List.mem_append_right _ (List.mem_of_getElem? (i := 102) (by decide +kernel))) rfl
theorem faX3_7 : FA RX3 7 3 0 := ⟨RX3, TX3, 3, cok3, by decide, by decide, tfX3_7⟩
theorem tfX3_13 : Cond.fieldLink RX3 13 (TX3 1).1 (TX3 1).2.1 (TX3 1).2.2.1 ∈ gtb := gtb_in (List.mem_append_right _ (List.mem_of_getElem? (i := 103) (by decide +kernel))) rfl
theorem faX3_13 : FA RX3 13 3 1 := ⟨RX3, TX3, 3, cok3, by decide, by decide, tfX3_13⟩
theorem tfX3_21 : Cond.fieldLink RX3 21 (TX3 2).1 (TX3 2).2.1 (TX3 2).2.2.1 ∈ gtb := gtb_in (List.mem_append_right _ (List.mem_of_getElem? (i := 104) (by decide +kernel))) rfl
theorem faX3_21 : FA RX3 21 3 2 := ⟨RX3, TX3, 3, cok3, by decide, by decide, tfX3_21⟩
theorem tfX4_9 : Cond.fieldLink RX4 9 (TX4 0).1 (TX4 0).2.1 (TX4 0).2.2.1 ∈ gtb := gtb_in (List.mem_append_right _ (List.mem_of_getElem? (i := 124) (by decide +kernel))) rfl
theorem faX4_9 : FA RX4 9 4 0 := ⟨RX4, TX4, 5, cok4, by decide, by decide, tfX4_9⟩
theorem tfX4_15 : Cond.fieldLink RX4 15 (TX4 1).1 (TX4 1).2.1 (TX4 1).2.2.1 ∈ gtb := gtb_in (List.mem_append_right _ (List.mem_of_getElem? (i := 125) (by decide +kernel))) rfl
theorem faX4_15 : FA RX4 15 4 1 := ⟨RX4, TX4, 5, cok4, by decide, by decide, tfX4_15⟩
theorem tfX4_18 : Cond.fieldLink RX4 18 (TX4 2).1 (TX4 2).2.1 (TX4 2).2.2.1 ∈ gtb := gtb_in (List.mem_append_right _ (List.mem_of_getElem? (i := 126) (by decide +kernel))) rfl
theorem faX4_18 : FA RX4 18 4 2 := ⟨RX4, TX4, 5, cok4, by decide, by decide, tfX4_18⟩
theorem tfX4_21 : Cond.fieldLink RX4 21 (TX4 3).1 (TX4 3).2.1 (TX4 3).2.2.1 ∈ gtb := gtb_in (List.mem_append_right _ (List.mem_of_getElem? (i := 127) (by decide +kernel))) rfl
theorem faX4_21 : FA RX4 21 4 3 := ⟨RX4, TX4, 5, cok4, by decide, by decide, tfX4_21⟩
theorem tfX4_24 : Cond.fieldLink RX4 24 (TX4 4).1 (TX4 4).2.1 (TX4 4).2.2.1 ∈ gtb := gtb_in (List.mem_append_right _ (List.mem_of_getElem? (i := 128) (by decide +kernel))) rfl
theorem faX4_24 : FA RX4 24 4 4 := ⟨RX4, TX4, 5, cok4, by decide, by decide, tfX4_24⟩
theorem tfX5_9 : Cond.fieldLink RX5 9 (TX5 0).1 (TX5 0).2.1 (TX5 0).2.2.1 ∈ gtb := gtb_in (List.mem_append_right _ (List.mem_of_getElem? (i := 203) (by decide +kernel))) rfl
theorem faX5_9 : FA RX5 9 5 0 := ⟨RX5, TX5, 3, cok5, by decide, by decide, tfX5_9⟩
theorem tfX5_15 : Cond.fieldLink RX5 15 (TX5 1).1 (TX5 1).2.1 (TX5 1).2.2.1 ∈ gtb := gtb_in (List.mem_append_right _ (List.mem_of_getElem? (i := 204) (by decide +kernel))) rfl
theorem faX5_15 : FA RX5 15 5 1 := ⟨RX5, TX5, 3, cok5, by decide, by decide, tfX5_15⟩
theorem fwX5_15 : FW RX5 15 5 1 .int := ⟨RX5, TX5, 3, cok5, by decide, by decide, tfX5_15, rfl, by decide +kernel⟩
theorem tfX5_19 : Cond.fieldLink RX5 19 (TX5 2).1 (TX5 2).2.1 (TX5 2).2.2.1 ∈ gtb := gtb_in (List.mem_append_right _ (List.mem_of_getElem? (i := 205) (by decide +kernel))) rfl
theorem faX5_19 : FA RX5 19 5 2 := ⟨RX5, TX5, 3, cok5, by decide, by decide, tfX5_19⟩
theorem fwX5_19 : FW RX5 19 5 2 .int := ⟨RX5, TX5, 3, cok5, by decide, by decide, tfX5_19, rfl, by decide +kernel⟩
theorem tfX6_9 : Cond.fieldLink RX6 9 (TX6 0).1 (TX6 0).2.1 (TX6 0).2.2.1 ∈ gtb := gtb_in (List.mem_append_right _ (List.mem_of_getElem? (i := 66) (by decide +kernel))) rfl
theorem faX6_9 : FA RX6 9 6 0 := ⟨RX6, TX6, 5, cok6, by decide, by decide, tfX6_9⟩
theorem tfX6_15 : Cond.fieldLink RX6 15 (TX6 1).1 (TX6 1).2.1 (TX6 1).2.2.1 ∈ gtb := gtb_in (List.mem_append_right _ (List.mem_of_getElem? (i := 67) (by decide +kernel))) rfl
theorem faX6_15 : FA RX6 15 6 1 := ⟨RX6, TX6, 5, cok6, by decide, by decide, tfX6_15⟩
theorem tfX6_19 : Cond.fieldLink RX6 19 (TX6 2).1 (TX6 2).2.1 (TX6 2).2.2.1 ∈ gtb := gtb_in (List.mem_append_right _ (List.mem_of_getElem? (i := 68) (by decide +kernel))) rfl
theorem faX6_19 : FA RX6 19 6 2 := ⟨RX6, TX6, 5, cok6, by decide, by decide, tfX6_19⟩
theorem fwX6_19 : FW RX6 19 6 2 .int := ⟨RX6, TX6, 5, cok6, by decide, by decide, tfX6_19, rfl, by decide +kernel⟩
theorem tfX6_23 : Cond.fieldLink RX6 23 (TX6 3).1 (TX6 3).2.1 (TX6 3).2.2.1 ∈ gtb := gtb_in (List.mem_append_right _ (List.mem_of_getElem? (i := 69) (by decide +kernel))) rfl
theorem faX6_23 : FA RX6 23 6 3 := ⟨RX6, TX6, 5, cok6, by decide, by decide, tfX6_23⟩
theorem fwX6_23 : FW RX6 23 6 3 .int := ⟨RX6, TX6, 5, cok6, by decide, by decide, tfX6_23, rfl, by decide +kernel⟩
theorem tfX6_26 : Cond.fieldLink RX6 26 (TX6 4).1 (TX6 4).2.1 (TX6 4).2.2.1 ∈ gtb := gtb_in (List.mem_append_right _ (List.mem_of_getElem? (i := 70) (by decide +kernel))) rfl
theorem faX6_26 : FA RX6 26 6 4 := ⟨RX6, TX6, 5, cok6, by decide, by decide, tfX6_26⟩
theorem fwX6_26 : FW RX6 26 6 4 .int := ⟨RX6, TX6, 5, cok6, by decide, by decide, tfX6_26, rfl, by decide +kernel⟩
theorem tfX7_9 : Cond.fieldLink RX7 9 (TX7 0).1 (TX7 0).2.1 (TX7 0).2.2.1 ∈ gtb := gtb_in (List.mem_append_right _ (List.mem_of_getElem? (i := 27) (by decide +kernel))) rfl
theorem faX7_9 : FA RX7 9 7 0 := ⟨RX7, TX7, 3, cok7, by decide, by decide, tfX7_9⟩
theorem tfX7_15 : Cond.fieldLink RX7 15 (TX7 2).1 (TX7 2).2.1 (TX7 2).2.2.1 ∈ gtb := gtb_in (List.mem_append_right _ (List.mem_of_getElem? (i := 29) (by decide +kernel))) rfl
theorem faX7_15 : FA RX7 15 7 2 := ⟨RX7, TX7, 3, cok7, by decide, by decide, tfX7_15⟩
theorem fwX7_15 : FW RX7 15 7 2 .int := ⟨RX7, TX7, 3, cok7, by decide, by decide, tfX7_15, rfl, by decide +kernel⟩
theorem tfX7_19 : Cond.fieldLink RX7 19 (TX7 1).1 (TX7 1).2.1 (TX7 1).2.2.1 ∈ gtb := gtb_in (List.mem_append_right _ (List.mem_of_getElem? (i := 28) (by decide +kernel))) rfl
theorem faX7_19 : FA RX7 19 7 1 := ⟨RX7, TX7, 3, cok7, by decide, by decide, tfX7_19⟩
theorem tfX9_7 : Cond.fieldLink RX9 7 (TX9 0).1 (TX9 0).2.1 (TX9 0).2.2.1 ∈ gtb := gtb_in (List.mem_append_right _ (List.mem_of_getElem? (i := 829) (by decide +kernel))) rfl
theorem faX9_7 : FA RX9 7 9 0 := ⟨RX9, TX9, 29, cok9, by decide, by decide, tfX9_7⟩
theorem tfX9_13 : Cond.fieldLink RX9 13 (TX9 1).1 (TX9 1).2.1 (TX9 1).2.2.1 ∈ gtb := gtb_in (List.mem_append_right _ (List.mem_of_getElem? (i := 830) (by decide +kernel))) rfl
theorem faX9_13 : FA RX9 13 9 1 := ⟨RX9, TX9, 29, cok9, by decide, by decide, tfX9_13⟩
theorem tfX9_16 : Cond.fieldLink RX9 16 (TX9 2).1 (TX9 2).2.1 (TX9 2).2.2.1 ∈ gtb := gtb_in (List.mem_append_right _ (List.mem_of_getElem? (i := 831) (by decide +kernel))) rfl
theorem faX9_16 : FA RX9 16 9 2 := ⟨RX9, TX9, 29, cok9, by decide, by decide, tfX9_16⟩
theorem tfX9_19 : Cond.fieldLink RX9 19 (TX9 3).1 (TX9 3).2.1 (TX9 3).2.2.1 ∈ gtb := gtb_in (List.mem_append_right _ (List.mem_of_getElem? (i := 832) (by decide +kernel))) rfl
theorem faX9_19 : FA RX9 19 9 3 := ⟨RX9, TX9, 29, cok9, by decide, by decide, tfX9_19⟩
theorem tfX9_22 : Cond.fieldLink RX9 22 (TX9 5).1 (TX9 5).2.1 (TX9 5).2.2.1 ∈ gtb := gtb_in (List.mem_append_right _ (List.mem_of_getElem? (i := 834) (by decide +kernel))) rfl
theorem faX9_22 : FA RX9 22 9 5 := ⟨RX9, TX9, 29, cok9, by decide, by decide, tfX9_22⟩
theorem tfX9_25 : Cond.fieldLink RX9 25 (TX9 6).1 (TX9 6).2.1 (TX9 6).2.2.1 ∈ gtb := gtb_in (List.mem_append_right _ (List.mem_of_getElem? (i := 835) (by decide +kernel))) rfl
theorem faX9_25 : FA RX9 25 9 6 := ⟨RX9, TX9, 29, cok9, by decide, by decide, tfX9_25⟩
theorem tfX9_28 : Cond.fieldLink RX9 28 (TX9 8).1 (TX9 8).2.1 (TX9 8).2.2.1 ∈ gtb := gtb_in (List.mem_append_right _ (List.mem_of_getElem? (i := 837) (by decide +kernel))) rfl
theorem faX9_28 : FA RX9 28 9 8 := ⟨RX9, TX9, 29, cok9, by decide, by decide, tfX9_28⟩
theorem tfX9_31 : Cond.fieldLink RX9 31 (TX9 11).1 (TX9 11).2.1 (TX9 11).2.2.1 ∈ gtb := gtb_in (List.mem_append_right _ (List.mem_of_getElem? (i := 840) (by decide +kernel))) rfl
theorem faX9_31 : FA RX9 31 9 11 := ⟨RX9, TX9, 29, cok9, by decide, by decide, tfX9_31⟩
theorem tfX9_34 : Cond.fieldLink RX9 34 (TX9 12).1 (TX9 12).2.1 (TX9 12).2.2.1 ∈ gtb := gtb_in (List.mem_append_right _ (List.mem_of_getElem? (i := 841) (by decide +kernel))) rfl
theorem faX9_34 : FA RX9 34 9 12 := ⟨RX9, TX9, 29, cok9, by decide, by decide, tfX9_34⟩
theorem tfX9_38 : Cond.fieldLink RX9 38 (TX9 13).1 (TX9 13).2.1 (TX9 13).2.2.1 ∈ gtb := gtb_in (List.mem_append_right _ (List.mem_of_getElem? (i := 842) (by decide +kernel))) rfl
theorem faX9_38 : FA RX9 38 9 13 := ⟨RX9, TX9, 29, cok9, by decide, by decide, tfX9_38⟩
theorem tfX9_41 : Cond.fieldLink RX9 41 (TX9 14).1 (TX9 14).2.1 (TX9 14).2.2.1 ∈ gtb := gtb_in (List.mem_append_right _ (List.mem_of_getElem? (i := 843) (by decide +kernel))) rfl
theorem faX9_41 : FA RX9 41 9 14 := ⟨RX9, TX9, 29, cok9, by decide, by decide, tfX9_41⟩
theorem tfX9_44 : Cond.fieldLink RX9 44 (TX9 15).1 (TX9 15).2.1 (TX9 15).2.2.1 ∈ gtb := gtb_in (List.mem_append_right _ (List.mem_of_getElem? (i := 844) (by decide +kernel))) rfl
theorem faX9_44 : FA RX9 44 9 15 := ⟨RX9, TX9, 29, cok9, by decide, by decide, tfX9_44⟩
theorem tfX9_47 : Cond.fieldLink RX9 47 (TX9 16).1 (TX9 16).2.1 (TX9 16).2.2.1 ∈ gtb := gtb_in (List.mem_append_right _ (List.mem_of_getElem? (i := 845) (by decide +kernel))) rfl
theorem faX9_47 : FA RX9 47 9 16 := ⟨RX9, TX9, 29, cok9, by decide, by decide, tfX9_47⟩
theorem tfX9_50 : Cond.fieldLink RX9 50 (TX9 17).1 (TX9 17).2.1 (TX9 17).2.2.1 ∈ gtb := gtb_in (List.mem_append_right _ (List.mem_of_getElem? (i := 846) (by decide +kernel))) rfl
theorem faX9_50 : FA RX9 50 9 17 := ⟨RX9, TX9, 29, cok9, by decide, by decide, tfX9_50⟩
theorem tfX9_53 : Cond.fieldLink RX9 53 (TX9 18).1 (TX9 18).2.1 (TX9 18).2.2.1 ∈ gtb := gtb_in (List.mem_append_right _ (List.mem_of_getElem? (i := 847) (by decide +kernel))) rfl
theorem faX9_53 : FA RX9 53 9 18 := ⟨RX9, TX9, 29, cok9, by decide, by decide, tfX9_53⟩
theorem tfX9_56 : Cond.fieldLink RX9 56 (TX9 19).1 (TX9 19).2.1 (TX9 19).2.2.1 ∈ gtb := gtb_in (List.mem_append_right _ (List.mem_of_getElem? (i := 848) (by decide +kernel))) rfl
theorem faX9_56 : FA RX9 56 9 19 := ⟨RX9, TX9, 29, cok9, by decide, by decide, tfX9_56⟩
theorem tfX9_59 : Cond.fieldLink RX9 59 (TX9 20).1 (TX9 20).2.1 (TX9 20).2.2.1 ∈ gtb := gtb_in (List.mem_append_right _ (List.mem_of_getElem? (i := 849) (by decide +kernel))) rfl
theorem faX9_59 : FA RX9 59 9 20 := ⟨RX9, TX9, 29, cok9, by decide, by decide, tfX9_59⟩
theorem tfX9_62 : Cond.fieldLink RX9 62 (TX9 26).1 (TX9 26).2.1 (TX9 26).2.2.1 ∈ gtb := gtb_in (List.mem_append_right _ (List.mem_of_getElem? (i := 855) (by decide +kernel))) rfl
theorem faX9_62 : FA RX9 62 9 26 := ⟨RX9, TX9, 29, cok9, by decide, by decide, tfX9_62⟩
theorem tfX9_65 : Cond.fieldLink RX9 65 (TX9 27).1 (TX9 27).2.1 (TX9 27).2.2.1 ∈ gtb := gtb_in (List.mem_append_right _ (List.mem_of_getElem? (i := 856) (by decide +kernel))) rfl
theorem faX9_65 : FA RX9 65 9 27 := ⟨RX9, TX9, 29, cok9, by decide, by decide, tfX9_65⟩
theorem tfX9_68 : Cond.fieldLink RX9 68 (TX9 28).1 (TX9 28).2.1 (TX9 28).2.2.1 ∈ gtb := gtb_in (List.mem_append_right _ (List.mem_of_getElem? (i := 857) (by decide +kernel))) rfl
theorem faX9_68 : FA RX9 68 9 28 := ⟨RX9, TX9, 29, cok9, by decide, by decide, tfX9_68⟩
theorem tfX9_81 : Cond.fieldLink RX9 81 (TX9 4).1 (TX9 4).2.1 (TX9 4).2.2.1 ∈ gtb := gtb_in (List.mem_append_right _ (List.mem_of_getElem? (i := 833) (by decide +kernel))) rfl
theorem faX9_81 : FA RX9 81 9 4 := ⟨RX9, TX9, 29, cok9, by decide, by decide, tfX9_81⟩
theorem fwX9_81 : FW RX9 81 9 4 .int := ⟨RX9, TX9, 29, cok9, by decide, by decide, tfX9_81, rfl, by decide +kernel⟩
theorem tfX9_110 : Cond.fieldLink RX9 110 (TX9 7).1 (TX9 7).2.1 (TX9 7).2.2.1 ∈ gtb := gtb_in (List.mem_append_right _ (List.mem_of_getElem? (i := 836) (by decide +kernel))) rfl
theorem faX9_110 : FA RX9 110 9 7 := ⟨RX9, TX9, 29, cok9, by decide, by decide, tfX9_110⟩
theorem fwX9_110 : FW RX9 110 9 7 .int := ⟨RX9, TX9, 29, cok9, by decide, by decide, tfX9_110, rfl, by decide +kernel⟩
theorem tfX9_113 : Cond.fieldLink RX9 113 (TX9 9).1 (TX9 9).2.1 (TX9 9).2.2.1 ∈ gtb := gtb_in (List.mem_append_right _ (List.mem_of_getElem? (i := 838) (by decide +kernel))) rfl
theorem faX9_113 : FA RX9 113 9 9 := ⟨RX9, TX9, 29, cok9, by decide, by decide, tfX9_113⟩
theorem fwX9_113 : FW RX9 113 9 9 .int := ⟨RX9, TX9, 29, cok9, by decide, by decide, tfX9_113, rfl, by decide +kernel⟩
theorem tfX9_118 : Cond.fieldLink RX9 118 (TX9 10).1 (TX9 10).2.1 (TX9 10).2.2.1 ∈ gtb := gtb_in (List.mem_append_right _ (List.mem_of_getElem? (i := 839) (by decide +kernel))) rfl
theorem faX9_118 : FA RX9 118 9 10 := ⟨RX9, TX9, 29, cok9, by decide, by decide, tfX9_118⟩
theorem fwX9_118 : FW RX9 118 9 10 .int := ⟨RX9, TX9, 29, cok9, by decide, by decide, tfX9_118, rfl, by decide +kernel⟩
theorem tfX9_218 : Cond.fieldLink RX9 218 (TX9 23).1 (TX9 23).2.1 (TX9 23).2.2.1 ∈ gtb := gtb_in (List.mem_append_right _ (List.mem_of_getElem? (i := 852) (by decide +kernel))) rfl
theorem faX9_218 : FA RX9 218 9 23 := ⟨RX9, TX9, 29, cok9, by decide, by decide, tfX9_218⟩
theorem fwX9_218 : FW RX9 218 9 23 .int := ⟨RX9, TX9, 29, cok9, by decide, by decide, tfX9_218, rfl, by decide +kernel⟩
theorem tfX9_221 : Cond.fieldLink RX9 221 (TX9 24).1 (TX9 24).2.1 (TX9 24).2.2.1 ∈ gtb := gtb_in (List.mem_append_right _ (List.mem_of_getElem? (i := 853) (by decide +kernel))) rfl
theorem faX9_221 : FA RX9 221 9 24 := ⟨RX9, TX9, 29, cok9, by decide, by decide, tfX9_221⟩
theorem fwX9_221 : FW RX9 221 9 24 .int := ⟨RX9, TX9, 29, cok9, by decide, by decide, tfX9_221, rfl, by decide +kernel⟩
theorem tfX9_227 : Cond.fieldLink RX9 227 (TX9 22).1 (TX9 22).2.1 (TX9 22).2.2.1 ∈ gtb := gtb_in (List.mem_append_right _ (List.mem_of_getElem? (i := 851) (by decide +kernel))) rfl
theorem faX9_227 : FA RX9 227 9 22 := ⟨RX9, TX9, 29, cok9, by decide, by decide, tfX9_227⟩
theorem fwX9_227 : FW RX9 227 9 22 .int := ⟨RX9, TX9, 29, cok9, by decide, by decide, tfX9_227, rfl, by decide +kernel⟩
theorem tfX9_237 : Cond.fieldLink RX9 237 (TX9 21).1 (TX9 21).2.1 (TX9 21).2.2.1 ∈ gtb := gtb_in (List.mem_append_right _ (List.mem_of_getElem? (i := 850) (by decide +kernel))) rfl
theorem faX9_237 : FA RX9 237 9 21 := ⟨RX9, TX9, 29, cok9, by decide, by decide, tfX9_237⟩
theorem fwX9_237 : FW RX9 237 9 21 .int := ⟨RX9, TX9, 29, cok9, by decide, by decide, tfX9_237, rfl, by decide +kernel⟩
theorem tfX9_249 : Cond.fieldLink RX9 249 (TX9 25).1 (TX9 25).2.1 (TX9 25).2.2.1 ∈ gtb := gtb_in (List.mem_append_right _ (List.mem_of_getElem? (i := 854) (by decide +kernel))) rfl
theorem faX9_249 : FA RX9 249 9 25 := ⟨RX9, TX9, 29, cok9, by decide, by decide, tfX9_249⟩
theorem fwX9_249 : FW RX9 249 9 25 .int := ⟨RX9, TX9, 29, cok9, by decide, by decide, tfX9_249, rfl, by decide +kernel⟩
theorem tsX8_37 : Cond.fieldLink RX8 37 RX8 (stn 0) "[I" ∈ gtb := gtb_in (List.mem_append_right _ (List.mem_of_getElem? (i := 85) (by decide +kernel))) rfl
theorem tsX8_41 : Cond.fieldLink RX8 41 RX8 (stn 1) "[I" ∈ gtb := gtb_in (List.mem_append_right _ (List.mem_of_getElem? (i := 87) (by decide +kernel))) rfl
theorem tsX8_44 : Cond.fieldLink RX8 44 RX8 (stn 2) "[I" ∈ gtb := gtb_in (List.mem_append_right _ (List.mem_of_getElem? (i := 89) (by decide +kernel))) rfl
theorem tsX8_57 : Cond.fieldLink RX8 57 RX8 (stn 3) "[I" ∈ gtb := gtb_in (List.mem_append_right _ (List.mem_of_getElem? (i := 112) (by decide +kernel))) rfl
theorem tsX8_60 : Cond.fieldLink RX8 60 RX8 (stn 4) "[I" ∈ gtb := gtb_in (List.mem_append_right _ (List.mem_of_getElem? (i := 114) (by decide +kernel))) rfl
theorem tsX8_63 : Cond.fieldLink RX8 63 RX8 (stn 5) "[I" ∈ gtb := gtb_in (List.mem_append_right _ (List.mem_of_getElem? (i := 116) (by decide +kernel))) rfl
theorem tsX8_351 : Cond.fieldLink RX8 351 RX8 (stn 6) "[I" ∈ gtb := gtb_in (List.mem_append_right _ (List.mem_of_getElem? (i := 792) (by decide +kernel))) rfl
theorem tkX8_288 : Cond.constant RX8 288 (-2147483648) ∈ gtb := gtb_in (List.mem_append_right _ (List.mem_of_getElem? (i := 738) (by decide +kernel))) rfl
theorem tkX9_104 : Cond.constant RX9 104 (-2147483648) ∈ gtb := gtb_in (List.mem_append_right _ (List.mem_of_getElem? (i := 952) (by decide +kernel))) rfl
theorem tlX8_428 : Cond.constantLong RX8 428 (-9223372036854775808) ∈ gtb := gtb_in (List.mem_append_right _ (List.mem_of_getElem? (i := 448) (by decide +kernel))) rfl
theorem tlX8_310 : Cond.constantLong RX8 310 (17) ∈ gtb := gtb_in (List.mem_append_right _ (List.mem_of_getElem? (i := 770) (by decide +kernel))) rfl
theorem tlX8_406 : Cond.constantLong RX8 406 (31) ∈ gtb := gtb_in (List.mem_append_right _ (List.mem_of_getElem? (i := 775) (by decide +kernel))) rfl
theorem tlX9_85 : Cond.constantLong RX9 85 (3) ∈ gtb := gtb_in (List.mem_append_right _ (List.mem_of_getElem? (i := 924) (by decide +kernel))) rfl
theorem tlX9_91 : Cond.constantLong RX9 91 (2) ∈ gtb := gtb_in (List.mem_append_right _ (List.mem_of_getElem? (i := 928) (by decide +kernel))) rfl
theorem tlX9_108 : Cond.constantLong RX9 108 (255) ∈ gtb := gtb_in (List.mem_append_right _ (List.mem_of_getElem? (i := 964) (by decide +kernel))) rfl
theorem tlX9_116 : Cond.constantLong RX9 116 (9) ∈ gtb := gtb_in (List.mem_append_right _ (List.mem_of_getElem? (i := 981) (by decide +kernel))) rfl
theorem tlX9_131 : Cond.constantLong RX9 131 (999) ∈ gtb := gtb_in (List.mem_append_right _ (List.mem_of_getElem? (i := 1002) (by decide +kernel))) rfl
theorem tlX9_133 : Cond.constantLong RX9 133 (5) ∈ gtb := gtb_in (List.mem_append_right _ (List.mem_of_getElem? (i := 1003) (by decide +kernel))) rfl
theorem tlX9_135 : Cond.constantLong RX9 135 (4) ∈ gtb := gtb_in (List.mem_append_right _ (List.mem_of_getElem? (i := 1008) (by decide +kernel))) rfl
theorem tlX9_137 : Cond.constantLong RX9 137 (20) ∈ gtb := gtb_in (List.mem_append_right _ (List.mem_of_getElem? (i := 1009) (by decide +kernel))) rfl
theorem tlX9_139 : Cond.constantLong RX9 139 (99) ∈ gtb := gtb_in (List.mem_append_right _ (List.mem_of_getElem? (i := 1010) (by decide +kernel))) rfl
theorem tlX9_150 : Cond.constantLong RX9 150 (39) ∈ gtb := gtb_in (List.mem_append_right _ (List.mem_of_getElem? (i := 1036) (by decide +kernel))) rfl
theorem tlX9_71 : Cond.constantLong RX9 71 (-9223372036854775808) ∈ gtb := gtb_in (List.mem_append_right _ (List.mem_of_getElem? (i := 1056) (by decide +kernel))) rfl
theorem tlX9_258 : Cond.constantLong RX9 258 (6) ∈ gtb := gtb_in (List.mem_append_right _ (List.mem_of_getElem? (i := 1204) (by decide +kernel))) rfl
theorem tlX9_266 : Cond.constantLong RX9 266 (16) ∈ gtb := gtb_in (List.mem_append_right _ (List.mem_of_getElem? (i := 1225) (by decide +kernel))) rfl
theorem tlX9_272 : Cond.constantLong RX9 272 (17) ∈ gtb := gtb_in (List.mem_append_right _ (List.mem_of_getElem? (i := 1245) (by decide +kernel))) rfl
theorem tlX9_274 : Cond.constantLong RX9 274 (31) ∈ gtb := gtb_in (List.mem_append_right _ (List.mem_of_getElem? (i := 1246) (by decide +kernel))) rfl
abbrev mX0_find : MT := (yX0_find, cX0_find, 6, none, 2, 48, shC)
set_option maxRecDepth 100000 in
theorem moX0_find : Mok mX0_find 3 := ⟨gtb_in (List.mem_append_right _ (List.mem_of_getElem? (i := 548) rfl)) rfl, gtb_in (List.mem_append_right _ (List.mem_of_getElem? (i := 7) (by decide +kernel))) rfl, by decide +kernel, by decide +kernel, by decide +kernel⟩
theorem okX0_find : MokV mX0_find 3 := ⟨moX0_find, gtb_in (List.mem_append_right _ (List.mem_of_getElem? (i := 546) (by decide +kernel))) rfl, gtb_in (List.mem_append_right _ (List.mem_of_getElem? (i := 547) (by decide +kernel))) rfl⟩
abbrev mX0_begin : MT := (yX0_begin, cX0_begin, 3, none, 1, 20, shC)
set_option maxRecDepth 100000 in
theorem moX0_begin : Mok mX0_begin 1 := ⟨gtb_in (List.mem_append_right _ (List.mem_of_getElem? (i := 552) rfl)) rfl, gtb_in (List.mem_append_right _ (List.mem_of_getElem? (i := 7) (by decide +kernel))) rfl, by decide +kernel, by decide +kernel, by decide +kernel⟩
theorem okX0_begin : MokV mX0_begin 1 := ⟨moX0_begin, gtb_in (List.mem_append_right _ (List.mem_of_getElem? (i := 551) (by decide +kernel))) rfl, gtb_in (List.mem_append_left _ (List.mem_of_getElem? (i := 9) (by decide +kernel))) rfl⟩
abbrev mX0_weigh : MT := (yX0_weigh, cX0_weigh, 8, none, 1, 21, shC)
set_option maxRecDepth 100000 in
theorem moX0_weigh : Mok mX0_weigh 3 := ⟨gtb_in (List.mem_append_right _ (List.mem_of_getElem? (i := 558) rfl)) rfl, gtb_in (List.mem_append_right _ (List.mem_of_getElem? (i := 7) (by decide +kernel))) rfl, by decide +kernel, by decide +kernel, by decide +kernel⟩
theorem okX0_weigh : MokV mX0_weigh 3 := ⟨moX0_weigh, gtb_in (List.mem_append_right _ (List.mem_of_getElem? (i := 557) (by decide +kernel))) rfl, gtb_in (List.mem_append_left _ (List.mem_of_getElem? (i := 10) (by decide +kernel))) rfl⟩
abbrev mX0_keep : MT := (yX0_keep, cX0_keep, 1, none, 1, 28, shC)
set_option maxRecDepth 100000 in
theorem moX0_keep : Mok mX0_keep 0 := ⟨gtb_in (List.mem_append_right _ (List.mem_of_getElem? (i := 563) rfl)) rfl, gtb_in (List.mem_append_right _ (List.mem_of_getElem? (i := 7) (by decide +kernel))) rfl, by decide +kernel, by decide +kernel, by decide +kernel⟩
theorem okX0_keep : MokV mX0_keep 0 := ⟨moX0_keep, gtb_in (List.mem_append_right _ (List.mem_of_getElem? (i := 562) (by decide +kernel))) rfl, gtb_in (List.mem_append_left _ (List.mem_of_getElem? (i := 11) (by decide +kernel))) rfl⟩
abbrev mX0_stepOn : MT := (yX0_stepOn, cX0_stepOn, 5, (some .boolean), 1, 23, shC)
set_option maxRecDepth 100000 in
theorem moX0_stepOn : Mok mX0_stepOn 0 := ⟨gtb_in (List.mem_append_right _ (List.mem_of_getElem? (i := 570) rfl)) rfl, gtb_in (List.mem_append_right _ (List.mem_of_getElem? (i := 7) (by decide +kernel))) rfl, by decide +kernel, by decide +kernel, by decide +kernel⟩
theorem okX0_stepOn : MokV mX0_stepOn 0 := ⟨moX0_stepOn, gtb_in (List.mem_append_right _ (List.mem_of_getElem? (i := 569) (by decide +kernel))) rfl, gtb_in (List.mem_append_left _ (List.mem_of_getElem? (i := 12) (by decide +kernel))) rfl⟩
abbrev mX0_swap : MT := (yX0_swap, cX0_swap, 4, none, 0, 0, shC)
set_option maxRecDepth 100000 in
theorem moX0_swap : Mok mX0_swap 2 := ⟨gtb_in (List.mem_append_right _ (List.mem_of_getElem? (i := 575) rfl)) rfl, gtb_in (List.mem_append_right _ (List.mem_of_getElem? (i := 7) (by decide +kernel))) rfl, by decide +kernel, by decide +kernel, by decide +kernel⟩
theorem okX0_swap : MokV mX0_swap 2 := ⟨moX0_swap, gtb_in (List.mem_append_right _ (List.mem_of_getElem? (i := 574) (by decide +kernel))) rfl, gtb_in (List.mem_append_left _ (List.mem_of_getElem? (i := 13) (by decide +kernel))) rfl⟩
abbrev mX0_wagonAt : MT := (yX0_wagonAt, cX0_wagonAt, 2, (some .int), 0, 0, shC)
set_option maxRecDepth 100000 in
theorem moX0_wagonAt : Mok mX0_wagonAt 1 := ⟨gtb_in (List.mem_append_right _ (List.mem_of_getElem? (i := 579) rfl)) rfl, gtb_in (List.mem_append_right _ (List.mem_of_getElem? (i := 7) (by decide +kernel))) rfl, by decide +kernel, by decide +kernel, by decide +kernel⟩
theorem okX0_wagonAt : MokV mX0_wagonAt 1 := ⟨moX0_wagonAt, gtb_in (List.mem_append_right _ (List.mem_of_getElem? (i := 577) (by decide +kernel))) rfl, gtb_in (List.mem_append_right _ (List.mem_of_getElem? (i := 578) (by decide +kernel))) rfl⟩
abbrev mX0_squeezeAbove : MT := (yX0_squeezeAbove, cX0_squeezeAbove, 1, (some .int), 0, 0, shC)
set_option maxRecDepth 100000 in
theorem moX0_squeezeAbove : Mok mX0_squeezeAbove 0 := ⟨gtb_in (List.mem_append_right _ (List.mem_of_getElem? (i := 587) rfl)) rfl, gtb_in (List.mem_append_right _ (List.mem_of_getElem? (i := 7) (by decide +kernel))) rfl, by decide +kernel, by decide +kernel, by decide +kernel⟩
theorem okX0_squeezeAbove : MokV mX0_squeezeAbove 0 := ⟨moX0_squeezeAbove, gtb_in (List.mem_append_right _ (List.mem_of_getElem? (i := 585) (by decide +kernel))) rfl, gtb_in (List.mem_append_right _ (List.mem_of_getElem? (i := 586) (by decide +kernel))) rfl⟩
abbrev mX0_squeezeBelow : MT := (yX0_squeezeBelow, cX0_squeezeBelow, 1, (some .int), 0, 0, shC)
set_option maxRecDepth 100000 in
theorem moX0_squeezeBelow : Mok mX0_squeezeBelow 0 := ⟨gtb_in (List.mem_append_right _ (List.mem_of_getElem? (i := 591) rfl)) rfl, gtb_in (List.mem_append_right _ (List.mem_of_getElem? (i := 7) (by decide +kernel))) rfl, by decide +kernel, by decide +kernel, by decide +kernel⟩
theorem okX0_squeezeBelow : MokV mX0_squeezeBelow 0 := ⟨moX0_squeezeBelow, gtb_in (List.mem_append_right _ (List.mem_of_getElem? (i := 589) (by decide +kernel))) rfl, gtb_in (List.mem_append_right _ (List.mem_of_getElem? (i := 590) (by decide +kernel))) rfl⟩
abbrev mX1_load : MT := (yX1_load, cX1_load, 3, none, 2, 42, shC)
set_option maxRecDepth 100000 in
theorem moX1_load : Mok mX1_load 1 := ⟨gtb_in (List.mem_append_right _ (List.mem_of_getElem? (i := 220) rfl)) rfl, gtb_in (List.mem_append_right _ (List.mem_of_getElem? (i := 3) (by decide +kernel))) rfl, by decide +kernel, by decide +kernel, by decide +kernel⟩
theorem okX1_load : MokV mX1_load 1 := ⟨moX1_load, gtb_in (List.mem_append_right _ (List.mem_of_getElem? (i := 218) (by decide +kernel))) rfl, gtb_in (List.mem_append_right _ (List.mem_of_getElem? (i := 219) (by decide +kernel))) rfl⟩
abbrev mX1_faultOf : MT := (yX1_faultOf, cX1_faultOf, 2, (some .int), 1, 21, shC)
set_option maxRecDepth 100000 in
theorem moX1_faultOf : Mok mX1_faultOf 1 := ⟨gtb_in (List.mem_append_right _ (List.mem_of_getElem? (i := 223) rfl)) rfl, gtb_in (List.mem_append_right _ (List.mem_of_getElem? (i := 3) (by decide +kernel))) rfl, by decide +kernel, by decide +kernel, by decide +kernel⟩
theorem okX1_faultOf : MokS mX1_faultOf 1 := ⟨moX1_faultOf, gtb_in (List.mem_append_right _ (List.mem_of_getElem? (i := 222) (by decide +kernel))) rfl⟩
abbrev mX1_firstFault : MT := (yX1_firstFault, cX1_firstFault, 1, (some .int), 0, 0, shC)
set_option maxRecDepth 100000 in
theorem moX1_firstFault : Mok mX1_firstFault 0 := ⟨gtb_in (List.mem_append_right _ (List.mem_of_getElem? (i := 356) rfl)) rfl, gtb_in (List.mem_append_right _ (List.mem_of_getElem? (i := 3) (by decide +kernel))) rfl, by decide +kernel, by decide +kernel, by decide +kernel⟩
theorem okX1_firstFault : MokV mX1_firstFault 0 := ⟨moX1_firstFault, gtb_in (List.mem_append_right _ (List.mem_of_getElem? (i := 354) (by decide +kernel))) rfl, gtb_in (List.mem_append_right _ (List.mem_of_getElem? (i := 355) (by decide +kernel))) rfl⟩
abbrev mX1_size : MT := (yX1_size, cX1_size, 1, (some .int), 0, 0, shC)
set_option maxRecDepth 100000 in
theorem moX1_size : Mok mX1_size 0 := ⟨gtb_in (List.mem_append_right _ (List.mem_of_getElem? (i := 368) rfl)) rfl, gtb_in (List.mem_append_right _ (List.mem_of_getElem? (i := 3) (by decide +kernel))) rfl, by decide +kernel, by decide +kernel, by decide +kernel⟩
theorem okX1_size : MokV mX1_size 0 := ⟨moX1_size, gtb_in (List.mem_append_right _ (List.mem_of_getElem? (i := 366) (by decide +kernel))) rfl, gtb_in (List.mem_append_right _ (List.mem_of_getElem? (i := 367) (by decide +kernel))) rfl⟩
abbrev mX1_whole : MT := (yX1_whole, cX1_whole, 1, (some .int), 0, 0, shC)
set_option maxRecDepth 100000 in
theorem moX1_whole : Mok mX1_whole 0 := ⟨gtb_in (List.mem_append_right _ (List.mem_of_getElem? (i := 252) rfl)) rfl, gtb_in (List.mem_append_right _ (List.mem_of_getElem? (i := 3) (by decide +kernel))) rfl, by decide +kernel, by decide +kernel, by decide +kernel⟩
theorem okX1_whole : MokV mX1_whole 0 := ⟨moX1_whole, gtb_in (List.mem_append_right _ (List.mem_of_getElem? (i := 250) (by decide +kernel))) rfl, gtb_in (List.mem_append_right _ (List.mem_of_getElem? (i := 251) (by decide +kernel))) rfl⟩
abbrev mX1_weightOf : MT := (yX1_weightOf, cX1_weightOf, 2, (some .int), 0, 0, shC)
set_option maxRecDepth 100000 in
theorem moX1_weightOf : Mok mX1_weightOf 1 := ⟨gtb_in (List.mem_append_right _ (List.mem_of_getElem? (i := 372) rfl)) rfl, gtb_in (List.mem_append_right _ (List.mem_of_getElem? (i := 3) (by decide +kernel))) rfl, by decide +kernel, by decide +kernel, by decide +kernel⟩
theorem okX1_weightOf : MokV mX1_weightOf 1 := ⟨moX1_weightOf, gtb_in (List.mem_append_right _ (List.mem_of_getElem? (i := 370) (by decide +kernel))) rfl, gtb_in (List.mem_append_right _ (List.mem_of_getElem? (i := 371) (by decide +kernel))) rfl⟩
abbrev mX1_strainTimesWhole : MT := (yX1_strainTimesWhole, cX1_strainTimesWhole, 5, (some .int), 0, 0, shC)
set_option maxRecDepth 100000 in
theorem moX1_strainTimesWhole : Mok mX1_strainTimesWhole 3 := ⟨gtb_in (List.mem_append_right _ (List.mem_of_getElem? (i := 452) rfl)) rfl, gtb_in (List.mem_append_right _ (List.mem_of_getElem? (i := 3) (by decide +kernel))) rfl, by decide +kernel, by decide +kernel, by decide +kernel⟩
theorem okX1_strainTimesWhole : MokV mX1_strainTimesWhole 3 := ⟨moX1_strainTimesWhole, gtb_in (List.mem_append_right _ (List.mem_of_getElem? (i := 450) (by decide +kernel))) rfl, gtb_in (List.mem_append_right _ (List.mem_of_getElem? (i := 451) (by decide +kernel))) rfl⟩
abbrev mX1_firstSlack : MT := (yX1_firstSlack, cX1_firstSlack, 4, (some .int), 1, 24, shC)
set_option maxRecDepth 100000 in
theorem moX1_firstSlack : Mok mX1_firstSlack 2 := ⟨gtb_in (List.mem_append_right _ (List.mem_of_getElem? (i := 469) rfl)) rfl, gtb_in (List.mem_append_right _ (List.mem_of_getElem? (i := 3) (by decide +kernel))) rfl, by decide +kernel, by decide +kernel, by decide +kernel⟩
theorem okX1_firstSlack : MokV mX1_firstSlack 2 := ⟨moX1_firstSlack, gtb_in (List.mem_append_right _ (List.mem_of_getElem? (i := 467) (by decide +kernel))) rfl, gtb_in (List.mem_append_right _ (List.mem_of_getElem? (i := 468) (by decide +kernel))) rfl⟩
abbrev mX1_tears : MT := (yX1_tears, cX1_tears, 5, (some .boolean), 1, 24, shC)
set_option maxRecDepth 100000 in
theorem moX1_tears : Mok mX1_tears 3 := ⟨gtb_in (List.mem_append_right _ (List.mem_of_getElem? (i := 478) rfl)) rfl, gtb_in (List.mem_append_right _ (List.mem_of_getElem? (i := 3) (by decide +kernel))) rfl, by decide +kernel, by decide +kernel, by decide +kernel⟩
theorem okX1_tears : MokV mX1_tears 3 := ⟨moX1_tears, gtb_in (List.mem_append_right _ (List.mem_of_getElem? (i := 476) (by decide +kernel))) rfl, gtb_in (List.mem_append_right _ (List.mem_of_getElem? (i := 477) (by decide +kernel))) rfl⟩
abbrev mX1_firstSqueezed : MT := (yX1_firstSqueezed, cX1_firstSqueezed, 8, (some .int), 1, 24, shC)
set_option maxRecDepth 100000 in
theorem moX1_firstSqueezed : Mok mX1_firstSqueezed 3 := ⟨gtb_in (List.mem_append_right _ (List.mem_of_getElem? (i := 490) rfl)) rfl, gtb_in (List.mem_append_right _ (List.mem_of_getElem? (i := 3) (by decide +kernel))) rfl, by decide +kernel, by decide +kernel, by decide +kernel⟩
theorem okX1_firstSqueezed : MokV mX1_firstSqueezed 3 := ⟨moX1_firstSqueezed, gtb_in (List.mem_append_right _ (List.mem_of_getElem? (i := 488) (by decide +kernel))) rfl, gtb_in (List.mem_append_right _ (List.mem_of_getElem? (i := 489) (by decide +kernel))) rfl⟩
abbrev mX2_size : MT := (yX2_size, cX2_size, 1, (some .int), 0, 0, shC)
set_option maxRecDepth 100000 in
theorem moX2_size : Mok mX2_size 0 := ⟨gtb_in (List.mem_append_right _ (List.mem_of_getElem? (i := 610) rfl)) rfl, gtb_in (List.mem_append_right _ (List.mem_of_getElem? (i := 8) (by decide +kernel))) rfl, by decide +kernel, by decide +kernel, by decide +kernel⟩
theorem okX2_size : MokV mX2_size 0 := ⟨moX2_size, gtb_in (List.mem_append_right _ (List.mem_of_getElem? (i := 608) (by decide +kernel))) rfl, gtb_in (List.mem_append_right _ (List.mem_of_getElem? (i := 609) (by decide +kernel))) rfl⟩
abbrev mX2_isFull : MT := (yX2_isFull, cX2_isFull, 1, (some .boolean), 0, 0, shC)
set_option maxRecDepth 100000 in
theorem moX2_isFull : Mok mX2_isFull 0 := ⟨gtb_in (List.mem_append_right _ (List.mem_of_getElem? (i := 602) rfl)) rfl, gtb_in (List.mem_append_right _ (List.mem_of_getElem? (i := 8) (by decide +kernel))) rfl, by decide +kernel, by decide +kernel, by decide +kernel⟩
theorem okX2_isFull : MokV mX2_isFull 0 := ⟨moX2_isFull, gtb_in (List.mem_append_right _ (List.mem_of_getElem? (i := 600) (by decide +kernel))) rfl, gtb_in (List.mem_append_right _ (List.mem_of_getElem? (i := 601) (by decide +kernel))) rfl⟩
abbrev mX2_tell : MT := (yX2_tell, cX2_tell, 2, none, 0, 0, shC)
set_option maxRecDepth 100000 in
theorem moX2_tell : Mok mX2_tell 1 := ⟨gtb_in (List.mem_append_right _ (List.mem_of_getElem? (i := 606) rfl)) rfl, gtb_in (List.mem_append_right _ (List.mem_of_getElem? (i := 8) (by decide +kernel))) rfl, by decide +kernel, by decide +kernel, by decide +kernel⟩
theorem okX2_tell : MokV mX2_tell 1 := ⟨moX2_tell, gtb_in (List.mem_append_right _ (List.mem_of_getElem? (i := 604) (by decide +kernel))) rfl, gtb_in (List.mem_append_right _ (List.mem_of_getElem? (i := 605) (by decide +kernel))) rfl⟩
abbrev mX2_forgetLast : MT := (yX2_forgetLast, cX2_forgetLast, 1, none, 1, 21, shC)
set_option maxRecDepth 100000 in
theorem moX2_forgetLast : Mok mX2_forgetLast 0 := ⟨gtb_in (List.mem_append_right _ (List.mem_of_getElem? (i := 618) rfl)) rfl, gtb_in (List.mem_append_right _ (List.mem_of_getElem? (i := 8) (by decide +kernel))) rfl, by decide +kernel, by decide +kernel, by decide +kernel⟩
theorem okX2_forgetLast : MokV mX2_forgetLast 0 := ⟨moX2_forgetLast, gtb_in (List.mem_append_right _ (List.mem_of_getElem? (i := 616) (by decide +kernel))) rfl, gtb_in (List.mem_append_right _ (List.mem_of_getElem? (i := 617) (by decide +kernel))) rfl⟩
abbrev mX2_pushAll : MT := (yX2_pushAll, cX2_pushAll, 6, none, 1, 23, shC)
set_option maxRecDepth 100000 in
theorem moX2_pushAll : Mok mX2_pushAll 2 := ⟨gtb_in (List.mem_append_right _ (List.mem_of_getElem? (i := 655) rfl)) rfl, gtb_in (List.mem_append_right _ (List.mem_of_getElem? (i := 8) (by decide +kernel))) rfl, by decide +kernel, by decide +kernel, by decide +kernel⟩
theorem okX2_pushAll : MokV mX2_pushAll 2 := ⟨moX2_pushAll, gtb_in (List.mem_append_right _ (List.mem_of_getElem? (i := 653) (by decide +kernel))) rfl, gtb_in (List.mem_append_right _ (List.mem_of_getElem? (i := 654) (by decide +kernel))) rfl⟩
abbrev mX2_firstFree : MT := (yX2_firstFree, cX2_firstFree, 4, (some .int), 0, 0, shC)
set_option maxRecDepth 100000 in
theorem moX2_firstFree : Mok mX2_firstFree 1 := ⟨gtb_in (List.mem_append_right _ (List.mem_of_getElem? (i := 663) rfl)) rfl, gtb_in (List.mem_append_right _ (List.mem_of_getElem? (i := 8) (by decide +kernel))) rfl, by decide +kernel, by decide +kernel, by decide +kernel⟩
theorem okX2_firstFree : MokV mX2_firstFree 1 := ⟨moX2_firstFree, gtb_in (List.mem_append_right _ (List.mem_of_getElem? (i := 662) (by decide +kernel))) rfl, gtb_in (List.mem_append_left _ (List.mem_of_getElem? (i := 18) (by decide +kernel))) rfl⟩
abbrev mX2_sort : MT := (yX2_sort, cX2_sort, 3, none, 0, 0, shC)
set_option maxRecDepth 100000 in
theorem moX2_sort : Mok mX2_sort 0 := ⟨gtb_in (List.mem_append_right _ (List.mem_of_getElem? (i := 659) rfl)) rfl, gtb_in (List.mem_append_right _ (List.mem_of_getElem? (i := 8) (by decide +kernel))) rfl, by decide +kernel, by decide +kernel, by decide +kernel⟩
theorem okX2_sort : MokV mX2_sort 0 := ⟨moX2_sort, gtb_in (List.mem_append_right _ (List.mem_of_getElem? (i := 658) (by decide +kernel))) rfl, gtb_in (List.mem_append_left _ (List.mem_of_getElem? (i := 17) (by decide +kernel))) rfl⟩
abbrev mX2_waitedTogether : MT := (yX2_waitedTogether, cX2_waitedTogether, 1, (some .int), 0, 0, shC)
set_option maxRecDepth 100000 in
theorem moX2_waitedTogether : Mok mX2_waitedTogether 0 := ⟨gtb_in (List.mem_append_right _ (List.mem_of_getElem? (i := 667) rfl)) rfl, gtb_in (List.mem_append_right _ (List.mem_of_getElem? (i := 8) (by decide +kernel))) rfl, by decide +kernel, by decide +kernel, by decide +kernel⟩
theorem okX2_waitedTogether : MokV mX2_waitedTogether 0 := ⟨moX2_waitedTogether, gtb_in (List.mem_append_right _ (List.mem_of_getElem? (i := 665) (by decide +kernel))) rfl, gtb_in (List.mem_append_right _ (List.mem_of_getElem? (i := 666) (by decide +kernel))) rfl⟩
abbrev mX2_waitedMost : MT := (yX2_waitedMost, cX2_waitedMost, 1, (some .int), 0, 0, shC)
set_option maxRecDepth 100000 in
theorem moX2_waitedMost : Mok mX2_waitedMost 0 := ⟨gtb_in (List.mem_append_right _ (List.mem_of_getElem? (i := 671) rfl)) rfl, gtb_in (List.mem_append_right _ (List.mem_of_getElem? (i := 8) (by decide +kernel))) rfl, by decide +kernel, by decide +kernel, by decide +kernel⟩
theorem okX2_waitedMost : MokV mX2_waitedMost 0 := ⟨moX2_waitedMost, gtb_in (List.mem_append_right _ (List.mem_of_getElem? (i := 669) (by decide +kernel))) rfl, gtb_in (List.mem_append_right _ (List.mem_of_getElem? (i := 670) (by decide +kernel))) rfl⟩
abbrev mX3_takes : MT := (yX3_takes, cX3_takes, 4, (some .boolean), 0, 0, shC)
set_option maxRecDepth 100000 in
theorem moX3_takes : Mok mX3_takes 2 := ⟨gtb_in (List.mem_append_right _ (List.mem_of_getElem? (i := 403) rfl)) rfl, gtb_in (List.mem_append_right _ (List.mem_of_getElem? (i := 5) (by decide +kernel))) rfl, by decide +kernel, by decide +kernel, by decide +kernel⟩
theorem okX3_takes : MokV mX3_takes 2 := ⟨moX3_takes, gtb_in (List.mem_append_right _ (List.mem_of_getElem? (i := 401) (by decide +kernel))) rfl, gtb_in (List.mem_append_right _ (List.mem_of_getElem? (i := 402) (by decide +kernel))) rfl⟩
abbrev mX3_at : MT := (yX3_at, cX3_at, 2, (some .int), 0, 0, shC)
set_option maxRecDepth 100000 in
theorem moX3_at : Mok mX3_at 1 := ⟨gtb_in (List.mem_append_right _ (List.mem_of_getElem? (i := 256) rfl)) rfl, gtb_in (List.mem_append_right _ (List.mem_of_getElem? (i := 5) (by decide +kernel))) rfl, by decide +kernel, by decide +kernel, by decide +kernel⟩
theorem okX3_at : MokV mX3_at 1 := ⟨moX3_at, gtb_in (List.mem_append_right _ (List.mem_of_getElem? (i := 254) (by decide +kernel))) rfl, gtb_in (List.mem_append_right _ (List.mem_of_getElem? (i := 255) (by decide +kernel))) rfl⟩
abbrev mX3_turn : MT := (yX3_turn, cX3_turn, 4, (some .int), 1, 23, shC)
set_option maxRecDepth 100000 in
theorem moX3_turn : Mok mX3_turn 2 := ⟨gtb_in (List.mem_append_right _ (List.mem_of_getElem? (i := 407) rfl)) rfl, gtb_in (List.mem_append_right _ (List.mem_of_getElem? (i := 5) (by decide +kernel))) rfl, by decide +kernel, by decide +kernel, by decide +kernel⟩
theorem okX3_turn : MokV mX3_turn 2 := ⟨moX3_turn, gtb_in (List.mem_append_right _ (List.mem_of_getElem? (i := 405) (by decide +kernel))) rfl, gtb_in (List.mem_append_right _ (List.mem_of_getElem? (i := 406) (by decide +kernel))) rfl⟩
abbrev mX4_run : MT := (yX4_run, cX4_run, 9, none, 2, 47, shC)
set_option maxRecDepth 100000 in
theorem moX4_run : Mok mX4_run 5 := ⟨gtb_in (List.mem_append_right _ (List.mem_of_getElem? (i := 260) rfl)) rfl, gtb_in (List.mem_append_right _ (List.mem_of_getElem? (i := 6) (by decide +kernel))) rfl, by decide +kernel, by decide +kernel, by decide +kernel⟩
theorem okX4_run : MokV mX4_run 5 := ⟨moX4_run, gtb_in (List.mem_append_right _ (List.mem_of_getElem? (i := 258) (by decide +kernel))) rfl, gtb_in (List.mem_append_right _ (List.mem_of_getElem? (i := 259) (by decide +kernel))) rfl⟩
abbrev mX4_nextSpeed : MT := (yX4_nextSpeed, cX4_nextSpeed, 2, (some .int), 1, 21, shC)
set_option maxRecDepth 100000 in
theorem moX4_nextSpeed : Mok mX4_nextSpeed 2 := ⟨gtb_in (List.mem_append_right _ (List.mem_of_getElem? (i := 277) rfl)) rfl, gtb_in (List.mem_append_right _ (List.mem_of_getElem? (i := 6) (by decide +kernel))) rfl, by decide +kernel, by decide +kernel, by decide +kernel⟩
theorem okX4_nextSpeed : MokS mX4_nextSpeed 2 := ⟨moX4_nextSpeed, gtb_in (List.mem_append_right _ (List.mem_of_getElem? (i := 276) (by decide +kernel))) rfl⟩
abbrev mX4_byRule : MT := (yX4_byRule, cX4_byRule, 7, (some .int), 1, 21, shC)
set_option maxRecDepth 100000 in
theorem moX4_byRule : Mok mX4_byRule 4 := ⟨gtb_in (List.mem_append_right _ (List.mem_of_getElem? (i := 269) rfl)) rfl, gtb_in (List.mem_append_right _ (List.mem_of_getElem? (i := 6) (by decide +kernel))) rfl, by decide +kernel, by decide +kernel, by decide +kernel⟩
theorem okX4_byRule : MokV mX4_byRule 4 := ⟨moX4_byRule, gtb_in (List.mem_append_right _ (List.mem_of_getElem? (i := 268) (by decide +kernel))) rfl, gtb_in (List.mem_append_left _ (List.mem_of_getElem? (i := 3) (by decide +kernel))) rfl⟩
abbrev mX4_given : MT := (yX4_given, cX4_given, 3, (some .int), 0, 0, shC)
set_option maxRecDepth 100000 in
theorem moX4_given : Mok mX4_given 2 := ⟨gtb_in (List.mem_append_right _ (List.mem_of_getElem? (i := 424) rfl)) rfl, gtb_in (List.mem_append_right _ (List.mem_of_getElem? (i := 6) (by decide +kernel))) rfl, by decide +kernel, by decide +kernel, by decide +kernel⟩
theorem okX4_given : MokV mX4_given 2 := ⟨moX4_given, gtb_in (List.mem_append_right _ (List.mem_of_getElem? (i := 422) (by decide +kernel))) rfl, gtb_in (List.mem_append_right _ (List.mem_of_getElem? (i := 423) (by decide +kernel))) rfl⟩
abbrev mX4_neededIn : MT := (yX4_neededIn, cX4_neededIn, 2, (some .int), 0, 0, shC)
set_option maxRecDepth 100000 in
theorem moX4_neededIn : Mok mX4_neededIn 1 := ⟨gtb_in (List.mem_append_right _ (List.mem_of_getElem? (i := 432) rfl)) rfl, gtb_in (List.mem_append_right _ (List.mem_of_getElem? (i := 6) (by decide +kernel))) rfl, by decide +kernel, by decide +kernel, by decide +kernel⟩
theorem okX4_neededIn : MokV mX4_neededIn 1 := ⟨moX4_neededIn, gtb_in (List.mem_append_right _ (List.mem_of_getElem? (i := 430) (by decide +kernel))) rfl, gtb_in (List.mem_append_right _ (List.mem_of_getElem? (i := 431) (by decide +kernel))) rfl⟩
abbrev mX4_speedIn : MT := (yX4_speedIn, cX4_speedIn, 2, (some .int), 0, 0, shC)
set_option maxRecDepth 100000 in
theorem moX4_speedIn : Mok mX4_speedIn 1 := ⟨gtb_in (List.mem_append_right _ (List.mem_of_getElem? (i := 436) rfl)) rfl, gtb_in (List.mem_append_right _ (List.mem_of_getElem? (i := 6) (by decide +kernel))) rfl, by decide +kernel, by decide +kernel, by decide +kernel⟩
theorem okX4_speedIn : MokV mX4_speedIn 1 := ⟨moX4_speedIn, gtb_in (List.mem_append_right _ (List.mem_of_getElem? (i := 434) (by decide +kernel))) rfl, gtb_in (List.mem_append_right _ (List.mem_of_getElem? (i := 435) (by decide +kernel))) rfl⟩
abbrev mX4_placeIn : MT := (yX4_placeIn, cX4_placeIn, 2, (some .int), 0, 0, shC)
set_option maxRecDepth 100000 in
theorem moX4_placeIn : Mok mX4_placeIn 1 := ⟨gtb_in (List.mem_append_right _ (List.mem_of_getElem? (i := 440) rfl)) rfl, gtb_in (List.mem_append_right _ (List.mem_of_getElem? (i := 6) (by decide +kernel))) rfl, by decide +kernel, by decide +kernel, by decide +kernel⟩
theorem okX4_placeIn : MokV mX4_placeIn 1 := ⟨moX4_placeIn, gtb_in (List.mem_append_right _ (List.mem_of_getElem? (i := 438) (by decide +kernel))) rfl, gtb_in (List.mem_append_right _ (List.mem_of_getElem? (i := 439) (by decide +kernel))) rfl⟩
abbrev mX4_allGiven : MT := (yX4_allGiven, cX4_allGiven, 4, (some .int), 1, 22, shC)
set_option maxRecDepth 100000 in
theorem moX4_allGiven : Mok mX4_allGiven 1 := ⟨gtb_in (List.mem_append_right _ (List.mem_of_getElem? (i := 521) rfl)) rfl, gtb_in (List.mem_append_right _ (List.mem_of_getElem? (i := 6) (by decide +kernel))) rfl, by decide +kernel, by decide +kernel, by decide +kernel⟩
theorem okX4_allGiven : MokV mX4_allGiven 1 := ⟨moX4_allGiven, gtb_in (List.mem_append_right _ (List.mem_of_getElem? (i := 519) (by decide +kernel))) rfl, gtb_in (List.mem_append_right _ (List.mem_of_getElem? (i := 520) (by decide +kernel))) rfl⟩
abbrev mX4_givesAlike : MT := (yX4_givesAlike, cX4_givesAlike, 3, (some .boolean), 1, 22, shC)
set_option maxRecDepth 100000 in
theorem moX4_givesAlike : Mok mX4_givesAlike 2 := ⟨gtb_in (List.mem_append_right _ (List.mem_of_getElem? (i := 503) rfl)) rfl, gtb_in (List.mem_append_right _ (List.mem_of_getElem? (i := 6) (by decide +kernel))) rfl, by decide +kernel, by decide +kernel, by decide +kernel⟩
theorem okX4_givesAlike : MokV mX4_givesAlike 2 := ⟨moX4_givesAlike, gtb_in (List.mem_append_right _ (List.mem_of_getElem? (i := 501) (by decide +kernel))) rfl, gtb_in (List.mem_append_right _ (List.mem_of_getElem? (i := 502) (by decide +kernel))) rfl⟩
abbrev mX4_comesAgain : MT := (yX4_comesAgain, cX4_comesAgain, 3, (some .boolean), 2, 44, shC)
set_option maxRecDepth 100000 in
theorem moX4_comesAgain : Mok mX4_comesAgain 1 := ⟨gtb_in (List.mem_append_right _ (List.mem_of_getElem? (i := 512) rfl)) rfl, gtb_in (List.mem_append_right _ (List.mem_of_getElem? (i := 6) (by decide +kernel))) rfl, by decide +kernel, by decide +kernel, by decide +kernel⟩
theorem okX4_comesAgain : MokV mX4_comesAgain 1 := ⟨moX4_comesAgain, gtb_in (List.mem_append_right _ (List.mem_of_getElem? (i := 510) (by decide +kernel))) rfl, gtb_in (List.mem_append_right _ (List.mem_of_getElem? (i := 511) (by decide +kernel))) rfl⟩
abbrev mX5_isLost : MT := (yX5_isLost, cX5_isLost, 1, (some .boolean), 0, 0, shC)
set_option maxRecDepth 100000 in
theorem moX5_isLost : Mok mX5_isLost 0 := ⟨gtb_in (List.mem_append_right _ (List.mem_of_getElem? (i := 631) rfl)) rfl, gtb_in (List.mem_append_right _ (List.mem_of_getElem? (i := 9) (by decide +kernel))) rfl, by decide +kernel, by decide +kernel, by decide +kernel⟩
theorem okX5_isLost : MokV mX5_isLost 0 := ⟨moX5_isLost, gtb_in (List.mem_append_right _ (List.mem_of_getElem? (i := 629) (by decide +kernel))) rfl, gtb_in (List.mem_append_right _ (List.mem_of_getElem? (i := 630) (by decide +kernel))) rfl⟩
abbrev mX5_isOfForm : MT := (yX5_isOfForm, cX5_isOfForm, 2, (some .boolean), 0, 0, shC)
set_option maxRecDepth 100000 in
theorem moX5_isOfForm : Mok mX5_isOfForm 1 := ⟨gtb_in (List.mem_append_right _ (List.mem_of_getElem? (i := 721) rfl)) rfl, gtb_in (List.mem_append_right _ (List.mem_of_getElem? (i := 9) (by decide +kernel))) rfl, by decide +kernel, by decide +kernel, by decide +kernel⟩
theorem okX5_isOfForm : MokV mX5_isOfForm 1 := ⟨moX5_isOfForm, gtb_in (List.mem_append_right _ (List.mem_of_getElem? (i := 719) (by decide +kernel))) rfl, gtb_in (List.mem_append_right _ (List.mem_of_getElem? (i := 720) (by decide +kernel))) rfl⟩
abbrev mX5_formNumber : MT := (yX5_formNumber, cX5_formNumber, 1, (some .int), 0, 0, shC)
set_option maxRecDepth 100000 in
theorem moX5_formNumber : Mok mX5_formNumber 0 := ⟨gtb_in (List.mem_append_right _ (List.mem_of_getElem? (i := 746) rfl)) rfl, gtb_in (List.mem_append_right _ (List.mem_of_getElem? (i := 9) (by decide +kernel))) rfl, by decide +kernel, by decide +kernel, by decide +kernel⟩
theorem okX5_formNumber : MokV mX5_formNumber 0 := ⟨moX5_formNumber, gtb_in (List.mem_append_right _ (List.mem_of_getElem? (i := 744) (by decide +kernel))) rfl, gtb_in (List.mem_append_right _ (List.mem_of_getElem? (i := 745) (by decide +kernel))) rfl⟩
abbrev mX5_size : MT := (yX5_size, cX5_size, 1, (some .int), 0, 0, shC)
set_option maxRecDepth 100000 in
theorem moX5_size : Mok mX5_size 0 := ⟨gtb_in (List.mem_append_right _ (List.mem_of_getElem? (i := 639) rfl)) rfl, gtb_in (List.mem_append_right _ (List.mem_of_getElem? (i := 9) (by decide +kernel))) rfl, by decide +kernel, by decide +kernel, by decide +kernel⟩
theorem okX5_size : MokV mX5_size 0 := ⟨moX5_size, gtb_in (List.mem_append_right _ (List.mem_of_getElem? (i := 637) (by decide +kernel))) rfl, gtb_in (List.mem_append_right _ (List.mem_of_getElem? (i := 638) (by decide +kernel))) rfl⟩
abbrev mX5_renew : MT := (yX5_renew, cX5_renew, 4, none, 1, 21, shC)
set_option maxRecDepth 100000 in
theorem moX5_renew : Mok mX5_renew 2 := ⟨gtb_in (List.mem_append_right _ (List.mem_of_getElem? (i := 700) rfl)) rfl, gtb_in (List.mem_append_right _ (List.mem_of_getElem? (i := 9) (by decide +kernel))) rfl, by decide +kernel, by decide +kernel, by decide +kernel⟩
theorem okX5_renew : MokV mX5_renew 2 := ⟨moX5_renew, gtb_in (List.mem_append_right _ (List.mem_of_getElem? (i := 698) (by decide +kernel))) rfl, gtb_in (List.mem_append_right _ (List.mem_of_getElem? (i := 699) (by decide +kernel))) rfl⟩
abbrev mX5_drop : MT := (yX5_drop, cX5_drop, 1, none, 0, 0, shC)
set_option maxRecDepth 100000 in
theorem moX5_drop : Mok mX5_drop 0 := ⟨gtb_in (List.mem_append_right _ (List.mem_of_getElem? (i := 710) rfl)) rfl, gtb_in (List.mem_append_right _ (List.mem_of_getElem? (i := 9) (by decide +kernel))) rfl, by decide +kernel, by decide +kernel, by decide +kernel⟩
theorem okX5_drop : MokV mX5_drop 0 := ⟨moX5_drop, gtb_in (List.mem_append_right _ (List.mem_of_getElem? (i := 708) (by decide +kernel))) rfl, gtb_in (List.mem_append_right _ (List.mem_of_getElem? (i := 709) (by decide +kernel))) rfl⟩
abbrev mX5_hasItems : MT := (yX5_hasItems, cX5_hasItems, 3, (some .boolean), 0, 0, shC)
set_option maxRecDepth 100000 in
theorem moX5_hasItems : Mok mX5_hasItems 2 := ⟨gtb_in (List.mem_append_right _ (List.mem_of_getElem? (i := 725) rfl)) rfl, gtb_in (List.mem_append_right _ (List.mem_of_getElem? (i := 9) (by decide +kernel))) rfl, by decide +kernel, by decide +kernel, by decide +kernel⟩
theorem okX5_hasItems : MokV mX5_hasItems 2 := ⟨moX5_hasItems, gtb_in (List.mem_append_right _ (List.mem_of_getElem? (i := 723) (by decide +kernel))) rfl, gtb_in (List.mem_append_right _ (List.mem_of_getElem? (i := 724) (by decide +kernel))) rfl⟩
abbrev mX5_itemAt : MT := (yX5_itemAt, cX5_itemAt, 2, (some .int), 0, 0, shC)
set_option maxRecDepth 100000 in
theorem moX5_itemAt : Mok mX5_itemAt 1 := ⟨gtb_in (List.mem_append_right _ (List.mem_of_getElem? (i := 643) rfl)) rfl, gtb_in (List.mem_append_right _ (List.mem_of_getElem? (i := 9) (by decide +kernel))) rfl, by decide +kernel, by decide +kernel, by decide +kernel⟩
theorem okX5_itemAt : MokV mX5_itemAt 1 := ⟨moX5_itemAt, gtb_in (List.mem_append_right _ (List.mem_of_getElem? (i := 641) (by decide +kernel))) rfl, gtb_in (List.mem_append_right _ (List.mem_of_getElem? (i := 642) (by decide +kernel))) rfl⟩
abbrev mX5_put : MT := (yX5_put, cX5_put, 3, none, 1, 21, shC)
set_option maxRecDepth 100000 in
theorem moX5_put : Mok mX5_put 2 := ⟨gtb_in (List.mem_append_right _ (List.mem_of_getElem? (i := 729) rfl)) rfl, gtb_in (List.mem_append_right _ (List.mem_of_getElem? (i := 9) (by decide +kernel))) rfl, by decide +kernel, by decide +kernel, by decide +kernel⟩
theorem okX5_put : MokV mX5_put 2 := ⟨moX5_put, gtb_in (List.mem_append_right _ (List.mem_of_getElem? (i := 727) (by decide +kernel))) rfl, gtb_in (List.mem_append_right _ (List.mem_of_getElem? (i := 728) (by decide +kernel))) rfl⟩
abbrev mX5_cut : MT := (yX5_cut, cX5_cut, 2, (some .int), 0, 0, shC)
set_option maxRecDepth 100000 in
theorem moX5_cut : Mok mX5_cut 1 := ⟨gtb_in (List.mem_append_right _ (List.mem_of_getElem? (i := 733) rfl)) rfl, gtb_in (List.mem_append_right _ (List.mem_of_getElem? (i := 9) (by decide +kernel))) rfl, by decide +kernel, by decide +kernel, by decide +kernel⟩
theorem okX5_cut : MokV mX5_cut 1 := ⟨moX5_cut, gtb_in (List.mem_append_right _ (List.mem_of_getElem? (i := 732) (by decide +kernel))) rfl, gtb_in (List.mem_append_left _ (List.mem_of_getElem? (i := 19) (by decide +kernel))) rfl⟩
abbrev mX5_takeOver : MT := (yX5_takeOver, cX5_takeOver, 5, none, 1, 28, shC)
set_option maxRecDepth 100000 in
theorem moX5_takeOver : Mok mX5_takeOver 4 := ⟨gtb_in (List.mem_append_right _ (List.mem_of_getElem? (i := 750) rfl)) rfl, gtb_in (List.mem_append_right _ (List.mem_of_getElem? (i := 9) (by decide +kernel))) rfl, by decide +kernel, by decide +kernel, by decide +kernel⟩
theorem okX5_takeOver : MokV mX5_takeOver 4 := ⟨moX5_takeOver, gtb_in (List.mem_append_right _ (List.mem_of_getElem? (i := 748) (by decide +kernel))) rfl, gtb_in (List.mem_append_right _ (List.mem_of_getElem? (i := 749) (by decide +kernel))) rfl⟩
abbrev mX6_load : MT := (yX6_load, cX6_load, 3, none, 2, 42, shC)
set_option maxRecDepth 100000 in
theorem moX6_load : Mok mX6_load 1 := ⟨gtb_in (List.mem_append_right _ (List.mem_of_getElem? (i := 238) rfl)) rfl, gtb_in (List.mem_append_right _ (List.mem_of_getElem? (i := 4) (by decide +kernel))) rfl, by decide +kernel, by decide +kernel, by decide +kernel⟩
theorem okX6_load : MokV mX6_load 1 := ⟨moX6_load, gtb_in (List.mem_append_right _ (List.mem_of_getElem? (i := 236) (by decide +kernel))) rfl, gtb_in (List.mem_append_right _ (List.mem_of_getElem? (i := 237) (by decide +kernel))) rfl⟩
abbrev mX6_takes : MT := (yX6_takes, cX6_takes, 2, (some .boolean), 1, 21, shC)
set_option maxRecDepth 100000 in
theorem moX6_takes : Mok mX6_takes 1 := ⟨gtb_in (List.mem_append_right _ (List.mem_of_getElem? (i := 244) rfl)) rfl, gtb_in (List.mem_append_right _ (List.mem_of_getElem? (i := 4) (by decide +kernel))) rfl, by decide +kernel, by decide +kernel, by decide +kernel⟩
theorem okX6_takes : MokV mX6_takes 1 := ⟨moX6_takes, gtb_in (List.mem_append_right _ (List.mem_of_getElem? (i := 243) (by decide +kernel))) rfl, gtb_in (List.mem_append_left _ (List.mem_of_getElem? (i := 1) (by decide +kernel))) rfl⟩
abbrev mX6_bendsLast : MT := (yX6_bendsLast, cX6_bendsLast, 2, (some .boolean), 0, 0, shC)
set_option maxRecDepth 100000 in
theorem moX6_bendsLast : Mok mX6_bendsLast 0 := ⟨gtb_in (List.mem_append_right _ (List.mem_of_getElem? (i := 248) rfl)) rfl, gtb_in (List.mem_append_right _ (List.mem_of_getElem? (i := 4) (by decide +kernel))) rfl, by decide +kernel, by decide +kernel, by decide +kernel⟩
theorem okX6_bendsLast : MokV mX6_bendsLast 0 := ⟨moX6_bendsLast, gtb_in (List.mem_append_right _ (List.mem_of_getElem? (i := 247) (by decide +kernel))) rfl, gtb_in (List.mem_append_left _ (List.mem_of_getElem? (i := 2) (by decide +kernel))) rfl⟩
abbrev mX6_firstFault : MT := (yX6_firstFault, cX6_firstFault, 1, (some .int), 0, 0, shC)
set_option maxRecDepth 100000 in
theorem moX6_firstFault : Mok mX6_firstFault 0 := ⟨gtb_in (List.mem_append_right _ (List.mem_of_getElem? (i := 360) rfl)) rfl, gtb_in (List.mem_append_right _ (List.mem_of_getElem? (i := 4) (by decide +kernel))) rfl, by decide +kernel, by decide +kernel, by decide +kernel⟩
theorem okX6_firstFault : MokV mX6_firstFault 0 := ⟨moX6_firstFault, gtb_in (List.mem_append_right _ (List.mem_of_getElem? (i := 358) (by decide +kernel))) rfl, gtb_in (List.mem_append_right _ (List.mem_of_getElem? (i := 359) (by decide +kernel))) rfl⟩
abbrev mX6_size : MT := (yX6_size, cX6_size, 1, (some .int), 0, 0, shC)
set_option maxRecDepth 100000 in
theorem moX6_size : Mok mX6_size 0 := ⟨gtb_in (List.mem_append_right _ (List.mem_of_getElem? (i := 380) rfl)) rfl, gtb_in (List.mem_append_right _ (List.mem_of_getElem? (i := 4) (by decide +kernel))) rfl, by decide +kernel, by decide +kernel, by decide +kernel⟩
theorem okX6_size : MokV mX6_size 0 := ⟨moX6_size, gtb_in (List.mem_append_right _ (List.mem_of_getElem? (i := 378) (by decide +kernel))) rfl, gtb_in (List.mem_append_right _ (List.mem_of_getElem? (i := 379) (by decide +kernel))) rfl⟩
abbrev mX6_bends : MT := (yX6_bends, cX6_bends, 1, (some .int), 0, 0, shC)
set_option maxRecDepth 100000 in
theorem moX6_bends : Mok mX6_bends 0 := ⟨gtb_in (List.mem_append_right _ (List.mem_of_getElem? (i := 765) rfl)) rfl, gtb_in (List.mem_append_right _ (List.mem_of_getElem? (i := 4) (by decide +kernel))) rfl, by decide +kernel, by decide +kernel, by decide +kernel⟩
theorem okX6_bends : MokV mX6_bends 0 := ⟨moX6_bends, gtb_in (List.mem_append_right _ (List.mem_of_getElem? (i := 763) (by decide +kernel))) rfl, gtb_in (List.mem_append_right _ (List.mem_of_getElem? (i := 764) (by decide +kernel))) rfl⟩
abbrev mX6_steepAt : MT := (yX6_steepAt, cX6_steepAt, 3, (some .int), 1, 21, shC)
set_option maxRecDepth 100000 in
theorem moX6_steepAt : Mok mX6_steepAt 1 := ⟨gtb_in (List.mem_append_right _ (List.mem_of_getElem? (i := 264) rfl)) rfl, gtb_in (List.mem_append_right _ (List.mem_of_getElem? (i := 4) (by decide +kernel))) rfl, by decide +kernel, by decide +kernel, by decide +kernel⟩
theorem okX6_steepAt : MokV mX6_steepAt 1 := ⟨moX6_steepAt, gtb_in (List.mem_append_right _ (List.mem_of_getElem? (i := 262) (by decide +kernel))) rfl, gtb_in (List.mem_append_right _ (List.mem_of_getElem? (i := 263) (by decide +kernel))) rfl⟩
abbrev mX6_bendsAt : MT := (yX6_bendsAt, cX6_bendsAt, 2, (some .boolean), 0, 0, shC)
set_option maxRecDepth 100000 in
theorem moX6_bendsAt : Mok mX6_bendsAt 1 := ⟨gtb_in (List.mem_append_right _ (List.mem_of_getElem? (i := 388) rfl)) rfl, gtb_in (List.mem_append_right _ (List.mem_of_getElem? (i := 4) (by decide +kernel))) rfl, by decide +kernel, by decide +kernel, by decide +kernel⟩
theorem okX6_bendsAt : MokV mX6_bendsAt 1 := ⟨moX6_bendsAt, gtb_in (List.mem_append_right _ (List.mem_of_getElem? (i := 386) (by decide +kernel))) rfl, gtb_in (List.mem_append_right _ (List.mem_of_getElem? (i := 387) (by decide +kernel))) rfl⟩
abbrev mX7_size : MT := (yX7_size, cX7_size, 1, (some .int), 0, 0, shC)
set_option maxRecDepth 100000 in
theorem moX7_size : Mok mX7_size 0 := ⟨gtb_in (List.mem_append_right _ (List.mem_of_getElem? (i := 227) rfl)) rfl, gtb_in (List.mem_append_right _ (List.mem_of_getElem? (i := 2) (by decide +kernel))) rfl, by decide +kernel, by decide +kernel, by decide +kernel⟩
theorem okX7_size : MokV mX7_size 0 := ⟨moX7_size, gtb_in (List.mem_append_right _ (List.mem_of_getElem? (i := 225) (by decide +kernel))) rfl, gtb_in (List.mem_append_right _ (List.mem_of_getElem? (i := 226) (by decide +kernel))) rfl⟩
abbrev mX7_isFull : MT := (yX7_isFull, cX7_isFull, 1, (some .boolean), 0, 0, shC)
set_option maxRecDepth 100000 in
theorem moX7_isFull : Mok mX7_isFull 0 := ⟨gtb_in (List.mem_append_right _ (List.mem_of_getElem? (i := 329) rfl)) rfl, gtb_in (List.mem_append_right _ (List.mem_of_getElem? (i := 2) (by decide +kernel))) rfl, by decide +kernel, by decide +kernel, by decide +kernel⟩
theorem okX7_isFull : MokV mX7_isFull 0 := ⟨moX7_isFull, gtb_in (List.mem_append_right _ (List.mem_of_getElem? (i := 327) (by decide +kernel))) rfl, gtb_in (List.mem_append_right _ (List.mem_of_getElem? (i := 328) (by decide +kernel))) rfl⟩
abbrev mX7_byteAt : MT := (yX7_byteAt, cX7_byteAt, 2, (some .int), 0, 0, shC)
set_option maxRecDepth 100000 in
theorem moX7_byteAt : Mok mX7_byteAt 1 := ⟨gtb_in (List.mem_append_right _ (List.mem_of_getElem? (i := 231) rfl)) rfl, gtb_in (List.mem_append_right _ (List.mem_of_getElem? (i := 2) (by decide +kernel))) rfl, by decide +kernel, by decide +kernel, by decide +kernel⟩
theorem okX7_byteAt : MokV mX7_byteAt 1 := ⟨moX7_byteAt, gtb_in (List.mem_append_right _ (List.mem_of_getElem? (i := 229) (by decide +kernel))) rfl, gtb_in (List.mem_append_right _ (List.mem_of_getElem? (i := 230) (by decide +kernel))) rfl⟩
abbrev mX7_append : MT := (yX7_append, cX7_append, 2, none, 1, 20, shC)
set_option maxRecDepth 100000 in
theorem moX7_append : Mok mX7_append 1 := ⟨gtb_in (List.mem_append_right _ (List.mem_of_getElem? (i := 333) rfl)) rfl, gtb_in (List.mem_append_right _ (List.mem_of_getElem? (i := 2) (by decide +kernel))) rfl, by decide +kernel, by decide +kernel, by decide +kernel⟩
theorem okX7_append : MokV mX7_append 1 := ⟨moX7_append, gtb_in (List.mem_append_right _ (List.mem_of_getElem? (i := 331) (by decide +kernel))) rfl, gtb_in (List.mem_append_right _ (List.mem_of_getElem? (i := 332) (by decide +kernel))) rfl⟩
abbrev mX7_shorten : MT := (yX7_shorten, cX7_shorten, 2, none, 1, 21, shC)
set_option maxRecDepth 100000 in
theorem moX7_shorten : Mok mX7_shorten 1 := ⟨gtb_in (List.mem_append_right _ (List.mem_of_getElem? (i := 343) rfl)) rfl, gtb_in (List.mem_append_right _ (List.mem_of_getElem? (i := 2) (by decide +kernel))) rfl, by decide +kernel, by decide +kernel, by decide +kernel⟩
theorem okX7_shorten : MokV mX7_shorten 1 := ⟨moX7_shorten, gtb_in (List.mem_append_right _ (List.mem_of_getElem? (i := 341) (by decide +kernel))) rfl, gtb_in (List.mem_append_right _ (List.mem_of_getElem? (i := 342) (by decide +kernel))) rfl⟩
abbrev mX8_type : MT := (yX8_type, cX8_type, 4, (some .int), 4, 95, shC)
set_option maxRecDepth 100000 in
theorem moX8_type : Mok mX8_type 2 := ⟨gtb_in (List.mem_append_right _ (List.mem_of_getElem? (i := 321) rfl)) rfl, gtb_in (List.mem_append_right _ (List.mem_of_getElem? (i := 1) (by decide +kernel))) rfl, by decide +kernel, by decide +kernel, by decide +kernel⟩
theorem okX8_type : MokV mX8_type 2 := ⟨moX8_type, gtb_in (List.mem_append_right _ (List.mem_of_getElem? (i := 319) (by decide +kernel))) rfl, gtb_in (List.mem_append_right _ (List.mem_of_getElem? (i := 320) (by decide +kernel))) rfl⟩
abbrev mX8_wipe : MT := (yX8_wipe, cX8_wipe, 4, (some .int), 4, 95, shC)
set_option maxRecDepth 100000 in
theorem moX8_wipe : Mok mX8_wipe 1 := ⟨gtb_in (List.mem_append_right _ (List.mem_of_getElem? (i := 339) rfl)) rfl, gtb_in (List.mem_append_right _ (List.mem_of_getElem? (i := 1) (by decide +kernel))) rfl, by decide +kernel, by decide +kernel, by decide +kernel⟩
theorem okX8_wipe : MokV mX8_wipe 1 := ⟨moX8_wipe, gtb_in (List.mem_append_right _ (List.mem_of_getElem? (i := 337) (by decide +kernel))) rfl, gtb_in (List.mem_append_right _ (List.mem_of_getElem? (i := 338) (by decide +kernel))) rfl⟩
abbrev mX8_undo : MT := (yX8_undo, cX8_undo, 3, (some .int), 4, 95, shC)
set_option maxRecDepth 100000 in
theorem moX8_undo : Mok mX8_undo 1 := ⟨gtb_in (List.mem_append_right _ (List.mem_of_getElem? (i := 348) rfl)) rfl, gtb_in (List.mem_append_right _ (List.mem_of_getElem? (i := 1) (by decide +kernel))) rfl, by decide +kernel, by decide +kernel, by decide +kernel⟩
theorem okX8_undo : MokV mX8_undo 1 := ⟨moX8_undo, gtb_in (List.mem_append_right _ (List.mem_of_getElem? (i := 346) (by decide +kernel))) rfl, gtb_in (List.mem_append_right _ (List.mem_of_getElem? (i := 347) (by decide +kernel))) rfl⟩
abbrev mX8_fault : MT := (yX8_fault, cX8_fault, 2, (some .int), 1, 21, shC)
set_option maxRecDepth 100000 in
theorem moX8_fault : Mok mX8_fault 1 := ⟨gtb_in (List.mem_append_right _ (List.mem_of_getElem? (i := 352) rfl)) rfl, gtb_in (List.mem_append_right _ (List.mem_of_getElem? (i := 1) (by decide +kernel))) rfl, by decide +kernel, by decide +kernel, by decide +kernel⟩
theorem okX8_fault : MokV mX8_fault 1 := ⟨moX8_fault, gtb_in (List.mem_append_right _ (List.mem_of_getElem? (i := 350) (by decide +kernel))) rfl, gtb_in (List.mem_append_right _ (List.mem_of_getElem? (i := 351) (by decide +kernel))) rfl⟩
abbrev mX8_wagon : MT := (yX8_wagon, cX8_wagon, 2, (some .int), 1, 21, shC)
set_option maxRecDepth 100000 in
theorem moX8_wagon : Mok mX8_wagon 1 := ⟨gtb_in (List.mem_append_right _ (List.mem_of_getElem? (i := 364) rfl)) rfl, gtb_in (List.mem_append_right _ (List.mem_of_getElem? (i := 1) (by decide +kernel))) rfl, by decide +kernel, by decide +kernel, by decide +kernel⟩
theorem okX8_wagon : MokV mX8_wagon 1 := ⟨moX8_wagon, gtb_in (List.mem_append_right _ (List.mem_of_getElem? (i := 362) (by decide +kernel))) rfl, gtb_in (List.mem_append_right _ (List.mem_of_getElem? (i := 363) (by decide +kernel))) rfl⟩
abbrev mX8_hill : MT := (yX8_hill, cX8_hill, 3, (some .int), 2, 43, shC)
set_option maxRecDepth 100000 in
theorem moX8_hill : Mok mX8_hill 2 := ⟨gtb_in (List.mem_append_right _ (List.mem_of_getElem? (i := 376) rfl)) rfl, gtb_in (List.mem_append_right _ (List.mem_of_getElem? (i := 1) (by decide +kernel))) rfl, by decide +kernel, by decide +kernel, by decide +kernel⟩
theorem okX8_hill : MokV mX8_hill 2 := ⟨moX8_hill, gtb_in (List.mem_append_right _ (List.mem_of_getElem? (i := 374) (by decide +kernel))) rfl, gtb_in (List.mem_append_right _ (List.mem_of_getElem? (i := 375) (by decide +kernel))) rfl⟩
abbrev mX8_engine : MT := (yX8_engine, cX8_engine, 5, (some .int), 4, 95, shC)
set_option maxRecDepth 100000 in
theorem moX8_engine : Mok mX8_engine 3 := ⟨gtb_in (List.mem_append_right _ (List.mem_of_getElem? (i := 392) rfl)) rfl, gtb_in (List.mem_append_right _ (List.mem_of_getElem? (i := 1) (by decide +kernel))) rfl, by decide +kernel, by decide +kernel, by decide +kernel⟩
theorem okX8_engine : MokV mX8_engine 3 := ⟨moX8_engine, gtb_in (List.mem_append_right _ (List.mem_of_getElem? (i := 390) (by decide +kernel))) rfl, gtb_in (List.mem_append_right _ (List.mem_of_getElem? (i := 391) (by decide +kernel))) rfl⟩
abbrev mX8_set : MT := (yX8_set, cX8_set, 4, (some .int), 4, 95, shC)
set_option maxRecDepth 100000 in
theorem moX8_set : Mok mX8_set 2 := ⟨gtb_in (List.mem_append_right _ (List.mem_of_getElem? (i := 413) rfl)) rfl, gtb_in (List.mem_append_right _ (List.mem_of_getElem? (i := 1) (by decide +kernel))) rfl, by decide +kernel, by decide +kernel, by decide +kernel⟩
theorem okX8_set : MokV mX8_set 2 := ⟨moX8_set, gtb_in (List.mem_append_right _ (List.mem_of_getElem? (i := 411) (by decide +kernel))) rfl, gtb_in (List.mem_append_right _ (List.mem_of_getElem? (i := 412) (by decide +kernel))) rfl⟩
abbrev mX8_gives : MT := (yX8_gives, cX8_gives, 3, (some .int), 1, 22, shC)
set_option maxRecDepth 100000 in
theorem moX8_gives : Mok mX8_gives 2 := ⟨gtb_in (List.mem_append_right _ (List.mem_of_getElem? (i := 417) rfl)) rfl, gtb_in (List.mem_append_right _ (List.mem_of_getElem? (i := 1) (by decide +kernel))) rfl, by decide +kernel, by decide +kernel, by decide +kernel⟩
theorem okX8_gives : MokV mX8_gives 2 := ⟨moX8_gives, gtb_in (List.mem_append_right _ (List.mem_of_getElem? (i := 415) (by decide +kernel))) rfl, gtb_in (List.mem_append_right _ (List.mem_of_getElem? (i := 416) (by decide +kernel))) rfl⟩
abbrev mX8_minute : MT := (yX8_minute, cX8_minute, 4, (some .int), 1, 21, shC)
set_option maxRecDepth 100000 in
theorem moX8_minute : Mok mX8_minute 2 := ⟨gtb_in (List.mem_append_right _ (List.mem_of_getElem? (i := 428) rfl)) rfl, gtb_in (List.mem_append_right _ (List.mem_of_getElem? (i := 1) (by decide +kernel))) rfl, by decide +kernel, by decide +kernel, by decide +kernel⟩
theorem okX8_minute : MokV mX8_minute 2 := ⟨moX8_minute, gtb_in (List.mem_append_right _ (List.mem_of_getElem? (i := 426) (by decide +kernel))) rfl, gtb_in (List.mem_append_right _ (List.mem_of_getElem? (i := 427) (by decide +kernel))) rfl⟩
abbrev mX8_strain : MT := (yX8_strain, cX8_strain, 5, (some .long), 2, 56, shC)
set_option maxRecDepth 100000 in
theorem moX8_strain : Mok mX8_strain 3 := ⟨gtb_in (List.mem_append_right _ (List.mem_of_getElem? (i := 444) rfl)) rfl, gtb_in (List.mem_append_right _ (List.mem_of_getElem? (i := 1) (by decide +kernel))) rfl, by decide +kernel, by decide +kernel, by decide +kernel⟩
theorem okX8_strain : MokV mX8_strain 3 := ⟨moX8_strain, gtb_in (List.mem_append_right _ (List.mem_of_getElem? (i := 442) (by decide +kernel))) rfl, gtb_in (List.mem_append_right _ (List.mem_of_getElem? (i := 443) (by decide +kernel))) rfl⟩
abbrev mX8_slack : MT := (yX8_slack, cX8_slack, 2, (some .int), 2, 47, shC)
set_option maxRecDepth 100000 in
theorem moX8_slack : Mok mX8_slack 1 := ⟨gtb_in (List.mem_append_right _ (List.mem_of_getElem? (i := 465) rfl)) rfl, gtb_in (List.mem_append_right _ (List.mem_of_getElem? (i := 1) (by decide +kernel))) rfl, by decide +kernel, by decide +kernel, by decide +kernel⟩
theorem okX8_slack : MokV mX8_slack 1 := ⟨moX8_slack, gtb_in (List.mem_append_right _ (List.mem_of_getElem? (i := 463) (by decide +kernel))) rfl, gtb_in (List.mem_append_right _ (List.mem_of_getElem? (i := 464) (by decide +kernel))) rfl⟩
abbrev mX8_torn : MT := (yX8_torn, cX8_torn, 3, (some .int), 2, 48, shC)
set_option maxRecDepth 100000 in
theorem moX8_torn : Mok mX8_torn 0 := ⟨gtb_in (List.mem_append_right _ (List.mem_of_getElem? (i := 474) rfl)) rfl, gtb_in (List.mem_append_right _ (List.mem_of_getElem? (i := 1) (by decide +kernel))) rfl, by decide +kernel, by decide +kernel, by decide +kernel⟩
theorem okX8_torn : MokV mX8_torn 0 := ⟨moX8_torn, gtb_in (List.mem_append_right _ (List.mem_of_getElem? (i := 472) (by decide +kernel))) rfl, gtb_in (List.mem_append_right _ (List.mem_of_getElem? (i := 473) (by decide +kernel))) rfl⟩
abbrev mX8_off : MT := (yX8_off, cX8_off, 4, (some .int), 3, 72, shC)
set_option maxRecDepth 100000 in
theorem moX8_off : Mok mX8_off 1 := ⟨gtb_in (List.mem_append_right _ (List.mem_of_getElem? (i := 482) rfl)) rfl, gtb_in (List.mem_append_right _ (List.mem_of_getElem? (i := 1) (by decide +kernel))) rfl, by decide +kernel, by decide +kernel, by decide +kernel⟩
theorem okX8_off : MokV mX8_off 1 := ⟨moX8_off, gtb_in (List.mem_append_right _ (List.mem_of_getElem? (i := 480) (by decide +kernel))) rfl, gtb_in (List.mem_append_right _ (List.mem_of_getElem? (i := 481) (by decide +kernel))) rfl⟩
abbrev mX8_over : MT := (yX8_over, cX8_over, 2, (some .int), 1, 21, shC)
set_option maxRecDepth 100000 in
theorem moX8_over : Mok mX8_over 0 := ⟨gtb_in (List.mem_append_right _ (List.mem_of_getElem? (i := 495) rfl)) rfl, gtb_in (List.mem_append_right _ (List.mem_of_getElem? (i := 1) (by decide +kernel))) rfl, by decide +kernel, by decide +kernel, by decide +kernel⟩
theorem okX8_over : MokV mX8_over 0 := ⟨moX8_over, gtb_in (List.mem_append_right _ (List.mem_of_getElem? (i := 493) (by decide +kernel))) rfl, gtb_in (List.mem_append_right _ (List.mem_of_getElem? (i := 494) (by decide +kernel))) rfl⟩
abbrev mX8_settles : MT := (yX8_settles, cX8_settles, 3, (some .int), 2, 44, shC)
set_option maxRecDepth 100000 in
theorem moX8_settles : Mok mX8_settles 0 := ⟨gtb_in (List.mem_append_right _ (List.mem_of_getElem? (i := 499) rfl)) rfl, gtb_in (List.mem_append_right _ (List.mem_of_getElem? (i := 1) (by decide +kernel))) rfl, by decide +kernel, by decide +kernel, by decide +kernel⟩
theorem okX8_settles : MokV mX8_settles 0 := ⟨moX8_settles, gtb_in (List.mem_append_right _ (List.mem_of_getElem? (i := 497) (by decide +kernel))) rfl, gtb_in (List.mem_append_right _ (List.mem_of_getElem? (i := 498) (by decide +kernel))) rfl⟩
abbrev mX8_swings : MT := (yX8_swings, cX8_swings, 2, (some .int), 3, 66, shC)
set_option maxRecDepth 100000 in
theorem moX8_swings : Mok mX8_swings 0 := ⟨gtb_in (List.mem_append_right _ (List.mem_of_getElem? (i := 508) rfl)) rfl, gtb_in (List.mem_append_right _ (List.mem_of_getElem? (i := 1) (by decide +kernel))) rfl, by decide +kernel, by decide +kernel, by decide +kernel⟩
theorem okX8_swings : MokV mX8_swings 0 := ⟨moX8_swings, gtb_in (List.mem_append_right _ (List.mem_of_getElem? (i := 506) (by decide +kernel))) rfl, gtb_in (List.mem_append_right _ (List.mem_of_getElem? (i := 507) (by decide +kernel))) rfl⟩
abbrev mX8_does : MT := (yX8_does, cX8_does, 4, (some .int), 2, 56, shC)
set_option maxRecDepth 100000 in
theorem moX8_does : Mok mX8_does 1 := ⟨gtb_in (List.mem_append_right _ (List.mem_of_getElem? (i := 517) rfl)) rfl, gtb_in (List.mem_append_right _ (List.mem_of_getElem? (i := 1) (by decide +kernel))) rfl, by decide +kernel, by decide +kernel, by decide +kernel⟩
theorem okX8_does : MokV mX8_does 1 := ⟨moX8_does, gtb_in (List.mem_append_right _ (List.mem_of_getElem? (i := 515) (by decide +kernel))) rfl, gtb_in (List.mem_append_right _ (List.mem_of_getElem? (i := 516) (by decide +kernel))) rfl⟩
abbrev mX8_start : MT := (yX8_start, cX8_start, 3, (some .int), 3, 75, shC)
set_option maxRecDepth 100000 in
theorem moX8_start : Mok mX8_start 2 := ⟨gtb_in (List.mem_append_right _ (List.mem_of_getElem? (i := 525) rfl)) rfl, gtb_in (List.mem_append_right _ (List.mem_of_getElem? (i := 1) (by decide +kernel))) rfl, by decide +kernel, by decide +kernel, by decide +kernel⟩
theorem okX8_start : MokV mX8_start 2 := ⟨moX8_start, gtb_in (List.mem_append_right _ (List.mem_of_getElem? (i := 523) (by decide +kernel))) rfl, gtb_in (List.mem_append_right _ (List.mem_of_getElem? (i := 524) (by decide +kernel))) rfl⟩
abbrev mX8_safe : MT := (yX8_safe, cX8_safe, 5, (some .int), 3, 75, shC)
set_option maxRecDepth 100000 in
theorem moX8_safe : Mok mX8_safe 1 := ⟨gtb_in (List.mem_append_right _ (List.mem_of_getElem? (i := 536) rfl)) rfl, gtb_in (List.mem_append_right _ (List.mem_of_getElem? (i := 1) (by decide +kernel))) rfl, by decide +kernel, by decide +kernel, by decide +kernel⟩
theorem okX8_safe : MokV mX8_safe 1 := ⟨moX8_safe, gtb_in (List.mem_append_right _ (List.mem_of_getElem? (i := 534) (by decide +kernel))) rfl, gtb_in (List.mem_append_right _ (List.mem_of_getElem? (i := 535) (by decide +kernel))) rfl⟩
abbrev mX8_order : MT := (yX8_order, cX8_order, 2, (some .int), 4, 93, shC)
set_option maxRecDepth 100000 in
theorem moX8_order : Mok mX8_order 1 := ⟨gtb_in (List.mem_append_right _ (List.mem_of_getElem? (i := 540) rfl)) rfl, gtb_in (List.mem_append_right _ (List.mem_of_getElem? (i := 1) (by decide +kernel))) rfl, by decide +kernel, by decide +kernel, by decide +kernel⟩
theorem okX8_order : MokV mX8_order 1 := ⟨moX8_order, gtb_in (List.mem_append_right _ (List.mem_of_getElem? (i := 538) (by decide +kernel))) rfl, gtb_in (List.mem_append_right _ (List.mem_of_getElem? (i := 539) (by decide +kernel))) rfl⟩
abbrev mX8_squeeze : MT := (yX8_squeeze, cX8_squeeze, 2, (some .int), 4, 93, shC)
set_option maxRecDepth 100000 in
theorem moX8_squeeze : Mok mX8_squeeze 1 := ⟨gtb_in (List.mem_append_right _ (List.mem_of_getElem? (i := 583) rfl)) rfl, gtb_in (List.mem_append_right _ (List.mem_of_getElem? (i := 1) (by decide +kernel))) rfl, by decide +kernel, by decide +kernel, by decide +kernel⟩
theorem okX8_squeeze : MokV mX8_squeeze 1 := ⟨moX8_squeeze, gtb_in (List.mem_append_right _ (List.mem_of_getElem? (i := 581) (by decide +kernel))) rfl, gtb_in (List.mem_append_right _ (List.mem_of_getElem? (i := 582) (by decide +kernel))) rfl⟩
abbrev mX8_train : MT := (yX8_train, cX8_train, 2, (some .int), 1, 21, shC)
set_option maxRecDepth 100000 in
theorem moX8_train : Mok mX8_train 1 := ⟨gtb_in (List.mem_append_right _ (List.mem_of_getElem? (i := 595) rfl)) rfl, gtb_in (List.mem_append_right _ (List.mem_of_getElem? (i := 1) (by decide +kernel))) rfl, by decide +kernel, by decide +kernel, by decide +kernel⟩
theorem okX8_train : MokV mX8_train 1 := ⟨moX8_train, gtb_in (List.mem_append_right _ (List.mem_of_getElem? (i := 593) (by decide +kernel))) rfl, gtb_in (List.mem_append_right _ (List.mem_of_getElem? (i := 594) (by decide +kernel))) rfl⟩
abbrev mX8_back : MT := (yX8_back, cX8_back, 1, (some .int), 2, 41, shC)
set_option maxRecDepth 100000 in
theorem moX8_back : Mok mX8_back 0 := ⟨gtb_in (List.mem_append_right _ (List.mem_of_getElem? (i := 614) rfl)) rfl, gtb_in (List.mem_append_right _ (List.mem_of_getElem? (i := 1) (by decide +kernel))) rfl, by decide +kernel, by decide +kernel, by decide +kernel⟩
theorem okX8_back : MokV mX8_back 0 := ⟨moX8_back, gtb_in (List.mem_append_right _ (List.mem_of_getElem? (i := 612) (by decide +kernel))) rfl, gtb_in (List.mem_append_right _ (List.mem_of_getElem? (i := 613) (by decide +kernel))) rfl⟩
abbrev mX8_read : MT := (yX8_read, cX8_read, 4, (some .int), 1, 21, shC)
set_option maxRecDepth 100000 in
theorem moX8_read : Mok mX8_read 1 := ⟨gtb_in (List.mem_append_right _ (List.mem_of_getElem? (i := 623) rfl)) rfl, gtb_in (List.mem_append_right _ (List.mem_of_getElem? (i := 1) (by decide +kernel))) rfl, by decide +kernel, by decide +kernel, by decide +kernel⟩
theorem okX8_read : MokV mX8_read 1 := ⟨moX8_read, gtb_in (List.mem_append_right _ (List.mem_of_getElem? (i := 621) (by decide +kernel))) rfl, gtb_in (List.mem_append_right _ (List.mem_of_getElem? (i := 622) (by decide +kernel))) rfl⟩
abbrev mX8_late : MT := (yX8_late, cX8_late, 3, (some .int), 2, 48, shC)
set_option maxRecDepth 100000 in
theorem moX8_late : Mok mX8_late 2 := ⟨gtb_in (List.mem_append_right _ (List.mem_of_getElem? (i := 647) rfl)) rfl, gtb_in (List.mem_append_right _ (List.mem_of_getElem? (i := 1) (by decide +kernel))) rfl, by decide +kernel, by decide +kernel, by decide +kernel⟩
theorem okX8_late : MokV mX8_late 2 := ⟨moX8_late, gtb_in (List.mem_append_right _ (List.mem_of_getElem? (i := 645) (by decide +kernel))) rfl, gtb_in (List.mem_append_right _ (List.mem_of_getElem? (i := 646) (by decide +kernel))) rfl⟩
abbrev mX8_enough : MT := (yX8_enough, cX8_enough, 3, (some .int), 2, 48, shC)
set_option maxRecDepth 100000 in
theorem moX8_enough : Mok mX8_enough 1 := ⟨gtb_in (List.mem_append_right _ (List.mem_of_getElem? (i := 675) rfl)) rfl, gtb_in (List.mem_append_right _ (List.mem_of_getElem? (i := 1) (by decide +kernel))) rfl, by decide +kernel, by decide +kernel, by decide +kernel⟩
theorem okX8_enough : MokV mX8_enough 1 := ⟨moX8_enough, gtb_in (List.mem_append_right _ (List.mem_of_getElem? (i := 673) (by decide +kernel))) rfl, gtb_in (List.mem_append_right _ (List.mem_of_getElem? (i := 674) (by decide +kernel))) rfl⟩
abbrev mX8_whistles : MT := (yX8_whistles, cX8_whistles, 10, (some .long), 2, 56, shC)
set_option maxRecDepth 100000 in
theorem moX8_whistles : Mok mX8_whistles 4 := ⟨gtb_in (List.mem_append_right _ (List.mem_of_getElem? (i := 679) rfl)) rfl, gtb_in (List.mem_append_right _ (List.mem_of_getElem? (i := 1) (by decide +kernel))) rfl, by decide +kernel, by decide +kernel, by decide +kernel⟩
theorem okX8_whistles : MokV mX8_whistles 4 := ⟨moX8_whistles, gtb_in (List.mem_append_right _ (List.mem_of_getElem? (i := 677) (by decide +kernel))) rfl, gtb_in (List.mem_append_right _ (List.mem_of_getElem? (i := 678) (by decide +kernel))) rfl⟩
abbrev mX8_words : MT := (yX8_words, cX8_words, 2, (some .int), 0, 0, shC)
set_option maxRecDepth 100000 in
theorem moX8_words : Mok mX8_words 1 := ⟨gtb_in (List.mem_append_right _ (List.mem_of_getElem? (i := 689) rfl)) rfl, gtb_in (List.mem_append_right _ (List.mem_of_getElem? (i := 1) (by decide +kernel))) rfl, by decide +kernel, by decide +kernel, by decide +kernel⟩
theorem okX8_words : MokV mX8_words 1 := ⟨moX8_words, gtb_in (List.mem_append_right _ (List.mem_of_getElem? (i := 687) (by decide +kernel))) rfl, gtb_in (List.mem_append_right _ (List.mem_of_getElem? (i := 688) (by decide +kernel))) rfl⟩
abbrev mX8_sheet : MT := (yX8_sheet, cX8_sheet, 5, (some .int), 2, 44, shC)
set_option maxRecDepth 100000 in
theorem moX8_sheet : Mok mX8_sheet 3 := ⟨gtb_in (List.mem_append_right _ (List.mem_of_getElem? (i := 693) rfl)) rfl, gtb_in (List.mem_append_right _ (List.mem_of_getElem? (i := 1) (by decide +kernel))) rfl, by decide +kernel, by decide +kernel, by decide +kernel⟩
theorem okX8_sheet : MokV mX8_sheet 3 := ⟨moX8_sheet, gtb_in (List.mem_append_right _ (List.mem_of_getElem? (i := 691) (by decide +kernel))) rfl, gtb_in (List.mem_append_right _ (List.mem_of_getElem? (i := 692) (by decide +kernel))) rfl⟩
abbrev mX8_lose : MT := (yX8_lose, cX8_lose, 4, (some .int), 1, 21, shC)
set_option maxRecDepth 100000 in
theorem moX8_lose : Mok mX8_lose 1 := ⟨gtb_in (List.mem_append_right _ (List.mem_of_getElem? (i := 706) rfl)) rfl, gtb_in (List.mem_append_right _ (List.mem_of_getElem? (i := 1) (by decide +kernel))) rfl, by decide +kernel, by decide +kernel, by decide +kernel⟩
theorem okX8_lose : MokV mX8_lose 1 := ⟨moX8_lose, gtb_in (List.mem_append_right _ (List.mem_of_getElem? (i := 704) (by decide +kernel))) rfl, gtb_in (List.mem_append_right _ (List.mem_of_getElem? (i := 705) (by decide +kernel))) rfl⟩
abbrev mX8_lay : MT := (yX8_lay, cX8_lay, 7, (some .int), 2, 44, shC)
set_option maxRecDepth 100000 in
theorem moX8_lay : Mok mX8_lay 4 := ⟨gtb_in (List.mem_append_right _ (List.mem_of_getElem? (i := 714) rfl)) rfl, gtb_in (List.mem_append_right _ (List.mem_of_getElem? (i := 1) (by decide +kernel))) rfl, by decide +kernel, by decide +kernel, by decide +kernel⟩
theorem okX8_lay : MokV mX8_lay 4 := ⟨moX8_lay, gtb_in (List.mem_append_right _ (List.mem_of_getElem? (i := 712) (by decide +kernel))) rfl, gtb_in (List.mem_append_right _ (List.mem_of_getElem? (i := 713) (by decide +kernel))) rfl⟩
abbrev mX8_get : MT := (yX8_get, cX8_get, 6, (some .int), 2, 44, shC)
set_option maxRecDepth 100000 in
theorem moX8_get : Mok mX8_get 3 := ⟨gtb_in (List.mem_append_right _ (List.mem_of_getElem? (i := 737) rfl)) rfl, gtb_in (List.mem_append_right _ (List.mem_of_getElem? (i := 1) (by decide +kernel))) rfl, by decide +kernel, by decide +kernel, by decide +kernel⟩
theorem okX8_get : MokV mX8_get 3 := ⟨moX8_get, gtb_in (List.mem_append_right _ (List.mem_of_getElem? (i := 735) (by decide +kernel))) rfl, gtb_in (List.mem_append_right _ (List.mem_of_getElem? (i := 736) (by decide +kernel))) rfl⟩
abbrev mX8_copy : MT := (yX8_copy, cX8_copy, 8, (some .int), 2, 52, shC)
set_option maxRecDepth 100000 in
theorem moX8_copy : Mok mX8_copy 5 := ⟨gtb_in (List.mem_append_right _ (List.mem_of_getElem? (i := 742) rfl)) rfl, gtb_in (List.mem_append_right _ (List.mem_of_getElem? (i := 1) (by decide +kernel))) rfl, by decide +kernel, by decide +kernel, by decide +kernel⟩
theorem okX8_copy : MokV mX8_copy 5 := ⟨moX8_copy, gtb_in (List.mem_append_right _ (List.mem_of_getElem? (i := 740) (by decide +kernel))) rfl, gtb_in (List.mem_append_right _ (List.mem_of_getElem? (i := 741) (by decide +kernel))) rfl⟩
abbrev mX8_write : MT := (yX8_write, cX8_write, 6, (some .int), 2, 43, shC)
set_option maxRecDepth 100000 in
theorem moX8_write : Mok mX8_write 2 := ⟨gtb_in (List.mem_append_right _ (List.mem_of_getElem? (i := 756) rfl)) rfl, gtb_in (List.mem_append_right _ (List.mem_of_getElem? (i := 1) (by decide +kernel))) rfl, by decide +kernel, by decide +kernel, by decide +kernel⟩
theorem okX8_write : MokV mX8_write 2 := ⟨moX8_write, gtb_in (List.mem_append_right _ (List.mem_of_getElem? (i := 754) (by decide +kernel))) rfl, gtb_in (List.mem_append_right _ (List.mem_of_getElem? (i := 755) (by decide +kernel))) rfl⟩
abbrev mX8_count : MT := (yX8_count, cX8_count, 2, (some .int), 1, 21, shC)
set_option maxRecDepth 100000 in
theorem moX8_count : Mok mX8_count 1 := ⟨gtb_in (List.mem_append_right _ (List.mem_of_getElem? (i := 761) rfl)) rfl, gtb_in (List.mem_append_right _ (List.mem_of_getElem? (i := 1) (by decide +kernel))) rfl, by decide +kernel, by decide +kernel, by decide +kernel⟩
theorem okX8_count : MokV mX8_count 1 := ⟨moX8_count, gtb_in (List.mem_append_right _ (List.mem_of_getElem? (i := 759) (by decide +kernel))) rfl, gtb_in (List.mem_append_right _ (List.mem_of_getElem? (i := 760) (by decide +kernel))) rfl⟩
abbrev mX8_digest : MT := (yX8_digest, cX8_digest, 4, (some .long), 6, 138, shC)
set_option maxRecDepth 100000 in
theorem moX8_digest : Mok mX8_digest 0 := ⟨gtb_in (List.mem_append_right _ (List.mem_of_getElem? (i := 769) rfl)) rfl, gtb_in (List.mem_append_right _ (List.mem_of_getElem? (i := 1) (by decide +kernel))) rfl, by decide +kernel, by decide +kernel, by decide +kernel⟩
theorem okX8_digest : MokV mX8_digest 0 := ⟨moX8_digest, gtb_in (List.mem_append_right _ (List.mem_of_getElem? (i := 767) (by decide +kernel))) rfl, gtb_in (List.mem_append_right _ (List.mem_of_getElem? (i := 768) (by decide +kernel))) rfl⟩
abbrev mX8_mixedWagons : MT := (yX8_mixedWagons, cX8_mixedWagons, 6, (some .long), 3, 80, shC)
set_option maxRecDepth 100000 in
theorem moX8_mixedWagons : Mok mX8_mixedWagons 1 := ⟨gtb_in (List.mem_append_right _ (List.mem_of_getElem? (i := 780) rfl)) rfl, gtb_in (List.mem_append_right _ (List.mem_of_getElem? (i := 1) (by decide +kernel))) rfl, by decide +kernel, by decide +kernel, by decide +kernel⟩
theorem okX8_mixedWagons : MokV mX8_mixedWagons 1 := ⟨moX8_mixedWagons, gtb_in (List.mem_append_right _ (List.mem_of_getElem? (i := 779) (by decide +kernel))) rfl, gtb_in (List.mem_append_left _ (List.mem_of_getElem? (i := 20) (by decide +kernel))) rfl⟩
abbrev mX8_mixedHill : MT := (yX8_mixedHill, cX8_mixedHill, 6, (some .long), 3, 65, shC)
set_option maxRecDepth 100000 in
theorem moX8_mixedHill : Mok mX8_mixedHill 1 := ⟨gtb_in (List.mem_append_right _ (List.mem_of_getElem? (i := 786) rfl)) rfl, gtb_in (List.mem_append_right _ (List.mem_of_getElem? (i := 1) (by decide +kernel))) rfl, by decide +kernel, by decide +kernel, by decide +kernel⟩
theorem okX8_mixedHill : MokV mX8_mixedHill 1 := ⟨moX8_mixedHill, gtb_in (List.mem_append_right _ (List.mem_of_getElem? (i := 785) (by decide +kernel))) rfl, gtb_in (List.mem_append_left _ (List.mem_of_getElem? (i := 21) (by decide +kernel))) rfl⟩
abbrev mX8_mixedMinutes : MT := (yX8_mixedMinutes, cX8_mixedMinutes, 9, (some .long), 3, 68, shC)
set_option maxRecDepth 100000 in
theorem moX8_mixedMinutes : Mok mX8_mixedMinutes 1 := ⟨gtb_in (List.mem_append_right _ (List.mem_of_getElem? (i := 791) rfl)) rfl, gtb_in (List.mem_append_right _ (List.mem_of_getElem? (i := 1) (by decide +kernel))) rfl, by decide +kernel, by decide +kernel, by decide +kernel⟩
theorem okX8_mixedMinutes : MokV mX8_mixedMinutes 1 := ⟨moX8_mixedMinutes, gtb_in (List.mem_append_right _ (List.mem_of_getElem? (i := 790) (by decide +kernel))) rfl, gtb_in (List.mem_append_left _ (List.mem_of_getElem? (i := 22) (by decide +kernel))) rfl⟩
abbrev mX8_mixedOutcomes : MT := (yX8_mixedOutcomes, cX8_mixedOutcomes, 5, (some .long), 4, 95, shC)
set_option maxRecDepth 100000 in
theorem moX8_mixedOutcomes : Mok mX8_mixedOutcomes 1 := ⟨gtb_in (List.mem_append_right _ (List.mem_of_getElem? (i := 800) rfl)) rfl, gtb_in (List.mem_append_right _ (List.mem_of_getElem? (i := 1) (by decide +kernel))) rfl, by decide +kernel, by decide +kernel, by decide +kernel⟩
theorem okX8_mixedOutcomes : MokV mX8_mixedOutcomes 1 := ⟨moX8_mixedOutcomes, gtb_in (List.mem_append_right _ (List.mem_of_getElem? (i := 799) (by decide +kernel))) rfl, gtb_in (List.mem_append_left _ (List.mem_of_getElem? (i := 23) (by decide +kernel))) rfl⟩
abbrev mX8_mixedStarts : MT := (yX8_mixedStarts, cX8_mixedStarts, 5, (some .long), 5, 114, shC)
set_option maxRecDepth 100000 in
theorem moX8_mixedStarts : Mok mX8_mixedStarts 1 := ⟨gtb_in (List.mem_append_right _ (List.mem_of_getElem? (i := 810) rfl)) rfl, gtb_in (List.mem_append_right _ (List.mem_of_getElem? (i := 1) (by decide +kernel))) rfl, by decide +kernel, by decide +kernel, by decide +kernel⟩
theorem okX8_mixedStarts : MokV mX8_mixedStarts 1 := ⟨moX8_mixedStarts, gtb_in (List.mem_append_right _ (List.mem_of_getElem? (i := 809) (by decide +kernel))) rfl, gtb_in (List.mem_append_left _ (List.mem_of_getElem? (i := 24) (by decide +kernel))) rfl⟩
abbrev mX8_mixedDay : MT := (yX8_mixedDay, cX8_mixedDay, 6, (some .long), 3, 85, shC)
set_option maxRecDepth 100000 in
theorem moX8_mixedDay : Mok mX8_mixedDay 1 := ⟨gtb_in (List.mem_append_right _ (List.mem_of_getElem? (i := 818) rfl)) rfl, gtb_in (List.mem_append_right _ (List.mem_of_getElem? (i := 1) (by decide +kernel))) rfl, by decide +kernel, by decide +kernel, by decide +kernel⟩
theorem okX8_mixedDay : MokV mX8_mixedDay 1 := ⟨moX8_mixedDay, gtb_in (List.mem_append_right _ (List.mem_of_getElem? (i := 817) (by decide +kernel))) rfl, gtb_in (List.mem_append_left _ (List.mem_of_getElem? (i := 25) (by decide +kernel))) rfl⟩
abbrev mX8_mixed : MT := (yX8_mixed, cX8_mixed, 4, (some .long), 0, 0, shC)
set_option maxRecDepth 100000 in
theorem moX8_mixed : Mok mX8_mixed 2 := ⟨gtb_in (List.mem_append_right _ (List.mem_of_getElem? (i := 774) rfl)) rfl, gtb_in (List.mem_append_right _ (List.mem_of_getElem? (i := 1) (by decide +kernel))) rfl, by decide +kernel, by decide +kernel, by decide +kernel⟩
theorem okX8_mixed : MokS mX8_mixed 2 := ⟨moX8_mixed, gtb_in (List.mem_append_right _ (List.mem_of_getElem? (i := 773) (by decide +kernel))) rfl⟩
abbrev mX8_refresh : MT := (yX8_refresh, cX8_refresh, 1, none, 3, 75, shC)
set_option maxRecDepth 100000 in
theorem moX8_refresh : Mok mX8_refresh 0 := ⟨gtb_in (List.mem_append_right _ (List.mem_of_getElem? (i := 216) rfl)) rfl, gtb_in (List.mem_append_right _ (List.mem_of_getElem? (i := 1) (by decide +kernel))) rfl, by decide +kernel, by decide +kernel, by decide +kernel⟩
theorem okX8_refresh : MokV mX8_refresh 0 := ⟨moX8_refresh, gtb_in (List.mem_append_right _ (List.mem_of_getElem? (i := 215) (by decide +kernel))) rfl, gtb_in (List.mem_append_left _ (List.mem_of_getElem? (i := 0) (by decide +kernel))) rfl⟩
abbrev mX8_findBestRow : MT := (yX8_findBestRow, cX8_findBestRow, 1, none, 3, 73, shC)
set_option maxRecDepth 100000 in
theorem moX8_findBestRow : Mok mX8_findBestRow 0 := ⟨gtb_in (List.mem_append_right _ (List.mem_of_getElem? (i := 544) rfl)) rfl, gtb_in (List.mem_append_right _ (List.mem_of_getElem? (i := 1) (by decide +kernel))) rfl, by decide +kernel, by decide +kernel, by decide +kernel⟩
theorem okX8_findBestRow : MokV mX8_findBestRow 0 := ⟨moX8_findBestRow, gtb_in (List.mem_append_right _ (List.mem_of_getElem? (i := 543) (by decide +kernel))) rfl, gtb_in (List.mem_append_left _ (List.mem_of_getElem? (i := 8) (by decide +kernel))) rfl⟩
abbrev mX8_squeezedOffIn : MT := (yX8_squeezedOffIn, cX8_squeezedOffIn, 2, (some .int), 2, 51, shC)
set_option maxRecDepth 100000 in
theorem moX8_squeezedOffIn : Mok mX8_squeezedOffIn 1 := ⟨gtb_in (List.mem_append_right _ (List.mem_of_getElem? (i := 486) rfl)) rfl, gtb_in (List.mem_append_right _ (List.mem_of_getElem? (i := 1) (by decide +kernel))) rfl, by decide +kernel, by decide +kernel, by decide +kernel⟩
theorem okX8_squeezedOffIn : MokV mX8_squeezedOffIn 1 := ⟨moX8_squeezedOffIn, gtb_in (List.mem_append_right _ (List.mem_of_getElem? (i := 485) (by decide +kernel))) rfl, gtb_in (List.mem_append_left _ (List.mem_of_getElem? (i := 6) (by decide +kernel))) rfl⟩
abbrev mX8_startOf : MT := (yX8_startOf, cX8_startOf, 5, (some .int), 2, 51, shC)
set_option maxRecDepth 100000 in
theorem moX8_startOf : Mok mX8_startOf 2 := ⟨gtb_in (List.mem_append_right _ (List.mem_of_getElem? (i := 532) rfl)) rfl, gtb_in (List.mem_append_right _ (List.mem_of_getElem? (i := 1) (by decide +kernel))) rfl, by decide +kernel, by decide +kernel, by decide +kernel⟩
theorem okX8_startOf : MokV mX8_startOf 2 := ⟨moX8_startOf, gtb_in (List.mem_append_right _ (List.mem_of_getElem? (i := 531) (by decide +kernel))) rfl, gtb_in (List.mem_append_left _ (List.mem_of_getElem? (i := 7) (by decide +kernel))) rfl⟩
abbrev mX8_busyMinutes : MT := (yX8_busyMinutes, cX8_busyMinutes, 1, (some .int), 1, 21, shC)
set_option maxRecDepth 100000 in
theorem moX8_busyMinutes : Mok mX8_busyMinutes 0 := ⟨gtb_in (List.mem_append_right _ (List.mem_of_getElem? (i := 651) rfl)) rfl, gtb_in (List.mem_append_right _ (List.mem_of_getElem? (i := 1) (by decide +kernel))) rfl, by decide +kernel, by decide +kernel, by decide +kernel⟩
theorem okX8_busyMinutes : MokV mX8_busyMinutes 0 := ⟨moX8_busyMinutes, gtb_in (List.mem_append_right _ (List.mem_of_getElem? (i := 650) (by decide +kernel))) rfl, gtb_in (List.mem_append_left _ (List.mem_of_getElem? (i := 16) (by decide +kernel))) rfl⟩
abbrev mX8_found : MT := (yX8_found, cX8_found, 2, (some .int), 0, 0, shC)
set_option maxRecDepth 100000 in
theorem moX8_found : Mok mX8_found 1 := ⟨gtb_in (List.mem_append_right _ (List.mem_of_getElem? (i := 635) rfl)) rfl, gtb_in (List.mem_append_right _ (List.mem_of_getElem? (i := 1) (by decide +kernel))) rfl, by decide +kernel, by decide +kernel, by decide +kernel⟩
theorem okX8_found : MokV mX8_found 1 := ⟨moX8_found, gtb_in (List.mem_append_right _ (List.mem_of_getElem? (i := 634) (by decide +kernel))) rfl, gtb_in (List.mem_append_left _ (List.mem_of_getElem? (i := 15) (by decide +kernel))) rfl⟩
abbrev mX8_findingOfItem : MT := (yX8_findingOfItem, cX8_findingOfItem, 3, (some .int), 1, 22, shC)
set_option maxRecDepth 100000 in
theorem moX8_findingOfItem : Mok mX8_findingOfItem 3 := ⟨gtb_in (List.mem_append_right _ (List.mem_of_getElem? (i := 717) rfl)) rfl, gtb_in (List.mem_append_right _ (List.mem_of_getElem? (i := 1) (by decide +kernel))) rfl, by decide +kernel, by decide +kernel, by decide +kernel⟩
theorem okX8_findingOfItem : MokS mX8_findingOfItem 3 := ⟨moX8_findingOfItem, gtb_in (List.mem_append_right _ (List.mem_of_getElem? (i := 716) (by decide +kernel))) rfl⟩
abbrev mX8_textAt : MT := (yX8_textAt, cX8_textAt, 2, (some (.object "PushedOver$Text")), 0, 0, shC)
set_option maxRecDepth 100000 in
theorem moX8_textAt : Mok mX8_textAt 1 := ⟨gtb_in (List.mem_append_right _ (List.mem_of_getElem? (i := 325) rfl)) rfl, gtb_in (List.mem_append_right _ (List.mem_of_getElem? (i := 1) (by decide +kernel))) rfl, by decide +kernel, by decide +kernel, by decide +kernel⟩
theorem okX8_textAt : MokV mX8_textAt 1 := ⟨moX8_textAt, gtb_in (List.mem_append_right _ (List.mem_of_getElem? (i := 324) (by decide +kernel))) rfl, gtb_in (List.mem_append_left _ (List.mem_of_getElem? (i := 4) (by decide +kernel))) rfl⟩
abbrev mX8_engineAt : MT := (yX8_engineAt, cX8_engineAt, 2, (some (.object "PushedOver$Dials")), 0, 0, shC)
set_option maxRecDepth 100000 in
theorem moX8_engineAt : Mok mX8_engineAt 1 := ⟨gtb_in (List.mem_append_right _ (List.mem_of_getElem? (i := 399) rfl)) rfl, gtb_in (List.mem_append_right _ (List.mem_of_getElem? (i := 1) (by decide +kernel))) rfl, by decide +kernel, by decide +kernel, by decide +kernel⟩
theorem okX8_engineAt : MokV mX8_engineAt 1 := ⟨moX8_engineAt, gtb_in (List.mem_append_right _ (List.mem_of_getElem? (i := 398) (by decide +kernel))) rfl, gtb_in (List.mem_append_left _ (List.mem_of_getElem? (i := 5) (by decide +kernel))) rfl⟩
abbrev mX8_sheetAt : MT := (yX8_sheetAt, cX8_sheetAt, 2, (some (.object "PushedOver$Sheet")), 0, 0, shC)
set_option maxRecDepth 100000 in
theorem moX8_sheetAt : Mok mX8_sheetAt 1 := ⟨gtb_in (List.mem_append_right _ (List.mem_of_getElem? (i := 627) rfl)) rfl, gtb_in (List.mem_append_right _ (List.mem_of_getElem? (i := 1) (by decide +kernel))) rfl, by decide +kernel, by decide +kernel, by decide +kernel⟩
theorem okX8_sheetAt : MokV mX8_sheetAt 1 := ⟨moX8_sheetAt, gtb_in (List.mem_append_right _ (List.mem_of_getElem? (i := 626) (by decide +kernel))) rfl, gtb_in (List.mem_append_left _ (List.mem_of_getElem? (i := 14) (by decide +kernel))) rfl⟩
abbrev mX8_isEngine : MT := (yX8_isEngine, cX8_isEngine, 1, (some .boolean), 0, 0, shC)
set_option maxRecDepth 100000 in
theorem moX8_isEngine : Mok mX8_isEngine 1 := ⟨gtb_in (List.mem_append_right _ (List.mem_of_getElem? (i := 395) rfl)) rfl, gtb_in (List.mem_append_right _ (List.mem_of_getElem? (i := 1) (by decide +kernel))) rfl, by decide +kernel, by decide +kernel, by decide +kernel⟩
theorem okX8_isEngine : MokS mX8_isEngine 1 := ⟨moX8_isEngine, gtb_in (List.mem_append_right _ (List.mem_of_getElem? (i := 394) (by decide +kernel))) rfl⟩
abbrev mX8_isMinute : MT := (yX8_isMinute, cX8_isMinute, 1, (some .boolean), 0, 0, shC)
set_option maxRecDepth 100000 in
theorem moX8_isMinute : Mok mX8_isMinute 1 := ⟨gtb_in (List.mem_append_right _ (List.mem_of_getElem? (i := 420) rfl)) rfl, gtb_in (List.mem_append_right _ (List.mem_of_getElem? (i := 1) (by decide +kernel))) rfl, by decide +kernel, by decide +kernel, by decide +kernel⟩
theorem okX8_isMinute : MokS mX8_isMinute 1 := ⟨moX8_isMinute, gtb_in (List.mem_append_right _ (List.mem_of_getElem? (i := 419) (by decide +kernel))) rfl⟩
abbrev mX8_isSecond : MT := (yX8_isSecond, cX8_isSecond, 1, (some .boolean), 0, 0, shC)
set_option maxRecDepth 100000 in
theorem moX8_isSecond : Mok mX8_isSecond 1 := ⟨gtb_in (List.mem_append_right _ (List.mem_of_getElem? (i := 528) rfl)) rfl, gtb_in (List.mem_append_right _ (List.mem_of_getElem? (i := 1) (by decide +kernel))) rfl, by decide +kernel, by decide +kernel, by decide +kernel⟩
theorem okX8_isSecond : MokS mX8_isSecond 1 := ⟨moX8_isSecond, gtb_in (List.mem_append_right _ (List.mem_of_getElem? (i := 527) (by decide +kernel))) rfl⟩
abbrev mX8_isFootMinute : MT := (yX8_isFootMinute, cX8_isFootMinute, 1, (some .boolean), 0, 0, shC)
set_option maxRecDepth 100000 in
theorem moX8_isFootMinute : Mok mX8_isFootMinute 1 := ⟨gtb_in (List.mem_append_right _ (List.mem_of_getElem? (i := 598) rfl)) rfl, gtb_in (List.mem_append_right _ (List.mem_of_getElem? (i := 1) (by decide +kernel))) rfl, by decide +kernel, by decide +kernel, by decide +kernel⟩
theorem okX8_isFootMinute : MokS mX8_isFootMinute 1 := ⟨moX8_isFootMinute, gtb_in (List.mem_append_right _ (List.mem_of_getElem? (i := 597) (by decide +kernel))) rfl⟩
abbrev mX8_isForm : MT := (yX8_isForm, cX8_isForm, 1, (some .boolean), 0, 0, shC)
set_option maxRecDepth 100000 in
theorem moX8_isForm : Mok mX8_isForm 1 := ⟨gtb_in (List.mem_append_right _ (List.mem_of_getElem? (i := 696) rfl)) rfl, gtb_in (List.mem_append_right _ (List.mem_of_getElem? (i := 1) (by decide +kernel))) rfl, by decide +kernel, by decide +kernel, by decide +kernel⟩
theorem okX8_isForm : MokS mX8_isForm 1 := ⟨moX8_isForm, gtb_in (List.mem_append_right _ (List.mem_of_getElem? (i := 695) (by decide +kernel))) rfl⟩
abbrev mX8_isZeroOrOne : MT := (yX8_isZeroOrOne, cX8_isZeroOrOne, 1, (some .boolean), 0, 0, shC)
set_option maxRecDepth 100000 in
theorem moX8_isZeroOrOne : Mok mX8_isZeroOrOne 1 := ⟨gtb_in (List.mem_append_right _ (List.mem_of_getElem? (i := 383) rfl)) rfl, gtb_in (List.mem_append_right _ (List.mem_of_getElem? (i := 1) (by decide +kernel))) rfl, by decide +kernel, by decide +kernel, by decide +kernel⟩
theorem okX8_isZeroOrOne : MokS mX8_isZeroOrOne 1 := ⟨moX8_isZeroOrOne, gtb_in (List.mem_append_right _ (List.mem_of_getElem? (i := 382) (by decide +kernel))) rfl⟩
abbrev mX8_refusedAsLong : MT := (yX8_refusedAsLong, cX8_refusedAsLong, 1, (some .long), 0, 0, shC)
set_option maxRecDepth 100000 in
theorem moX8_refusedAsLong : Mok mX8_refusedAsLong 1 := ⟨gtb_in (List.mem_append_right _ (List.mem_of_getElem? (i := 447) rfl)) rfl, gtb_in (List.mem_append_right _ (List.mem_of_getElem? (i := 1) (by decide +kernel))) rfl, by decide +kernel, by decide +kernel, by decide +kernel⟩
theorem okX8_refusedAsLong : MokS mX8_refusedAsLong 1 := ⟨moX8_refusedAsLong, gtb_in (List.mem_append_right _ (List.mem_of_getElem? (i := 446) (by decide +kernel))) rfl⟩
abbrev mX8_inLowestTerms : MT := (yX8_inLowestTerms, cX8_inLowestTerms, 7, (some .long), 1, 30, shC)
set_option maxRecDepth 100000 in
theorem moX8_inLowestTerms : Mok mX8_inLowestTerms 3 := ⟨gtb_in (List.mem_append_right _ (List.mem_of_getElem? (i := 455) rfl)) rfl, gtb_in (List.mem_append_right _ (List.mem_of_getElem? (i := 1) (by decide +kernel))) rfl, by decide +kernel, by decide +kernel, by decide +kernel⟩
theorem okX8_inLowestTerms : MokS mX8_inLowestTerms 3 := ⟨moX8_inLowestTerms, gtb_in (List.mem_append_right _ (List.mem_of_getElem? (i := 454) (by decide +kernel))) rfl⟩
abbrev mX8_commonDivisor : MT := (yX8_commonDivisor, cX8_commonDivisor, 11, (some .long), 0, 0, shC)
set_option maxRecDepth 100000 in
theorem moX8_commonDivisor : Mok mX8_commonDivisor 2 := ⟨gtb_in (List.mem_append_right _ (List.mem_of_getElem? (i := 461) rfl)) rfl, gtb_in (List.mem_append_right _ (List.mem_of_getElem? (i := 1) (by decide +kernel))) rfl, by decide +kernel, by decide +kernel, by decide +kernel⟩
theorem okX8_commonDivisor : MokS mX8_commonDivisor 2 := ⟨moX8_commonDivisor, gtb_in (List.mem_append_right _ (List.mem_of_getElem? (i := 460) (by decide +kernel))) rfl⟩
abbrev mX8_power : MT := (yX8_power, cX8_power, 5, (some .long), 0, 0, shC)
set_option maxRecDepth 100000 in
theorem moX8_power : Mok mX8_power 2 := ⟨gtb_in (List.mem_append_right _ (List.mem_of_getElem? (i := 682) rfl)) rfl, gtb_in (List.mem_append_right _ (List.mem_of_getElem? (i := 1) (by decide +kernel))) rfl, by decide +kernel, by decide +kernel, by decide +kernel⟩
theorem okX8_power : MokS mX8_power 2 := ⟨moX8_power, gtb_in (List.mem_append_right _ (List.mem_of_getElem? (i := 681) (by decide +kernel))) rfl⟩
abbrev mX8_choices : MT := (yX8_choices, cX8_choices, 5, (some .long), 0, 0, shC)
set_option maxRecDepth 100000 in
theorem moX8_choices : Mok mX8_choices 2 := ⟨gtb_in (List.mem_append_right _ (List.mem_of_getElem? (i := 685) rfl)) rfl, gtb_in (List.mem_append_right _ (List.mem_of_getElem? (i := 1) (by decide +kernel))) rfl, by decide +kernel, by decide +kernel, by decide +kernel⟩
theorem okX8_choices : MokS mX8_choices 2 := ⟨moX8_choices, gtb_in (List.mem_append_right _ (List.mem_of_getElem? (i := 684) (by decide +kernel))) rfl⟩
abbrev mX9_in : MT := (yX9_in, cX9_in, 6, (some .boolean), 0, 0, shM)
set_option maxRecDepth 100000 in
theorem moX9_in : Mok mX9_in 3 := ⟨gtb_in (List.mem_append_right _ (List.mem_of_getElem? (i := 927) rfl)) rfl, gtb_in (List.mem_append_right _ (List.mem_of_getElem? (i := 11) (by decide +kernel))) rfl, by decide +kernel, by decide +kernel, by decide +kernel⟩
theorem okX9_in : MokS mX9_in 3 := ⟨moX9_in, gtb_in (List.mem_append_right _ (List.mem_of_getElem? (i := 926) (by decide +kernel))) rfl⟩
abbrev mX9_no : MT := (yX9_no, cX9_no, 1, (some .long), 0, 0, shM)
set_option maxRecDepth 100000 in
theorem moX9_no : Mok mX9_no 1 := ⟨gtb_in (List.mem_append_right _ (List.mem_of_getElem? (i := 1055) rfl)) rfl, gtb_in (List.mem_append_right _ (List.mem_of_getElem? (i := 11) (by decide +kernel))) rfl, by decide +kernel, by decide +kernel, by decide +kernel⟩
theorem okX9_no : MokS mX9_no 1 := ⟨moX9_no, gtb_in (List.mem_append_right _ (List.mem_of_getElem? (i := 1054) (by decide +kernel))) rfl⟩
abbrev mX9_isTwo : MT := (yX9_isTwo, cX9_isTwo, 1, (some .boolean), 1, 25, shM)
set_option maxRecDepth 100000 in
theorem moX9_isTwo : Mok mX9_isTwo 1 := ⟨gtb_in (List.mem_append_right _ (List.mem_of_getElem? (i := 963) rfl)) rfl, gtb_in (List.mem_append_right _ (List.mem_of_getElem? (i := 11) (by decide +kernel))) rfl, by decide +kernel, by decide +kernel, by decide +kernel⟩
theorem okX9_isTwo : MokS mX9_isTwo 1 := ⟨moX9_isTwo, gtb_in (List.mem_append_right _ (List.mem_of_getElem? (i := 962) (by decide +kernel))) rfl⟩
abbrev mX9_lesser : MT := (yX9_lesser, cX9_lesser, 2, (some .int), 0, 0, shM)
set_option maxRecDepth 100000 in
theorem moX9_lesser : Mok mX9_lesser 2 := ⟨gtb_in (List.mem_append_right _ (List.mem_of_getElem? (i := 1024) rfl)) rfl, gtb_in (List.mem_append_right _ (List.mem_of_getElem? (i := 11) (by decide +kernel))) rfl, by decide +kernel, by decide +kernel, by decide +kernel⟩
theorem okX9_lesser : MokS mX9_lesser 2 := ⟨moX9_lesser, gtb_in (List.mem_append_right _ (List.mem_of_getElem? (i := 1023) (by decide +kernel))) rfl⟩
abbrev mX9_greater : MT := (yX9_greater, cX9_greater, 2, (some .int), 0, 0, shM)
set_option maxRecDepth 100000 in
theorem moX9_greater : Mok mX9_greater 2 := ⟨gtb_in (List.mem_append_right _ (List.mem_of_getElem? (i := 1174) rfl)) rfl, gtb_in (List.mem_append_right _ (List.mem_of_getElem? (i := 11) (by decide +kernel))) rfl, by decide +kernel, by decide +kernel, by decide +kernel⟩
theorem okX9_greater : MokS mX9_greater 2 := ⟨moX9_greater, gtb_in (List.mem_append_right _ (List.mem_of_getElem? (i := 1173) (by decide +kernel))) rfl⟩
abbrev mX9_within : MT := (yX9_within, cX9_within, 2, (some .int), 1, 21, shM)
set_option maxRecDepth 100000 in
theorem moX9_within : Mok mX9_within 2 := ⟨gtb_in (List.mem_append_right _ (List.mem_of_getElem? (i := 1021) rfl)) rfl, gtb_in (List.mem_append_right _ (List.mem_of_getElem? (i := 11) (by decide +kernel))) rfl, by decide +kernel, by decide +kernel, by decide +kernel⟩
theorem okX9_within : MokS mX9_within 2 := ⟨moX9_within, gtb_in (List.mem_append_right _ (List.mem_of_getElem? (i := 1020) (by decide +kernel))) rfl⟩
abbrev mX9_part : MT := (yX9_part, cX9_part, 11, (some .long), 0, 0, shM)
set_option maxRecDepth 100000 in
theorem moX9_part : Mok mX9_part 3 := ⟨gtb_in (List.mem_append_right _ (List.mem_of_getElem? (i := 1071) rfl)) rfl, gtb_in (List.mem_append_right _ (List.mem_of_getElem? (i := 11) (by decide +kernel))) rfl, by decide +kernel, by decide +kernel, by decide +kernel⟩
theorem okX9_part : MokS mX9_part 3 := ⟨moX9_part, gtb_in (List.mem_append_right _ (List.mem_of_getElem? (i := 1070) (by decide +kernel))) rfl⟩
abbrev mX9_met : MT := (yX9_met, cX9_met, 2, (some .int), 0, 0, shM)
set_option maxRecDepth 100000 in
theorem moX9_met : Mok mX9_met 1 := ⟨gtb_in (List.mem_append_right _ (List.mem_of_getElem? (i := 932) rfl)) rfl, gtb_in (List.mem_append_right _ (List.mem_of_getElem? (i := 11) (by decide +kernel))) rfl, by decide +kernel, by decide +kernel, by decide +kernel⟩
theorem okX9_met : MokV mX9_met 1 := ⟨moX9_met, gtb_in (List.mem_append_right _ (List.mem_of_getElem? (i := 931) (by decide +kernel))) rfl, gtb_in (List.mem_append_left _ (List.mem_of_getElem? (i := 26) (by decide +kernel))) rfl⟩
abbrev mX9_isSheet : MT := (yX9_isSheet, cX9_isSheet, 1, (some .boolean), 1, 25, shM)
set_option maxRecDepth 100000 in
theorem moX9_isSheet : Mok mX9_isSheet 1 := ⟨gtb_in (List.mem_append_right _ (List.mem_of_getElem? (i := 923) rfl)) rfl, gtb_in (List.mem_append_right _ (List.mem_of_getElem? (i := 11) (by decide +kernel))) rfl, by decide +kernel, by decide +kernel, by decide +kernel⟩
theorem okX9_isSheet : MokS mX9_isSheet 1 := ⟨moX9_isSheet, gtb_in (List.mem_append_right _ (List.mem_of_getElem? (i := 922) (by decide +kernel))) rfl⟩
abbrev mX9_sheet : MT := (yX9_sheet, cX9_sheet, 5, (some .int), 2, 45, shM)
set_option maxRecDepth 100000 in
theorem moX9_sheet : Mok mX9_sheet 3 := ⟨gtb_in (List.mem_append_right _ (List.mem_of_getElem? (i := 920) rfl)) rfl, gtb_in (List.mem_append_right _ (List.mem_of_getElem? (i := 11) (by decide +kernel))) rfl, by decide +kernel, by decide +kernel, by decide +kernel⟩
theorem okX9_sheet : MokV mX9_sheet 3 := ⟨moX9_sheet, gtb_in (List.mem_append_right _ (List.mem_of_getElem? (i := 918) (by decide +kernel))) rfl, gtb_in (List.mem_append_right _ (List.mem_of_getElem? (i := 919) (by decide +kernel))) rfl⟩
abbrev mX9_lose : MT := (yX9_lose, cX9_lose, 2, (some .int), 2, 45, shM)
set_option maxRecDepth 100000 in
theorem moX9_lose : Mok mX9_lose 1 := ⟨gtb_in (List.mem_append_right _ (List.mem_of_getElem? (i := 936) rfl)) rfl, gtb_in (List.mem_append_right _ (List.mem_of_getElem? (i := 11) (by decide +kernel))) rfl, by decide +kernel, by decide +kernel, by decide +kernel⟩
theorem okX9_lose : MokV mX9_lose 1 := ⟨moX9_lose, gtb_in (List.mem_append_right _ (List.mem_of_getElem? (i := 934) (by decide +kernel))) rfl, gtb_in (List.mem_append_right _ (List.mem_of_getElem? (i := 935) (by decide +kernel))) rfl⟩
abbrev mX9_lacks : MT := (yX9_lacks, cX9_lacks, 4, (some .int), 1, 25, shM)
set_option maxRecDepth 100000 in
theorem moX9_lacks : Mok mX9_lacks 3 := ⟨gtb_in (List.mem_append_right _ (List.mem_of_getElem? (i := 944) rfl)) rfl, gtb_in (List.mem_append_right _ (List.mem_of_getElem? (i := 11) (by decide +kernel))) rfl, by decide +kernel, by decide +kernel, by decide +kernel⟩
theorem okX9_lacks : MokV mX9_lacks 3 := ⟨moX9_lacks, gtb_in (List.mem_append_right _ (List.mem_of_getElem? (i := 943) (by decide +kernel))) rfl, gtb_in (List.mem_append_left _ (List.mem_of_getElem? (i := 27) (by decide +kernel))) rfl⟩
abbrev mX9_cut : MT := (yX9_cut, cX9_cut, 2, (some .int), 0, 0, shM)
set_option maxRecDepth 100000 in
theorem moX9_cut : Mok mX9_cut 2 := ⟨gtb_in (List.mem_append_right _ (List.mem_of_getElem? (i := 947) rfl)) rfl, gtb_in (List.mem_append_right _ (List.mem_of_getElem? (i := 11) (by decide +kernel))) rfl, by decide +kernel, by decide +kernel, by decide +kernel⟩
theorem okX9_cut : MokS mX9_cut 2 := ⟨moX9_cut, gtb_in (List.mem_append_right _ (List.mem_of_getElem? (i := 946) (by decide +kernel))) rfl⟩
abbrev mX9_lay : MT := (yX9_lay, cX9_lay, 6, (some .int), 2, 48, shM)
set_option maxRecDepth 100000 in
theorem moX9_lay : Mok mX9_lay 4 := ⟨gtb_in (List.mem_append_right _ (List.mem_of_getElem? (i := 940) rfl)) rfl, gtb_in (List.mem_append_right _ (List.mem_of_getElem? (i := 11) (by decide +kernel))) rfl, by decide +kernel, by decide +kernel, by decide +kernel⟩
theorem okX9_lay : MokV mX9_lay 4 := ⟨moX9_lay, gtb_in (List.mem_append_right _ (List.mem_of_getElem? (i := 938) (by decide +kernel))) rfl, gtb_in (List.mem_append_right _ (List.mem_of_getElem? (i := 939) (by decide +kernel))) rfl⟩
abbrev mX9_get : MT := (yX9_get, cX9_get, 4, (some .int), 2, 48, shM)
set_option maxRecDepth 100000 in
theorem moX9_get : Mok mX9_get 3 := ⟨gtb_in (List.mem_append_right _ (List.mem_of_getElem? (i := 951) rfl)) rfl, gtb_in (List.mem_append_right _ (List.mem_of_getElem? (i := 11) (by decide +kernel))) rfl, by decide +kernel, by decide +kernel, by decide +kernel⟩
theorem okX9_get : MokV mX9_get 3 := ⟨moX9_get, gtb_in (List.mem_append_right _ (List.mem_of_getElem? (i := 949) (by decide +kernel))) rfl, gtb_in (List.mem_append_right _ (List.mem_of_getElem? (i := 950) (by decide +kernel))) rfl⟩
abbrev mX9_copy : MT := (yX9_copy, cX9_copy, 7, (some .int), 2, 45, shM)
set_option maxRecDepth 100000 in
theorem moX9_copy : Mok mX9_copy 5 := ⟨gtb_in (List.mem_append_right _ (List.mem_of_getElem? (i := 956) rfl)) rfl, gtb_in (List.mem_append_right _ (List.mem_of_getElem? (i := 11) (by decide +kernel))) rfl, by decide +kernel, by decide +kernel, by decide +kernel⟩
theorem okX9_copy : MokV mX9_copy 5 := ⟨moX9_copy, gtb_in (List.mem_append_right _ (List.mem_of_getElem? (i := 954) (by decide +kernel))) rfl, gtb_in (List.mem_append_right _ (List.mem_of_getElem? (i := 955) (by decide +kernel))) rfl⟩
abbrev mX9_type : MT := (yX9_type, cX9_type, 3, (some .int), 2, 45, shM)
set_option maxRecDepth 100000 in
theorem moX9_type : Mok mX9_type 2 := ⟨gtb_in (List.mem_append_right _ (List.mem_of_getElem? (i := 960) rfl)) rfl, gtb_in (List.mem_append_right _ (List.mem_of_getElem? (i := 11) (by decide +kernel))) rfl, by decide +kernel, by decide +kernel, by decide +kernel⟩
theorem okX9_type : MokV mX9_type 2 := ⟨moX9_type, gtb_in (List.mem_append_right _ (List.mem_of_getElem? (i := 958) (by decide +kernel))) rfl, gtb_in (List.mem_append_right _ (List.mem_of_getElem? (i := 959) (by decide +kernel))) rfl⟩
abbrev mX9_wipe : MT := (yX9_wipe, cX9_wipe, 3, (some .int), 2, 45, shM)
set_option maxRecDepth 100000 in
theorem moX9_wipe : Mok mX9_wipe 1 := ⟨gtb_in (List.mem_append_right _ (List.mem_of_getElem? (i := 968) rfl)) rfl, gtb_in (List.mem_append_right _ (List.mem_of_getElem? (i := 11) (by decide +kernel))) rfl, by decide +kernel, by decide +kernel, by decide +kernel⟩
theorem okX9_wipe : MokV mX9_wipe 1 := ⟨moX9_wipe, gtb_in (List.mem_append_right _ (List.mem_of_getElem? (i := 966) (by decide +kernel))) rfl, gtb_in (List.mem_append_right _ (List.mem_of_getElem? (i := 967) (by decide +kernel))) rfl⟩
abbrev mX9_undo : MT := (yX9_undo, cX9_undo, 2, (some .int), 2, 45, shM)
set_option maxRecDepth 100000 in
theorem moX9_undo : Mok mX9_undo 1 := ⟨gtb_in (List.mem_append_right _ (List.mem_of_getElem? (i := 972) rfl)) rfl, gtb_in (List.mem_append_right _ (List.mem_of_getElem? (i := 11) (by decide +kernel))) rfl, by decide +kernel, by decide +kernel, by decide +kernel⟩
theorem okX9_undo : MokV mX9_undo 1 := ⟨moX9_undo, gtb_in (List.mem_append_right _ (List.mem_of_getElem? (i := 970) (by decide +kernel))) rfl, gtb_in (List.mem_append_right _ (List.mem_of_getElem? (i := 971) (by decide +kernel))) rfl⟩
abbrev mX9_readsTrain : MT := (yX9_readsTrain, cX9_readsTrain, 3, (some .int), 1, 25, shM)
set_option maxRecDepth 100000 in
theorem moX9_readsTrain : Mok mX9_readsTrain 0 := ⟨gtb_in (List.mem_append_right _ (List.mem_of_getElem? (i := 980) rfl)) rfl, gtb_in (List.mem_append_right _ (List.mem_of_getElem? (i := 11) (by decide +kernel))) rfl, by decide +kernel, by decide +kernel, by decide +kernel⟩
theorem okX9_readsTrain : MokV mX9_readsTrain 0 := ⟨moX9_readsTrain, gtb_in (List.mem_append_right _ (List.mem_of_getElem? (i := 979) (by decide +kernel))) rfl, gtb_in (List.mem_append_left _ (List.mem_of_getElem? (i := 28) (by decide +kernel))) rfl⟩
abbrev mX9_readsHill : MT := (yX9_readsHill, cX9_readsHill, 4, (some .int), 1, 25, shM)
set_option maxRecDepth 100000 in
theorem moX9_readsHill : Mok mX9_readsHill 0 := ⟨gtb_in (List.mem_append_right _ (List.mem_of_getElem? (i := 985) rfl)) rfl, gtb_in (List.mem_append_right _ (List.mem_of_getElem? (i := 11) (by decide +kernel))) rfl, by decide +kernel, by decide +kernel, by decide +kernel⟩
theorem okX9_readsHill : MokV mX9_readsHill 0 := ⟨moX9_readsHill, gtb_in (List.mem_append_right _ (List.mem_of_getElem? (i := 984) (by decide +kernel))) rfl, gtb_in (List.mem_append_left _ (List.mem_of_getElem? (i := 29) (by decide +kernel))) rfl⟩
abbrev mX9_reads : MT := (yX9_reads, cX9_reads, 1, none, 2, 48, shM)
set_option maxRecDepth 100000 in
theorem moX9_reads : Mok mX9_reads 0 := ⟨gtb_in (List.mem_append_right _ (List.mem_of_getElem? (i := 993) rfl)) rfl, gtb_in (List.mem_append_right _ (List.mem_of_getElem? (i := 11) (by decide +kernel))) rfl, by decide +kernel, by decide +kernel, by decide +kernel⟩
theorem okX9_reads : MokV mX9_reads 0 := ⟨moX9_reads, gtb_in (List.mem_append_right _ (List.mem_of_getElem? (i := 992) (by decide +kernel))) rfl, gtb_in (List.mem_append_left _ (List.mem_of_getElem? (i := 30) (by decide +kernel))) rfl⟩
abbrev mX9_fault : MT := (yX9_fault, cX9_fault, 2, (some .int), 2, 48, shM)
set_option maxRecDepth 100000 in
theorem moX9_fault : Mok mX9_fault 1 := ⟨gtb_in (List.mem_append_right _ (List.mem_of_getElem? (i := 976) rfl)) rfl, gtb_in (List.mem_append_right _ (List.mem_of_getElem? (i := 11) (by decide +kernel))) rfl, by decide +kernel, by decide +kernel, by decide +kernel⟩
theorem okX9_fault : MokV mX9_fault 1 := ⟨moX9_fault, gtb_in (List.mem_append_right _ (List.mem_of_getElem? (i := 974) (by decide +kernel))) rfl, gtb_in (List.mem_append_right _ (List.mem_of_getElem? (i := 975) (by decide +kernel))) rfl⟩
abbrev mX9_wagon : MT := (yX9_wagon, cX9_wagon, 2, (some .int), 3, 68, shM)
set_option maxRecDepth 100000 in
theorem moX9_wagon : Mok mX9_wagon 1 := ⟨gtb_in (List.mem_append_right _ (List.mem_of_getElem? (i := 989) rfl)) rfl, gtb_in (List.mem_append_right _ (List.mem_of_getElem? (i := 11) (by decide +kernel))) rfl, by decide +kernel, by decide +kernel, by decide +kernel⟩
theorem okX9_wagon : MokV mX9_wagon 1 := ⟨moX9_wagon, gtb_in (List.mem_append_right _ (List.mem_of_getElem? (i := 987) (by decide +kernel))) rfl, gtb_in (List.mem_append_right _ (List.mem_of_getElem? (i := 988) (by decide +kernel))) rfl⟩
abbrev mX9_hill : MT := (yX9_hill, cX9_hill, 3, (some .int), 3, 68, shM)
set_option maxRecDepth 100000 in
theorem moX9_hill : Mok mX9_hill 2 := ⟨gtb_in (List.mem_append_right _ (List.mem_of_getElem? (i := 997) rfl)) rfl, gtb_in (List.mem_append_right _ (List.mem_of_getElem? (i := 11) (by decide +kernel))) rfl, by decide +kernel, by decide +kernel, by decide +kernel⟩
theorem okX9_hill : MokV mX9_hill 2 := ⟨moX9_hill, gtb_in (List.mem_append_right _ (List.mem_of_getElem? (i := 995) (by decide +kernel))) rfl, gtb_in (List.mem_append_right _ (List.mem_of_getElem? (i := 996) (by decide +kernel))) rfl⟩
abbrev mX9_engine : MT := (yX9_engine, cX9_engine, 6, (some .int), 2, 45, shM)
set_option maxRecDepth 100000 in
theorem moX9_engine : Mok mX9_engine 3 := ⟨gtb_in (List.mem_append_right _ (List.mem_of_getElem? (i := 1001) rfl)) rfl, gtb_in (List.mem_append_right _ (List.mem_of_getElem? (i := 11) (by decide +kernel))) rfl, by decide +kernel, by decide +kernel, by decide +kernel⟩
theorem okX9_engine : MokV mX9_engine 3 := ⟨moX9_engine, gtb_in (List.mem_append_right _ (List.mem_of_getElem? (i := 999) (by decide +kernel))) rfl, gtb_in (List.mem_append_right _ (List.mem_of_getElem? (i := 1000) (by decide +kernel))) rfl⟩
abbrev mX9_set : MT := (yX9_set, cX9_set, 4, (some .int), 1, 25, shM)
set_option maxRecDepth 100000 in
theorem moX9_set : Mok mX9_set 2 := ⟨gtb_in (List.mem_append_right _ (List.mem_of_getElem? (i := 1007) rfl)) rfl, gtb_in (List.mem_append_right _ (List.mem_of_getElem? (i := 11) (by decide +kernel))) rfl, by decide +kernel, by decide +kernel, by decide +kernel⟩
theorem okX9_set : MokV mX9_set 2 := ⟨moX9_set, gtb_in (List.mem_append_right _ (List.mem_of_getElem? (i := 1005) (by decide +kernel))) rfl, gtb_in (List.mem_append_right _ (List.mem_of_getElem? (i := 1006) (by decide +kernel))) rfl⟩
abbrev mX9_leans : MT := (yX9_leans, cX9_leans, 4, (some .int), 2, 42, shM)
set_option maxRecDepth 100000 in
theorem moX9_leans : Mok mX9_leans 2 := ⟨gtb_in (List.mem_append_right _ (List.mem_of_getElem? (i := 1032) rfl)) rfl, gtb_in (List.mem_append_right _ (List.mem_of_getElem? (i := 11) (by decide +kernel))) rfl, by decide +kernel, by decide +kernel, by decide +kernel⟩
theorem okX9_leans : MokV mX9_leans 2 := ⟨moX9_leans, gtb_in (List.mem_append_right _ (List.mem_of_getElem? (i := 1031) (by decide +kernel))) rfl, gtb_in (List.mem_append_left _ (List.mem_of_getElem? (i := 33) (by decide +kernel))) rfl⟩
abbrev mX9_givesOf : MT := (yX9_givesOf, cX9_givesOf, 5, (some .int), 3, 65, shM)
set_option maxRecDepth 100000 in
theorem moX9_givesOf : Mok mX9_givesOf 2 := ⟨gtb_in (List.mem_append_right _ (List.mem_of_getElem? (i := 1028) rfl)) rfl, gtb_in (List.mem_append_right _ (List.mem_of_getElem? (i := 11) (by decide +kernel))) rfl, by decide +kernel, by decide +kernel, by decide +kernel⟩
theorem okX9_givesOf : MokV mX9_givesOf 2 := ⟨moX9_givesOf, gtb_in (List.mem_append_right _ (List.mem_of_getElem? (i := 1027) (by decide +kernel))) rfl, gtb_in (List.mem_append_left _ (List.mem_of_getElem? (i := 32) (by decide +kernel))) rfl⟩
abbrev mX9_lives : MT := (yX9_lives, cX9_lives, 3, none, 4, 89, shM)
set_option maxRecDepth 100000 in
theorem moX9_lives : Mok mX9_lives 0 := ⟨gtb_in (List.mem_append_right _ (List.mem_of_getElem? (i := 1018) rfl)) rfl, gtb_in (List.mem_append_right _ (List.mem_of_getElem? (i := 11) (by decide +kernel))) rfl, by decide +kernel, by decide +kernel, by decide +kernel⟩
theorem okX9_lives : MokV mX9_lives 0 := ⟨moX9_lives, gtb_in (List.mem_append_right _ (List.mem_of_getElem? (i := 1017) (by decide +kernel))) rfl, gtb_in (List.mem_append_left _ (List.mem_of_getElem? (i := 31) (by decide +kernel))) rfl⟩
abbrev mX9_isMinute : MT := (yX9_isMinute, cX9_isMinute, 1, (some .boolean), 1, 25, shM)
set_option maxRecDepth 100000 in
theorem moX9_isMinute : Mok mX9_isMinute 1 := ⟨gtb_in (List.mem_append_right _ (List.mem_of_getElem? (i := 1035) rfl)) rfl, gtb_in (List.mem_append_right _ (List.mem_of_getElem? (i := 11) (by decide +kernel))) rfl, by decide +kernel, by decide +kernel, by decide +kernel⟩
theorem okX9_isMinute : MokS mX9_isMinute 1 := ⟨moX9_isMinute, gtb_in (List.mem_append_right _ (List.mem_of_getElem? (i := 1034) (by decide +kernel))) rfl⟩
abbrev mX9_gives : MT := (yX9_gives, cX9_gives, 3, (some .int), 5, 111, shM)
set_option maxRecDepth 100000 in
theorem moX9_gives : Mok mX9_gives 2 := ⟨gtb_in (List.mem_append_right _ (List.mem_of_getElem? (i := 1014) rfl)) rfl, gtb_in (List.mem_append_right _ (List.mem_of_getElem? (i := 11) (by decide +kernel))) rfl, by decide +kernel, by decide +kernel, by decide +kernel⟩
theorem okX9_gives : MokV mX9_gives 2 := ⟨moX9_gives, gtb_in (List.mem_append_right _ (List.mem_of_getElem? (i := 1012) (by decide +kernel))) rfl, gtb_in (List.mem_append_right _ (List.mem_of_getElem? (i := 1013) (by decide +kernel))) rfl⟩
abbrev mX9_placeAt : MT := (yX9_placeAt, cX9_placeAt, 2, (some .int), 0, 0, shM)
set_option maxRecDepth 100000 in
theorem moX9_placeAt : Mok mX9_placeAt 1 := ⟨gtb_in (List.mem_append_right _ (List.mem_of_getElem? (i := 1048) rfl)) rfl, gtb_in (List.mem_append_right _ (List.mem_of_getElem? (i := 11) (by decide +kernel))) rfl, by decide +kernel, by decide +kernel, by decide +kernel⟩
theorem okX9_placeAt : MokV mX9_placeAt 1 := ⟨moX9_placeAt, gtb_in (List.mem_append_right _ (List.mem_of_getElem? (i := 1047) (by decide +kernel))) rfl, gtb_in (List.mem_append_left _ (List.mem_of_getElem? (i := 35) (by decide +kernel))) rfl⟩
abbrev mX9_minuteOf : MT := (yX9_minuteOf, cX9_minuteOf, 3, (some .int), 1, 21, shM)
set_option maxRecDepth 100000 in
theorem moX9_minuteOf : Mok mX9_minuteOf 2 := ⟨gtb_in (List.mem_append_right _ (List.mem_of_getElem? (i := 1044) rfl)) rfl, gtb_in (List.mem_append_right _ (List.mem_of_getElem? (i := 11) (by decide +kernel))) rfl, by decide +kernel, by decide +kernel, by decide +kernel⟩
theorem okX9_minuteOf : MokV mX9_minuteOf 2 := ⟨moX9_minuteOf, gtb_in (List.mem_append_right _ (List.mem_of_getElem? (i := 1043) (by decide +kernel))) rfl, gtb_in (List.mem_append_left _ (List.mem_of_getElem? (i := 34) (by decide +kernel))) rfl⟩
abbrev mX9_minute : MT := (yX9_minute, cX9_minute, 3, (some .int), 5, 111, shM)
set_option maxRecDepth 100000 in
theorem moX9_minute : Mok mX9_minute 2 := ⟨gtb_in (List.mem_append_right _ (List.mem_of_getElem? (i := 1040) rfl)) rfl, gtb_in (List.mem_append_right _ (List.mem_of_getElem? (i := 11) (by decide +kernel))) rfl, by decide +kernel, by decide +kernel, by decide +kernel⟩
theorem okX9_minute : MokV mX9_minute 2 := ⟨moX9_minute, gtb_in (List.mem_append_right _ (List.mem_of_getElem? (i := 1038) (by decide +kernel))) rfl, gtb_in (List.mem_append_right _ (List.mem_of_getElem? (i := 1039) (by decide +kernel))) rfl⟩
abbrev mX9_ahead : MT := (yX9_ahead, cX9_ahead, 4, (some .int), 0, 0, shM)
set_option maxRecDepth 100000 in
theorem moX9_ahead : Mok mX9_ahead 1 := ⟨gtb_in (List.mem_append_right _ (List.mem_of_getElem? (i := 1068) rfl)) rfl, gtb_in (List.mem_append_right _ (List.mem_of_getElem? (i := 11) (by decide +kernel))) rfl, by decide +kernel, by decide +kernel, by decide +kernel⟩
theorem okX9_ahead : MokV mX9_ahead 1 := ⟨moX9_ahead, gtb_in (List.mem_append_right _ (List.mem_of_getElem? (i := 1067) (by decide +kernel))) rfl, gtb_in (List.mem_append_left _ (List.mem_of_getElem? (i := 38) (by decide +kernel))) rfl⟩
abbrev mX9_strainBy : MT := (yX9_strainBy, cX9_strainBy, 4, (some .int), 1, 23, shM)
set_option maxRecDepth 100000 in
theorem moX9_strainBy : Mok mX9_strainBy 3 := ⟨gtb_in (List.mem_append_right _ (List.mem_of_getElem? (i := 1064) rfl)) rfl, gtb_in (List.mem_append_right _ (List.mem_of_getElem? (i := 11) (by decide +kernel))) rfl, by decide +kernel, by decide +kernel, by decide +kernel⟩
theorem okX9_strainBy : MokV mX9_strainBy 3 := ⟨moX9_strainBy, gtb_in (List.mem_append_right _ (List.mem_of_getElem? (i := 1063) (by decide +kernel))) rfl, gtb_in (List.mem_append_left _ (List.mem_of_getElem? (i := 37) (by decide +kernel))) rfl⟩
abbrev mX9_strainAt : MT := (yX9_strainAt, cX9_strainAt, 3, (some .int), 2, 46, shM)
set_option maxRecDepth 100000 in
theorem moX9_strainAt : Mok mX9_strainAt 2 := ⟨gtb_in (List.mem_append_right _ (List.mem_of_getElem? (i := 1060) rfl)) rfl, gtb_in (List.mem_append_right _ (List.mem_of_getElem? (i := 11) (by decide +kernel))) rfl, by decide +kernel, by decide +kernel, by decide +kernel⟩
theorem okX9_strainAt : MokV mX9_strainAt 2 := ⟨moX9_strainAt, gtb_in (List.mem_append_right _ (List.mem_of_getElem? (i := 1059) (by decide +kernel))) rfl, gtb_in (List.mem_append_left _ (List.mem_of_getElem? (i := 36) (by decide +kernel))) rfl⟩
abbrev mX9_strain : MT := (yX9_strain, cX9_strain, 4, (some .long), 5, 111, shM)
set_option maxRecDepth 100000 in
theorem moX9_strain : Mok mX9_strain 3 := ⟨gtb_in (List.mem_append_right _ (List.mem_of_getElem? (i := 1052) rfl)) rfl, gtb_in (List.mem_append_right _ (List.mem_of_getElem? (i := 11) (by decide +kernel))) rfl, by decide +kernel, by decide +kernel, by decide +kernel⟩
theorem okX9_strain : MokV mX9_strain 3 := ⟨moX9_strain, gtb_in (List.mem_append_right _ (List.mem_of_getElem? (i := 1050) (by decide +kernel))) rfl, gtb_in (List.mem_append_right _ (List.mem_of_getElem? (i := 1051) (by decide +kernel))) rfl⟩
abbrev mX9_slackAt : MT := (yX9_slackAt, cX9_slackAt, 3, (some .int), 3, 68, shM)
set_option maxRecDepth 100000 in
theorem moX9_slackAt : Mok mX9_slackAt 1 := ⟨gtb_in (List.mem_append_right _ (List.mem_of_getElem? (i := 1079) rfl)) rfl, gtb_in (List.mem_append_right _ (List.mem_of_getElem? (i := 11) (by decide +kernel))) rfl, by decide +kernel, by decide +kernel, by decide +kernel⟩
theorem okX9_slackAt : MokV mX9_slackAt 1 := ⟨moX9_slackAt, gtb_in (List.mem_append_right _ (List.mem_of_getElem? (i := 1078) (by decide +kernel))) rfl, gtb_in (List.mem_append_left _ (List.mem_of_getElem? (i := 39) (by decide +kernel))) rfl⟩
abbrev mX9_slack : MT := (yX9_slack, cX9_slack, 2, (some .int), 5, 111, shM)
set_option maxRecDepth 100000 in
theorem moX9_slack : Mok mX9_slack 1 := ⟨gtb_in (List.mem_append_right _ (List.mem_of_getElem? (i := 1075) rfl)) rfl, gtb_in (List.mem_append_right _ (List.mem_of_getElem? (i := 11) (by decide +kernel))) rfl, by decide +kernel, by decide +kernel, by decide +kernel⟩
theorem okX9_slack : MokV mX9_slack 1 := ⟨moX9_slack, gtb_in (List.mem_append_right _ (List.mem_of_getElem? (i := 1073) (by decide +kernel))) rfl, gtb_in (List.mem_append_right _ (List.mem_of_getElem? (i := 1074) (by decide +kernel))) rfl⟩
abbrev mX9_isTorn : MT := (yX9_isTorn, cX9_isTorn, 5, (some .boolean), 2, 46, shM)
set_option maxRecDepth 100000 in
theorem moX9_isTorn : Mok mX9_isTorn 2 := ⟨gtb_in (List.mem_append_right _ (List.mem_of_getElem? (i := 1091) rfl)) rfl, gtb_in (List.mem_append_right _ (List.mem_of_getElem? (i := 11) (by decide +kernel))) rfl, by decide +kernel, by decide +kernel, by decide +kernel⟩
theorem okX9_isTorn : MokV mX9_isTorn 2 := ⟨moX9_isTorn, gtb_in (List.mem_append_right _ (List.mem_of_getElem? (i := 1090) (by decide +kernel))) rfl, gtb_in (List.mem_append_left _ (List.mem_of_getElem? (i := 41) (by decide +kernel))) rfl⟩
abbrev mX9_tornNow : MT := (yX9_tornNow, cX9_tornNow, 2, (some .int), 3, 70, shM)
set_option maxRecDepth 100000 in
theorem moX9_tornNow : Mok mX9_tornNow 0 := ⟨gtb_in (List.mem_append_right _ (List.mem_of_getElem? (i := 1087) rfl)) rfl, gtb_in (List.mem_append_right _ (List.mem_of_getElem? (i := 11) (by decide +kernel))) rfl, by decide +kernel, by decide +kernel, by decide +kernel⟩
theorem okX9_tornNow : MokV mX9_tornNow 0 := ⟨moX9_tornNow, gtb_in (List.mem_append_right _ (List.mem_of_getElem? (i := 1086) (by decide +kernel))) rfl, gtb_in (List.mem_append_left _ (List.mem_of_getElem? (i := 40) (by decide +kernel))) rfl⟩
abbrev mX9_torn : MT := (yX9_torn, cX9_torn, 1, (some .int), 5, 111, shM)
set_option maxRecDepth 100000 in
theorem moX9_torn : Mok mX9_torn 0 := ⟨gtb_in (List.mem_append_right _ (List.mem_of_getElem? (i := 1083) rfl)) rfl, gtb_in (List.mem_append_right _ (List.mem_of_getElem? (i := 11) (by decide +kernel))) rfl, by decide +kernel, by decide +kernel, by decide +kernel⟩
theorem okX9_torn : MokV mX9_torn 0 := ⟨moX9_torn, gtb_in (List.mem_append_right _ (List.mem_of_getElem? (i := 1081) (by decide +kernel))) rfl, gtb_in (List.mem_append_right _ (List.mem_of_getElem? (i := 1082) (by decide +kernel))) rfl⟩
abbrev mX9_squeezedOff : MT := (yX9_squeezedOff, cX9_squeezedOff, 5, (some .int), 2, 46, shM)
set_option maxRecDepth 100000 in
theorem moX9_squeezedOff : Mok mX9_squeezedOff 2 := ⟨gtb_in (List.mem_append_right _ (List.mem_of_getElem? (i := 1103) rfl)) rfl, gtb_in (List.mem_append_right _ (List.mem_of_getElem? (i := 11) (by decide +kernel))) rfl, by decide +kernel, by decide +kernel, by decide +kernel⟩
theorem okX9_squeezedOff : MokV mX9_squeezedOff 2 := ⟨moX9_squeezedOff, gtb_in (List.mem_append_right _ (List.mem_of_getElem? (i := 1102) (by decide +kernel))) rfl, gtb_in (List.mem_append_left _ (List.mem_of_getElem? (i := 43) (by decide +kernel))) rfl⟩
abbrev mX9_offOf : MT := (yX9_offOf, cX9_offOf, 5, (some .int), 3, 70, shM)
set_option maxRecDepth 100000 in
theorem moX9_offOf : Mok mX9_offOf 1 := ⟨gtb_in (List.mem_append_right _ (List.mem_of_getElem? (i := 1099) rfl)) rfl, gtb_in (List.mem_append_right _ (List.mem_of_getElem? (i := 11) (by decide +kernel))) rfl, by decide +kernel, by decide +kernel, by decide +kernel⟩
theorem okX9_offOf : MokV mX9_offOf 1 := ⟨moX9_offOf, gtb_in (List.mem_append_right _ (List.mem_of_getElem? (i := 1098) (by decide +kernel))) rfl, gtb_in (List.mem_append_left _ (List.mem_of_getElem? (i := 42) (by decide +kernel))) rfl⟩
abbrev mX9_off : MT := (yX9_off, cX9_off, 2, (some .int), 5, 111, shM)
set_option maxRecDepth 100000 in
theorem moX9_off : Mok mX9_off 1 := ⟨gtb_in (List.mem_append_right _ (List.mem_of_getElem? (i := 1095) rfl)) rfl, gtb_in (List.mem_append_right _ (List.mem_of_getElem? (i := 11) (by decide +kernel))) rfl, by decide +kernel, by decide +kernel, by decide +kernel⟩
theorem okX9_off : MokV mX9_off 1 := ⟨moX9_off, gtb_in (List.mem_append_right _ (List.mem_of_getElem? (i := 1093) (by decide +kernel))) rfl, gtb_in (List.mem_append_right _ (List.mem_of_getElem? (i := 1094) (by decide +kernel))) rfl⟩
abbrev mX9_overNow : MT := (yX9_overNow, cX9_overNow, 2, (some .int), 1, 21, shM)
set_option maxRecDepth 100000 in
theorem moX9_overNow : Mok mX9_overNow 0 := ⟨gtb_in (List.mem_append_right _ (List.mem_of_getElem? (i := 1111) rfl)) rfl, gtb_in (List.mem_append_right _ (List.mem_of_getElem? (i := 11) (by decide +kernel))) rfl, by decide +kernel, by decide +kernel, by decide +kernel⟩
theorem okX9_overNow : MokV mX9_overNow 0 := ⟨moX9_overNow, gtb_in (List.mem_append_right _ (List.mem_of_getElem? (i := 1110) (by decide +kernel))) rfl, gtb_in (List.mem_append_left _ (List.mem_of_getElem? (i := 44) (by decide +kernel))) rfl⟩
abbrev mX9_over : MT := (yX9_over, cX9_over, 1, (some .int), 5, 111, shM)
set_option maxRecDepth 100000 in
theorem moX9_over : Mok mX9_over 0 := ⟨gtb_in (List.mem_append_right _ (List.mem_of_getElem? (i := 1107) rfl)) rfl, gtb_in (List.mem_append_right _ (List.mem_of_getElem? (i := 11) (by decide +kernel))) rfl, by decide +kernel, by decide +kernel, by decide +kernel⟩
theorem okX9_over : MokV mX9_over 0 := ⟨moX9_over, gtb_in (List.mem_append_right _ (List.mem_of_getElem? (i := 1105) (by decide +kernel))) rfl, gtb_in (List.mem_append_right _ (List.mem_of_getElem? (i := 1106) (by decide +kernel))) rfl⟩
abbrev mX9_isAlike : MT := (yX9_isAlike, cX9_isAlike, 3, (some .boolean), 0, 0, shM)
set_option maxRecDepth 100000 in
theorem moX9_isAlike : Mok mX9_isAlike 2 := ⟨gtb_in (List.mem_append_right _ (List.mem_of_getElem? (i := 1123) rfl)) rfl, gtb_in (List.mem_append_right _ (List.mem_of_getElem? (i := 11) (by decide +kernel))) rfl, by decide +kernel, by decide +kernel, by decide +kernel⟩
theorem okX9_isAlike : MokV mX9_isAlike 2 := ⟨moX9_isAlike, gtb_in (List.mem_append_right _ (List.mem_of_getElem? (i := 1122) (by decide +kernel))) rfl, gtb_in (List.mem_append_left _ (List.mem_of_getElem? (i := 46) (by decide +kernel))) rfl⟩
abbrev mX9_settlesNow : MT := (yX9_settlesNow, cX9_settlesNow, 4, (some .int), 1, 22, shM)
set_option maxRecDepth 100000 in
theorem moX9_settlesNow : Mok mX9_settlesNow 0 := ⟨gtb_in (List.mem_append_right _ (List.mem_of_getElem? (i := 1119) rfl)) rfl, gtb_in (List.mem_append_right _ (List.mem_of_getElem? (i := 11) (by decide +kernel))) rfl, by decide +kernel, by decide +kernel, by decide +kernel⟩
theorem okX9_settlesNow : MokV mX9_settlesNow 0 := ⟨moX9_settlesNow, gtb_in (List.mem_append_right _ (List.mem_of_getElem? (i := 1118) (by decide +kernel))) rfl, gtb_in (List.mem_append_left _ (List.mem_of_getElem? (i := 45) (by decide +kernel))) rfl⟩
abbrev mX9_settles : MT := (yX9_settles, cX9_settles, 1, (some .int), 5, 111, shM)
set_option maxRecDepth 100000 in
theorem moX9_settles : Mok mX9_settles 0 := ⟨gtb_in (List.mem_append_right _ (List.mem_of_getElem? (i := 1115) rfl)) rfl, gtb_in (List.mem_append_right _ (List.mem_of_getElem? (i := 11) (by decide +kernel))) rfl, by decide +kernel, by decide +kernel, by decide +kernel⟩
theorem okX9_settles : MokV mX9_settles 0 := ⟨moX9_settles, gtb_in (List.mem_append_right _ (List.mem_of_getElem? (i := 1113) (by decide +kernel))) rfl, gtb_in (List.mem_append_right _ (List.mem_of_getElem? (i := 1114) (by decide +kernel))) rfl⟩
abbrev mX9_swingsNow : MT := (yX9_swingsNow, cX9_swingsNow, 4, (some .int), 1, 22, shM)
set_option maxRecDepth 100000 in
theorem moX9_swingsNow : Mok mX9_swingsNow 0 := ⟨gtb_in (List.mem_append_right _ (List.mem_of_getElem? (i := 1131) rfl)) rfl, gtb_in (List.mem_append_right _ (List.mem_of_getElem? (i := 11) (by decide +kernel))) rfl, by decide +kernel, by decide +kernel, by decide +kernel⟩
theorem okX9_swingsNow : MokV mX9_swingsNow 0 := ⟨moX9_swingsNow, gtb_in (List.mem_append_right _ (List.mem_of_getElem? (i := 1130) (by decide +kernel))) rfl, gtb_in (List.mem_append_left _ (List.mem_of_getElem? (i := 47) (by decide +kernel))) rfl⟩
abbrev mX9_swings : MT := (yX9_swings, cX9_swings, 1, (some .int), 5, 111, shM)
set_option maxRecDepth 100000 in
theorem moX9_swings : Mok mX9_swings 0 := ⟨gtb_in (List.mem_append_right _ (List.mem_of_getElem? (i := 1127) rfl)) rfl, gtb_in (List.mem_append_right _ (List.mem_of_getElem? (i := 11) (by decide +kernel))) rfl, by decide +kernel, by decide +kernel, by decide +kernel⟩
theorem okX9_swings : MokV mX9_swings 0 := ⟨moX9_swings, gtb_in (List.mem_append_right _ (List.mem_of_getElem? (i := 1125) (by decide +kernel))) rfl, gtb_in (List.mem_append_right _ (List.mem_of_getElem? (i := 1126) (by decide +kernel))) rfl⟩
abbrev mX9_doesOf : MT := (yX9_doesOf, cX9_doesOf, 5, (some .int), 1, 30, shM)
set_option maxRecDepth 100000 in
theorem moX9_doesOf : Mok mX9_doesOf 1 := ⟨gtb_in (List.mem_append_right _ (List.mem_of_getElem? (i := 1139) rfl)) rfl, gtb_in (List.mem_append_right _ (List.mem_of_getElem? (i := 11) (by decide +kernel))) rfl, by decide +kernel, by decide +kernel, by decide +kernel⟩
theorem okX9_doesOf : MokV mX9_doesOf 1 := ⟨moX9_doesOf, gtb_in (List.mem_append_right _ (List.mem_of_getElem? (i := 1138) (by decide +kernel))) rfl, gtb_in (List.mem_append_left _ (List.mem_of_getElem? (i := 48) (by decide +kernel))) rfl⟩
abbrev mX9_does : MT := (yX9_does, cX9_does, 2, (some .int), 5, 111, shM)
set_option maxRecDepth 100000 in
theorem moX9_does : Mok mX9_does 1 := ⟨gtb_in (List.mem_append_right _ (List.mem_of_getElem? (i := 1135) rfl)) rfl, gtb_in (List.mem_append_right _ (List.mem_of_getElem? (i := 11) (by decide +kernel))) rfl, by decide +kernel, by decide +kernel, by decide +kernel⟩
theorem okX9_does : MokV mX9_does 1 := ⟨moX9_does, gtb_in (List.mem_append_right _ (List.mem_of_getElem? (i := 1133) (by decide +kernel))) rfl, gtb_in (List.mem_append_right _ (List.mem_of_getElem? (i := 1134) (by decide +kernel))) rfl⟩
abbrev mX9_startOf : MT := (yX9_startOf, cX9_startOf, 5, (some .int), 3, 70, shM)
set_option maxRecDepth 100000 in
theorem moX9_startOf : Mok mX9_startOf 2 := ⟨gtb_in (List.mem_append_right _ (List.mem_of_getElem? (i := 1147) rfl)) rfl, gtb_in (List.mem_append_right _ (List.mem_of_getElem? (i := 11) (by decide +kernel))) rfl, by decide +kernel, by decide +kernel, by decide +kernel⟩
theorem okX9_startOf : MokV mX9_startOf 2 := ⟨moX9_startOf, gtb_in (List.mem_append_right _ (List.mem_of_getElem? (i := 1146) (by decide +kernel))) rfl, gtb_in (List.mem_append_left _ (List.mem_of_getElem? (i := 49) (by decide +kernel))) rfl⟩
abbrev mX9_start : MT := (yX9_start, cX9_start, 3, (some .int), 4, 94, shM)
set_option maxRecDepth 100000 in
theorem moX9_start : Mok mX9_start 2 := ⟨gtb_in (List.mem_append_right _ (List.mem_of_getElem? (i := 1143) rfl)) rfl, gtb_in (List.mem_append_right _ (List.mem_of_getElem? (i := 11) (by decide +kernel))) rfl, by decide +kernel, by decide +kernel, by decide +kernel⟩
theorem okX9_start : MokV mX9_start 2 := ⟨moX9_start, gtb_in (List.mem_append_right _ (List.mem_of_getElem? (i := 1141) (by decide +kernel))) rfl, gtb_in (List.mem_append_right _ (List.mem_of_getElem? (i := 1142) (by decide +kernel))) rfl⟩
abbrev mX9_safeOf : MT := (yX9_safeOf, cX9_safeOf, 6, (some .int), 4, 94, shM)
set_option maxRecDepth 100000 in
theorem moX9_safeOf : Mok mX9_safeOf 1 := ⟨gtb_in (List.mem_append_right _ (List.mem_of_getElem? (i := 1155) rfl)) rfl, gtb_in (List.mem_append_right _ (List.mem_of_getElem? (i := 11) (by decide +kernel))) rfl, by decide +kernel, by decide +kernel, by decide +kernel⟩
theorem okX9_safeOf : MokV mX9_safeOf 1 := ⟨moX9_safeOf, gtb_in (List.mem_append_right _ (List.mem_of_getElem? (i := 1154) (by decide +kernel))) rfl, gtb_in (List.mem_append_left _ (List.mem_of_getElem? (i := 50) (by decide +kernel))) rfl⟩
abbrev mX9_safe : MT := (yX9_safe, cX9_safe, 2, (some .int), 5, 119, shM)
set_option maxRecDepth 100000 in
theorem moX9_safe : Mok mX9_safe 1 := ⟨gtb_in (List.mem_append_right _ (List.mem_of_getElem? (i := 1151) rfl)) rfl, gtb_in (List.mem_append_right _ (List.mem_of_getElem? (i := 11) (by decide +kernel))) rfl, by decide +kernel, by decide +kernel, by decide +kernel⟩
theorem okX9_safe : MokV mX9_safe 1 := ⟨moX9_safe, gtb_in (List.mem_append_right _ (List.mem_of_getElem? (i := 1149) (by decide +kernel))) rfl, gtb_in (List.mem_append_right _ (List.mem_of_getElem? (i := 1150) (by decide +kernel))) rfl⟩
abbrev mX9_unfolds : MT := (yX9_unfolds, cX9_unfolds, 5, none, 0, 0, shM)
set_option maxRecDepth 100000 in
theorem moX9_unfolds : Mok mX9_unfolds 1 := ⟨gtb_in (List.mem_append_right _ (List.mem_of_getElem? (i := 1167) rfl)) rfl, gtb_in (List.mem_append_right _ (List.mem_of_getElem? (i := 11) (by decide +kernel))) rfl, by decide +kernel, by decide +kernel, by decide +kernel⟩
theorem okX9_unfolds : MokV mX9_unfolds 1 := ⟨moX9_unfolds, gtb_in (List.mem_append_right _ (List.mem_of_getElem? (i := 1166) (by decide +kernel))) rfl, gtb_in (List.mem_append_left _ (List.mem_of_getElem? (i := 52) (by decide +kernel))) rfl⟩
abbrev mX9_squeezes : MT := (yX9_squeezes, cX9_squeezes, 6, none, 1, 21, shM)
set_option maxRecDepth 100000 in
theorem moX9_squeezes : Mok mX9_squeezes 0 := ⟨gtb_in (List.mem_append_right _ (List.mem_of_getElem? (i := 1171) rfl)) rfl, gtb_in (List.mem_append_right _ (List.mem_of_getElem? (i := 11) (by decide +kernel))) rfl, by decide +kernel, by decide +kernel, by decide +kernel⟩
theorem okX9_squeezes : MokV mX9_squeezes 0 := ⟨moX9_squeezes, gtb_in (List.mem_append_right _ (List.mem_of_getElem? (i := 1170) (by decide +kernel))) rfl, gtb_in (List.mem_append_left _ (List.mem_of_getElem? (i := 53) (by decide +kernel))) rfl⟩
abbrev mX9_findOrder : MT := (yX9_findOrder, cX9_findOrder, 4, none, 2, 46, shM)
set_option maxRecDepth 100000 in
theorem moX9_findOrder : Mok mX9_findOrder 0 := ⟨gtb_in (List.mem_append_right _ (List.mem_of_getElem? (i := 1163) rfl)) rfl, gtb_in (List.mem_append_right _ (List.mem_of_getElem? (i := 11) (by decide +kernel))) rfl, by decide +kernel, by decide +kernel, by decide +kernel⟩
theorem okX9_findOrder : MokV mX9_findOrder 0 := ⟨moX9_findOrder, gtb_in (List.mem_append_right _ (List.mem_of_getElem? (i := 1162) (by decide +kernel))) rfl, gtb_in (List.mem_append_left _ (List.mem_of_getElem? (i := 51) (by decide +kernel))) rfl⟩
abbrev mX9_tellsOrder : MT := (yX9_tellsOrder, cX9_tellsOrder, 2, (some .int), 0, 0, shM)
set_option maxRecDepth 100000 in
theorem moX9_tellsOrder : Mok mX9_tellsOrder 1 := ⟨gtb_in (List.mem_append_right _ (List.mem_of_getElem? (i := 1178) rfl)) rfl, gtb_in (List.mem_append_right _ (List.mem_of_getElem? (i := 11) (by decide +kernel))) rfl, by decide +kernel, by decide +kernel, by decide +kernel⟩
theorem okX9_tellsOrder : MokV mX9_tellsOrder 1 := ⟨moX9_tellsOrder, gtb_in (List.mem_append_right _ (List.mem_of_getElem? (i := 1177) (by decide +kernel))) rfl, gtb_in (List.mem_append_left _ (List.mem_of_getElem? (i := 54) (by decide +kernel))) rfl⟩
abbrev mX9_tellsSqueeze : MT := (yX9_tellsSqueeze, cX9_tellsSqueeze, 2, (some .int), 1, 30, shM)
set_option maxRecDepth 100000 in
theorem moX9_tellsSqueeze : Mok mX9_tellsSqueeze 1 := ⟨gtb_in (List.mem_append_right _ (List.mem_of_getElem? (i := 1186) rfl)) rfl, gtb_in (List.mem_append_right _ (List.mem_of_getElem? (i := 11) (by decide +kernel))) rfl, by decide +kernel, by decide +kernel, by decide +kernel⟩
theorem okX9_tellsSqueeze : MokV mX9_tellsSqueeze 1 := ⟨moX9_tellsSqueeze, gtb_in (List.mem_append_right _ (List.mem_of_getElem? (i := 1185) (by decide +kernel))) rfl, gtb_in (List.mem_append_left _ (List.mem_of_getElem? (i := 55) (by decide +kernel))) rfl⟩
abbrev mX9_order : MT := (yX9_order, cX9_order, 2, (some .int), 3, 69, shM)
set_option maxRecDepth 100000 in
theorem moX9_order : Mok mX9_order 1 := ⟨gtb_in (List.mem_append_right _ (List.mem_of_getElem? (i := 1159) rfl)) rfl, gtb_in (List.mem_append_right _ (List.mem_of_getElem? (i := 11) (by decide +kernel))) rfl, by decide +kernel, by decide +kernel, by decide +kernel⟩
theorem okX9_order : MokV mX9_order 1 := ⟨moX9_order, gtb_in (List.mem_append_right _ (List.mem_of_getElem? (i := 1157) (by decide +kernel))) rfl, gtb_in (List.mem_append_right _ (List.mem_of_getElem? (i := 1158) (by decide +kernel))) rfl⟩
abbrev mX9_squeeze : MT := (yX9_squeeze, cX9_squeeze, 2, (some .int), 3, 69, shM)
set_option maxRecDepth 100000 in
theorem moX9_squeeze : Mok mX9_squeeze 1 := ⟨gtb_in (List.mem_append_right _ (List.mem_of_getElem? (i := 1182) rfl)) rfl, gtb_in (List.mem_append_right _ (List.mem_of_getElem? (i := 11) (by decide +kernel))) rfl, by decide +kernel, by decide +kernel, by decide +kernel⟩
theorem okX9_squeeze : MokV mX9_squeeze 1 := ⟨moX9_squeeze, gtb_in (List.mem_append_right _ (List.mem_of_getElem? (i := 1180) (by decide +kernel))) rfl, gtb_in (List.mem_append_right _ (List.mem_of_getElem? (i := 1181) (by decide +kernel))) rfl⟩
abbrev mX9_train : MT := (yX9_train, cX9_train, 2, (some .int), 1, 25, shM)
set_option maxRecDepth 100000 in
theorem moX9_train : Mok mX9_train 1 := ⟨gtb_in (List.mem_append_right _ (List.mem_of_getElem? (i := 1190) rfl)) rfl, gtb_in (List.mem_append_right _ (List.mem_of_getElem? (i := 11) (by decide +kernel))) rfl, by decide +kernel, by decide +kernel, by decide +kernel⟩
theorem okX9_train : MokV mX9_train 1 := ⟨moX9_train, gtb_in (List.mem_append_right _ (List.mem_of_getElem? (i := 1188) (by decide +kernel))) rfl, gtb_in (List.mem_append_right _ (List.mem_of_getElem? (i := 1189) (by decide +kernel))) rfl⟩
abbrev mX9_back : MT := (yX9_back, cX9_back, 1, (some .int), 0, 0, shM)
set_option maxRecDepth 100000 in
theorem moX9_back : Mok mX9_back 0 := ⟨gtb_in (List.mem_append_right _ (List.mem_of_getElem? (i := 1194) rfl)) rfl, gtb_in (List.mem_append_right _ (List.mem_of_getElem? (i := 11) (by decide +kernel))) rfl, by decide +kernel, by decide +kernel, by decide +kernel⟩
theorem okX9_back : MokV mX9_back 0 := ⟨moX9_back, gtb_in (List.mem_append_right _ (List.mem_of_getElem? (i := 1192) (by decide +kernel))) rfl, gtb_in (List.mem_append_right _ (List.mem_of_getElem? (i := 1193) (by decide +kernel))) rfl⟩
abbrev mX9_read : MT := (yX9_read, cX9_read, 3, (some .int), 2, 46, shM)
set_option maxRecDepth 100000 in
theorem moX9_read : Mok mX9_read 1 := ⟨gtb_in (List.mem_append_right _ (List.mem_of_getElem? (i := 1198) rfl)) rfl, gtb_in (List.mem_append_right _ (List.mem_of_getElem? (i := 11) (by decide +kernel))) rfl, by decide +kernel, by decide +kernel, by decide +kernel⟩
theorem okX9_read : MokV mX9_read 1 := ⟨moX9_read, gtb_in (List.mem_append_right _ (List.mem_of_getElem? (i := 1196) (by decide +kernel))) rfl, gtb_in (List.mem_append_right _ (List.mem_of_getElem? (i := 1197) (by decide +kernel))) rfl⟩
abbrev mX9_sorts : MT := (yX9_sorts, cX9_sorts, 3, none, 0, 0, shM)
set_option maxRecDepth 100000 in
theorem moX9_sorts : Mok mX9_sorts 0 := ⟨gtb_in (List.mem_append_right _ (List.mem_of_getElem? (i := 1212) rfl)) rfl, gtb_in (List.mem_append_right _ (List.mem_of_getElem? (i := 11) (by decide +kernel))) rfl, by decide +kernel, by decide +kernel, by decide +kernel⟩
theorem okX9_sorts : MokV mX9_sorts 0 := ⟨moX9_sorts, gtb_in (List.mem_append_right _ (List.mem_of_getElem? (i := 1211) (by decide +kernel))) rfl, gtb_in (List.mem_append_left _ (List.mem_of_getElem? (i := 57) (by decide +kernel))) rfl⟩
abbrev mX9_lateOf : MT := (yX9_lateOf, cX9_lateOf, 8, (some .int), 1, 22, shM)
set_option maxRecDepth 100000 in
theorem moX9_lateOf : Mok mX9_lateOf 2 := ⟨gtb_in (List.mem_append_right _ (List.mem_of_getElem? (i := 1208) rfl)) rfl, gtb_in (List.mem_append_right _ (List.mem_of_getElem? (i := 11) (by decide +kernel))) rfl, by decide +kernel, by decide +kernel, by decide +kernel⟩
theorem okX9_lateOf : MokV mX9_lateOf 2 := ⟨moX9_lateOf, gtb_in (List.mem_append_right _ (List.mem_of_getElem? (i := 1207) (by decide +kernel))) rfl, gtb_in (List.mem_append_left _ (List.mem_of_getElem? (i := 56) (by decide +kernel))) rfl⟩
abbrev mX9_late : MT := (yX9_late, cX9_late, 3, (some .int), 2, 49, shM)
set_option maxRecDepth 100000 in
theorem moX9_late : Mok mX9_late 2 := ⟨gtb_in (List.mem_append_right _ (List.mem_of_getElem? (i := 1203) rfl)) rfl, gtb_in (List.mem_append_right _ (List.mem_of_getElem? (i := 11) (by decide +kernel))) rfl, by decide +kernel, by decide +kernel, by decide +kernel⟩
theorem okX9_late : MokV mX9_late 2 := ⟨moX9_late, gtb_in (List.mem_append_right _ (List.mem_of_getElem? (i := 1201) (by decide +kernel))) rfl, gtb_in (List.mem_append_right _ (List.mem_of_getElem? (i := 1202) (by decide +kernel))) rfl⟩
abbrev mX9_enoughOf : MT := (yX9_enoughOf, cX9_enoughOf, 3, (some .int), 2, 49, shM)
set_option maxRecDepth 100000 in
theorem moX9_enoughOf : Mok mX9_enoughOf 1 := ⟨gtb_in (List.mem_append_right _ (List.mem_of_getElem? (i := 1220) rfl)) rfl, gtb_in (List.mem_append_right _ (List.mem_of_getElem? (i := 11) (by decide +kernel))) rfl, by decide +kernel, by decide +kernel, by decide +kernel⟩
theorem okX9_enoughOf : MokV mX9_enoughOf 1 := ⟨moX9_enoughOf, gtb_in (List.mem_append_right _ (List.mem_of_getElem? (i := 1219) (by decide +kernel))) rfl, gtb_in (List.mem_append_left _ (List.mem_of_getElem? (i := 58) (by decide +kernel))) rfl⟩
abbrev mX9_enough : MT := (yX9_enough, cX9_enough, 2, (some .int), 3, 71, shM)
set_option maxRecDepth 100000 in
theorem moX9_enough : Mok mX9_enough 1 := ⟨gtb_in (List.mem_append_right _ (List.mem_of_getElem? (i := 1216) rfl)) rfl, gtb_in (List.mem_append_right _ (List.mem_of_getElem? (i := 11) (by decide +kernel))) rfl, by decide +kernel, by decide +kernel, by decide +kernel⟩
theorem okX9_enough : MokV mX9_enough 1 := ⟨moX9_enough, gtb_in (List.mem_append_right _ (List.mem_of_getElem? (i := 1214) (by decide +kernel))) rfl, gtb_in (List.mem_append_right _ (List.mem_of_getElem? (i := 1215) (by decide +kernel))) rfl⟩
abbrev mX9_whistlesOf : MT := (yX9_whistlesOf, cX9_whistlesOf, 9, (some .long), 1, 30, shM)
set_option maxRecDepth 100000 in
theorem moX9_whistlesOf : Mok mX9_whistlesOf 4 := ⟨gtb_in (List.mem_append_right _ (List.mem_of_getElem? (i := 1228) rfl)) rfl, gtb_in (List.mem_append_right _ (List.mem_of_getElem? (i := 11) (by decide +kernel))) rfl, by decide +kernel, by decide +kernel, by decide +kernel⟩
theorem okX9_whistlesOf : MokS mX9_whistlesOf 4 := ⟨moX9_whistlesOf, gtb_in (List.mem_append_right _ (List.mem_of_getElem? (i := 1227) (by decide +kernel))) rfl⟩
abbrev mX9_whistles : MT := (yX9_whistles, cX9_whistles, 5, (some .long), 2, 58, shM)
set_option maxRecDepth 100000 in
theorem moX9_whistles : Mok mX9_whistles 4 := ⟨gtb_in (List.mem_append_right _ (List.mem_of_getElem? (i := 1224) rfl)) rfl, gtb_in (List.mem_append_right _ (List.mem_of_getElem? (i := 11) (by decide +kernel))) rfl, by decide +kernel, by decide +kernel, by decide +kernel⟩
theorem okX9_whistles : MokV mX9_whistles 4 := ⟨moX9_whistles, gtb_in (List.mem_append_right _ (List.mem_of_getElem? (i := 1222) (by decide +kernel))) rfl, gtb_in (List.mem_append_right _ (List.mem_of_getElem? (i := 1223) (by decide +kernel))) rfl⟩
abbrev mX9_words : MT := (yX9_words, cX9_words, 2, (some .int), 1, 25, shM)
set_option maxRecDepth 100000 in
theorem moX9_words : Mok mX9_words 1 := ⟨gtb_in (List.mem_append_right _ (List.mem_of_getElem? (i := 1232) rfl)) rfl, gtb_in (List.mem_append_right _ (List.mem_of_getElem? (i := 11) (by decide +kernel))) rfl, by decide +kernel, by decide +kernel, by decide +kernel⟩
theorem okX9_words : MokV mX9_words 1 := ⟨moX9_words, gtb_in (List.mem_append_right _ (List.mem_of_getElem? (i := 1230) (by decide +kernel))) rfl, gtb_in (List.mem_append_right _ (List.mem_of_getElem? (i := 1231) (by decide +kernel))) rfl⟩
abbrev mX9_write : MT := (yX9_write, cX9_write, 5, (some .int), 5, 111, shM)
set_option maxRecDepth 100000 in
theorem moX9_write : Mok mX9_write 2 := ⟨gtb_in (List.mem_append_right _ (List.mem_of_getElem? (i := 1236) rfl)) rfl, gtb_in (List.mem_append_right _ (List.mem_of_getElem? (i := 11) (by decide +kernel))) rfl, by decide +kernel, by decide +kernel, by decide +kernel⟩
theorem okX9_write : MokV mX9_write 2 := ⟨moX9_write, gtb_in (List.mem_append_right _ (List.mem_of_getElem? (i := 1234) (by decide +kernel))) rfl, gtb_in (List.mem_append_right _ (List.mem_of_getElem? (i := 1235) (by decide +kernel))) rfl⟩
abbrev mX9_count : MT := (yX9_count, cX9_count, 4, (some .int), 3, 68, shM)
set_option maxRecDepth 100000 in
theorem moX9_count : Mok mX9_count 1 := ⟨gtb_in (List.mem_append_right _ (List.mem_of_getElem? (i := 1240) rfl)) rfl, gtb_in (List.mem_append_right _ (List.mem_of_getElem? (i := 11) (by decide +kernel))) rfl, by decide +kernel, by decide +kernel, by decide +kernel⟩
theorem okX9_count : MokV mX9_count 1 := ⟨moX9_count, gtb_in (List.mem_append_right _ (List.mem_of_getElem? (i := 1238) (by decide +kernel))) rfl, gtb_in (List.mem_append_right _ (List.mem_of_getElem? (i := 1239) (by decide +kernel))) rfl⟩
abbrev mX9_digest : MT := (yX9_digest, cX9_digest, 6, (some .long), 5, 119, shM)
set_option maxRecDepth 100000 in
theorem moX9_digest : Mok mX9_digest 0 := ⟨gtb_in (List.mem_append_right _ (List.mem_of_getElem? (i := 1244) rfl)) rfl, gtb_in (List.mem_append_right _ (List.mem_of_getElem? (i := 11) (by decide +kernel))) rfl, by decide +kernel, by decide +kernel, by decide +kernel⟩
theorem okX9_digest : MokV mX9_digest 0 := ⟨moX9_digest, gtb_in (List.mem_append_right _ (List.mem_of_getElem? (i := 1242) (by decide +kernel))) rfl, gtb_in (List.mem_append_right _ (List.mem_of_getElem? (i := 1243) (by decide +kernel))) rfl⟩
abbrev mJ9_abs_067f4 : MT := (yJ9_abs_067f4, cJ9_abs_067f4, 2, (some .long), 0, 0, shC)
set_option maxRecDepth 100000 in
theorem moJ9_abs_067f4 : Mok mJ9_abs_067f4 1 := ⟨gtb_in (List.mem_append_right _ (List.mem_of_getElem? (i := 458) rfl)) rfl, gtb_in (List.mem_append_right _ (List.mem_of_getElem? (i := 10) (by decide +kernel))) rfl, by decide +kernel, by decide +kernel, by decide +kernel⟩
theorem okJ9_abs_067f4 : MokS mJ9_abs_067f4 1 := ⟨moJ9_abs_067f4, gtb_in (List.mem_append_right _ (List.mem_of_getElem? (i := 457) (by decide +kernel))) rfl⟩
abbrev mJ9_max_7cf53 : MT := (yJ9_max_7cf53, cJ9_max_7cf53, 2, (some .int), 0, 0, shC)
set_option maxRecDepth 100000 in
theorem moJ9_max_7cf53 : Mok mJ9_max_7cf53 2 := ⟨gtb_in (List.mem_append_right _ (List.mem_of_getElem? (i := 274) rfl)) rfl, gtb_in (List.mem_append_right _ (List.mem_of_getElem? (i := 10) (by decide +kernel))) rfl, by decide +kernel, by decide +kernel, by decide +kernel⟩
theorem okJ9_max_7cf53 : MokS mJ9_max_7cf53 2 := ⟨moJ9_max_7cf53, gtb_in (List.mem_append_right _ (List.mem_of_getElem? (i := 273) (by decide +kernel))) rfl⟩
abbrev mJ9_min_7cf53 : MT := (yJ9_min_7cf53, cJ9_min_7cf53, 2, (some .int), 0, 0, shC)
set_option maxRecDepth 100000 in
theorem moJ9_min_7cf53 : Mok mJ9_min_7cf53 2 := ⟨gtb_in (List.mem_append_right _ (List.mem_of_getElem? (i := 234) rfl)) rfl, gtb_in (List.mem_append_right _ (List.mem_of_getElem? (i := 10) (by decide +kernel))) rfl, by decide +kernel, by decide +kernel, by decide +kernel⟩
theorem okJ9_min_7cf53 : MokS mJ9_min_7cf53 2 := ⟨moJ9_min_7cf53, gtb_in (List.mem_append_right _ (List.mem_of_getElem? (i := 233) (by decide +kernel))) rfl⟩
theorem tmX8_101 : Cond.methodLink RX8 101 yX8_refresh ∈ gtb := gtb_in (List.mem_append_right _ (List.mem_of_getElem? (i := 213) (by decide +kernel))) rfl
theorem tmX8_408 : Cond.methodLink RX8 408 yX1_load ∈ gtb := gtb_in (List.mem_append_right _ (List.mem_of_getElem? (i := 217) (by decide +kernel))) rfl
theorem tmX1_28 : Cond.methodLink RX1 28 yX1_faultOf ∈ gtb := gtb_in (List.mem_append_right _ (List.mem_of_getElem? (i := 221) (by decide +kernel))) rfl
theorem tmX1_32 : Cond.methodLink RX1 32 yX7_size ∈ gtb := gtb_in (List.mem_append_right _ (List.mem_of_getElem? (i := 224) (by decide +kernel))) rfl
theorem tmX1_43 : Cond.methodLink RX1 43 yX7_byteAt ∈ gtb := gtb_in (List.mem_append_right _ (List.mem_of_getElem? (i := 228) (by decide +kernel))) rfl
theorem tmX1_37 : Cond.methodLink RX1 37 yJ9_min_7cf53 ∈ gtb := gtb_in (List.mem_append_right _ (List.mem_of_getElem? (i := 232) (by decide +kernel))) rfl
theorem tmX8_412 : Cond.methodLink RX8 412 yX6_load ∈ gtb := gtb_in (List.mem_append_right _ (List.mem_of_getElem? (i := 235) (by decide +kernel))) rfl
theorem tmX6_29 : Cond.methodLink RX6 29 yX7_size ∈ gtb := gtb_in (List.mem_append_right _ (List.mem_of_getElem? (i := 239) (by decide +kernel))) rfl
theorem tmX6_34 : Cond.methodLink RX6 34 yX7_byteAt ∈ gtb := gtb_in (List.mem_append_right _ (List.mem_of_getElem? (i := 240) (by decide +kernel))) rfl
theorem tmX6_38 : Cond.methodLink RX6 38 yX6_takes ∈ gtb := gtb_in (List.mem_append_right _ (List.mem_of_getElem? (i := 241) (by decide +kernel))) rfl
theorem tmX6_42 : Cond.methodLink RX6 42 yX6_bendsLast ∈ gtb := gtb_in (List.mem_append_right _ (List.mem_of_getElem? (i := 245) (by decide +kernel))) rfl
theorem tmX8_180 : Cond.methodLink RX8 180 yX1_whole ∈ gtb := gtb_in (List.mem_append_right _ (List.mem_of_getElem? (i := 249) (by decide +kernel))) rfl
theorem tmX8_190 : Cond.methodLink RX8 190 yX3_at ∈ gtb := gtb_in (List.mem_append_right _ (List.mem_of_getElem? (i := 253) (by decide +kernel))) rfl
theorem tmX8_413 : Cond.methodLink RX8 413 yX4_run ∈ gtb := gtb_in (List.mem_append_right _ (List.mem_of_getElem? (i := 257) (by decide +kernel))) rfl
theorem tmX4_27 : Cond.methodLink RX4 27 yX6_steepAt ∈ gtb := gtb_in (List.mem_append_right _ (List.mem_of_getElem? (i := 261) (by decide +kernel))) rfl
theorem tmX6_46 : Cond.methodLink RX6 46 yJ9_min_7cf53 ∈ gtb := gtb_in (List.mem_append_right _ (List.mem_of_getElem? (i := 265) (by decide +kernel))) rfl
theorem tmX4_33 : Cond.methodLink RX4 33 yX4_byRule ∈ gtb := gtb_in (List.mem_append_right _ (List.mem_of_getElem? (i := 266) (by decide +kernel))) rfl
theorem tmX4_49 : Cond.methodLink RX4 49 yX3_at ∈ gtb := gtb_in (List.mem_append_right _ (List.mem_of_getElem? (i := 270) (by decide +kernel))) rfl
theorem tmX4_41 : Cond.methodLink RX4 41 yJ9_min_7cf53 ∈ gtb := gtb_in (List.mem_append_right _ (List.mem_of_getElem? (i := 271) (by decide +kernel))) rfl
theorem tmX4_46 : Cond.methodLink RX4 46 yJ9_max_7cf53 ∈ gtb := gtb_in (List.mem_append_right _ (List.mem_of_getElem? (i := 272) (by decide +kernel))) rfl
theorem tmX4_37 : Cond.methodLink RX4 37 yX4_nextSpeed ∈ gtb := gtb_in (List.mem_append_right _ (List.mem_of_getElem? (i := 275) (by decide +kernel))) rfl
theorem tmX8_104 : Cond.methodLink RX8 104 yX8_textAt ∈ gtb := gtb_in (List.mem_append_right _ (List.mem_of_getElem? (i := 322) (by decide +kernel))) rfl
theorem tmX8_108 : Cond.methodLink RX8 108 yX7_isFull ∈ gtb := gtb_in (List.mem_append_right _ (List.mem_of_getElem? (i := 326) (by decide +kernel))) rfl
theorem tmX8_112 : Cond.methodLink RX8 112 yX7_append ∈ gtb := gtb_in (List.mem_append_right _ (List.mem_of_getElem? (i := 330) (by decide +kernel))) rfl
theorem tmX7_22 : Cond.methodLink RX7 22 yX7_isFull ∈ gtb := gtb_in (List.mem_append_right _ (List.mem_of_getElem? (i := 334) (by decide +kernel))) rfl
theorem tmX8_115 : Cond.methodLink RX8 115 yX7_size ∈ gtb := gtb_in (List.mem_append_right _ (List.mem_of_getElem? (i := 335) (by decide +kernel))) rfl
theorem tmX8_119 : Cond.methodLink RX8 119 yX7_shorten ∈ gtb := gtb_in (List.mem_append_right _ (List.mem_of_getElem? (i := 340) (by decide +kernel))) rfl
theorem tmX7_26 : Cond.methodLink RX7 26 yJ9_max_7cf53 ∈ gtb := gtb_in (List.mem_append_right _ (List.mem_of_getElem? (i := 344) (by decide +kernel))) rfl
theorem tmX8_122 : Cond.methodLink RX8 122 yX1_firstFault ∈ gtb := gtb_in (List.mem_append_right _ (List.mem_of_getElem? (i := 353) (by decide +kernel))) rfl
theorem tmX8_125 : Cond.methodLink RX8 125 yX6_firstFault ∈ gtb := gtb_in (List.mem_append_right _ (List.mem_of_getElem? (i := 357) (by decide +kernel))) rfl
theorem tmX8_126 : Cond.methodLink RX8 126 yX1_size ∈ gtb := gtb_in (List.mem_append_right _ (List.mem_of_getElem? (i := 365) (by decide +kernel))) rfl
theorem tmX8_127 : Cond.methodLink RX8 127 yX1_weightOf ∈ gtb := gtb_in (List.mem_append_right _ (List.mem_of_getElem? (i := 369) (by decide +kernel))) rfl
theorem tmX8_131 : Cond.methodLink RX8 131 yX6_size ∈ gtb := gtb_in (List.mem_append_right _ (List.mem_of_getElem? (i := 377) (by decide +kernel))) rfl
theorem tmX8_132 : Cond.methodLink RX8 132 yX8_isZeroOrOne ∈ gtb := gtb_in (List.mem_append_right _ (List.mem_of_getElem? (i := 381) (by decide +kernel))) rfl
theorem tmX8_136 : Cond.methodLink RX8 136 yX6_steepAt ∈ gtb := gtb_in (List.mem_append_right _ (List.mem_of_getElem? (i := 384) (by decide +kernel))) rfl
theorem tmX8_139 : Cond.methodLink RX8 139 yX6_bendsAt ∈ gtb := gtb_in (List.mem_append_right _ (List.mem_of_getElem? (i := 385) (by decide +kernel))) rfl
theorem tmX8_142 : Cond.methodLink RX8 142 yX8_isEngine ∈ gtb := gtb_in (List.mem_append_right _ (List.mem_of_getElem? (i := 393) (by decide +kernel))) rfl
theorem tmX8_145 : Cond.methodLink RX8 145 yX8_engineAt ∈ gtb := gtb_in (List.mem_append_right _ (List.mem_of_getElem? (i := 396) (by decide +kernel))) rfl
theorem tmX8_149 : Cond.methodLink RX8 149 yX3_takes ∈ gtb := gtb_in (List.mem_append_right _ (List.mem_of_getElem? (i := 400) (by decide +kernel))) rfl
theorem tmX8_153 : Cond.methodLink RX8 153 yX3_turn ∈ gtb := gtb_in (List.mem_append_right _ (List.mem_of_getElem? (i := 404) (by decide +kernel))) rfl
theorem tmX3_24 : Cond.methodLink RX3 24 yX3_at ∈ gtb := gtb_in (List.mem_append_right _ (List.mem_of_getElem? (i := 408) (by decide +kernel))) rfl
theorem tmX3_28 : Cond.methodLink RX3 28 yX3_takes ∈ gtb := gtb_in (List.mem_append_right _ (List.mem_of_getElem? (i := 409) (by decide +kernel))) rfl
theorem tmX8_157 : Cond.methodLink RX8 157 yX8_isMinute ∈ gtb := gtb_in (List.mem_append_right _ (List.mem_of_getElem? (i := 418) (by decide +kernel))) rfl
theorem tmX8_160 : Cond.methodLink RX8 160 yX4_given ∈ gtb := gtb_in (List.mem_append_right _ (List.mem_of_getElem? (i := 421) (by decide +kernel))) rfl
theorem tmX8_163 : Cond.methodLink RX8 163 yX4_neededIn ∈ gtb := gtb_in (List.mem_append_right _ (List.mem_of_getElem? (i := 429) (by decide +kernel))) rfl
theorem tmX8_166 : Cond.methodLink RX8 166 yX4_speedIn ∈ gtb := gtb_in (List.mem_append_right _ (List.mem_of_getElem? (i := 433) (by decide +kernel))) rfl
theorem tmX8_169 : Cond.methodLink RX8 169 yX4_placeIn ∈ gtb := gtb_in (List.mem_append_right _ (List.mem_of_getElem? (i := 437) (by decide +kernel))) rfl
theorem tmX8_172 : Cond.methodLink RX8 172 yX8_refusedAsLong ∈ gtb := gtb_in (List.mem_append_right _ (List.mem_of_getElem? (i := 445) (by decide +kernel))) rfl
theorem tmX8_176 : Cond.methodLink RX8 176 yX1_strainTimesWhole ∈ gtb := gtb_in (List.mem_append_right _ (List.mem_of_getElem? (i := 449) (by decide +kernel))) rfl
theorem tmX8_183 : Cond.methodLink RX8 183 yX8_inLowestTerms ∈ gtb := gtb_in (List.mem_append_right _ (List.mem_of_getElem? (i := 453) (by decide +kernel))) rfl
theorem tmX8_430 : Cond.methodLink RX8 430 yJ9_abs_067f4 ∈ gtb := gtb_in (List.mem_append_right _ (List.mem_of_getElem? (i := 456) (by decide +kernel))) rfl
theorem tmX8_433 : Cond.methodLink RX8 433 yX8_commonDivisor ∈ gtb := gtb_in (List.mem_append_right _ (List.mem_of_getElem? (i := 459) (by decide +kernel))) rfl
theorem tmX8_187 : Cond.methodLink RX8 187 yX1_firstSlack ∈ gtb := gtb_in (List.mem_append_right _ (List.mem_of_getElem? (i := 466) (by decide +kernel))) rfl
theorem tmX1_47 : Cond.methodLink RX1 47 yX1_strainTimesWhole ∈ gtb := gtb_in (List.mem_append_right _ (List.mem_of_getElem? (i := 470) (by decide +kernel))) rfl
theorem tmX8_193 : Cond.methodLink RX8 193 yX1_tears ∈ gtb := gtb_in (List.mem_append_right _ (List.mem_of_getElem? (i := 475) (by decide +kernel))) rfl
theorem tmX8_197 : Cond.methodLink RX8 197 yX8_squeezedOffIn ∈ gtb := gtb_in (List.mem_append_right _ (List.mem_of_getElem? (i := 483) (by decide +kernel))) rfl
theorem tmX8_425 : Cond.methodLink RX8 425 yX1_firstSqueezed ∈ gtb := gtb_in (List.mem_append_right _ (List.mem_of_getElem? (i := 487) (by decide +kernel))) rfl
theorem tmX1_51 : Cond.methodLink RX1 51 yX1_weightOf ∈ gtb := gtb_in (List.mem_append_right _ (List.mem_of_getElem? (i := 491) (by decide +kernel))) rfl
theorem tmX8_200 : Cond.methodLink RX8 200 yX4_givesAlike ∈ gtb := gtb_in (List.mem_append_right _ (List.mem_of_getElem? (i := 500) (by decide +kernel))) rfl
theorem tmX4_54 : Cond.methodLink RX4 54 yX4_given ∈ gtb := gtb_in (List.mem_append_right _ (List.mem_of_getElem? (i := 504) (by decide +kernel))) rfl
theorem tmX8_203 : Cond.methodLink RX8 203 yX4_comesAgain ∈ gtb := gtb_in (List.mem_append_right _ (List.mem_of_getElem? (i := 509) (by decide +kernel))) rfl
theorem tmX4_57 : Cond.methodLink RX4 57 yX4_givesAlike ∈ gtb := gtb_in (List.mem_append_right _ (List.mem_of_getElem? (i := 513) (by decide +kernel))) rfl
theorem tmX8_206 : Cond.methodLink RX8 206 yX4_allGiven ∈ gtb := gtb_in (List.mem_append_right _ (List.mem_of_getElem? (i := 518) (by decide +kernel))) rfl
theorem tmX8_209 : Cond.methodLink RX8 209 yX8_isSecond ∈ gtb := gtb_in (List.mem_append_right _ (List.mem_of_getElem? (i := 526) (by decide +kernel))) rfl
theorem tmX8_212 : Cond.methodLink RX8 212 yX8_startOf ∈ gtb := gtb_in (List.mem_append_right _ (List.mem_of_getElem? (i := 529) (by decide +kernel))) rfl
theorem tmX8_215 : Cond.methodLink RX8 215 yX8_findBestRow ∈ gtb := gtb_in (List.mem_append_right _ (List.mem_of_getElem? (i := 541) (by decide +kernel))) rfl
theorem tmX8_421 : Cond.methodLink RX8 421 yX0_find ∈ gtb := gtb_in (List.mem_append_right _ (List.mem_of_getElem? (i := 545) (by decide +kernel))) rfl
theorem tmX0_37 : Cond.methodLink RX0 37 yX0_begin ∈ gtb := gtb_in (List.mem_append_right _ (List.mem_of_getElem? (i := 549) (by decide +kernel))) rfl
theorem tmX0_52 : Cond.methodLink RX0 52 yX1_size ∈ gtb := gtb_in (List.mem_append_right _ (List.mem_of_getElem? (i := 553) (by decide +kernel))) rfl
theorem tmX0_57 : Cond.methodLink RX0 57 yX1_whole ∈ gtb := gtb_in (List.mem_append_right _ (List.mem_of_getElem? (i := 554) (by decide +kernel))) rfl
theorem tmX0_41 : Cond.methodLink RX0 41 yX0_weigh ∈ gtb := gtb_in (List.mem_append_right _ (List.mem_of_getElem? (i := 555) (by decide +kernel))) rfl
theorem tmX0_59 : Cond.methodLink RX0 59 yX1_weightOf ∈ gtb := gtb_in (List.mem_append_right _ (List.mem_of_getElem? (i := 559) (by decide +kernel))) rfl
theorem tmX0_45 : Cond.methodLink RX0 45 yX0_keep ∈ gtb := gtb_in (List.mem_append_right _ (List.mem_of_getElem? (i := 560) (by decide +kernel))) rfl
theorem tmX0_48 : Cond.methodLink RX0 48 yX0_stepOn ∈ gtb := gtb_in (List.mem_append_right _ (List.mem_of_getElem? (i := 567) (by decide +kernel))) rfl
theorem tmX0_69 : Cond.methodLink RX0 69 yJ9_min_7cf53 ∈ gtb := gtb_in (List.mem_append_right _ (List.mem_of_getElem? (i := 571) (by decide +kernel))) rfl
theorem tmX0_75 : Cond.methodLink RX0 75 yX0_swap ∈ gtb := gtb_in (List.mem_append_right _ (List.mem_of_getElem? (i := 572) (by decide +kernel))) rfl
theorem tmX8_218 : Cond.methodLink RX8 218 yX0_wagonAt ∈ gtb := gtb_in (List.mem_append_right _ (List.mem_of_getElem? (i := 576) (by decide +kernel))) rfl
theorem tmX8_221 : Cond.methodLink RX8 221 yX0_squeezeAbove ∈ gtb := gtb_in (List.mem_append_right _ (List.mem_of_getElem? (i := 584) (by decide +kernel))) rfl
theorem tmX8_224 : Cond.methodLink RX8 224 yX0_squeezeBelow ∈ gtb := gtb_in (List.mem_append_right _ (List.mem_of_getElem? (i := 588) (by decide +kernel))) rfl
theorem tmX8_227 : Cond.methodLink RX8 227 yX8_isFootMinute ∈ gtb := gtb_in (List.mem_append_right _ (List.mem_of_getElem? (i := 596) (by decide +kernel))) rfl
theorem tmX8_230 : Cond.methodLink RX8 230 yX2_isFull ∈ gtb := gtb_in (List.mem_append_right _ (List.mem_of_getElem? (i := 599) (by decide +kernel))) rfl
theorem tmX8_231 : Cond.methodLink RX8 231 yX2_tell ∈ gtb := gtb_in (List.mem_append_right _ (List.mem_of_getElem? (i := 603) (by decide +kernel))) rfl
theorem tmX8_234 : Cond.methodLink RX8 234 yX2_size ∈ gtb := gtb_in (List.mem_append_right _ (List.mem_of_getElem? (i := 607) (by decide +kernel))) rfl
theorem tmX8_235 : Cond.methodLink RX8 235 yX2_forgetLast ∈ gtb := gtb_in (List.mem_append_right _ (List.mem_of_getElem? (i := 615) (by decide +kernel))) rfl
theorem tmX2_31 : Cond.methodLink RX2 31 yJ9_max_7cf53 ∈ gtb := gtb_in (List.mem_append_right _ (List.mem_of_getElem? (i := 619) (by decide +kernel))) rfl
theorem tmX8_238 : Cond.methodLink RX8 238 yX8_sheetAt ∈ gtb := gtb_in (List.mem_append_right _ (List.mem_of_getElem? (i := 624) (by decide +kernel))) rfl
theorem tmX8_242 : Cond.methodLink RX8 242 yX5_isLost ∈ gtb := gtb_in (List.mem_append_right _ (List.mem_of_getElem? (i := 628) (by decide +kernel))) rfl
theorem tmX8_245 : Cond.methodLink RX8 245 yX8_found ∈ gtb := gtb_in (List.mem_append_right _ (List.mem_of_getElem? (i := 632) (by decide +kernel))) rfl
theorem tmX8_248 : Cond.methodLink RX8 248 yX5_size ∈ gtb := gtb_in (List.mem_append_right _ (List.mem_of_getElem? (i := 636) (by decide +kernel))) rfl
theorem tmX8_249 : Cond.methodLink RX8 249 yX5_itemAt ∈ gtb := gtb_in (List.mem_append_right _ (List.mem_of_getElem? (i := 640) (by decide +kernel))) rfl
theorem tmX8_252 : Cond.methodLink RX8 252 yX8_busyMinutes ∈ gtb := gtb_in (List.mem_append_right _ (List.mem_of_getElem? (i := 648) (by decide +kernel))) rfl
theorem tmX8_255 : Cond.methodLink RX8 255 yX2_pushAll ∈ gtb := gtb_in (List.mem_append_right _ (List.mem_of_getElem? (i := 652) (by decide +kernel))) rfl
theorem tmX2_37 : Cond.methodLink RX2 37 yX2_sort ∈ gtb := gtb_in (List.mem_append_right _ (List.mem_of_getElem? (i := 656) (by decide +kernel))) rfl
theorem tmX2_40 : Cond.methodLink RX2 40 yX2_firstFree ∈ gtb := gtb_in (List.mem_append_right _ (List.mem_of_getElem? (i := 660) (by decide +kernel))) rfl
theorem tmX8_259 : Cond.methodLink RX8 259 yX2_waitedTogether ∈ gtb := gtb_in (List.mem_append_right _ (List.mem_of_getElem? (i := 664) (by decide +kernel))) rfl
theorem tmX8_262 : Cond.methodLink RX8 262 yX2_waitedMost ∈ gtb := gtb_in (List.mem_append_right _ (List.mem_of_getElem? (i := 668) (by decide +kernel))) rfl
theorem tmX8_265 : Cond.methodLink RX8 265 yX8_power ∈ gtb := gtb_in (List.mem_append_right _ (List.mem_of_getElem? (i := 680) (by decide +kernel))) rfl
theorem tmX8_269 : Cond.methodLink RX8 269 yX8_choices ∈ gtb := gtb_in (List.mem_append_right _ (List.mem_of_getElem? (i := 683) (by decide +kernel))) rfl
theorem tmX8_272 : Cond.methodLink RX8 272 yX8_isForm ∈ gtb := gtb_in (List.mem_append_right _ (List.mem_of_getElem? (i := 694) (by decide +kernel))) rfl
theorem tmX8_275 : Cond.methodLink RX8 275 yX5_renew ∈ gtb := gtb_in (List.mem_append_right _ (List.mem_of_getElem? (i := 697) (by decide +kernel))) rfl
theorem tmX5_22 : Cond.methodLink RX5 22 yJ9_min_7cf53 ∈ gtb := gtb_in (List.mem_append_right _ (List.mem_of_getElem? (i := 701) (by decide +kernel))) rfl
theorem tmX5_28 : Cond.methodLink RX5 28 yJ9_max_7cf53 ∈ gtb := gtb_in (List.mem_append_right _ (List.mem_of_getElem? (i := 702) (by decide +kernel))) rfl
theorem tmX8_278 : Cond.methodLink RX8 278 yX5_drop ∈ gtb := gtb_in (List.mem_append_right _ (List.mem_of_getElem? (i := 707) (by decide +kernel))) rfl
theorem tmX8_281 : Cond.methodLink RX8 281 yX8_findingOfItem ∈ gtb := gtb_in (List.mem_append_right _ (List.mem_of_getElem? (i := 715) (by decide +kernel))) rfl
theorem tmX8_292 : Cond.methodLink RX8 292 yX5_isOfForm ∈ gtb := gtb_in (List.mem_append_right _ (List.mem_of_getElem? (i := 718) (by decide +kernel))) rfl
theorem tmX8_295 : Cond.methodLink RX8 295 yX5_hasItems ∈ gtb := gtb_in (List.mem_append_right _ (List.mem_of_getElem? (i := 722) (by decide +kernel))) rfl
theorem tmX8_285 : Cond.methodLink RX8 285 yX5_put ∈ gtb := gtb_in (List.mem_append_right _ (List.mem_of_getElem? (i := 726) (by decide +kernel))) rfl
theorem tmX5_31 : Cond.methodLink RX5 31 yX5_cut ∈ gtb := gtb_in (List.mem_append_right _ (List.mem_of_getElem? (i := 730) (by decide +kernel))) rfl
theorem tmX8_289 : Cond.methodLink RX8 289 yX5_formNumber ∈ gtb := gtb_in (List.mem_append_right _ (List.mem_of_getElem? (i := 743) (by decide +kernel))) rfl
theorem tmX8_298 : Cond.methodLink RX8 298 yX5_takeOver ∈ gtb := gtb_in (List.mem_append_right _ (List.mem_of_getElem? (i := 747) (by decide +kernel))) rfl
theorem tmX5_35 : Cond.methodLink RX5 35 yX5_hasItems ∈ gtb := gtb_in (List.mem_append_right _ (List.mem_of_getElem? (i := 751) (by decide +kernel))) rfl
theorem tmX8_302 : Cond.methodLink RX8 302 yJ9_min_7cf53 ∈ gtb := gtb_in (List.mem_append_right _ (List.mem_of_getElem? (i := 757) (by decide +kernel))) rfl
theorem tmX8_307 : Cond.methodLink RX8 307 yX6_bends ∈ gtb := gtb_in (List.mem_append_right _ (List.mem_of_getElem? (i := 762) (by decide +kernel))) rfl
theorem tmX8_312 : Cond.methodLink RX8 312 yX8_count ∈ gtb := gtb_in (List.mem_append_right _ (List.mem_of_getElem? (i := 771) (by decide +kernel))) rfl
theorem tmX8_315 : Cond.methodLink RX8 315 yX8_mixed ∈ gtb := gtb_in (List.mem_append_right _ (List.mem_of_getElem? (i := 772) (by decide +kernel))) rfl
theorem tmX8_319 : Cond.methodLink RX8 319 yX8_fault ∈ gtb := gtb_in (List.mem_append_right _ (List.mem_of_getElem? (i := 776) (by decide +kernel))) rfl
theorem tmX8_322 : Cond.methodLink RX8 322 yX8_mixedWagons ∈ gtb := gtb_in (List.mem_append_right _ (List.mem_of_getElem? (i := 777) (by decide +kernel))) rfl
theorem tmX8_341 : Cond.methodLink RX8 341 yX8_wagon ∈ gtb := gtb_in (List.mem_append_right _ (List.mem_of_getElem? (i := 781) (by decide +kernel))) rfl
theorem tmX8_344 : Cond.methodLink RX8 344 yX8_strain ∈ gtb := gtb_in (List.mem_append_right _ (List.mem_of_getElem? (i := 782) (by decide +kernel))) rfl
theorem tmX8_326 : Cond.methodLink RX8 326 yX8_mixedHill ∈ gtb := gtb_in (List.mem_append_right _ (List.mem_of_getElem? (i := 783) (by decide +kernel))) rfl
theorem tmX8_348 : Cond.methodLink RX8 348 yX8_hill ∈ gtb := gtb_in (List.mem_append_right _ (List.mem_of_getElem? (i := 787) (by decide +kernel))) rfl
theorem tmX8_329 : Cond.methodLink RX8 329 yX8_mixedMinutes ∈ gtb := gtb_in (List.mem_append_right _ (List.mem_of_getElem? (i := 788) (by decide +kernel))) rfl
theorem tmX8_354 : Cond.methodLink RX8 354 yX8_gives ∈ gtb := gtb_in (List.mem_append_right _ (List.mem_of_getElem? (i := 794) (by decide +kernel))) rfl
theorem tmX8_357 : Cond.methodLink RX8 357 yX8_minute ∈ gtb := gtb_in (List.mem_append_right _ (List.mem_of_getElem? (i := 795) (by decide +kernel))) rfl
theorem tmX8_360 : Cond.methodLink RX8 360 yX8_slack ∈ gtb := gtb_in (List.mem_append_right _ (List.mem_of_getElem? (i := 796) (by decide +kernel))) rfl
theorem tmX8_332 : Cond.methodLink RX8 332 yX8_mixedOutcomes ∈ gtb := gtb_in (List.mem_append_right _ (List.mem_of_getElem? (i := 797) (by decide +kernel))) rfl
theorem tmX8_363 : Cond.methodLink RX8 363 yX8_torn ∈ gtb := gtb_in (List.mem_append_right _ (List.mem_of_getElem? (i := 801) (by decide +kernel))) rfl
theorem tmX8_366 : Cond.methodLink RX8 366 yX8_off ∈ gtb := gtb_in (List.mem_append_right _ (List.mem_of_getElem? (i := 802) (by decide +kernel))) rfl
theorem tmX8_369 : Cond.methodLink RX8 369 yX8_over ∈ gtb := gtb_in (List.mem_append_right _ (List.mem_of_getElem? (i := 803) (by decide +kernel))) rfl
theorem tmX8_372 : Cond.methodLink RX8 372 yX8_settles ∈ gtb := gtb_in (List.mem_append_right _ (List.mem_of_getElem? (i := 804) (by decide +kernel))) rfl
theorem tmX8_375 : Cond.methodLink RX8 375 yX8_swings ∈ gtb := gtb_in (List.mem_append_right _ (List.mem_of_getElem? (i := 805) (by decide +kernel))) rfl
theorem tmX8_378 : Cond.methodLink RX8 378 yX8_does ∈ gtb := gtb_in (List.mem_append_right _ (List.mem_of_getElem? (i := 806) (by decide +kernel))) rfl
theorem tmX8_335 : Cond.methodLink RX8 335 yX8_mixedStarts ∈ gtb := gtb_in (List.mem_append_right _ (List.mem_of_getElem? (i := 807) (by decide +kernel))) rfl
theorem tmX8_381 : Cond.methodLink RX8 381 yX8_start ∈ gtb := gtb_in (List.mem_append_right _ (List.mem_of_getElem? (i := 811) (by decide +kernel))) rfl
theorem tmX8_384 : Cond.methodLink RX8 384 yX8_safe ∈ gtb := gtb_in (List.mem_append_right _ (List.mem_of_getElem? (i := 812) (by decide +kernel))) rfl
theorem tmX8_387 : Cond.methodLink RX8 387 yX8_order ∈ gtb := gtb_in (List.mem_append_right _ (List.mem_of_getElem? (i := 813) (by decide +kernel))) rfl
theorem tmX8_390 : Cond.methodLink RX8 390 yX8_squeeze ∈ gtb := gtb_in (List.mem_append_right _ (List.mem_of_getElem? (i := 814) (by decide +kernel))) rfl
theorem tmX8_338 : Cond.methodLink RX8 338 yX8_mixedDay ∈ gtb := gtb_in (List.mem_append_right _ (List.mem_of_getElem? (i := 815) (by decide +kernel))) rfl
theorem tmX8_393 : Cond.methodLink RX8 393 yX8_late ∈ gtb := gtb_in (List.mem_append_right _ (List.mem_of_getElem? (i := 819) (by decide +kernel))) rfl
theorem tmX8_396 : Cond.methodLink RX8 396 yX8_enough ∈ gtb := gtb_in (List.mem_append_right _ (List.mem_of_getElem? (i := 820) (by decide +kernel))) rfl
theorem tmX8_399 : Cond.methodLink RX8 399 yX8_whistles ∈ gtb := gtb_in (List.mem_append_right _ (List.mem_of_getElem? (i := 821) (by decide +kernel))) rfl
theorem tmX8_403 : Cond.methodLink RX8 403 yX8_words ∈ gtb := gtb_in (List.mem_append_right _ (List.mem_of_getElem? (i := 822) (by decide +kernel))) rfl
theorem tmX9_87 : Cond.methodLink RX9 87 yX9_isSheet ∈ gtb := gtb_in (List.mem_append_right _ (List.mem_of_getElem? (i := 921) (by decide +kernel))) rfl
theorem tmX9_73 : Cond.methodLink RX9 73 yX9_in ∈ gtb := gtb_in (List.mem_append_right _ (List.mem_of_getElem? (i := 925) (by decide +kernel))) rfl
theorem tmX9_93 : Cond.methodLink RX9 93 yX9_met ∈ gtb := gtb_in (List.mem_append_right _ (List.mem_of_getElem? (i := 929) (by decide +kernel))) rfl
theorem tmX9_97 : Cond.methodLink RX9 97 yX9_lacks ∈ gtb := gtb_in (List.mem_append_right _ (List.mem_of_getElem? (i := 941) (by decide +kernel))) rfl
theorem tmX9_101 : Cond.methodLink RX9 101 yX9_cut ∈ gtb := gtb_in (List.mem_append_right _ (List.mem_of_getElem? (i := 945) (by decide +kernel))) rfl
theorem tmX9_105 : Cond.methodLink RX9 105 yX9_isTwo ∈ gtb := gtb_in (List.mem_append_right _ (List.mem_of_getElem? (i := 961) (by decide +kernel))) rfl
theorem tmX9_121 : Cond.methodLink RX9 121 yX9_readsTrain ∈ gtb := gtb_in (List.mem_append_right _ (List.mem_of_getElem? (i := 977) (by decide +kernel))) rfl
theorem tmX9_125 : Cond.methodLink RX9 125 yX9_readsHill ∈ gtb := gtb_in (List.mem_append_right _ (List.mem_of_getElem? (i := 982) (by decide +kernel))) rfl
theorem tmX9_128 : Cond.methodLink RX9 128 yX9_reads ∈ gtb := gtb_in (List.mem_append_right _ (List.mem_of_getElem? (i := 990) (by decide +kernel))) rfl
theorem tmX9_152 : Cond.methodLink RX9 152 yX9_lives ∈ gtb := gtb_in (List.mem_append_right _ (List.mem_of_getElem? (i := 1015) (by decide +kernel))) rfl
theorem tmX9_141 : Cond.methodLink RX9 141 yX9_within ∈ gtb := gtb_in (List.mem_append_right _ (List.mem_of_getElem? (i := 1019) (by decide +kernel))) rfl
theorem tmX9_77 : Cond.methodLink RX9 77 yX9_lesser ∈ gtb := gtb_in (List.mem_append_right _ (List.mem_of_getElem? (i := 1022) (by decide +kernel))) rfl
theorem tmX9_147 : Cond.methodLink RX9 147 yX9_givesOf ∈ gtb := gtb_in (List.mem_append_right _ (List.mem_of_getElem? (i := 1025) (by decide +kernel))) rfl
theorem tmX9_144 : Cond.methodLink RX9 144 yX9_leans ∈ gtb := gtb_in (List.mem_append_right _ (List.mem_of_getElem? (i := 1029) (by decide +kernel))) rfl
theorem tmX9_155 : Cond.methodLink RX9 155 yX9_isMinute ∈ gtb := gtb_in (List.mem_append_right _ (List.mem_of_getElem? (i := 1033) (by decide +kernel))) rfl
theorem tmX9_161 : Cond.methodLink RX9 161 yX9_minuteOf ∈ gtb := gtb_in (List.mem_append_right _ (List.mem_of_getElem? (i := 1041) (by decide +kernel))) rfl
theorem tmX9_158 : Cond.methodLink RX9 158 yX9_placeAt ∈ gtb := gtb_in (List.mem_append_right _ (List.mem_of_getElem? (i := 1045) (by decide +kernel))) rfl
theorem tmX9_170 : Cond.methodLink RX9 170 yX9_no ∈ gtb := gtb_in (List.mem_append_right _ (List.mem_of_getElem? (i := 1053) (by decide +kernel))) rfl
theorem tmX9_174 : Cond.methodLink RX9 174 yX9_strainAt ∈ gtb := gtb_in (List.mem_append_right _ (List.mem_of_getElem? (i := 1057) (by decide +kernel))) rfl
theorem tmX9_167 : Cond.methodLink RX9 167 yX9_strainBy ∈ gtb := gtb_in (List.mem_append_right _ (List.mem_of_getElem? (i := 1061) (by decide +kernel))) rfl
theorem tmX9_164 : Cond.methodLink RX9 164 yX9_ahead ∈ gtb := gtb_in (List.mem_append_right _ (List.mem_of_getElem? (i := 1065) (by decide +kernel))) rfl
theorem tmX9_177 : Cond.methodLink RX9 177 yX9_part ∈ gtb := gtb_in (List.mem_append_right _ (List.mem_of_getElem? (i := 1069) (by decide +kernel))) rfl
theorem tmX9_181 : Cond.methodLink RX9 181 yX9_slackAt ∈ gtb := gtb_in (List.mem_append_right _ (List.mem_of_getElem? (i := 1076) (by decide +kernel))) rfl
theorem tmX9_188 : Cond.methodLink RX9 188 yX9_tornNow ∈ gtb := gtb_in (List.mem_append_right _ (List.mem_of_getElem? (i := 1084) (by decide +kernel))) rfl
theorem tmX9_184 : Cond.methodLink RX9 184 yX9_isTorn ∈ gtb := gtb_in (List.mem_append_right _ (List.mem_of_getElem? (i := 1088) (by decide +kernel))) rfl
theorem tmX9_194 : Cond.methodLink RX9 194 yX9_offOf ∈ gtb := gtb_in (List.mem_append_right _ (List.mem_of_getElem? (i := 1096) (by decide +kernel))) rfl
theorem tmX9_191 : Cond.methodLink RX9 191 yX9_squeezedOff ∈ gtb := gtb_in (List.mem_append_right _ (List.mem_of_getElem? (i := 1100) (by decide +kernel))) rfl
theorem tmX9_197 : Cond.methodLink RX9 197 yX9_overNow ∈ gtb := gtb_in (List.mem_append_right _ (List.mem_of_getElem? (i := 1108) (by decide +kernel))) rfl
theorem tmX9_203 : Cond.methodLink RX9 203 yX9_settlesNow ∈ gtb := gtb_in (List.mem_append_right _ (List.mem_of_getElem? (i := 1116) (by decide +kernel))) rfl
theorem tmX9_200 : Cond.methodLink RX9 200 yX9_isAlike ∈ gtb := gtb_in (List.mem_append_right _ (List.mem_of_getElem? (i := 1120) (by decide +kernel))) rfl
theorem tmX9_206 : Cond.methodLink RX9 206 yX9_swingsNow ∈ gtb := gtb_in (List.mem_append_right _ (List.mem_of_getElem? (i := 1128) (by decide +kernel))) rfl
theorem tmX9_209 : Cond.methodLink RX9 209 yX9_doesOf ∈ gtb := gtb_in (List.mem_append_right _ (List.mem_of_getElem? (i := 1136) (by decide +kernel))) rfl
theorem tmX9_212 : Cond.methodLink RX9 212 yX9_startOf ∈ gtb := gtb_in (List.mem_append_right _ (List.mem_of_getElem? (i := 1144) (by decide +kernel))) rfl
theorem tmX9_215 : Cond.methodLink RX9 215 yX9_safeOf ∈ gtb := gtb_in (List.mem_append_right _ (List.mem_of_getElem? (i := 1152) (by decide +kernel))) rfl
theorem tmX9_240 : Cond.methodLink RX9 240 yX9_findOrder ∈ gtb := gtb_in (List.mem_append_right _ (List.mem_of_getElem? (i := 1160) (by decide +kernel))) rfl
theorem tmX9_230 : Cond.methodLink RX9 230 yX9_unfolds ∈ gtb := gtb_in (List.mem_append_right _ (List.mem_of_getElem? (i := 1164) (by decide +kernel))) rfl
theorem tmX9_234 : Cond.methodLink RX9 234 yX9_squeezes ∈ gtb := gtb_in (List.mem_append_right _ (List.mem_of_getElem? (i := 1168) (by decide +kernel))) rfl
theorem tmX9_224 : Cond.methodLink RX9 224 yX9_greater ∈ gtb := gtb_in (List.mem_append_right _ (List.mem_of_getElem? (i := 1172) (by decide +kernel))) rfl
theorem tmX9_243 : Cond.methodLink RX9 243 yX9_tellsOrder ∈ gtb := gtb_in (List.mem_append_right _ (List.mem_of_getElem? (i := 1175) (by decide +kernel))) rfl
theorem tmX9_246 : Cond.methodLink RX9 246 yX9_tellsSqueeze ∈ gtb := gtb_in (List.mem_append_right _ (List.mem_of_getElem? (i := 1183) (by decide +kernel))) rfl
theorem tmX9_252 : Cond.methodLink RX9 252 yX9_train ∈ gtb := gtb_in (List.mem_append_right _ (List.mem_of_getElem? (i := 1199) (by decide +kernel))) rfl
theorem tmX9_260 : Cond.methodLink RX9 260 yX9_lateOf ∈ gtb := gtb_in (List.mem_append_right _ (List.mem_of_getElem? (i := 1205) (by decide +kernel))) rfl
theorem tmX9_255 : Cond.methodLink RX9 255 yX9_sorts ∈ gtb := gtb_in (List.mem_append_right _ (List.mem_of_getElem? (i := 1209) (by decide +kernel))) rfl
theorem tmX9_263 : Cond.methodLink RX9 263 yX9_enoughOf ∈ gtb := gtb_in (List.mem_append_right _ (List.mem_of_getElem? (i := 1217) (by decide +kernel))) rfl
theorem tmX9_268 : Cond.methodLink RX9 268 yX9_whistlesOf ∈ gtb := gtb_in (List.mem_append_right _ (List.mem_of_getElem? (i := 1226) (by decide +kernel))) rfl
theorem tmX9_276 : Cond.methodLink RX9 276 yX9_count ∈ gtb := gtb_in (List.mem_append_right _ (List.mem_of_getElem? (i := 1247) (by decide +kernel))) rfl
theorem tmX9_279 : Cond.methodLink RX9 279 yX9_words ∈ gtb := gtb_in (List.mem_append_right _ (List.mem_of_getElem? (i := 1248) (by decide +kernel))) rfl
