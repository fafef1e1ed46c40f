abbrev mX7_init : MT := (yX7_init, cX7_init, 2, none, 1, 12, [])
set_option maxRecDepth 100000 in
theorem okX7_init : MokI mX7_init 1 := ⟨⟨gtb_in (List.mem_append_right _ (List.mem_of_getElem? (i := 25) rfl)) rfl, gtb_in (List.mem_append_right _ (List.mem_of_getElem? (i := 2) (by decide +kernel))) rfl, by decide +kernel, by decide +kernel, by decide +kernel⟩, gtb_in (List.mem_append_right _ (List.mem_of_getElem? (i := 24) (by decide +kernel))) rfl, rfl, rfl⟩
theorem tobX7 : Cond.methodLink RX7 3 Lib.objectInit ∈ gtb := gtb_in (List.mem_append_right _ (List.mem_of_getElem? (i := 26) (by decide +kernel))) rfl
theorem fiX7_9 (v : Nat) : FIv RX7 9 7 0 (.ref v) := ⟨RX7, TX7, 3, .array .int, cok7, by decide, tfX7_9, rfl, rfl, by decide +kernel, rfl, rfl⟩
theorem fnX7_15 (v : Int32) : FNv RX7 15 7 2 (.int v) := ⟨RX7, TX7, 3, .int, cok7, by decide, tfX7_15, rfl, by decide +kernel, rfl, rfl⟩
theorem fiX7_19 (v : Int32) : FIv RX7 19 7 1 (.int v) := ⟨RX7, TX7, 3, .int, cok7, by decide, tfX7_19, rfl, rfl, by decide +kernel, rfl, rfl⟩
abbrev mX1_init : MT := (yX1_init, cX1_init, 1, none, 1, 12, [])
set_option maxRecDepth 100000 in
theorem okX1_init : MokI mX1_init 0 := ⟨⟨gtb_in (List.mem_append_right _ (List.mem_of_getElem? (i := 42) rfl)) rfl, gtb_in (List.mem_append_right _ (List.mem_of_getElem? (i := 3) (by decide +kernel))) rfl, by decide +kernel, by decide +kernel, by decide +kernel⟩, gtb_in (List.mem_append_right _ (List.mem_of_getElem? (i := 41) (by decide +kernel))) rfl, rfl, rfl⟩
theorem tobX1 : Cond.methodLink RX1 3 Lib.objectInit ∈ gtb := gtb_in (List.mem_append_right _ (List.mem_of_getElem? (i := 43) (by decide +kernel))) rfl
theorem fiX1_9 (v : Nat) : FIv RX1 9 1 0 (.ref v) := ⟨RX1, TX1, 5, .array .int, cok1, by decide, tfX1_9, rfl, rfl, by decide +kernel, rfl, rfl⟩
theorem fiX1_15 (v : Nat) : FIv RX1 15 1 1 (.ref v) := ⟨RX1, TX1, 5, .array .int, cok1, by decide, tfX1_15, rfl, rfl, by decide +kernel, rfl, rfl⟩
theorem fnX1_18 (v : Int32) : FNv RX1 18 1 2 (.int v) := ⟨RX1, TX1, 5, .int, cok1, by decide, tfX1_18, rfl, by decide +kernel, rfl, rfl⟩
theorem fnX1_22 (v : Int32) : FNv RX1 22 1 3 (.int v) := ⟨RX1, TX1, 5, .int, cok1, by decide, tfX1_22, rfl, by decide +kernel, rfl, rfl⟩
theorem fnX1_25 (v : Int32) : FNv RX1 25 1 4 (.int v) := ⟨RX1, TX1, 5, .int, cok1, by decide, tfX1_25, rfl, by decide +kernel, rfl, rfl⟩
abbrev mX6_init : MT := (yX6_init, cX6_init, 1, none, 1, 12, [])
set_option maxRecDepth 100000 in
theorem okX6_init : MokI mX6_init 0 := ⟨⟨gtb_in (List.mem_append_right _ (List.mem_of_getElem? (i := 64) rfl)) rfl, gtb_in (List.mem_append_right _ (List.mem_of_getElem? (i := 4) (by decide +kernel))) rfl, by decide +kernel, by decide +kernel, by decide +kernel⟩, gtb_in (List.mem_append_right _ (List.mem_of_getElem? (i := 63) (by decide +kernel))) rfl, rfl, rfl⟩
theorem tobX6 : Cond.methodLink RX6 3 Lib.objectInit ∈ gtb := gtb_in (List.mem_append_right _ (List.mem_of_getElem? (i := 65) (by decide +kernel))) rfl
theorem fiX6_9 (v : Nat) : FIv RX6 9 6 0 (.ref v) := ⟨RX6, TX6, 5, .array .int, cok6, by decide, tfX6_9, rfl, rfl, by decide +kernel, rfl, rfl⟩
theorem fiX6_15 (v : Nat) : FIv RX6 15 6 1 (.ref v) := ⟨RX6, TX6, 5, .array .boolean, cok6, by decide, tfX6_15, rfl, rfl, by decide +kernel, rfl, rfl⟩
theorem fnX6_19 (v : Int32) : FNv RX6 19 6 2 (.int v) := ⟨RX6, TX6, 5, .int, cok6, by decide, tfX6_19, rfl, by decide +kernel, rfl, rfl⟩
theorem fnX6_23 (v : Int32) : FNv RX6 23 6 3 (.int v) := ⟨RX6, TX6, 5, .int, cok6, by decide, tfX6_23, rfl, by decide +kernel, rfl, rfl⟩
theorem fnX6_26 (v : Int32) : FNv RX6 26 6 4 (.int v) := ⟨RX6, TX6, 5, .int, cok6, by decide, tfX6_26, rfl, by decide +kernel, rfl, rfl⟩
abbrev mX3_init : MT := (yX3_init, cX3_init, 4, none, 1, 15, [])
set_option maxRecDepth 100000 in
theorem okX3_init : MokI mX3_init 3 := ⟨⟨gtb_in (List.mem_append_right _ (List.mem_of_getElem? (i := 93) rfl)) rfl, gtb_in (List.mem_append_right _ (List.mem_of_getElem? (i := 5) (by decide +kernel))) rfl, by decide +kernel, by decide +kernel, by decide +kernel⟩, gtb_in (List.mem_append_right _ (List.mem_of_getElem? (i := 92) (by decide +kernel))) rfl, rfl, rfl⟩
theorem tobX3 : Cond.methodLink RX3 1 Lib.objectInit ∈ gtb := gtb_in (List.mem_append_right _ (List.mem_of_getElem? (i := 94) (by decide +kernel))) rfl
theorem fiX3_7 (v : Nat) : FIv RX3 7 3 0 (.ref v) := ⟨RX3, TX3, 3, .array .int, cok3, by decide, tfX3_7, rfl, rfl, by decide +kernel, rfl, rfl⟩
theorem fiX3_13 (v : Nat) : FIv RX3 13 3 1 (.ref v) := ⟨RX3, TX3, 3, .array .int, cok3, by decide, tfX3_13, rfl, rfl, by decide +kernel, rfl, rfl⟩
theorem tclX3 : Cond.methodLink RX3 16 ⟨"[I", "clone", "()Ljava/lang/Object;"⟩ ∈ gtb := gtb_in (List.mem_append_right _ (List.mem_of_getElem? (i := 95) (by decide +kernel))) rfl
theorem tckX3_17 : Cond.classLink RX3 17 "[I" ∈ gtb := gtb_in (List.mem_append_right _ (List.mem_of_getElem? (i := 101) (by decide +kernel))) rfl
theorem fiX3_21 (v : Nat) : FIv RX3 21 3 2 (.ref v) := ⟨RX3, TX3, 3, .array .int, cok3, by decide, tfX3_21, rfl, rfl, by decide +kernel, rfl, rfl⟩
abbrev mX4_init : MT := (yX4_init, cX4_init, 1, none, 1, 12, [])
set_option maxRecDepth 100000 in
theorem okX4_init : MokI mX4_init 0 := ⟨⟨gtb_in (List.mem_append_right _ (List.mem_of_getElem? (i := 122) rfl)) rfl, gtb_in (List.mem_append_right _ (List.mem_of_getElem? (i := 6) (by decide +kernel))) rfl, by decide +kernel, by decide +kernel, by decide +kernel⟩, gtb_in (List.mem_append_right _ (List.mem_of_getElem? (i := 121) (by decide +kernel))) rfl, rfl, rfl⟩
theorem tobX4 : Cond.methodLink RX4 3 Lib.objectInit ∈ gtb := gtb_in (List.mem_append_right _ (List.mem_of_getElem? (i := 123) (by decide +kernel))) rfl
theorem fiX4_9 (v : Nat) : FIv RX4 9 4 0 (.ref v) := ⟨RX4, TX4, 5, .array .int, cok4, by decide, tfX4_9, rfl, rfl, by decide +kernel, rfl, rfl⟩
theorem fiX4_15 (v : Nat) : FIv RX4 15 4 1 (.ref v) := ⟨RX4, TX4, 5, .array .int, cok4, by decide, tfX4_15, rfl, rfl, by decide +kernel, rfl, rfl⟩
theorem fiX4_18 (v : Nat) : FIv RX4 18 4 2 (.ref v) := ⟨RX4, TX4, 5, .array .int, cok4, by decide, tfX4_18, rfl, rfl, by decide +kernel, rfl, rfl⟩
theorem fiX4_21 (v : Nat) : FIv RX4 21 4 3 (.ref v) := ⟨RX4, TX4, 5, .array .int, cok4, by decide, tfX4_21, rfl, rfl, by decide +kernel, rfl, rfl⟩
theorem fiX4_24 (v : Nat) : FIv RX4 24 4 4 (.ref v) := ⟨RX4, TX4, 5, .array .int, cok4, by decide, tfX4_24, rfl, rfl, by decide +kernel, rfl, rfl⟩
abbrev mX0_init : MT := (yX0_init, cX0_init, 1, none, 1, 12, [])
set_option maxRecDepth 100000 in
theorem okX0_init : MokI mX0_init 0 := ⟨⟨gtb_in (List.mem_append_right _ (List.mem_of_getElem? (i := 144) rfl)) rfl, gtb_in (List.mem_append_right _ (List.mem_of_getElem? (i := 7) (by decide +kernel))) rfl, by decide +kernel, by decide +kernel, by decide +kernel⟩, gtb_in (List.mem_append_right _ (List.mem_of_getElem? (i := 143) (by decide +kernel))) rfl, rfl, rfl⟩
theorem tobX0 : Cond.methodLink RX0 3 Lib.objectInit ∈ gtb := gtb_in (List.mem_append_right _ (List.mem_of_getElem? (i := 145) (by decide +kernel))) rfl
theorem fiX0_9 (v : Nat) : FIv RX0 9 0 0 (.ref v) := ⟨RX0, TX0, 8, .array .int, cok0, by decide, tfX0_9, rfl, rfl, by decide +kernel, rfl, rfl⟩
theorem fiX0_15 (v : Nat) : FIv RX0 15 0 1 (.ref v) := ⟨RX0, TX0, 8, .array .int, cok0, by decide, tfX0_15, rfl, rfl, by decide +kernel, rfl, rfl⟩
theorem fnX0_18 (v : Int32) : FNv RX0 18 0 2 (.int v) := ⟨RX0, TX0, 8, .int, cok0, by decide, tfX0_18, rfl, by decide +kernel, rfl, rfl⟩
theorem fnX0_22 (v : Int32) : FNv RX0 22 0 3 (.int v) := ⟨RX0, TX0, 8, .int, cok0, by decide, tfX0_22, rfl, by decide +kernel, rfl, rfl⟩
theorem fnX0_25 (v : Int32) : FNv RX0 25 0 4 (.int v) := ⟨RX0, TX0, 8, .int, cok0, by decide, tfX0_25, rfl, by decide +kernel, rfl, rfl⟩
theorem fnX0_28 (v : Int32) : FNv RX0 28 0 5 (.int v) := ⟨RX0, TX0, 8, .int, cok0, by decide, tfX0_28, rfl, by decide +kernel, rfl, rfl⟩
theorem fnX0_31 (v : Int32) : FNv RX0 31 0 6 (.int v) := ⟨RX0, TX0, 8, .int, cok0, by decide, tfX0_31, rfl, by decide +kernel, rfl, rfl⟩
theorem fnX0_34 (v : Int32) : FNv RX0 34 0 7 (.int v) := ⟨RX0, TX0, 8, .int, cok0, by decide, tfX0_34, rfl, by decide +kernel, rfl, rfl⟩
abbrev mX2_init : MT := (yX2_init, cX2_init, 1, none, 1, 12, [])
set_option maxRecDepth 100000 in
theorem okX2_init : MokI mX2_init 0 := ⟨⟨gtb_in (List.mem_append_right _ (List.mem_of_getElem? (i := 175) rfl)) rfl, gtb_in (List.mem_append_right _ (List.mem_of_getElem? (i := 8) (by decide +kernel))) rfl, by decide +kernel, by decide +kernel, by decide +kernel⟩, gtb_in (List.mem_append_right _ (List.mem_of_getElem? (i := 174) (by decide +kernel))) rfl, rfl, rfl⟩
theorem tobX2 : Cond.methodLink RX2 3 Lib.objectInit ∈ gtb := gtb_in (List.mem_append_right _ (List.mem_of_getElem? (i := 176) (by decide +kernel))) rfl
theorem fiX2_9 (v : Nat) : FIv RX2 9 2 0 (.ref v) := ⟨RX2, TX2, 6, .array .int, cok2, by decide, tfX2_9, rfl, rfl, by decide +kernel, rfl, rfl⟩
theorem fiX2_15 (v : Nat) : FIv RX2 15 2 1 (.ref v) := ⟨RX2, TX2, 6, .array .int, cok2, by decide, tfX2_15, rfl, rfl, by decide +kernel, rfl, rfl⟩
theorem fiX2_18 (v : Nat) : FIv RX2 18 2 2 (.ref v) := ⟨RX2, TX2, 6, .array .int, cok2, by decide, tfX2_18, rfl, rfl, by decide +kernel, rfl, rfl⟩
theorem fnX2_21 (v : Int32) : FNv RX2 21 2 3 (.int v) := ⟨RX2, TX2, 6, .int, cok2, by decide, tfX2_21, rfl, by decide +kernel, rfl, rfl⟩
theorem fnX2_25 (v : Int32) : FNv RX2 25 2 4 (.int v) := ⟨RX2, TX2, 6, .int, cok2, by decide, tfX2_25, rfl, by decide +kernel, rfl, rfl⟩
theorem fnX2_28 (v : Int32) : FNv RX2 28 2 5 (.int v) := ⟨RX2, TX2, 6, .int, cok2, by decide, tfX2_28, rfl, by decide +kernel, rfl, rfl⟩
abbrev mX5_init : MT := (yX5_init, cX5_init, 1, none, 1, 12, [])
set_option maxRecDepth 100000 in
theorem okX5_init : MokI mX5_init 0 := ⟨⟨gtb_in (List.mem_append_right _ (List.mem_of_getElem? (i := 201) rfl)) rfl, gtb_in (List.mem_append_right _ (List.mem_of_getElem? (i := 9) (by decide +kernel))) rfl, by decide +kernel, by decide +kernel, by decide +kernel⟩, gtb_in (List.mem_append_right _ (List.mem_of_getElem? (i := 200) (by decide +kernel))) rfl, rfl, rfl⟩
theorem tobX5 : Cond.methodLink RX5 3 Lib.objectInit ∈ gtb := gtb_in (List.mem_append_right _ (List.mem_of_getElem? (i := 202) (by decide +kernel))) rfl
theorem fiX5_9 (v : Nat) : FIv RX5 9 5 0 (.ref v) := ⟨RX5, TX5, 3, .array .int, cok5, by decide, tfX5_9, rfl, rfl, by decide +kernel, rfl, rfl⟩
theorem fnX5_15 (v : Int32) : FNv RX5 15 5 1 (.int v) := ⟨RX5, TX5, 3, .int, cok5, by decide, tfX5_15, rfl, by decide +kernel, rfl, rfl⟩
theorem fnX5_19 (v : Int32) : FNv RX5 19 5 2 (.int v) := ⟨RX5, TX5, 3, .int, cok5, by decide, tfX5_19, rfl, by decide +kernel, rfl, rfl⟩
set_option maxHeartbeats 4000000 in
set_option maxRecDepth 100000 in
theorem s_X7_init (X : Amb) (z0 h0 sz : Nat) (v : Int32) : SpC X z0 mX7_init 1 32 (h0, .inr (7, [.null, .int 0, .int 0])) [.ref h0, .int v] sz (fun w1 => ∃ q1 : Nat, w1 = [(h0, .inr (7, [.ref q1, .int v, .int 0])), (q1, .inl (X.2.2.1 0, 32, .inl (fun _ => 0)))]) := by
  refine spc_of (by decide +kernel) rfl rfl ?_
  refine cp_aload_n dX7_init_0 0 rfl ?_
  refine cp_obj dX7_init_1 tobX7 rfl rfl ?_
  refine cp_aload_n dX7_init_4 0 rfl ?_
  refine cp_bipush (v := 32) dX7_init_5 (by decide) ?_
  refine cp_newI (N := 32) dX7_init_7 (by decide) (by decide) rfl rfl rfl (fun q1 => ?_)
  refine cp_wld (ws' := [(h0, .inr (7, [.null, .int 0, .int 0])), (q1, .inl (X.2.2.1 0, 32, .inl (fun _ => 0)))]) rfl ?_
  refine cp_putF dX7_init_9 (fiX7_9 _) rfl ?_
  refine cp_wld (ws' := [(h0, .inr (7, [.ref q1, .int 0, .int 0])), (q1, .inl (X.2.2.1 0, 32, .inl (fun _ => 0)))]) rfl ?_
  refine cp_aload_n dX7_init_12 0 rfl ?_
  refine cp_iconst (v := 0) dX7_init_13 (by decide) ?_
  refine cp_putN dX7_init_14 (fnX7_15 _) rfl ?_
  refine cp_wld (ws' := [(h0, .inr (7, [.ref q1, .int 0, .int 0])), (q1, .inl (X.2.2.1 0, 32, .inl (fun _ => 0)))]) rfl ?_
  refine cp_aload_n dX7_init_17 0 rfl ?_
  refine cp_iload_n dX7_init_18 1 rfl ?_
  refine cp_putF dX7_init_19 (fiX7_19 _) rfl ?_
  refine cp_wld (ws' := [(h0, .inr (7, [.ref q1, .int v, .int 0])), (q1, .inl (X.2.2.1 0, 32, .inl (fun _ => 0)))]) rfl ?_
  exact cp_ret dX7_init_22 rfl rfl rfl rfl ⟨q1, rfl⟩
set_option maxHeartbeats 4000000 in
set_option maxRecDepth 100000 in
theorem s_X1_init (X : Amb) (z0 h0 sz : Nat) : SpC X z0 mX1_init 2 25 (h0, .inr (1, [.null, .null, .int 0, .int 0, .int 0])) [.ref h0] sz (fun w1 => ∃ q1 q2 : Nat, w1 = [(h0, .inr (1, [.ref q1, .ref q2, .int 0, .int 0, .int (-1)])), (q1, .inl (X.2.2.1 0, 12, .inl (fun _ => 0))), (q2, .inl (X.2.2.1 0, 13, .inl (fun _ => 0)))]) := by
  refine spc_of (by decide +kernel) rfl rfl ?_
  refine cp_aload_n dX1_init_0 0 rfl ?_
  refine cp_obj dX1_init_1 tobX1 rfl rfl ?_
  refine cp_aload_n dX1_init_4 0 rfl ?_
  refine cp_bipush (v := 12) dX1_init_5 (by decide) ?_
  refine cp_newI (N := 12) dX1_init_7 (by decide) (by decide) rfl rfl rfl (fun q1 => ?_)
  refine cp_wld (ws' := [(h0, .inr (1, [.null, .null, .int 0, .int 0, .int 0])), (q1, .inl (X.2.2.1 0, 12, .inl (fun _ => 0)))]) rfl ?_
  refine cp_putF dX1_init_9 (fiX1_9 _) rfl ?_
  refine cp_wld (ws' := [(h0, .inr (1, [.ref q1, .null, .int 0, .int 0, .int 0])), (q1, .inl (X.2.2.1 0, 12, .inl (fun _ => 0)))]) rfl ?_
  refine cp_aload_n dX1_init_12 0 rfl ?_
  refine cp_bipush (v := 13) dX1_init_13 (by decide) ?_
  refine cp_newI (N := 13) dX1_init_15 (by decide) (by decide) rfl rfl rfl (fun q2 => ?_)
  refine cp_wld (ws' := [(h0, .inr (1, [.ref q1, .null, .int 0, .int 0, .int 0])), (q1, .inl (X.2.2.1 0, 12, .inl (fun _ => 0))), (q2, .inl (X.2.2.1 0, 13, .inl (fun _ => 0)))]) rfl ?_
  refine cp_putF dX1_init_17 (fiX1_15 _) rfl ?_
  refine cp_wld (ws' := [(h0, .inr (1, [.ref q1, .ref q2, .int 0, .int 0, .int 0])), (q1, .inl (X.2.2.1 0, 12, .inl (fun _ => 0))), (q2, .inl (X.2.2.1 0, 13, .inl (fun _ => 0)))]) rfl ?_
  refine cp_aload_n dX1_init_20 0 rfl ?_
  refine cp_iconst (v := 0) dX1_init_21 (by decide) ?_
  refine cp_putN dX1_init_22 (fnX1_18 _) rfl ?_
  refine cp_wld (ws' := [(h0, .inr (1, [.ref q1, .ref q2, .int 0, .int 0, .int 0])), (q1, .inl (X.2.2.1 0, 12, .inl (fun _ => 0))), (q2, .inl (X.2.2.1 0, 13, .inl (fun _ => 0)))]) rfl ?_
  refine cp_aload_n dX1_init_25 0 rfl ?_
  refine cp_iconst (v := 0) dX1_init_26 (by decide) ?_
  refine cp_putN dX1_init_27 (fnX1_22 _) rfl ?_
  refine cp_wld (ws' := [(h0, .inr (1, [.ref q1, .ref q2, .int 0, .int 0, .int 0])), (q1, .inl (X.2.2.1 0, 12, .inl (fun _ => 0))), (q2, .inl (X.2.2.1 0, 13, .inl (fun _ => 0)))]) rfl ?_
  refine cp_aload_n dX1_init_30 0 rfl ?_
  refine cp_iconst (v := (-1)) dX1_init_31 (by decide) ?_
  refine cp_putN dX1_init_32 (fnX1_25 _) rfl ?_
  refine cp_wld (ws' := [(h0, .inr (1, [.ref q1, .ref q2, .int 0, .int 0, .int (-1)])), (q1, .inl (X.2.2.1 0, 12, .inl (fun _ => 0))), (q2, .inl (X.2.2.1 0, 13, .inl (fun _ => 0)))]) rfl ?_
  exact cp_ret dX1_init_35 rfl rfl rfl rfl ⟨q1, q2, rfl⟩
set_option maxHeartbeats 4000000 in
set_option maxRecDepth 100000 in
theorem s_X6_init (X : Amb) (z0 h0 sz : Nat) : SpC X z0 mX6_init 2 32 (h0, .inr (6, [.null, .null, .int 0, .int 0, .int 0])) [.ref h0] sz (fun w1 => ∃ q1 q2 : Nat, w1 = [(h0, .inr (6, [.ref q1, .ref q2, .int 0, .int 0, .int (-1)])), (q1, .inl (X.2.2.1 0, 16, .inl (fun _ => 0))), (q2, .inl (X.2.2.1 1, 16, .inl (fun _ => 0)))]) := by
  refine spc_of (by decide +kernel) rfl rfl ?_
  refine cp_aload_n dX6_init_0 0 rfl ?_
  refine cp_obj dX6_init_1 tobX6 rfl rfl ?_
  refine cp_aload_n dX6_init_4 0 rfl ?_
  refine cp_bipush (v := 16) dX6_init_5 (by decide) ?_
  refine cp_newI (N := 16) dX6_init_7 (by decide) (by decide) rfl rfl rfl (fun q1 => ?_)
  refine cp_wld (ws' := [(h0, .inr (6, [.null, .null, .int 0, .int 0, .int 0])), (q1, .inl (X.2.2.1 0, 16, .inl (fun _ => 0)))]) rfl ?_
  refine cp_putF dX6_init_9 (fiX6_9 _) rfl ?_
  refine cp_wld (ws' := [(h0, .inr (6, [.ref q1, .null, .int 0, .int 0, .int 0])), (q1, .inl (X.2.2.1 0, 16, .inl (fun _ => 0)))]) rfl ?_
  refine cp_aload_n dX6_init_12 0 rfl ?_
  refine cp_bipush (v := 16) dX6_init_13 (by decide) ?_
  refine cp_newZ (N := 16) dX6_init_15 (by decide) (by decide) rfl rfl rfl (fun q2 => ?_)
  refine cp_wld (ws' := [(h0, .inr (6, [.ref q1, .null, .int 0, .int 0, .int 0])), (q1, .inl (X.2.2.1 0, 16, .inl (fun _ => 0))), (q2, .inl (X.2.2.1 1, 16, .inl (fun _ => 0)))]) rfl ?_
  refine cp_putF dX6_init_17 (fiX6_15 _) rfl ?_
  refine cp_wld (ws' := [(h0, .inr (6, [.ref q1, .ref q2, .int 0, .int 0, .int 0])), (q1, .inl (X.2.2.1 0, 16, .inl (fun _ => 0))), (q2, .inl (X.2.2.1 1, 16, .inl (fun _ => 0)))]) rfl ?_
  refine cp_aload_n dX6_init_20 0 rfl ?_
  refine cp_iconst (v := 0) dX6_init_21 (by decide) ?_
  refine cp_putN dX6_init_22 (fnX6_19 _) rfl ?_
  refine cp_wld (ws' := [(h0, .inr (6, [.ref q1, .ref q2, .int 0, .int 0, .int 0])), (q1, .inl (X.2.2.1 0, 16, .inl (fun _ => 0))), (q2, .inl (X.2.2.1 1, 16, .inl (fun _ => 0)))]) rfl ?_
  refine cp_aload_n dX6_init_25 0 rfl ?_
  refine cp_iconst (v := 0) dX6_init_26 (by decide) ?_
  refine cp_putN dX6_init_27 (fnX6_23 _) rfl ?_
  refine cp_wld (ws' := [(h0, .inr (6, [.ref q1, .ref q2, .int 0, .int 0, .int 0])), (q1, .inl (X.2.2.1 0, 16, .inl (fun _ => 0))), (q2, .inl (X.2.2.1 1, 16, .inl (fun _ => 0)))]) rfl ?_
  refine cp_aload_n dX6_init_30 0 rfl ?_
  refine cp_iconst (v := (-1)) dX6_init_31 (by decide) ?_
  refine cp_putN dX6_init_32 (fnX6_26 _) rfl ?_
  refine cp_wld (ws' := [(h0, .inr (6, [.ref q1, .ref q2, .int 0, .int 0, .int (-1)])), (q1, .inl (X.2.2.1 0, 16, .inl (fun _ => 0))), (q2, .inl (X.2.2.1 1, 16, .inl (fun _ => 0)))]) rfl ?_
  exact cp_ret dX6_init_35 rfl rfl rfl rfl ⟨q1, q2, rfl⟩
set_option maxHeartbeats 4000000 in
set_option maxRecDepth 100000 in
theorem s_X3_init (X : Amb) (z0 h0 sz : Nat) (a1 a2 j : Nat) (hj : Nat.ble (j + 1) 7 = true) : SpC X z0 mX3_init 1 (stv j).length (h0, .inr (3, [.null, .null, .null])) [.ref h0, .ref a1, .ref a2, .ref (adr X (100 + j))] sz (fun w1 => ∃ q1 : Nat, w1 = [(h0, .inr (3, [.ref a1, .ref a2, .ref q1])), (q1, .inl (X.2.2.1 0, (stv j).length, .inl (fun i => (stv j).getD i 0)))]) := by
  refine spc_of (by decide +kernel) rfl rfl ?_
  have hms : Nat.ble (0 + (stv j).length) (stv j).length = true := by rw [Nat.zero_add]; exact Nat.ble_self_eq_true _
  refine cp_aload_n dX3_init_0 0 rfl ?_
  refine cp_obj dX3_init_1 tobX3 rfl rfl ?_
  refine cp_aload_n dX3_init_4 0 rfl ?_
  refine cp_aload_n dX3_init_5 1 rfl ?_
  refine cp_putF dX3_init_6 (fiX3_7 _) rfl ?_
  refine cp_wld (ws' := [(h0, .inr (3, [.ref a1, .null, .null]))]) rfl ?_
  refine cp_aload_n dX3_init_9 0 rfl ?_
  refine cp_aload_n dX3_init_10 2 rfl ?_
  refine cp_putF dX3_init_11 (fiX3_13 _) rfl ?_
  refine cp_wld (ws' := [(h0, .inr (3, [.ref a1, .ref a2, .null]))]) rfl ?_
  refine cp_aload_n dX3_init_14 0 rfl ?_
  refine cp_aload_n dX3_init_15 3 rfl ?_
  refine cp_clone j hj dX3_init_16 tclX3 rfl rfl rfl hms (fun q1 => ?_)
  refine cp_wld (ws' := [(h0, .inr (3, [.ref a1, .ref a2, .null])), (q1, .inl (X.2.2.1 0, (stv j).length, .inl (fun i => (stv j).getD i 0)))]) rfl ?_
  refine cp_cast 1 dX3_init_19 tckX3_17 rfl ?_
  refine cp_putF dX3_init_22 (fiX3_21 _) rfl ?_
  refine cp_wld (ws' := [(h0, .inr (3, [.ref a1, .ref a2, .ref q1])), (q1, .inl (X.2.2.1 0, (stv j).length, .inl (fun i => (stv j).getD i 0)))]) rfl ?_
  exact cp_ret dX3_init_25 rfl rfl hms rfl ⟨q1, rfl⟩
set_option maxHeartbeats 4000000 in
set_option maxRecDepth 100000 in
theorem s_X4_init (X : Amb) (z0 h0 sz : Nat) : SpC X z0 mX4_init 5 200 (h0, .inr (4, [.null, .null, .null, .null, .null])) [.ref h0] sz (fun w1 => ∃ q1 q2 q3 q4 q5 : Nat, w1 = [(h0, .inr (4, [.ref q1, .ref q2, .ref q3, .ref q4, .ref q5])), (q1, .inl (X.2.2.1 0, 40, .inl (fun _ => 0))), (q2, .inl (X.2.2.1 0, 40, .inl (fun _ => 0))), (q3, .inl (X.2.2.1 0, 40, .inl (fun _ => 0))), (q4, .inl (X.2.2.1 0, 40, .inl (fun _ => 0))), (q5, .inl (X.2.2.1 0, 40, .inl (fun _ => 0)))]) := by
  refine spc_of (by decide +kernel) rfl rfl ?_
  refine cp_aload_n dX4_init_0 0 rfl ?_
  refine cp_obj dX4_init_1 tobX4 rfl rfl ?_
  refine cp_aload_n dX4_init_4 0 rfl ?_
  refine cp_bipush (v := 40) dX4_init_5 (by decide) ?_
  refine cp_newI (N := 40) dX4_init_7 (by decide) (by decide) rfl rfl rfl (fun q1 => ?_)
  refine cp_wld (ws' := [(h0, .inr (4, [.null, .null, .null, .null, .null])), (q1, .inl (X.2.2.1 0, 40, .inl (fun _ => 0)))]) rfl ?_
  refine cp_putF dX4_init_9 (fiX4_9 _) rfl ?_
  refine cp_wld (ws' := [(h0, .inr (4, [.ref q1, .null, .null, .null, .null])), (q1, .inl (X.2.2.1 0, 40, .inl (fun _ => 0)))]) rfl ?_
  refine cp_aload_n dX4_init_12 0 rfl ?_
  refine cp_bipush (v := 40) dX4_init_13 (by decide) ?_
  refine cp_newI (N := 40) dX4_init_15 (by decide) (by decide) rfl rfl rfl (fun q2 => ?_)
  refine cp_wld (ws' := [(h0, .inr (4, [.ref q1, .null, .null, .null, .null])), (q1, .inl (X.2.2.1 0, 40, .inl (fun _ => 0))), (q2, .inl (X.2.2.1 0, 40, .inl (fun _ => 0)))]) rfl ?_
  refine cp_putF dX4_init_17 (fiX4_15 _) rfl ?_
  refine cp_wld (ws' := [(h0, .inr (4, [.ref q1, .ref q2, .null, .null, .null])), (q1, .inl (X.2.2.1 0, 40, .inl (fun _ => 0))), (q2, .inl (X.2.2.1 0, 40, .inl (fun _ => 0)))]) rfl ?_
  refine cp_aload_n dX4_init_20 0 rfl ?_
  refine cp_bipush (v := 40) dX4_init_21 (by decide) ?_
  refine cp_newI (N := 40) dX4_init_23 (by decide) (by decide) rfl rfl rfl (fun q3 => ?_)
  refine cp_wld (ws' := [(h0, .inr (4, [.ref q1, .ref q2, .null, .null, .null])), (q1, .inl (X.2.2.1 0, 40, .inl (fun _ => 0))), (q2, .inl (X.2.2.1 0, 40, .inl (fun _ => 0))), (q3, .inl (X.2.2.1 0, 40, .inl (fun _ => 0)))]) rfl ?_
  refine cp_putF dX4_init_25 (fiX4_18 _) rfl ?_
  refine cp_wld (ws' := [(h0, .inr (4, [.ref q1, .ref q2, .ref q3, .null, .null])), (q1, .inl (X.2.2.1 0, 40, .inl (fun _ => 0))), (q2, .inl (X.2.2.1 0, 40, .inl (fun _ => 0))), (q3, .inl (X.2.2.1 0, 40, .inl (fun _ => 0)))]) rfl ?_
  refine cp_aload_n dX4_init_28 0 rfl ?_
  refine cp_bipush (v := 40) dX4_init_29 (by decide) ?_
  refine cp_newI (N := 40) dX4_init_31 (by decide) (by decide) rfl rfl rfl (fun q4 => ?_)
  refine cp_wld (ws' := [(h0, .inr (4, [.ref q1, .ref q2, .ref q3, .null, .null])), (q1, .inl (X.2.2.1 0, 40, .inl (fun _ => 0))), (q2, .inl (X.2.2.1 0, 40, .inl (fun _ => 0))), (q3, .inl (X.2.2.1 0, 40, .inl (fun _ => 0))), (q4, .inl (X.2.2.1 0, 40, .inl (fun _ => 0)))]) rfl ?_
  refine cp_putF dX4_init_33 (fiX4_21 _) rfl ?_
  refine cp_wld (ws' := [(h0, .inr (4, [.ref q1, .ref q2, .ref q3, .ref q4, .null])), (q1, .inl (X.2.2.1 0, 40, .inl (fun _ => 0))), (q2, .inl (X.2.2.1 0, 40, .inl (fun _ => 0))), (q3, .inl (X.2.2.1 0, 40, .inl (fun _ => 0))), (q4, .inl (X.2.2.1 0, 40, .inl (fun _ => 0)))]) rfl ?_
  refine cp_aload_n dX4_init_36 0 rfl ?_
  refine cp_bipush (v := 40) dX4_init_37 (by decide) ?_
  refine cp_newI (N := 40) dX4_init_39 (by decide) (by decide) rfl rfl rfl (fun q5 => ?_)
  refine cp_wld (ws' := [(h0, .inr (4, [.ref q1, .ref q2, .ref q3, .ref q4, .null])), (q1, .inl (X.2.2.1 0, 40, .inl (fun _ => 0))), (q2, .inl (X.2.2.1 0, 40, .inl (fun _ => 0))), (q3, .inl (X.2.2.1 0, 40, .inl (fun _ => 0))), (q4, .inl (X.2.2.1 0, 40, .inl (fun _ => 0))), (q5, .inl (X.2.2.1 0, 40, .inl (fun _ => 0)))]) rfl ?_
  refine cp_putF dX4_init_41 (fiX4_24 _) rfl ?_
  refine cp_wld (ws' := [(h0, .inr (4, [.ref q1, .ref q2, .ref q3, .ref q4, .ref q5])), (q1, .inl (X.2.2.1 0, 40, .inl (fun _ => 0))), (q2, .inl (X.2.2.1 0, 40, .inl (fun _ => 0))), (q3, .inl (X.2.2.1 0, 40, .inl (fun _ => 0))), (q4, .inl (X.2.2.1 0, 40, .inl (fun _ => 0))), (q5, .inl (X.2.2.1 0, 40, .inl (fun _ => 0)))]) rfl ?_
  exact cp_ret dX4_init_44 rfl rfl rfl rfl ⟨q1, q2, q3, q4, q5, rfl⟩
set_option maxHeartbeats 4000000 in
set_option maxRecDepth 100000 in
theorem s_X0_init (X : Amb) (z0 h0 sz : Nat) : SpC X z0 mX0_init 2 12 (h0, .inr (0, [.null, .null, .int 0, .int 0, .int 0, .int 0, .int 0, .int 0])) [.ref h0] sz (fun w1 => ∃ q1 q2 : Nat, w1 = [(h0, .inr (0, [.ref q1, .ref q2, .int 0, .int 0, .int 1, .int 0, .int 1, .int 1])), (q1, .inl (X.2.2.1 0, 6, .inl (fun _ => 0))), (q2, .inl (X.2.2.1 0, 6, .inl (fun _ => 0)))]) := by
  refine spc_of (by decide +kernel) rfl rfl ?_
  refine cp_aload_n dX0_init_0 0 rfl ?_
  refine cp_obj dX0_init_1 tobX0 rfl rfl ?_
  refine cp_aload_n dX0_init_4 0 rfl ?_
  refine cp_bipush (v := 6) dX0_init_5 (by decide) ?_
  refine cp_newI (N := 6) dX0_init_7 (by decide) (by decide) rfl rfl rfl (fun q1 => ?_)
  refine cp_wld (ws' := [(h0, .inr (0, [.null, .null, .int 0, .int 0, .int 0, .int 0, .int 0, .int 0])), (q1, .inl (X.2.2.1 0, 6, .inl (fun _ => 0)))]) rfl ?_
  refine cp_putF dX0_init_9 (fiX0_9 _) rfl ?_
  refine cp_wld (ws' := [(h0, .inr (0, [.ref q1, .null, .int 0, .int 0, .int 0, .int 0, .int 0, .int 0])), (q1, .inl (X.2.2.1 0, 6, .inl (fun _ => 0)))]) rfl ?_
  refine cp_aload_n dX0_init_12 0 rfl ?_
  refine cp_bipush (v := 6) dX0_init_13 (by decide) ?_
  refine cp_newI (N := 6) dX0_init_15 (by decide) (by decide) rfl rfl rfl (fun q2 => ?_)
  refine cp_wld (ws' := [(h0, .inr (0, [.ref q1, .null, .int 0, .int 0, .int 0, .int 0, .int 0, .int 0])), (q1, .inl (X.2.2.1 0, 6, .inl (fun _ => 0))), (q2, .inl (X.2.2.1 0, 6, .inl (fun _ => 0)))]) rfl ?_
  refine cp_putF dX0_init_17 (fiX0_15 _) rfl ?_
  refine cp_wld (ws' := [(h0, .inr (0, [.ref q1, .ref q2, .int 0, .int 0, .int 0, .int 0, .int 0, .int 0])), (q1, .inl (X.2.2.1 0, 6, .inl (fun _ => 0))), (q2, .inl (X.2.2.1 0, 6, .inl (fun _ => 0)))]) rfl ?_
  refine cp_aload_n dX0_init_20 0 rfl ?_
  refine cp_iconst (v := 0) dX0_init_21 (by decide) ?_
  refine cp_putN dX0_init_22 (fnX0_18 _) rfl ?_
  refine cp_wld (ws' := [(h0, .inr (0, [.ref q1, .ref q2, .int 0, .int 0, .int 0, .int 0, .int 0, .int 0])), (q1, .inl (X.2.2.1 0, 6, .inl (fun _ => 0))), (q2, .inl (X.2.2.1 0, 6, .inl (fun _ => 0)))]) rfl ?_
  refine cp_aload_n dX0_init_25 0 rfl ?_
  refine cp_iconst (v := 0) dX0_init_26 (by decide) ?_
  refine cp_putN dX0_init_27 (fnX0_22 _) rfl ?_
  refine cp_wld (ws' := [(h0, .inr (0, [.ref q1, .ref q2, .int 0, .int 0, .int 0, .int 0, .int 0, .int 0])), (q1, .inl (X.2.2.1 0, 6, .inl (fun _ => 0))), (q2, .inl (X.2.2.1 0, 6, .inl (fun _ => 0)))]) rfl ?_
  refine cp_aload_n dX0_init_30 0 rfl ?_
  refine cp_iconst (v := 1) dX0_init_31 (by decide) ?_
  refine cp_putN dX0_init_32 (fnX0_25 _) rfl ?_
  refine cp_wld (ws' := [(h0, .inr (0, [.ref q1, .ref q2, .int 0, .int 0, .int 1, .int 0, .int 0, .int 0])), (q1, .inl (X.2.2.1 0, 6, .inl (fun _ => 0))), (q2, .inl (X.2.2.1 0, 6, .inl (fun _ => 0)))]) rfl ?_
  refine cp_aload_n dX0_init_35 0 rfl ?_
  refine cp_iconst (v := 0) dX0_init_36 (by decide) ?_
  refine cp_putN dX0_init_37 (fnX0_28 _) rfl ?_
  refine cp_wld (ws' := [(h0, .inr (0, [.ref q1, .ref q2, .int 0, .int 0, .int 1, .int 0, .int 0, .int 0])), (q1, .inl (X.2.2.1 0, 6, .inl (fun _ => 0))), (q2, .inl (X.2.2.1 0, 6, .inl (fun _ => 0)))]) rfl ?_
  refine cp_aload_n dX0_init_40 0 rfl ?_
  refine cp_iconst (v := 1) dX0_init_41 (by decide) ?_
  refine cp_putN dX0_init_42 (fnX0_31 _) rfl ?_
  refine cp_wld (ws' := [(h0, .inr (0, [.ref q1, .ref q2, .int 0, .int 0, .int 1, .int 0, .int 1, .int 0])), (q1, .inl (X.2.2.1 0, 6, .inl (fun _ => 0))), (q2, .inl (X.2.2.1 0, 6, .inl (fun _ => 0)))]) rfl ?_
  refine cp_aload_n dX0_init_45 0 rfl ?_
  refine cp_iconst (v := 1) dX0_init_46 (by decide) ?_
  refine cp_putN dX0_init_47 (fnX0_34 _) rfl ?_
  refine cp_wld (ws' := [(h0, .inr (0, [.ref q1, .ref q2, .int 0, .int 0, .int 1, .int 0, .int 1, .int 1])), (q1, .inl (X.2.2.1 0, 6, .inl (fun _ => 0))), (q2, .inl (X.2.2.1 0, 6, .inl (fun _ => 0)))]) rfl ?_
  exact cp_ret dX0_init_50 rfl rfl rfl rfl ⟨q1, q2, rfl⟩
set_option maxHeartbeats 4000000 in
set_option maxRecDepth 100000 in
theorem s_X2_init (X : Amb) (z0 h0 sz : Nat) : SpC X z0 mX2_init 3 30 (h0, .inr (2, [.null, .null, .null, .int 0, .int 0, .int 0])) [.ref h0] sz (fun w1 => ∃ q1 q2 q3 : Nat, w1 = [(h0, .inr (2, [.ref q1, .ref q2, .ref q3, .int 0, .int 0, .int 0])), (q1, .inl (X.2.2.1 0, 12, .inl (fun _ => 0))), (q2, .inl (X.2.2.1 0, 12, .inl (fun _ => 0))), (q3, .inl (X.2.2.1 0, 6, .inl (fun _ => 0)))]) := by
  refine spc_of (by decide +kernel) rfl rfl ?_
  refine cp_aload_n dX2_init_0 0 rfl ?_
  refine cp_obj dX2_init_1 tobX2 rfl rfl ?_
  refine cp_aload_n dX2_init_4 0 rfl ?_
  refine cp_bipush (v := 12) dX2_init_5 (by decide) ?_
  refine cp_newI (N := 12) dX2_init_7 (by decide) (by decide) rfl rfl rfl (fun q1 => ?_)
  refine cp_wld (ws' := [(h0, .inr (2, [.null, .null, .null, .int 0, .int 0, .int 0])), (q1, .inl (X.2.2.1 0, 12, .inl (fun _ => 0)))]) rfl ?_
  refine cp_putF dX2_init_9 (fiX2_9 _) rfl ?_
  refine cp_wld (ws' := [(h0, .inr (2, [.ref q1, .null, .null, .int 0, .int 0, .int 0])), (q1, .inl (X.2.2.1 0, 12, .inl (fun _ => 0)))]) rfl ?_
  refine cp_aload_n dX2_init_12 0 rfl ?_
  refine cp_bipush (v := 12) dX2_init_13 (by decide) ?_
  refine cp_newI (N := 12) dX2_init_15 (by decide) (by decide) rfl rfl rfl (fun q2 => ?_)
  refine cp_wld (ws' := [(h0, .inr (2, [.ref q1, .null, .null, .int 0, .int 0, .int 0])), (q1, .inl (X.2.2.1 0, 12, .inl (fun _ => 0))), (q2, .inl (X.2.2.1 0, 12, .inl (fun _ => 0)))]) rfl ?_
  refine cp_putF dX2_init_17 (fiX2_15 _) rfl ?_
  refine cp_wld (ws' := [(h0, .inr (2, [.ref q1, .ref q2, .null, .int 0, .int 0, .int 0])), (q1, .inl (X.2.2.1 0, 12, .inl (fun _ => 0))), (q2, .inl (X.2.2.1 0, 12, .inl (fun _ => 0)))]) rfl ?_
  refine cp_aload_n dX2_init_20 0 rfl ?_
  refine cp_bipush (v := 6) dX2_init_21 (by decide) ?_
  refine cp_newI (N := 6) dX2_init_23 (by decide) (by decide) rfl rfl rfl (fun q3 => ?_)
  refine cp_wld (ws' := [(h0, .inr (2, [.ref q1, .ref q2, .null, .int 0, .int 0, .int 0])), (q1, .inl (X.2.2.1 0, 12, .inl (fun _ => 0))), (q2, .inl (X.2.2.1 0, 12, .inl (fun _ => 0))), (q3, .inl (X.2.2.1 0, 6, .inl (fun _ => 0)))]) rfl ?_
  refine cp_putF dX2_init_25 (fiX2_18 _) rfl ?_
  refine cp_wld (ws' := [(h0, .inr (2, [.ref q1, .ref q2, .ref q3, .int 0, .int 0, .int 0])), (q1, .inl (X.2.2.1 0, 12, .inl (fun _ => 0))), (q2, .inl (X.2.2.1 0, 12, .inl (fun _ => 0))), (q3, .inl (X.2.2.1 0, 6, .inl (fun _ => 0)))]) rfl ?_
  refine cp_aload_n dX2_init_28 0 rfl ?_
  refine cp_iconst (v := 0) dX2_init_29 (by decide) ?_
  refine cp_putN dX2_init_30 (fnX2_21 _) rfl ?_
  refine cp_wld (ws' := [(h0, .inr (2, [.ref q1, .ref q2, .ref q3, .int 0, .int 0, .int 0])), (q1, .inl (X.2.2.1 0, 12, .inl (fun _ => 0))), (q2, .inl (X.2.2.1 0, 12, .inl (fun _ => 0))), (q3, .inl (X.2.2.1 0, 6, .inl (fun _ => 0)))]) rfl ?_
  refine cp_aload_n dX2_init_33 0 rfl ?_
  refine cp_iconst (v := 0) dX2_init_34 (by decide) ?_
  refine cp_putN dX2_init_35 (fnX2_25 _) rfl ?_
  refine cp_wld (ws' := [(h0, .inr (2, [.ref q1, .ref q2, .ref q3, .int 0, .int 0, .int 0])), (q1, .inl (X.2.2.1 0, 12, .inl (fun _ => 0))), (q2, .inl (X.2.2.1 0, 12, .inl (fun _ => 0))), (q3, .inl (X.2.2.1 0, 6, .inl (fun _ => 0)))]) rfl ?_
  refine cp_aload_n dX2_init_38 0 rfl ?_
  refine cp_iconst (v := 0) dX2_init_39 (by decide) ?_
  refine cp_putN dX2_init_40 (fnX2_28 _) rfl ?_
  refine cp_wld (ws' := [(h0, .inr (2, [.ref q1, .ref q2, .ref q3, .int 0, .int 0, .int 0])), (q1, .inl (X.2.2.1 0, 12, .inl (fun _ => 0))), (q2, .inl (X.2.2.1 0, 12, .inl (fun _ => 0))), (q3, .inl (X.2.2.1 0, 6, .inl (fun _ => 0)))]) rfl ?_
  exact cp_ret dX2_init_43 rfl rfl rfl rfl ⟨q1, q2, q3, rfl⟩
set_option maxHeartbeats 4000000 in
set_option maxRecDepth 100000 in
theorem s_X5_init (X : Amb) (z0 h0 sz : Nat) : SpC X z0 mX5_init 1 60 (h0, .inr (5, [.null, .int 0, .int 0])) [.ref h0] sz (fun w1 => ∃ q1 : Nat, w1 = [(h0, .inr (5, [.ref q1, .int (-1), .int 0])), (q1, .inl (X.2.2.1 0, 60, .inl (fun _ => 0)))]) := by
  refine spc_of (by decide +kernel) rfl rfl ?_
  refine cp_aload_n dX5_init_0 0 rfl ?_
  refine cp_obj dX5_init_1 tobX5 rfl rfl ?_
  refine cp_aload_n dX5_init_4 0 rfl ?_
  refine cp_bipush (v := 60) dX5_init_5 (by decide) ?_
  refine cp_newI (N := 60) dX5_init_7 (by decide) (by decide) rfl rfl rfl (fun q1 => ?_)
  refine cp_wld (ws' := [(h0, .inr (5, [.null, .int 0, .int 0])), (q1, .inl (X.2.2.1 0, 60, .inl (fun _ => 0)))]) rfl ?_
  refine cp_putF dX5_init_9 (fiX5_9 _) rfl ?_
  refine cp_wld (ws' := [(h0, .inr (5, [.ref q1, .int 0, .int 0])), (q1, .inl (X.2.2.1 0, 60, .inl (fun _ => 0)))]) rfl ?_
  refine cp_aload_n dX5_init_12 0 rfl ?_
  refine cp_iconst (v := (-1)) dX5_init_13 (by decide) ?_
  refine cp_putN dX5_init_14 (fnX5_15 _) rfl ?_
  refine cp_wld (ws' := [(h0, .inr (5, [.ref q1, .int (-1), .int 0])), (q1, .inl (X.2.2.1 0, 60, .inl (fun _ => 0)))]) rfl ?_
  refine cp_aload_n dX5_init_17 0 rfl ?_
  refine cp_iconst (v := 0) dX5_init_18 (by decide) ?_
  refine cp_putN dX5_init_19 (fnX5_19 _) rfl ?_
  refine cp_wld (ws' := [(h0, .inr (5, [.ref q1, .int (-1), .int 0])), (q1, .inl (X.2.2.1 0, 60, .inl (fun _ => 0)))]) rfl ?_
  exact cp_ret dX5_init_22 rfl rfl rfl rfl ⟨q1, rfl⟩
