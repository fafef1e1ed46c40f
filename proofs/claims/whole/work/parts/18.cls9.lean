noncomputable section
def f_X8_refresh (σ : Mem) : Mem := (mst (f_X4_run (f_X6_load (f_X1_load σ)) (f_X1_whole (f_X6_load (f_X1_load σ))) (f_X3_at (f_X6_load (f_X1_load σ)) 15 3 4 5 4)) 0 11 0)
theorem s_X8_refresh (X : Amb) (σ : Mem) : SpV X mX8_refresh [.ref (adr X 0)] σ (f_X8_refresh σ) := by
  refine sp_of (by decide +kernel) rfl ?_
  show WP X mX8_refresh 0 [(0, .ref (adr X 0))] [] σ _
  refine wp_aload_n dX8_refresh_0 0 rfl ?_
  refine wp_getR dX8_refresh_1 faX8_24 rfl rfl ?_
  refine wp_aload_n dX8_refresh_4 0 rfl ?_
  refine wp_getR dX8_refresh_5 faX8_14 rfl rfl ?_
  refine wp_cV1v (N := mX1_load) dX8_refresh_8 tmX8_408 okX1_load rfl rfl rfl rfl rfl rfl rfl rfl (s_X1_load X _) ?_
  refine wp_aload_n dX8_refresh_11 0 rfl ?_
  refine wp_getR dX8_refresh_12 faX8_31 rfl rfl ?_
  refine wp_aload_n dX8_refresh_15 0 rfl ?_
  refine wp_getR dX8_refresh_16 faX8_18 rfl rfl ?_
  refine wp_cV1v (N := mX6_load) dX8_refresh_19 tmX8_412 okX6_load rfl rfl rfl rfl rfl rfl rfl rfl (s_X6_load X _) ?_
  refine wp_aload_n dX8_refresh_22 0 rfl ?_
  refine wp_getR dX8_refresh_23 faX8_72 rfl rfl ?_
  refine wp_aload_n dX8_refresh_26 0 rfl ?_
  refine wp_getR dX8_refresh_27 faX8_24 rfl rfl ?_
  refine wp_cV0w (N := mX1_whole) dX8_refresh_30 tmX8_180 okX1_whole rfl rfl rfl rfl rfl rfl rfl rfl (s_X1_whole X _) ?_
  refine wp_aload_n dX8_refresh_33 0 rfl ?_
  refine wp_getR dX8_refresh_34 faX8_31 rfl rfl ?_
  refine wp_aload_n dX8_refresh_37 0 rfl ?_
  refine wp_getR dX8_refresh_38 faX8_50 rfl rfl ?_
  refine wp_aload_n dX8_refresh_41 0 rfl ?_
  refine wp_getR dX8_refresh_42 faX8_54 rfl rfl ?_
  refine wp_aload_n dX8_refresh_45 0 rfl ?_
  refine wp_getR dX8_refresh_46 faX8_66 rfl rfl ?_
  refine wp_iconst dX8_refresh_49 ic_4 ?_
  refine wp_cV1w (N := mX3_at) dX8_refresh_50 tmX8_190 okX3_at rfl rfl rfl rfl rfl rfl rfl rfl (s_X3_at X _ 15 3 4 5 _ dl15) ?_
  refine wp_cV5v (N := mX4_run) dX8_refresh_53 tmX8_413 okX4_run rfl rfl rfl rfl rfl rfl rfl rfl (s_X4_run X _ _ _) ?_
  refine wp_aload_n dX8_refresh_56 0 rfl ?_
  refine wp_iconst dX8_refresh_57 ic_0 ?_
  refine wp_putZ dX8_refresh_58 fwX8_417 rfl rfl (Or.inl rfl) ?_
  refine wp_return dX8_refresh_61 rfl ?_
  exact ⟨rfl, rfl⟩
def f_X8_found (σ : Mem) (a : Int32) : Int32 × Mem := (((-10) - a), (mst σ 0 12 a))
theorem s_X8_found (X : Amb) (σ : Mem) (a : Int32) : SpW X mX8_found [.ref (adr X 0), .int a] σ (.int (f_X8_found σ a).1) (f_X8_found σ a).2 := by
  refine sp_of (by decide +kernel) rfl ?_
  show WP X mX8_found 0 [(0, .ref (adr X 0)), (1, .int a)] [] σ _
  refine wp_aload_n dX8_found_0 0 rfl ?_
  refine wp_iload_n dX8_found_1 1 rfl ?_
  refine wp_putI dX8_found_2 fwX8_97 rfl rfl ?_
  refine wp_bipush dX8_found_5 bp_m10 ?_
  refine wp_iload_n dX8_found_7 1 rfl ?_
  refine wp_isub dX8_found_8 ?_
  refine wp_ireturn dX8_found_9 rfl ?_
  exact ⟨rfl, rfl⟩
def f_X8_busyMinutes (σ : Mem) : Int32 := ((f_X3_at σ 15 3 4 5 2) + (f_X3_at σ 15 3 4 5 3))
theorem s_X8_busyMinutes (X : Amb) (σ : Mem) : SpW X mX8_busyMinutes [.ref (adr X 0)] σ (.int (f_X8_busyMinutes σ)) σ := by
  refine sp_of (by decide +kernel) rfl ?_
  show WP X mX8_busyMinutes 0 [(0, .ref (adr X 0))] [] σ _
  refine wp_aload_n dX8_busyMinutes_0 0 rfl ?_
  refine wp_getR dX8_busyMinutes_1 faX8_66 rfl rfl ?_
  refine wp_iconst dX8_busyMinutes_4 ic_2 ?_
  refine wp_cV1w (N := mX3_at) dX8_busyMinutes_5 tmX8_190 okX3_at rfl rfl rfl rfl rfl rfl rfl rfl (s_X3_at X _ 15 3 4 5 _ dl15) ?_
  refine wp_aload_n dX8_busyMinutes_8 0 rfl ?_
  refine wp_getR dX8_busyMinutes_9 faX8_66 rfl rfl ?_
  refine wp_iconst dX8_busyMinutes_12 ic_3 ?_
  refine wp_cV1w (N := mX3_at) dX8_busyMinutes_13 tmX8_190 okX3_at rfl rfl rfl rfl rfl rfl rfl rfl (s_X3_at X _ 15 3 4 5 _ dl15) ?_
  refine wp_iadd dX8_busyMinutes_16 ?_
  refine wp_ireturn dX8_busyMinutes_17 rfl ?_
  exact ⟨rfl, rfl⟩
theorem s_textAt0 (X : Amb) (σ : Mem) (a : Int32) (h : a = 0) : SpW X mX8_textAt [.ref (adr X 0), .int a] σ (.ref (adr X 1)) σ := by
  refine sp_of (by decide +kernel) rfl ?_
  show WP X mX8_textAt 0 [(0, .ref (adr X 0)), (1, .int a)] [] σ _
  refine wp_iload_n dX8_textAt_0 1 rfl ?_
  refine wp_if_ne 9 dX8_textAt_1 (by decide) (fun z9 => absurd h z9) (fun _ => ?_)
  refine wp_aload_n dX8_textAt_4 0 rfl ?_
  refine wp_getR dX8_textAt_5 faX8_14 rfl rfl ?_
  refine wp_areturn dX8_textAt_8 rfl ?_
  exact ⟨rfl, rfl⟩
theorem s_textAt1 (X : Amb) (σ : Mem) (a : Int32) (h : ¬ a = 0) (h1 : a = 1) : SpW X mX8_textAt [.ref (adr X 0), .int a] σ (.ref (adr X 3)) σ := by
  refine sp_of (by decide +kernel) rfl ?_
  show WP X mX8_textAt 0 [(0, .ref (adr X 0)), (1, .int a)] [] σ _
  refine wp_iload_n dX8_textAt_0 1 rfl ?_
  refine wp_if_ne 9 dX8_textAt_1 (by decide) (fun _ => ?_) (fun z9 => absurd z9 h)
  refine wp_iload_n dX8_textAt_9 1 rfl ?_
  refine wp_iconst dX8_textAt_10 ic_1 ?_
  refine wp_icmp_ne 21 dX8_textAt_11 (by decide) (fun z9 => absurd h1 z9) (fun _ => ?_)
  refine wp_aload_n dX8_textAt_14 0 rfl ?_
  refine wp_getR dX8_textAt_15 faX8_18 rfl rfl ?_
  refine wp_goto 22 dX8_textAt_18 (by decide) ?_
  refine wp_areturn dX8_textAt_22 rfl ?_
  exact ⟨rfl, rfl⟩
theorem s_textAtN (X : Amb) (σ : Mem) (a : Int32) (h : ¬ a = 0) (h1 : ¬ a = 1) : SpW X mX8_textAt [.ref (adr X 0), .int a] σ .null σ := by
  refine sp_of (by decide +kernel) rfl ?_
  show WP X mX8_textAt 0 [(0, .ref (adr X 0)), (1, .int a)] [] σ _
  refine wp_iload_n dX8_textAt_0 1 rfl ?_
  refine wp_if_ne 9 dX8_textAt_1 (by decide) (fun _ => ?_) (fun z9 => absurd z9 h)
  refine wp_iload_n dX8_textAt_9 1 rfl ?_
  refine wp_iconst dX8_textAt_10 ic_1 ?_
  refine wp_icmp_ne 21 dX8_textAt_11 (by decide) (fun _ => ?_) (fun z9 => absurd z9 h1)
  refine wp_null dX8_textAt_21 ?_
  refine wp_areturnN dX8_textAt_22 rfl ?_
  exact ⟨rfl, rfl⟩
theorem s_engineAt0 (X : Amb) (σ : Mem) (a : Int32) (h : a = 0) : SpW X mX8_engineAt [.ref (adr X 0), .int a] σ (.ref (adr X 11)) σ := by
  refine sp_of (by decide +kernel) rfl ?_
  show WP X mX8_engineAt 0 [(0, .ref (adr X 0)), (1, .int a)] [] σ _
  refine wp_iload_n dX8_engineAt_0 1 rfl ?_
  refine wp_if_ne 11 dX8_engineAt_1 (by decide) (fun z9 => absurd h z9) (fun _ => ?_)
  refine wp_aload_n dX8_engineAt_4 0 rfl ?_
  refine wp_getR dX8_engineAt_5 faX8_50 rfl rfl ?_
  refine wp_goto 15 dX8_engineAt_8 (by decide) ?_
  refine wp_areturn dX8_engineAt_15 rfl ?_
  exact ⟨rfl, rfl⟩
theorem s_engineAt1 (X : Amb) (σ : Mem) (a : Int32) (h : ¬ a = 0) : SpW X mX8_engineAt [.ref (adr X 0), .int a] σ (.ref (adr X 13)) σ := by
  refine sp_of (by decide +kernel) rfl ?_
  show WP X mX8_engineAt 0 [(0, .ref (adr X 0)), (1, .int a)] [] σ _
  refine wp_iload_n dX8_engineAt_0 1 rfl ?_
  refine wp_if_ne 11 dX8_engineAt_1 (by decide) (fun _ => ?_) (fun z9 => absurd z9 h)
  refine wp_aload_n dX8_engineAt_11 0 rfl ?_
  refine wp_getR dX8_engineAt_12 faX8_54 rfl rfl ?_
  refine wp_areturn dX8_engineAt_15 rfl ?_
  exact ⟨rfl, rfl⟩
/-- the cell of sheet a -/
def shk (a : Int32) : Nat := 31 + 2 * a.toNatClampNeg
theorem shk_in {a : Int32} (h : 0 ≤ a ∧ a < 4) : a = 0 ∨ a = 1 ∨ a = 2 ∨ a = 3 := by
  obtain ⟨h1, h2⟩ := h
  rw [Int32.le_iff_toInt_le, Int32.toInt_zero] at h1
  rw [Int32.lt_iff_toInt_lt, t4] at h2
  rcases (show a.toInt = 0 ∨ a.toInt = 1 ∨ a.toInt = 2 ∨ a.toInt = 3 by omega) with q | q | q | q
  · exact Or.inl (Int32.toInt_inj.mp (by rw [q]; decide))
  · exact Or.inr (Or.inl (Int32.toInt_inj.mp (by rw [q]; decide)))
  · exact Or.inr (Or.inr (Or.inl (Int32.toInt_inj.mp (by rw [q]; decide))))
  · exact Or.inr (Or.inr (Or.inr (Int32.toInt_inj.mp (by rw [q]; decide))))
theorem shk_ok {a : Int32} (h : 0 ≤ a ∧ a < 4) : Sht (shk a) := by
  rcases shk_in h with rfl | rfl | rfl | rfl
  · exact Or.inl (by decide)
  · exact Or.inr (Or.inl (by decide))
  · exact Or.inr (Or.inr (Or.inl (by decide)))
  · exact Or.inr (Or.inr (Or.inr (by decide)))
theorem s_sheetAt (X : Amb) (σ : Mem) (a : Int32) (h : 0 ≤ a ∧ a < 4) : SpW X mX8_sheetAt [.ref (adr X 0), .int a] σ (.ref (adr X (shk a))) σ := by
  refine sp_of (by decide +kernel) rfl ?_
  show WP X mX8_sheetAt 0 [(0, .ref (adr X 0)), (1, .int a)] [] σ _
  refine wp_iload_n dX8_sheetAt_0 1 rfl ?_
  refine wp_if_lt 22 dX8_sheetAt_1 (by decide) (fun q => absurd q (nlt_of_le h.1)) (fun _ => ?_)
  refine wp_iload_n dX8_sheetAt_4 1 rfl ?_
  refine wp_aload_n dX8_sheetAt_5 0 rfl ?_
  refine wp_getR dX8_sheetAt_6 faX8_92 rfl rfl ?_
  refine wp_alenQ (v := 4) dX8_sheetAt_9 rfl rfl ?_
  refine wp_icmp_ge 22 dX8_sheetAt_10 (by decide) (fun q => absurd q (nle_of_lt h.2)) (fun _ => ?_)
  refine wp_aload_n dX8_sheetAt_13 0 rfl ?_
  refine wp_getR dX8_sheetAt_14 faX8_92 rfl rfl ?_
  refine wp_iload_n dX8_sheetAt_17 1 rfl ?_
  refine wp_aldQ (b := shk a) dX8_sheetAt_18 rfl (vin 4 (by decide) rfl (nlt_of_le h.1) (nle_of_lt h.2)) (by rcases shk_in h with rfl | rfl | rfl | rfl <;> rfl) ?_
  refine wp_goto 23 dX8_sheetAt_19 (by decide) ?_
  refine wp_areturn dX8_sheetAt_23 rfl ?_
  exact ⟨rfl, rfl⟩
theorem s_sheetAtN (X : Amb) (σ : Mem) (a : Int32) (h : ¬ (0 ≤ a ∧ a < 4)) : SpW X mX8_sheetAt [.ref (adr X 0), .int a] σ .null σ := by
  refine sp_of (by decide +kernel) rfl ?_
  show WP X mX8_sheetAt 0 [(0, .ref (adr X 0)), (1, .int a)] [] σ _
  refine wp_iload_n dX8_sheetAt_0 1 rfl ?_
  refine wp_if_lt 22 dX8_sheetAt_1 (by decide) (fun _ => ?_) (fun h0 => ?_)
  · refine wp_null dX8_sheetAt_22 ?_
    refine wp_areturnN dX8_sheetAt_23 rfl ?_
    exact ⟨rfl, rfl⟩
  refine wp_iload_n dX8_sheetAt_4 1 rfl ?_
  refine wp_aload_n dX8_sheetAt_5 0 rfl ?_
  refine wp_getR dX8_sheetAt_6 faX8_92 rfl rfl ?_
  refine wp_alenQ (v := 4) dX8_sheetAt_9 rfl rfl ?_
  refine wp_icmp_ge 22 dX8_sheetAt_10 (by decide) (fun _ => ?_) (fun q => absurd ⟨le_of_nlt h0, lt_of_nle q⟩ h)
  refine wp_null dX8_sheetAt_22 ?_
  refine wp_areturnN dX8_sheetAt_23 rfl ?_
  exact ⟨rfl, rfl⟩
theorem lgne {x y : Int64} (h : ¬ lg_cmp x y = 0) : ¬ x = y := by
  intro e; subst e; exact h (by simp [lg_cmp])
def f_X8_type (σ : Mem) (a : Int32) (b : Int32) : Int32 × Mem := if a = 0 then if b < 0 then ((-2), σ) else if b ≤ 255 then if (f_X7_isFull σ 1) = 0 then ((f_X7_size (f_X8_refresh (f_X7_append σ 1 b)) 1), (f_X8_refresh (f_X7_append σ 1 b))) else ((-4), σ) else ((-2), σ) else if a = 1 then if b < 0 then ((-2), σ) else if b ≤ 255 then if (f_X7_isFull σ 3) = 0 then ((f_X7_size (f_X8_refresh (f_X7_append σ 3 b)) 3), (f_X8_refresh (f_X7_append σ 3 b))) else ((-4), σ) else ((-2), σ) else ((-2), σ)
theorem s_X8_type (X : Amb) (σ : Mem) (a : Int32) (b : Int32) : SpW X mX8_type [.ref (adr X 0), .int a, .int b] σ (.int (f_X8_type σ a b).1) (f_X8_type σ a b).2 := by
  refine sp_of (by decide +kernel) rfl ?_
  show WP X mX8_type 0 [(0, .ref (adr X 0)), (1, .int a), (2, .int b)] [] σ _
  refine wp_aload_n dX8_type_0 0 rfl ?_
  refine wp_iload_n dX8_type_1 1 rfl ?_
  by_cases k2_0 : a = 0
  · refine wp_cV1w (N := mX8_textAt) dX8_type_2 tmX8_104 okX8_textAt rfl rfl rfl rfl rfl rfl rfl rfl (s_textAt0 X _ _ k2_0) ?_
    refine wp_astore_n (L' := [(3, _), (0, _), (1, _), (2, _)]) dX8_type_5 rfl rfl ?_
    refine wp_aload_n dX8_type_6 0 rfl ?_
    refine wp_ifnull dX8_type_7 ?_
    refine wp_iload_n dX8_type_10 3 rfl ?_
    refine wp_if_lt 21 dX8_type_11 (by decide) (fun c11_1 => ?_) (fun c11_1 => ?_)
    · refine wp_bipush dX8_type_21 bp_m2 ?_
      refine wp_ireturn dX8_type_23 rfl ?_
      exact ⟨by unfold f_X8_type; rw [if_pos k2_0, if_pos c11_1], by unfold f_X8_type; rw [if_pos k2_0, if_pos c11_1]⟩
    · refine wp_iload_n dX8_type_14 3 rfl ?_
      refine wp_sipush dX8_type_15 sp_255 ?_
      refine wp_icmp_le 24 dX8_type_18 (by decide) (fun c18_2 => ?_) (fun c18_2 => ?_)
      · refine wp_aload_n dX8_type_24 0 rfl ?_
        refine wp_cV0w (N := mX7_isFull) dX8_type_25 tmX8_108 okX7_isFull rfl rfl rfl rfl rfl rfl rfl rfl (s_X7_isFull X _ 1 tx1) ?_
        refine wp_if_eq 34 dX8_type_28 (by decide) (fun c28_3 => ?_) (fun c28_3 => ?_)
        · refine wp_aload_n dX8_type_34 0 rfl ?_
          refine wp_iload_n dX8_type_35 3 rfl ?_
          refine wp_cV1v (N := mX7_append) dX8_type_36 tmX8_112 okX7_append rfl rfl rfl rfl rfl rfl rfl rfl (s_X7_append X _ 1 _ tx1) ?_
          refine wp_aload_n dX8_type_39 1 rfl ?_
          refine wp_cV0v (N := mX8_refresh) dX8_type_40 tmX8_101 okX8_refresh rfl rfl rfl rfl rfl rfl rfl rfl (s_X8_refresh X _) ?_
          refine wp_aload_n dX8_type_43 0 rfl ?_
          refine wp_cV0w (N := mX7_size) dX8_type_44 tmX8_115 okX7_size rfl rfl rfl rfl rfl rfl rfl rfl (s_X7_size X _ 1 tx1) ?_
          refine wp_ireturn dX8_type_47 rfl ?_
          exact ⟨by unfold f_X8_type; rw [if_pos k2_0, if_neg c11_1, if_pos c18_2, if_pos c28_3], by unfold f_X8_type; rw [if_pos k2_0, if_neg c11_1, if_pos c18_2, if_pos c28_3]⟩
        · refine wp_bipush dX8_type_31 bp_m4 ?_
          refine wp_ireturn dX8_type_33 rfl ?_
          exact ⟨by unfold f_X8_type; rw [if_pos k2_0, if_neg c11_1, if_pos c18_2, if_neg c28_3], by unfold f_X8_type; rw [if_pos k2_0, if_neg c11_1, if_pos c18_2, if_neg c28_3]⟩
      · refine wp_bipush dX8_type_21 bp_m2 ?_
        refine wp_ireturn dX8_type_23 rfl ?_
        exact ⟨by unfold f_X8_type; rw [if_pos k2_0, if_neg c11_1, if_neg c18_2], by unfold f_X8_type; rw [if_pos k2_0, if_neg c11_1, if_neg c18_2]⟩
  · by_cases k2_1 : a = 1
    · refine wp_cV1w (N := mX8_textAt) dX8_type_2 tmX8_104 okX8_textAt rfl rfl rfl rfl rfl rfl rfl rfl (s_textAt1 X _ _ k2_0 k2_1) ?_
      refine wp_astore_n (L' := [(3, _), (0, _), (1, _), (2, _)]) dX8_type_5 rfl rfl ?_
      refine wp_aload_n dX8_type_6 0 rfl ?_
      refine wp_ifnull dX8_type_7 ?_
      refine wp_iload_n dX8_type_10 3 rfl ?_
      refine wp_if_lt 21 dX8_type_11 (by decide) (fun c11_4 => ?_) (fun c11_4 => ?_)
      · refine wp_bipush dX8_type_21 bp_m2 ?_
        refine wp_ireturn dX8_type_23 rfl ?_
        exact ⟨by unfold f_X8_type; rw [if_neg k2_0, if_pos k2_1, if_pos c11_4], by unfold f_X8_type; rw [if_neg k2_0, if_pos k2_1, if_pos c11_4]⟩
      · refine wp_iload_n dX8_type_14 3 rfl ?_
        refine wp_sipush dX8_type_15 sp_255 ?_
        refine wp_icmp_le 24 dX8_type_18 (by decide) (fun c18_5 => ?_) (fun c18_5 => ?_)
        · refine wp_aload_n dX8_type_24 0 rfl ?_
          refine wp_cV0w (N := mX7_isFull) dX8_type_25 tmX8_108 okX7_isFull rfl rfl rfl rfl rfl rfl rfl rfl (s_X7_isFull X _ 3 tx3) ?_
          refine wp_if_eq 34 dX8_type_28 (by decide) (fun c28_6 => ?_) (fun c28_6 => ?_)
          · refine wp_aload_n dX8_type_34 0 rfl ?_
            refine wp_iload_n dX8_type_35 3 rfl ?_
            refine wp_cV1v (N := mX7_append) dX8_type_36 tmX8_112 okX7_append rfl rfl rfl rfl rfl rfl rfl rfl (s_X7_append X _ 3 _ tx3) ?_
            refine wp_aload_n dX8_type_39 1 rfl ?_
            refine wp_cV0v (N := mX8_refresh) dX8_type_40 tmX8_101 okX8_refresh rfl rfl rfl rfl rfl rfl rfl rfl (s_X8_refresh X _) ?_
            refine wp_aload_n dX8_type_43 0 rfl ?_
            refine wp_cV0w (N := mX7_size) dX8_type_44 tmX8_115 okX7_size rfl rfl rfl rfl rfl rfl rfl rfl (s_X7_size X _ 3 tx3) ?_
            refine wp_ireturn dX8_type_47 rfl ?_
            exact ⟨by unfold f_X8_type; rw [if_neg k2_0, if_pos k2_1, if_neg c11_4, if_pos c18_5, if_pos c28_6], by unfold f_X8_type; rw [if_neg k2_0, if_pos k2_1, if_neg c11_4, if_pos c18_5, if_pos c28_6]⟩
          · refine wp_bipush dX8_type_31 bp_m4 ?_
            refine wp_ireturn dX8_type_33 rfl ?_
            exact ⟨by unfold f_X8_type; rw [if_neg k2_0, if_pos k2_1, if_neg c11_4, if_pos c18_5, if_neg c28_6], by unfold f_X8_type; rw [if_neg k2_0, if_pos k2_1, if_neg c11_4, if_pos c18_5, if_neg c28_6]⟩
        · refine wp_bipush dX8_type_21 bp_m2 ?_
          refine wp_ireturn dX8_type_23 rfl ?_
          exact ⟨by unfold f_X8_type; rw [if_neg k2_0, if_pos k2_1, if_neg c11_4, if_neg c18_5], by unfold f_X8_type; rw [if_neg k2_0, if_pos k2_1, if_neg c11_4, if_neg c18_5]⟩
    · refine wp_cV1w (N := mX8_textAt) dX8_type_2 tmX8_104 okX8_textAt rfl rfl rfl rfl rfl rfl rfl rfl (s_textAtN X _ _ k2_0 k2_1) ?_
      refine wp_astore_nN (L' := [(3, _), (0, _), (1, _), (2, _)]) dX8_type_5 rfl rfl ?_
      refine wp_aload_nN dX8_type_6 0 rfl ?_
      refine wp_ifnullN 21 dX8_type_7 (by decide) ?_
      refine wp_bipush dX8_type_21 bp_m2 ?_
      refine wp_ireturn dX8_type_23 rfl ?_
      exact ⟨by unfold f_X8_type; rw [if_neg k2_0, if_neg k2_1], by unfold f_X8_type; rw [if_neg k2_0, if_neg k2_1]⟩
def f_X8_wipe (σ : Mem) (a : Int32) : Int32 × Mem := if a = 0 then ((f_X7_size σ 1), (f_X8_refresh (f_X7_shorten σ 1 (f_X7_size σ 1)))) else if a = 1 then ((f_X7_size σ 3), (f_X8_refresh (f_X7_shorten σ 3 (f_X7_size σ 3)))) else ((-2), σ)
theorem s_X8_wipe (X : Amb) (σ : Mem) (a : Int32) : SpW X mX8_wipe [.ref (adr X 0), .int a] σ (.int (f_X8_wipe σ a).1) (f_X8_wipe σ a).2 := by
  refine sp_of (by decide +kernel) rfl ?_
  show WP X mX8_wipe 0 [(0, .ref (adr X 0)), (1, .int a)] [] σ _
  refine wp_aload_n dX8_wipe_0 0 rfl ?_
  refine wp_iload_n dX8_wipe_1 1 rfl ?_
  by_cases k2_0 : a = 0
  · refine wp_cV1w (N := mX8_textAt) dX8_wipe_2 tmX8_104 okX8_textAt rfl rfl rfl rfl rfl rfl rfl rfl (s_textAt0 X _ _ k2_0) ?_
    refine wp_astore_n (L' := [(2, _), (0, _), (1, _)]) dX8_wipe_5 rfl rfl ?_
    refine wp_aload_n dX8_wipe_6 0 rfl ?_
    refine wp_ifnonnull 13 dX8_wipe_7 (by decide) ?_
    refine wp_aload_n dX8_wipe_13 0 rfl ?_
    refine wp_cV0w (N := mX7_size) dX8_wipe_14 tmX8_115 okX7_size rfl rfl rfl rfl rfl rfl rfl rfl (s_X7_size X _ 1 tx1) ?_
    refine wp_istore_n (L' := [(3, _), (2, _), (0, _), (1, _)]) dX8_wipe_17 rfl rfl ?_
    refine wp_aload_n dX8_wipe_18 1 rfl ?_
    refine wp_iload_n dX8_wipe_19 0 rfl ?_
    refine wp_cV1v (N := mX7_shorten) dX8_wipe_20 tmX8_119 okX7_shorten rfl rfl rfl rfl rfl rfl rfl rfl (s_X7_shorten X _ 1 _ tx1) ?_
    refine wp_aload_n dX8_wipe_23 2 rfl ?_
    refine wp_cV0v (N := mX8_refresh) dX8_wipe_24 tmX8_101 okX8_refresh rfl rfl rfl rfl rfl rfl rfl rfl (s_X8_refresh X _) ?_
    refine wp_iload_n dX8_wipe_27 0 rfl ?_
    refine wp_ireturn dX8_wipe_28 rfl ?_
    exact ⟨by unfold f_X8_wipe; rw [if_pos k2_0], by unfold f_X8_wipe; rw [if_pos k2_0]⟩
  · by_cases k2_1 : a = 1
    · refine wp_cV1w (N := mX8_textAt) dX8_wipe_2 tmX8_104 okX8_textAt rfl rfl rfl rfl rfl rfl rfl rfl (s_textAt1 X _ _ k2_0 k2_1) ?_
      refine wp_astore_n (L' := [(2, _), (0, _), (1, _)]) dX8_wipe_5 rfl rfl ?_
      refine wp_aload_n dX8_wipe_6 0 rfl ?_
      refine wp_ifnonnull 13 dX8_wipe_7 (by decide) ?_
      refine wp_aload_n dX8_wipe_13 0 rfl ?_
      refine wp_cV0w (N := mX7_size) dX8_wipe_14 tmX8_115 okX7_size rfl rfl rfl rfl rfl rfl rfl rfl (s_X7_size X _ 3 tx3) ?_
      refine wp_istore_n (L' := [(3, _), (2, _), (0, _), (1, _)]) dX8_wipe_17 rfl rfl ?_
      refine wp_aload_n dX8_wipe_18 1 rfl ?_
      refine wp_iload_n dX8_wipe_19 0 rfl ?_
      refine wp_cV1v (N := mX7_shorten) dX8_wipe_20 tmX8_119 okX7_shorten rfl rfl rfl rfl rfl rfl rfl rfl (s_X7_shorten X _ 3 _ tx3) ?_
      refine wp_aload_n dX8_wipe_23 2 rfl ?_
      refine wp_cV0v (N := mX8_refresh) dX8_wipe_24 tmX8_101 okX8_refresh rfl rfl rfl rfl rfl rfl rfl rfl (s_X8_refresh X _) ?_
      refine wp_iload_n dX8_wipe_27 0 rfl ?_
      refine wp_ireturn dX8_wipe_28 rfl ?_
      exact ⟨by unfold f_X8_wipe; rw [if_neg k2_0, if_pos k2_1], by unfold f_X8_wipe; rw [if_neg k2_0, if_pos k2_1]⟩
    · refine wp_cV1w (N := mX8_textAt) dX8_wipe_2 tmX8_104 okX8_textAt rfl rfl rfl rfl rfl rfl rfl rfl (s_textAtN X _ _ k2_0 k2_1) ?_
      refine wp_astore_nN (L' := [(2, _), (0, _), (1, _)]) dX8_wipe_5 rfl rfl ?_
      refine wp_aload_nN dX8_wipe_6 0 rfl ?_
      refine wp_ifnonnullN dX8_wipe_7 ?_
      refine wp_bipush dX8_wipe_10 bp_m2 ?_
      refine wp_ireturn dX8_wipe_12 rfl ?_
      exact ⟨by unfold f_X8_wipe; rw [if_neg k2_0, if_neg k2_1], by unfold f_X8_wipe; rw [if_neg k2_0, if_neg k2_1]⟩
def f_X8_undo (σ : Mem) (a : Int32) : Int32 × Mem := if a = 0 then if (f_X7_size σ 1) = 0 then ((-3), σ) else ((f_X7_size (f_X8_refresh (f_X7_shorten σ 1 1)) 1), (f_X8_refresh (f_X7_shorten σ 1 1))) else if a = 1 then if (f_X7_size σ 3) = 0 then ((-3), σ) else ((f_X7_size (f_X8_refresh (f_X7_shorten σ 3 1)) 3), (f_X8_refresh (f_X7_shorten σ 3 1))) else ((-2), σ)
theorem s_X8_undo (X : Amb) (σ : Mem) (a : Int32) : SpW X mX8_undo [.ref (adr X 0), .int a] σ (.int (f_X8_undo σ a).1) (f_X8_undo σ a).2 := by
  refine sp_of (by decide +kernel) rfl ?_
  show WP X mX8_undo 0 [(0, .ref (adr X 0)), (1, .int a)] [] σ _
  refine wp_aload_n dX8_undo_0 0 rfl ?_
  refine wp_iload_n dX8_undo_1 1 rfl ?_
  by_cases k2_0 : a = 0
  · refine wp_cV1w (N := mX8_textAt) dX8_undo_2 tmX8_104 okX8_textAt rfl rfl rfl rfl rfl rfl rfl rfl (s_textAt0 X _ _ k2_0) ?_
    refine wp_astore_n (L' := [(2, _), (0, _), (1, _)]) dX8_undo_5 rfl rfl ?_
    refine wp_aload_n dX8_undo_6 0 rfl ?_
    refine wp_ifnonnull 13 dX8_undo_7 (by decide) ?_
    refine wp_aload_n dX8_undo_13 0 rfl ?_
    refine wp_cV0w (N := mX7_size) dX8_undo_14 tmX8_115 okX7_size rfl rfl rfl rfl rfl rfl rfl rfl (s_X7_size X _ 1 tx1) ?_
    refine wp_if_ne 23 dX8_undo_17 (by decide) (fun c17_1 => ?_) (fun c17_1 => ?_)
    · refine wp_aload_n dX8_undo_23 0 rfl ?_
      refine wp_iconst dX8_undo_24 ic_1 ?_
      refine wp_cV1v (N := mX7_shorten) dX8_undo_25 tmX8_119 okX7_shorten rfl rfl rfl rfl rfl rfl rfl rfl (s_X7_shorten X _ 1 _ tx1) ?_
      refine wp_aload_n dX8_undo_28 1 rfl ?_
      refine wp_cV0v (N := mX8_refresh) dX8_undo_29 tmX8_101 okX8_refresh rfl rfl rfl rfl rfl rfl rfl rfl (s_X8_refresh X _) ?_
      refine wp_aload_n dX8_undo_32 0 rfl ?_
      refine wp_cV0w (N := mX7_size) dX8_undo_33 tmX8_115 okX7_size rfl rfl rfl rfl rfl rfl rfl rfl (s_X7_size X _ 1 tx1) ?_
      refine wp_ireturn dX8_undo_36 rfl ?_
      exact ⟨by unfold f_X8_undo; rw [if_pos k2_0, if_neg c17_1], by unfold f_X8_undo; rw [if_pos k2_0, if_neg c17_1]⟩
    · refine wp_bipush dX8_undo_20 bp_m3 ?_
      refine wp_ireturn dX8_undo_22 rfl ?_
      exact ⟨by unfold f_X8_undo; rw [if_pos k2_0, if_pos c17_1], by unfold f_X8_undo; rw [if_pos k2_0, if_pos c17_1]⟩
  · by_cases k2_1 : a = 1
    · refine wp_cV1w (N := mX8_textAt) dX8_undo_2 tmX8_104 okX8_textAt rfl rfl rfl rfl rfl rfl rfl rfl (s_textAt1 X _ _ k2_0 k2_1) ?_
      refine wp_astore_n (L' := [(2, _), (0, _), (1, _)]) dX8_undo_5 rfl rfl ?_
      refine wp_aload_n dX8_undo_6 0 rfl ?_
      refine wp_ifnonnull 13 dX8_undo_7 (by decide) ?_
      refine wp_aload_n dX8_undo_13 0 rfl ?_
      refine wp_cV0w (N := mX7_size) dX8_undo_14 tmX8_115 okX7_size rfl rfl rfl rfl rfl rfl rfl rfl (s_X7_size X _ 3 tx3) ?_
      refine wp_if_ne 23 dX8_undo_17 (by decide) (fun c17_2 => ?_) (fun c17_2 => ?_)
      · refine wp_aload_n dX8_undo_23 0 rfl ?_
        refine wp_iconst dX8_undo_24 ic_1 ?_
        refine wp_cV1v (N := mX7_shorten) dX8_undo_25 tmX8_119 okX7_shorten rfl rfl rfl rfl rfl rfl rfl rfl (s_X7_shorten X _ 3 _ tx3) ?_
        refine wp_aload_n dX8_undo_28 1 rfl ?_
        refine wp_cV0v (N := mX8_refresh) dX8_undo_29 tmX8_101 okX8_refresh rfl rfl rfl rfl rfl rfl rfl rfl (s_X8_refresh X _) ?_
        refine wp_aload_n dX8_undo_32 0 rfl ?_
        refine wp_cV0w (N := mX7_size) dX8_undo_33 tmX8_115 okX7_size rfl rfl rfl rfl rfl rfl rfl rfl (s_X7_size X _ 3 tx3) ?_
        refine wp_ireturn dX8_undo_36 rfl ?_
        exact ⟨by unfold f_X8_undo; rw [if_neg k2_0, if_pos k2_1, if_neg c17_2], by unfold f_X8_undo; rw [if_neg k2_0, if_pos k2_1, if_neg c17_2]⟩
      · refine wp_bipush dX8_undo_20 bp_m3 ?_
        refine wp_ireturn dX8_undo_22 rfl ?_
        exact ⟨by unfold f_X8_undo; rw [if_neg k2_0, if_pos k2_1, if_pos c17_2], by unfold f_X8_undo; rw [if_neg k2_0, if_pos k2_1, if_pos c17_2]⟩
    · refine wp_cV1w (N := mX8_textAt) dX8_undo_2 tmX8_104 okX8_textAt rfl rfl rfl rfl rfl rfl rfl rfl (s_textAtN X _ _ k2_0 k2_1) ?_
      refine wp_astore_nN (L' := [(2, _), (0, _), (1, _)]) dX8_undo_5 rfl rfl ?_
      refine wp_aload_nN dX8_undo_6 0 rfl ?_
      refine wp_ifnonnullN dX8_undo_7 ?_
      refine wp_bipush dX8_undo_10 bp_m2 ?_
      refine wp_ireturn dX8_undo_12 rfl ?_
      exact ⟨by unfold f_X8_undo; rw [if_neg k2_0, if_neg k2_1], by unfold f_X8_undo; rw [if_neg k2_0, if_neg k2_1]⟩
def f_X8_fault (σ : Mem) (a : Int32) : Int32 := if a = 0 then if a = 0 then (f_X1_firstFault σ) else (f_X6_firstFault σ) else if a = 1 then if a = 0 then (f_X1_firstFault σ) else (f_X6_firstFault σ) else (-2)
theorem s_X8_fault (X : Amb) (σ : Mem) (a : Int32) : SpW X mX8_fault [.ref (adr X 0), .int a] σ (.int (f_X8_fault σ a)) σ := by
  refine sp_of (by decide +kernel) rfl ?_
  show WP X mX8_fault 0 [(0, .ref (adr X 0)), (1, .int a)] [] σ _
  refine wp_aload_n dX8_fault_0 0 rfl ?_
  refine wp_iload_n dX8_fault_1 1 rfl ?_
  by_cases k2_0 : a = 0
  · refine wp_cV1w (N := mX8_textAt) dX8_fault_2 tmX8_104 okX8_textAt rfl rfl rfl rfl rfl rfl rfl rfl (s_textAt0 X _ _ k2_0) ?_
    refine wp_ifnonnull 11 dX8_fault_5 (by decide) ?_
    refine wp_iload_n dX8_fault_11 1 rfl ?_
    refine wp_if_ne 25 dX8_fault_12 (by decide) (fun c12_1 => ?_) (fun c12_1 => ?_)
    · refine wp_aload_n dX8_fault_25 0 rfl ?_
      refine wp_getR dX8_fault_26 faX8_31 rfl rfl ?_
      refine wp_cV0w (N := mX6_firstFault) dX8_fault_29 tmX8_125 okX6_firstFault rfl rfl rfl rfl rfl rfl rfl rfl (s_X6_firstFault X _) ?_
      refine wp_ireturn dX8_fault_32 rfl ?_
      exact ⟨by unfold f_X8_fault; rw [if_pos k2_0, if_neg c12_1], rfl⟩
    · refine wp_aload_n dX8_fault_15 0 rfl ?_
      refine wp_getR dX8_fault_16 faX8_24 rfl rfl ?_
      refine wp_cV0w (N := mX1_firstFault) dX8_fault_19 tmX8_122 okX1_firstFault rfl rfl rfl rfl rfl rfl rfl rfl (s_X1_firstFault X _) ?_
      refine wp_goto 32 dX8_fault_22 (by decide) ?_
      refine wp_ireturn dX8_fault_32 rfl ?_
      exact ⟨by unfold f_X8_fault; rw [if_pos k2_0, if_pos c12_1], rfl⟩
  · by_cases k2_1 : a = 1
    · refine wp_cV1w (N := mX8_textAt) dX8_fault_2 tmX8_104 okX8_textAt rfl rfl rfl rfl rfl rfl rfl rfl (s_textAt1 X _ _ k2_0 k2_1) ?_
      refine wp_ifnonnull 11 dX8_fault_5 (by decide) ?_
      refine wp_iload_n dX8_fault_11 1 rfl ?_
      refine wp_if_ne 25 dX8_fault_12 (by decide) (fun c12_2 => ?_) (fun c12_2 => ?_)
      · refine wp_aload_n dX8_fault_25 0 rfl ?_
        refine wp_getR dX8_fault_26 faX8_31 rfl rfl ?_
        refine wp_cV0w (N := mX6_firstFault) dX8_fault_29 tmX8_125 okX6_firstFault rfl rfl rfl rfl rfl rfl rfl rfl (s_X6_firstFault X _) ?_
        refine wp_ireturn dX8_fault_32 rfl ?_
        exact ⟨by unfold f_X8_fault; rw [if_neg k2_0, if_pos k2_1, if_neg c12_2], rfl⟩
      · refine wp_aload_n dX8_fault_15 0 rfl ?_
        refine wp_getR dX8_fault_16 faX8_24 rfl rfl ?_
        refine wp_cV0w (N := mX1_firstFault) dX8_fault_19 tmX8_122 okX1_firstFault rfl rfl rfl rfl rfl rfl rfl rfl (s_X1_firstFault X _) ?_
        refine wp_goto 32 dX8_fault_22 (by decide) ?_
        refine wp_ireturn dX8_fault_32 rfl ?_
        exact ⟨by unfold f_X8_fault; rw [if_neg k2_0, if_pos k2_1, if_pos c12_2], rfl⟩
    · refine wp_cV1w (N := mX8_textAt) dX8_fault_2 tmX8_104 okX8_textAt rfl rfl rfl rfl rfl rfl rfl rfl (s_textAtN X _ _ k2_0 k2_1) ?_
      refine wp_ifnonnullN dX8_fault_5 ?_
      refine wp_bipush dX8_fault_8 bp_m2 ?_
      refine wp_ireturn dX8_fault_10 rfl ?_
      exact ⟨by unfold f_X8_fault; rw [if_neg k2_0, if_neg k2_1], rfl⟩
def f_X8_wagon (σ : Mem) (a : Int32) : Int32 := if a < 0 then (-2) else if (f_X1_size σ) ≤ a then (-2) else (f_X1_weightOf σ a)
theorem s_X8_wagon (X : Amb) (σ : Mem) (a : Int32) : SpW X mX8_wagon [.ref (adr X 0), .int a] σ (.int (f_X8_wagon σ a)) σ := by
  refine sp_of (by decide +kernel) rfl ?_
  show WP X mX8_wagon 0 [(0, .ref (adr X 0)), (1, .int a)] [] σ _
  refine wp_iload_n dX8_wagon_0 1 rfl ?_
  refine wp_if_lt 26 dX8_wagon_1 (by decide) (fun c1_1 => ?_) (fun c1_1 => ?_)
  · refine wp_bipush dX8_wagon_26 bp_m2 ?_
    refine wp_ireturn dX8_wagon_28 rfl ?_
    exact ⟨by unfold f_X8_wagon; rw [if_pos c1_1], rfl⟩
  · refine wp_iload_n dX8_wagon_4 1 rfl ?_
    refine wp_aload_n dX8_wagon_5 0 rfl ?_
    refine wp_getR dX8_wagon_6 faX8_24 rfl rfl ?_
    refine wp_cV0w (N := mX1_size) dX8_wagon_9 tmX8_126 okX1_size rfl rfl rfl rfl rfl rfl rfl rfl (s_X1_size X _) ?_
    refine wp_icmp_ge 26 dX8_wagon_12 (by decide) (fun c12_2 => ?_) (fun c12_2 => ?_)
    · refine wp_bipush dX8_wagon_26 bp_m2 ?_
      refine wp_ireturn dX8_wagon_28 rfl ?_
      exact ⟨by unfold f_X8_wagon; rw [if_neg c1_1, if_pos c12_2], rfl⟩
    · refine wp_aload_n dX8_wagon_15 0 rfl ?_
      refine wp_getR dX8_wagon_16 faX8_24 rfl rfl ?_
      refine wp_iload_n dX8_wagon_19 1 rfl ?_
      refine wp_cV1w (N := mX1_weightOf) dX8_wagon_20 tmX8_127 okX1_weightOf rfl rfl rfl rfl rfl rfl rfl rfl (s_X1_weightOf X _ _) ?_
      refine wp_goto 28 dX8_wagon_23 (by decide) ?_
      refine wp_ireturn dX8_wagon_28 rfl ?_
      exact ⟨by unfold f_X8_wagon; rw [if_neg c1_1, if_neg c12_2], rfl⟩
def f_X8_hill (σ : Mem) (a : Int32) (b : Int32) : Int32 := if a < 0 then (-2) else if (f_X6_size σ) ≤ a then (-2) else if (f_X8_isZeroOrOne σ b) = 0 then (-2) else if b = 0 then (f_X6_steepAt σ a) else if (f_X6_bendsAt σ a) = 0 then 0 else 1
theorem s_X8_hill (X : Amb) (σ : Mem) (a : Int32) (b : Int32) : SpW X mX8_hill [.ref (adr X 0), .int a, .int b] σ (.int (f_X8_hill σ a b)) σ := by
  refine sp_of (by decide +kernel) rfl ?_
  show WP X mX8_hill 0 [(0, .ref (adr X 0)), (1, .int a), (2, .int b)] [] σ _
  refine wp_iload_n dX8_hill_0 1 rfl ?_
  refine wp_if_lt 22 dX8_hill_1 (by decide) (fun c1_1 => ?_) (fun c1_1 => ?_)
  · refine wp_bipush dX8_hill_22 bp_m2 ?_
    refine wp_ireturn dX8_hill_24 rfl ?_
    exact ⟨by unfold f_X8_hill; rw [if_pos c1_1], rfl⟩
  · refine wp_iload_n dX8_hill_4 1 rfl ?_
    refine wp_aload_n dX8_hill_5 0 rfl ?_
    refine wp_getR dX8_hill_6 faX8_31 rfl rfl ?_
    refine wp_cV0w (N := mX6_size) dX8_hill_9 tmX8_131 okX6_size rfl rfl rfl rfl rfl rfl rfl rfl (s_X6_size X _) ?_
    refine wp_icmp_ge 22 dX8_hill_12 (by decide) (fun c12_2 => ?_) (fun c12_2 => ?_)
    · refine wp_bipush dX8_hill_22 bp_m2 ?_
      refine wp_ireturn dX8_hill_24 rfl ?_
      exact ⟨by unfold f_X8_hill; rw [if_neg c1_1, if_pos c12_2], rfl⟩
    · refine wp_iload_n dX8_hill_15 2 rfl ?_
      refine wp_cS1w (N := mX8_isZeroOrOne) dX8_hill_16 tmX8_132 okX8_isZeroOrOne rfl rfl rfl rfl (s_X8_isZeroOrOne X _ _) ?_
      refine wp_if_ne 25 dX8_hill_19 (by decide) (fun c19_3 => ?_) (fun c19_3 => ?_)
      · refine wp_iload_n dX8_hill_25 2 rfl ?_
        refine wp_if_ne 38 dX8_hill_26 (by decide) (fun c26_4 => ?_) (fun c26_4 => ?_)
        · refine wp_aload_n dX8_hill_38 0 rfl ?_
          refine wp_getR dX8_hill_39 faX8_31 rfl rfl ?_
          refine wp_iload_n dX8_hill_42 1 rfl ?_
          refine wp_cV1w (N := mX6_bendsAt) dX8_hill_43 tmX8_139 okX6_bendsAt rfl rfl rfl rfl rfl rfl rfl rfl (s_X6_bendsAt X _ _) ?_
          refine wp_if_eq 53 dX8_hill_46 (by decide) (fun c46_5 => ?_) (fun c46_5 => ?_)
          · refine wp_iconst dX8_hill_53 ic_0 ?_
            refine wp_ireturn dX8_hill_54 rfl ?_
            exact ⟨by unfold f_X8_hill; rw [if_neg c1_1, if_neg c12_2, if_neg c19_3, if_neg c26_4, if_pos c46_5], rfl⟩
          · refine wp_iconst dX8_hill_49 ic_1 ?_
            refine wp_goto 54 dX8_hill_50 (by decide) ?_
            refine wp_ireturn dX8_hill_54 rfl ?_
            exact ⟨by unfold f_X8_hill; rw [if_neg c1_1, if_neg c12_2, if_neg c19_3, if_neg c26_4, if_neg c46_5], rfl⟩
        · refine wp_aload_n dX8_hill_29 0 rfl ?_
          refine wp_getR dX8_hill_30 faX8_31 rfl rfl ?_
          refine wp_iload_n dX8_hill_33 1 rfl ?_
          refine wp_cV1w (N := mX6_steepAt) dX8_hill_34 tmX8_136 okX6_steepAt rfl rfl rfl rfl rfl rfl rfl rfl (s_X6_steepAt X _ _) ?_
          refine wp_ireturn dX8_hill_37 rfl ?_
          exact ⟨by unfold f_X8_hill; rw [if_neg c1_1, if_neg c12_2, if_neg c19_3, if_pos c26_4], rfl⟩
      · refine wp_bipush dX8_hill_22 bp_m2 ?_
        refine wp_ireturn dX8_hill_24 rfl ?_
        exact ⟨by unfold f_X8_hill; rw [if_neg c1_1, if_neg c12_2, if_pos c19_3], rfl⟩
end
