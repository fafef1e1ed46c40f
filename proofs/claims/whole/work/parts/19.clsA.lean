noncomputable section
/-- what the class's methods need of its memory to run: few wagons, no sheet too long -/
def CI (σ : Mem) : Prop := (0 ≤ σ 5 2 ∧ σ 5 2 ≤ 12) ∧ ∀ k, Sht k → 0 ≤ σ k 2 ∧ σ k 2 ≤ 60
theorem CI.z {σ : Mem} (h : CI σ) : Sz σ := by
  have := h.1.2
  unfold Sz
  rw [Int32.le_iff_toInt_le, show (12 : Int32).toInt = 12 by decide] at this
  rw [Int32.lt_iff_toInt_lt, show (2147483647 : Int32).toInt = 2147483647 by decide]; omega
theorem CI.fr {σ τ : Mem} (h : CI σ) (h5 : τ 5 = σ 5) (hs : ∀ k, Sht k → τ k = σ k) : CI τ := by
  refine ⟨by rw [h5]; exact h.1, fun k hk => by rw [hs k hk]; exact h.2 k hk⟩
def f_X8_engine (σ : Mem) (a : Int32) (b : Int32) (c : Int32) : Int32 × Mem := if (f_X8_isEngine σ a) = 0 then ((-2), σ) else if a = 0 then if (f_X3_takes σ 11 0 1 3 b c) = 0 then ((-2), σ) else ((f_X3_turn σ 11 0 1 3 b c).1, (f_X8_refresh (f_X3_turn σ 11 0 1 3 b c).2)) else if (f_X3_takes σ 13 0 1 3 b c) = 0 then ((-2), σ) else ((f_X3_turn σ 13 0 1 3 b c).1, (f_X8_refresh (f_X3_turn σ 13 0 1 3 b c).2))
theorem s_X8_engine (X : Amb) (σ : Mem) (a : Int32) (b : Int32) (c : Int32) : SpW X mX8_engine [.ref (adr X 0), .int a, .int b, .int c] σ (.int (f_X8_engine σ a b c).1) (f_X8_engine σ a b c).2 := by
  refine sp_of (by decide +kernel) rfl ?_
  show WP X mX8_engine 0 [(0, .ref (adr X 0)), (1, .int a), (2, .int b), (3, .int c)] [] σ _
  refine wp_iload_n dX8_engine_0 1 rfl ?_
  refine wp_cS1w (N := mX8_isEngine) dX8_engine_1 tmX8_142 okX8_isEngine rfl rfl rfl rfl (s_X8_isEngine X _ _) ?_
  refine wp_if_eq 20 dX8_engine_4 (by decide) (fun c4_1 => ?_) (fun c4_1 => ?_)
  · refine wp_bipush dX8_engine_20 bp_m2 ?_
    refine wp_ireturn dX8_engine_22 rfl ?_
    exact ⟨by unfold f_X8_engine; rw [if_pos c4_1], by unfold f_X8_engine; rw [if_pos c4_1]⟩
  · refine wp_aload_n dX8_engine_7 0 rfl ?_
    refine wp_iload_n dX8_engine_8 1 rfl ?_
    by_cases k9_0 : a = 0
    · refine wp_cV1w (N := mX8_engineAt) dX8_engine_9 tmX8_145 okX8_engineAt rfl rfl rfl rfl rfl rfl rfl rfl (s_engineAt0 X _ _ k9_0) ?_
      refine wp_iload_n dX8_engine_12 2 rfl ?_
      refine wp_iload_n dX8_engine_13 3 rfl ?_
      refine wp_cV2w (N := mX3_takes) dX8_engine_14 tmX8_149 okX3_takes rfl rfl rfl rfl rfl rfl rfl rfl (s_X3_takes X _ 11 0 1 3 _ _ dl11) ?_
      refine wp_if_ne 23 dX8_engine_17 (by decide) (fun c17_2 => ?_) (fun c17_2 => ?_)
      · refine wp_aload_n dX8_engine_23 0 rfl ?_
        refine wp_iload_n dX8_engine_24 1 rfl ?_
        refine wp_cV1w (N := mX8_engineAt) dX8_engine_25 tmX8_145 okX8_engineAt rfl rfl rfl rfl rfl rfl rfl rfl (s_engineAt0 X _ _ k9_0) ?_
        refine wp_iload_n dX8_engine_28 2 rfl ?_
        refine wp_iload_n dX8_engine_29 3 rfl ?_
        refine wp_cV2w (N := mX3_turn) dX8_engine_30 tmX8_153 okX3_turn rfl rfl rfl rfl rfl rfl rfl rfl (s_X3_turn X _ 11 0 1 3 _ _ dl11) ?_
        refine wp_istore (L' := [(4, _), (0, _), (1, _), (2, _), (3, _)]) dX8_engine_33 rfl rfl ?_
        refine wp_aload_n dX8_engine_35 1 rfl ?_
        refine wp_cV0v (N := mX8_refresh) dX8_engine_36 tmX8_101 okX8_refresh rfl rfl rfl rfl rfl rfl rfl rfl (s_X8_refresh X _) ?_
        refine wp_iload dX8_engine_39 0 rfl ?_
        refine wp_ireturn dX8_engine_41 rfl ?_
        exact ⟨by unfold f_X8_engine; rw [if_neg c4_1, if_pos k9_0, if_neg c17_2], by unfold f_X8_engine; rw [if_neg c4_1, if_pos k9_0, if_neg c17_2]⟩
      · refine wp_bipush dX8_engine_20 bp_m2 ?_
        refine wp_ireturn dX8_engine_22 rfl ?_
        exact ⟨by unfold f_X8_engine; rw [if_neg c4_1, if_pos k9_0, if_pos c17_2], by unfold f_X8_engine; rw [if_neg c4_1, if_pos k9_0, if_pos c17_2]⟩
    · refine wp_cV1w (N := mX8_engineAt) dX8_engine_9 tmX8_145 okX8_engineAt rfl rfl rfl rfl rfl rfl rfl rfl (s_engineAt1 X _ _ k9_0) ?_
      refine wp_iload_n dX8_engine_12 2 rfl ?_
      refine wp_iload_n dX8_engine_13 3 rfl ?_
      refine wp_cV2w (N := mX3_takes) dX8_engine_14 tmX8_149 okX3_takes rfl rfl rfl rfl rfl rfl rfl rfl (s_X3_takes X _ 13 0 1 3 _ _ dl13) ?_
      refine wp_if_ne 23 dX8_engine_17 (by decide) (fun c17_3 => ?_) (fun c17_3 => ?_)
      · refine wp_aload_n dX8_engine_23 0 rfl ?_
        refine wp_iload_n dX8_engine_24 1 rfl ?_
        refine wp_cV1w (N := mX8_engineAt) dX8_engine_25 tmX8_145 okX8_engineAt rfl rfl rfl rfl rfl rfl rfl rfl (s_engineAt1 X _ _ k9_0) ?_
        refine wp_iload_n dX8_engine_28 2 rfl ?_
        refine wp_iload_n dX8_engine_29 3 rfl ?_
        refine wp_cV2w (N := mX3_turn) dX8_engine_30 tmX8_153 okX3_turn rfl rfl rfl rfl rfl rfl rfl rfl (s_X3_turn X _ 13 0 1 3 _ _ dl13) ?_
        refine wp_istore (L' := [(4, _), (0, _), (1, _), (2, _), (3, _)]) dX8_engine_33 rfl rfl ?_
        refine wp_aload_n dX8_engine_35 1 rfl ?_
        refine wp_cV0v (N := mX8_refresh) dX8_engine_36 tmX8_101 okX8_refresh rfl rfl rfl rfl rfl rfl rfl rfl (s_X8_refresh X _) ?_
        refine wp_iload dX8_engine_39 0 rfl ?_
        refine wp_ireturn dX8_engine_41 rfl ?_
        exact ⟨by unfold f_X8_engine; rw [if_neg c4_1, if_neg k9_0, if_neg c17_3], by unfold f_X8_engine; rw [if_neg c4_1, if_neg k9_0, if_neg c17_3]⟩
      · refine wp_bipush dX8_engine_20 bp_m2 ?_
        refine wp_ireturn dX8_engine_22 rfl ?_
        exact ⟨by unfold f_X8_engine; rw [if_neg c4_1, if_neg k9_0, if_pos c17_3], by unfold f_X8_engine; rw [if_neg c4_1, if_neg k9_0, if_pos c17_3]⟩
def f_X8_set (σ : Mem) (a : Int32) (b : Int32) : Int32 × Mem := if (f_X3_takes σ 15 3 4 5 a b) = 0 then ((-2), σ) else ((f_X3_turn σ 15 3 4 5 a b).1, (f_X8_refresh (f_X3_turn σ 15 3 4 5 a b).2))
theorem s_X8_set (X : Amb) (σ : Mem) (a : Int32) (b : Int32) : SpW X mX8_set [.ref (adr X 0), .int a, .int b] σ (.int (f_X8_set σ a b).1) (f_X8_set σ a b).2 := by
  refine sp_of (by decide +kernel) rfl ?_
  show WP X mX8_set 0 [(0, .ref (adr X 0)), (1, .int a), (2, .int b)] [] σ _
  refine wp_aload_n dX8_set_0 0 rfl ?_
  refine wp_getR dX8_set_1 faX8_66 rfl rfl ?_
  refine wp_iload_n dX8_set_4 1 rfl ?_
  refine wp_iload_n dX8_set_5 2 rfl ?_
  refine wp_cV2w (N := mX3_takes) dX8_set_6 tmX8_149 okX3_takes rfl rfl rfl rfl rfl rfl rfl rfl (s_X3_takes X _ 15 3 4 5 _ _ dl15) ?_
  refine wp_if_ne 15 dX8_set_9 (by decide) (fun c9_1 => ?_) (fun c9_1 => ?_)
  · refine wp_aload_n dX8_set_15 0 rfl ?_
    refine wp_getR dX8_set_16 faX8_66 rfl rfl ?_
    refine wp_iload_n dX8_set_19 1 rfl ?_
    refine wp_iload_n dX8_set_20 2 rfl ?_
    refine wp_cV2w (N := mX3_turn) dX8_set_21 tmX8_153 okX3_turn rfl rfl rfl rfl rfl rfl rfl rfl (s_X3_turn X _ 15 3 4 5 _ _ dl15) ?_
    refine wp_istore_n (L' := [(3, _), (0, _), (1, _), (2, _)]) dX8_set_24 rfl rfl ?_
    refine wp_aload_n dX8_set_25 1 rfl ?_
    refine wp_cV0v (N := mX8_refresh) dX8_set_26 tmX8_101 okX8_refresh rfl rfl rfl rfl rfl rfl rfl rfl (s_X8_refresh X _) ?_
    refine wp_iload_n dX8_set_29 0 rfl ?_
    refine wp_ireturn dX8_set_30 rfl ?_
    exact ⟨by unfold f_X8_set; rw [if_neg c9_1], by unfold f_X8_set; rw [if_neg c9_1]⟩
  · refine wp_bipush dX8_set_12 bp_m2 ?_
    refine wp_ireturn dX8_set_14 rfl ?_
    exact ⟨by unfold f_X8_set; rw [if_pos c9_1], by unfold f_X8_set; rw [if_pos c9_1]⟩
def f_X8_gives (σ : Mem) (a : Int32) (b : Int32) : Int32 := if (f_X8_isMinute σ a) = 0 then (-2) else if (f_X8_isEngine σ b) = 0 then (-2) else (f_X4_given σ b a)
theorem s_X8_gives (X : Amb) (σ : Mem) (a : Int32) (b : Int32) : SpW X mX8_gives [.ref (adr X 0), .int a, .int b] σ (.int (f_X8_gives σ a b)) σ := by
  refine sp_of (by decide +kernel) rfl ?_
  show WP X mX8_gives 0 [(0, .ref (adr X 0)), (1, .int a), (2, .int b)] [] σ _
  refine wp_iload_n dX8_gives_0 1 rfl ?_
  refine wp_cS1w (N := mX8_isMinute) dX8_gives_1 tmX8_157 okX8_isMinute rfl rfl rfl rfl (s_X8_isMinute X _ _) ?_
  refine wp_if_eq 26 dX8_gives_4 (by decide) (fun c4_1 => ?_) (fun c4_1 => ?_)
  · refine wp_bipush dX8_gives_26 bp_m2 ?_
    refine wp_ireturn dX8_gives_28 rfl ?_
    exact ⟨by unfold f_X8_gives; rw [if_pos c4_1], rfl⟩
  · refine wp_iload_n dX8_gives_7 2 rfl ?_
    refine wp_cS1w (N := mX8_isEngine) dX8_gives_8 tmX8_142 okX8_isEngine rfl rfl rfl rfl (s_X8_isEngine X _ _) ?_
    refine wp_if_eq 26 dX8_gives_11 (by decide) (fun c11_2 => ?_) (fun c11_2 => ?_)
    · refine wp_bipush dX8_gives_26 bp_m2 ?_
      refine wp_ireturn dX8_gives_28 rfl ?_
      exact ⟨by unfold f_X8_gives; rw [if_neg c4_1, if_pos c11_2], rfl⟩
    · refine wp_aload_n dX8_gives_14 0 rfl ?_
      refine wp_getR dX8_gives_15 faX8_72 rfl rfl ?_
      refine wp_iload_n dX8_gives_18 2 rfl ?_
      refine wp_iload_n dX8_gives_19 1 rfl ?_
      refine wp_cV2w (N := mX4_given) dX8_gives_20 tmX8_160 okX4_given rfl rfl rfl rfl rfl rfl rfl rfl (s_X4_given X _ _ _) ?_
      refine wp_goto 28 dX8_gives_23 (by decide) ?_
      refine wp_ireturn dX8_gives_28 rfl ?_
      exact ⟨by unfold f_X8_gives; rw [if_neg c4_1, if_neg c11_2], rfl⟩
def f_X8_minute (σ : Mem) (a : Int32) (b : Int32) : Int32 := if (f_X8_isMinute σ a) = 0 then (-2) else if b < 0 then (-2) else if b ≤ 2 then if b = 0 then (f_X4_neededIn σ a) else if b = 1 then (f_X4_speedIn σ a) else if (f_X6_size σ) ≤ (f_X4_placeIn σ a) then (-1) else (f_X4_placeIn σ a) else (-2)
theorem s_X8_minute (X : Amb) (σ : Mem) (a : Int32) (b : Int32) : SpW X mX8_minute [.ref (adr X 0), .int a, .int b] σ (.int (f_X8_minute σ a b)) σ := by
  refine sp_of (by decide +kernel) rfl ?_
  show WP X mX8_minute 0 [(0, .ref (adr X 0)), (1, .int a), (2, .int b)] [] σ _
  refine wp_iload_n dX8_minute_0 1 rfl ?_
  refine wp_cS1w (N := mX8_isMinute) dX8_minute_1 tmX8_157 okX8_isMinute rfl rfl rfl rfl (s_X8_isMinute X _ _) ?_
  refine wp_if_eq 16 dX8_minute_4 (by decide) (fun c4_1 => ?_) (fun c4_1 => ?_)
  · refine wp_bipush dX8_minute_16 bp_m2 ?_
    refine wp_ireturn dX8_minute_18 rfl ?_
    exact ⟨by unfold f_X8_minute; rw [if_pos c4_1], rfl⟩
  · refine wp_iload_n dX8_minute_7 2 rfl ?_
    refine wp_if_lt 16 dX8_minute_8 (by decide) (fun c8_2 => ?_) (fun c8_2 => ?_)
    · refine wp_bipush dX8_minute_16 bp_m2 ?_
      refine wp_ireturn dX8_minute_18 rfl ?_
      exact ⟨by unfold f_X8_minute; rw [if_neg c4_1, if_pos c8_2], rfl⟩
    · refine wp_iload_n dX8_minute_11 2 rfl ?_
      refine wp_iconst dX8_minute_12 ic_2 ?_
      refine wp_icmp_le 19 dX8_minute_13 (by decide) (fun c13_3 => ?_) (fun c13_3 => ?_)
      · refine wp_iload_n dX8_minute_19 2 rfl ?_
        refine wp_if_ne 32 dX8_minute_20 (by decide) (fun c20_4 => ?_) (fun c20_4 => ?_)
        · refine wp_iload_n dX8_minute_32 2 rfl ?_
          refine wp_iconst dX8_minute_33 ic_1 ?_
          refine wp_icmp_ne 46 dX8_minute_34 (by decide) (fun c34_5 => ?_) (fun c34_5 => ?_)
          · refine wp_aload_n dX8_minute_46 0 rfl ?_
            refine wp_getR dX8_minute_47 faX8_72 rfl rfl ?_
            refine wp_iload_n dX8_minute_50 1 rfl ?_
            refine wp_cV1w (N := mX4_placeIn) dX8_minute_51 tmX8_169 okX4_placeIn rfl rfl rfl rfl rfl rfl rfl rfl (s_X4_placeIn X _ _) ?_
            refine wp_istore_n (L' := [(3, _), (0, _), (1, _), (2, _)]) dX8_minute_54 rfl rfl ?_
            refine wp_iload_n dX8_minute_55 0 rfl ?_
            refine wp_aload_n dX8_minute_56 1 rfl ?_
            refine wp_getR dX8_minute_57 faX8_31 rfl rfl ?_
            refine wp_cV0w (N := mX6_size) dX8_minute_60 tmX8_131 okX6_size rfl rfl rfl rfl rfl rfl rfl rfl (s_X6_size X _) ?_
            refine wp_icmp_ge 70 dX8_minute_63 (by decide) (fun c63_6 => ?_) (fun c63_6 => ?_)
            · refine wp_iconst dX8_minute_70 ic_m1 ?_
              refine wp_ireturn dX8_minute_71 rfl ?_
              exact ⟨by unfold f_X8_minute; rw [if_neg c4_1, if_neg c8_2, if_pos c13_3, if_neg c20_4, if_neg c34_5, if_pos c63_6], rfl⟩
            · refine wp_iload_n dX8_minute_66 0 rfl ?_
              refine wp_goto 71 dX8_minute_67 (by decide) ?_
              refine wp_ireturn dX8_minute_71 rfl ?_
              exact ⟨by unfold f_X8_minute; rw [if_neg c4_1, if_neg c8_2, if_pos c13_3, if_neg c20_4, if_neg c34_5, if_neg c63_6], rfl⟩
          · refine wp_aload_n dX8_minute_37 0 rfl ?_
            refine wp_getR dX8_minute_38 faX8_72 rfl rfl ?_
            refine wp_iload_n dX8_minute_41 1 rfl ?_
            refine wp_cV1w (N := mX4_speedIn) dX8_minute_42 tmX8_166 okX4_speedIn rfl rfl rfl rfl rfl rfl rfl rfl (s_X4_speedIn X _ _) ?_
            refine wp_ireturn dX8_minute_45 rfl ?_
            exact ⟨by unfold f_X8_minute; rw [if_neg c4_1, if_neg c8_2, if_pos c13_3, if_neg c20_4, if_pos c34_5], rfl⟩
        · refine wp_aload_n dX8_minute_23 0 rfl ?_
          refine wp_getR dX8_minute_24 faX8_72 rfl rfl ?_
          refine wp_iload_n dX8_minute_27 1 rfl ?_
          refine wp_cV1w (N := mX4_neededIn) dX8_minute_28 tmX8_163 okX4_neededIn rfl rfl rfl rfl rfl rfl rfl rfl (s_X4_neededIn X _ _) ?_
          refine wp_ireturn dX8_minute_31 rfl ?_
          exact ⟨by unfold f_X8_minute; rw [if_neg c4_1, if_neg c8_2, if_pos c13_3, if_pos c20_4], rfl⟩
      · refine wp_bipush dX8_minute_16 bp_m2 ?_
        refine wp_ireturn dX8_minute_18 rfl ?_
        exact ⟨by unfold f_X8_minute; rw [if_neg c4_1, if_neg c8_2, if_neg c13_3], rfl⟩
def l_X8_commonDivisor_9 : Nat → Int64 → Int64 → Int32 → Mem → Int64
  | 0, _, _, _, σ => 0
  | n + 1, c, d, e, σ => if 200 ≤ e then c else if (lg_cmp d 0) = 0 then c else (l_X8_commonDivisor_9 n d (c - c / d * d) (e + 1) σ)
theorem lt_X8_commonDivisor_9 (X : Amb) : ∀ (n : Nat) (c : Int64) (d : Int64) (e : Int32) (σ : Mem), ((200 : Int32).toInt - e.toInt).toNat < n → WP X mX8_commonDivisor 9 [(4, .long c), (6, .long d), (8, .int e)] [] σ (fun v σ' => v = some (.long (l_X8_commonDivisor_9 n c d e σ)) ∧ σ' = σ) := by
  intro n
  induction n with
  | zero => intro c d e σ hm; exact absurd hm (Nat.not_lt_zero _)
  | succ n ih =>
    intro c d e σ hm 
    refine wp_iload dX8_commonDivisor_9 2 rfl ?_
    refine wp_sipush dX8_commonDivisor_11 sp_200 ?_
    refine wp_icmp_ge 45 dX8_commonDivisor_14 (by decide) (fun c14_1 => ?_) (fun c14_1 => ?_)
    · refine wp_lload dX8_commonDivisor_45 0 rfl ?_
      refine wp_lreturn dX8_commonDivisor_47 rfl ?_
      exact ⟨by rw [l_X8_commonDivisor_9, if_pos c14_1], rfl⟩
    · refine wp_lload dX8_commonDivisor_17 1 rfl ?_
      refine wp_lconst dX8_commonDivisor_19 lc_0 ?_
      refine wp_lcmp dX8_commonDivisor_20 ?_
      refine wp_if_eq 45 dX8_commonDivisor_21 (by decide) (fun c21_2 => ?_) (fun c21_2 => ?_)
      · refine wp_lload dX8_commonDivisor_45 0 rfl ?_
        refine wp_lreturn dX8_commonDivisor_47 rfl ?_
        exact ⟨by rw [l_X8_commonDivisor_9, if_neg c14_1, if_pos c21_2], rfl⟩
      · refine wp_lload dX8_commonDivisor_24 0 rfl ?_
        refine wp_lload dX8_commonDivisor_26 1 rfl ?_
        refine wp_lrem dX8_commonDivisor_28 (lgne c21_2) ?_
        refine wp_lstore (L' := [(9, _), (4, _), (6, _), (8, _)]) dX8_commonDivisor_29 rfl rfl ?_
        refine wp_lload dX8_commonDivisor_31 2 rfl ?_
        refine wp_lstore (L' := [(4, _), (9, _), (6, _), (8, _)]) dX8_commonDivisor_33 rfl rfl ?_
        refine wp_lload dX8_commonDivisor_35 1 rfl ?_
        refine wp_lstore (L' := [(6, _), (4, _), (9, _), (8, _)]) dX8_commonDivisor_37 rfl rfl ?_
        refine wp_iinc (L' := [(8, _), (6, _), (4, _), (9, _)]) dX8_commonDivisor_39 rfl 3 rfl (ii_1 _) rfl ?_
        refine wp_goto 9 dX8_commonDivisor_42 (by decide) ?_
        refine wp_drop [2, 1, 0] rfl ?_
        rw [show l_X8_commonDivisor_9 (n + 1) c d e σ = (l_X8_commonDivisor_9 n d (c - c / d * d) (e + 1) σ) from by rw [l_X8_commonDivisor_9, if_neg c14_1, if_neg c21_2]]
        exact ih _ _ _ _ (cnt_up c14_1 hm) 
def f_X8_commonDivisor (σ : Mem) (a : Int64) (b : Int64) : Int64 := (l_X8_commonDivisor_9 (fu 201) a b 0 σ)
theorem s_X8_commonDivisor (X : Amb) (σ : Mem) (a : Int64) (b : Int64) : SpW X mX8_commonDivisor [.long a, .long b] σ (.long (f_X8_commonDivisor σ a b)) σ := by
  refine sp_of (by decide +kernel) rfl ?_
  show WP X mX8_commonDivisor 0 [(0, .long a), (2, .long b)] [] σ _
  refine wp_lload_n dX8_commonDivisor_0 0 rfl ?_
  refine wp_lstore (L' := [(4, _), (0, _), (2, _)]) dX8_commonDivisor_1 rfl rfl ?_
  refine wp_lload_n dX8_commonDivisor_3 2 rfl ?_
  refine wp_lstore (L' := [(6, _), (4, _), (0, _), (2, _)]) dX8_commonDivisor_4 rfl rfl ?_
  refine wp_iconst dX8_commonDivisor_6 ic_0 ?_
  refine wp_istore (L' := [(8, _), (6, _), (4, _), (0, _), (2, _)]) dX8_commonDivisor_7 rfl rfl ?_
  refine wp_drop [2, 1, 0] rfl ?_
  rw [show f_X8_commonDivisor σ a b = (l_X8_commonDivisor_9 (fu 201) a b 0 σ) from rfl]
  exact lt_X8_commonDivisor_9 X  (fu 201) a b 0 σ (fu_lt (by decide)) 
def f_X8_inLowestTerms (σ : Mem) (a : Int64) (b : Int64) (c : Int32) : Int64 := if (lg_cmp (f_X8_commonDivisor σ (if 0 < a then a else -a) b) 0) = 0 then if c = 0 then 0 else 1 else if c = 0 then (a / (f_X8_commonDivisor σ (if 0 < a then a else -a) b)) else (b / (f_X8_commonDivisor σ (if 0 < a then a else -a) b))
theorem s_X8_inLowestTerms (X : Amb) (σ : Mem) (a : Int64) (b : Int64) (c : Int32) : SpW X mX8_inLowestTerms [.long a, .long b, .int c] σ (.long (f_X8_inLowestTerms σ a b c)) σ := by
  refine sp_of (by decide +kernel) rfl ?_
  show WP X mX8_inLowestTerms 0 [(0, .long a), (2, .long b), (4, .int c)] [] σ _
  refine wp_lload_n dX8_inLowestTerms_0 0 rfl ?_
  refine wp_mabsl dX8_inLowestTerms_1 tnX8_430 rfl rfl ?_
  refine wp_lload_n dX8_inLowestTerms_4 1 rfl ?_
  refine wp_cS2w (N := mX8_commonDivisor) dX8_inLowestTerms_5 tmX8_433 okX8_commonDivisor rfl rfl rfl rfl (s_X8_commonDivisor X _ _ _) ?_
  refine wp_lstore (L' := [(5, _), (0, _), (2, _), (4, _)]) dX8_inLowestTerms_8 rfl rfl ?_
  refine wp_lload dX8_inLowestTerms_10 0 rfl ?_
  refine wp_lconst dX8_inLowestTerms_12 lc_0 ?_
  refine wp_lcmp dX8_inLowestTerms_13 ?_
  refine wp_if_ne 28 dX8_inLowestTerms_14 (by decide) (fun c14_1 => ?_) (fun c14_1 => ?_)
  · refine wp_iload dX8_inLowestTerms_28 3 rfl ?_
    refine wp_if_ne 37 dX8_inLowestTerms_30 (by decide) (fun c30_2 => ?_) (fun c30_2 => ?_)
    · refine wp_lload_n dX8_inLowestTerms_37 2 rfl ?_
      refine wp_lload dX8_inLowestTerms_38 0 rfl ?_
      refine wp_ldiv dX8_inLowestTerms_40 (lgne c14_1) ?_
      refine wp_lreturn dX8_inLowestTerms_41 rfl ?_
      exact ⟨by unfold f_X8_inLowestTerms; rw [if_neg c14_1, if_neg c30_2], rfl⟩
    · refine wp_lload_n dX8_inLowestTerms_33 1 rfl ?_
      refine wp_goto 38 dX8_inLowestTerms_34 (by decide) ?_
      refine wp_lload dX8_inLowestTerms_38 0 rfl ?_
      refine wp_ldiv dX8_inLowestTerms_40 (lgne c14_1) ?_
      refine wp_lreturn dX8_inLowestTerms_41 rfl ?_
      exact ⟨by unfold f_X8_inLowestTerms; rw [if_neg c14_1, if_pos c30_2], rfl⟩
  · refine wp_iload dX8_inLowestTerms_17 3 rfl ?_
    refine wp_if_ne 26 dX8_inLowestTerms_19 (by decide) (fun c19_3 => ?_) (fun c19_3 => ?_)
    · refine wp_lconst dX8_inLowestTerms_26 lc_1 ?_
      refine wp_lreturn dX8_inLowestTerms_27 rfl ?_
      exact ⟨by unfold f_X8_inLowestTerms; rw [if_pos c14_1, if_neg c19_3], rfl⟩
    · refine wp_lconst dX8_inLowestTerms_22 lc_0 ?_
      refine wp_goto 27 dX8_inLowestTerms_23 (by decide) ?_
      refine wp_lreturn dX8_inLowestTerms_27 rfl ?_
      exact ⟨by unfold f_X8_inLowestTerms; rw [if_pos c14_1, if_pos c19_3], rfl⟩
def f_X8_strain (σ : Mem) (a : Int32) (b : Int32) (c : Int32) : Int64 := if (f_X8_isMinute σ a) = 0 then (f_X8_refusedAsLong σ (-2)) else if b < 0 then (f_X8_refusedAsLong σ (-2)) else if (f_X1_size σ) < b then (f_X8_refusedAsLong σ (-2)) else if (f_X8_isZeroOrOne σ c) = 0 then (f_X8_refusedAsLong σ (-2)) else if (f_X1_size σ) = 0 then (f_X8_refusedAsLong σ (-3)) else (f_X8_inLowestTerms σ ((f_X1_strainTimesWhole σ b (f_X4_given σ 0 a) (f_X4_given σ 1 a)).toInt64) ((f_X1_whole σ).toInt64) c)
theorem s_X8_strain (X : Amb) (σ : Mem) (a : Int32) (b : Int32) (c : Int32) : SpW X mX8_strain [.ref (adr X 0), .int a, .int b, .int c] σ (.long (f_X8_strain σ a b c)) σ := by
  refine sp_of (by decide +kernel) rfl ?_
  show WP X mX8_strain 0 [(0, .ref (adr X 0)), (1, .int a), (2, .int b), (3, .int c)] [] σ _
  refine wp_iload_n dX8_strain_0 1 rfl ?_
  refine wp_cS1w (N := mX8_isMinute) dX8_strain_1 tmX8_157 okX8_isMinute rfl rfl rfl rfl (s_X8_isMinute X _ _) ?_
  refine wp_if_eq 29 dX8_strain_4 (by decide) (fun c4_1 => ?_) (fun c4_1 => ?_)
  · refine wp_bipush dX8_strain_29 bp_m2 ?_
    refine wp_cS1w (N := mX8_refusedAsLong) dX8_strain_31 tmX8_172 okX8_refusedAsLong rfl rfl rfl rfl (s_X8_refusedAsLong X _ _) ?_
    refine wp_lreturn dX8_strain_34 rfl ?_
    exact ⟨by unfold f_X8_strain; rw [if_pos c4_1], rfl⟩
  · refine wp_iload_n dX8_strain_7 2 rfl ?_
    refine wp_if_lt 29 dX8_strain_8 (by decide) (fun c8_2 => ?_) (fun c8_2 => ?_)
    · refine wp_bipush dX8_strain_29 bp_m2 ?_
      refine wp_cS1w (N := mX8_refusedAsLong) dX8_strain_31 tmX8_172 okX8_refusedAsLong rfl rfl rfl rfl (s_X8_refusedAsLong X _ _) ?_
      refine wp_lreturn dX8_strain_34 rfl ?_
      exact ⟨by unfold f_X8_strain; rw [if_neg c4_1, if_pos c8_2], rfl⟩
    · refine wp_iload_n dX8_strain_11 2 rfl ?_
      refine wp_aload_n dX8_strain_12 0 rfl ?_
      refine wp_getR dX8_strain_13 faX8_24 rfl rfl ?_
      refine wp_cV0w (N := mX1_size) dX8_strain_16 tmX8_126 okX1_size rfl rfl rfl rfl rfl rfl rfl rfl (s_X1_size X _) ?_
      refine wp_icmp_gt 29 dX8_strain_19 (by decide) (fun c19_3 => ?_) (fun c19_3 => ?_)
      · refine wp_bipush dX8_strain_29 bp_m2 ?_
        refine wp_cS1w (N := mX8_refusedAsLong) dX8_strain_31 tmX8_172 okX8_refusedAsLong rfl rfl rfl rfl (s_X8_refusedAsLong X _ _) ?_
        refine wp_lreturn dX8_strain_34 rfl ?_
        exact ⟨by unfold f_X8_strain; rw [if_neg c4_1, if_neg c8_2, if_pos c19_3], rfl⟩
      · refine wp_iload_n dX8_strain_22 3 rfl ?_
        refine wp_cS1w (N := mX8_isZeroOrOne) dX8_strain_23 tmX8_132 okX8_isZeroOrOne rfl rfl rfl rfl (s_X8_isZeroOrOne X _ _) ?_
        refine wp_if_ne 35 dX8_strain_26 (by decide) (fun c26_4 => ?_) (fun c26_4 => ?_)
        · refine wp_aload_n dX8_strain_35 0 rfl ?_
          refine wp_getR dX8_strain_36 faX8_24 rfl rfl ?_
          refine wp_cV0w (N := mX1_size) dX8_strain_39 tmX8_126 okX1_size rfl rfl rfl rfl rfl rfl rfl rfl (s_X1_size X _) ?_
          refine wp_if_ne 51 dX8_strain_42 (by decide) (fun c42_5 => ?_) (fun c42_5 => ?_)
          · refine wp_aload_n dX8_strain_51 0 rfl ?_
            refine wp_getR dX8_strain_52 faX8_24 rfl rfl ?_
            refine wp_iload_n dX8_strain_55 2 rfl ?_
            refine wp_aload_n dX8_strain_56 0 rfl ?_
            refine wp_getR dX8_strain_57 faX8_72 rfl rfl ?_
            refine wp_iconst dX8_strain_60 ic_0 ?_
            refine wp_iload_n dX8_strain_61 1 rfl ?_
            refine wp_cV2w (N := mX4_given) dX8_strain_62 tmX8_160 okX4_given rfl rfl rfl rfl rfl rfl rfl rfl (s_X4_given X _ _ _) ?_
            refine wp_aload_n dX8_strain_65 0 rfl ?_
            refine wp_getR dX8_strain_66 faX8_72 rfl rfl ?_
            refine wp_iconst dX8_strain_69 ic_1 ?_
            refine wp_iload_n dX8_strain_70 1 rfl ?_
            refine wp_cV2w (N := mX4_given) dX8_strain_71 tmX8_160 okX4_given rfl rfl rfl rfl rfl rfl rfl rfl (s_X4_given X _ _ _) ?_
            refine wp_cV3w (N := mX1_strainTimesWhole) dX8_strain_74 tmX8_176 okX1_strainTimesWhole rfl rfl rfl rfl rfl rfl rfl rfl (s_X1_strainTimesWhole X _ _ _ _) ?_
            refine wp_istore (L' := [(4, _), (0, _), (1, _), (2, _), (3, _)]) dX8_strain_77 rfl rfl ?_
            refine wp_iload dX8_strain_79 0 rfl ?_
            refine wp_i2l dX8_strain_81 ?_
            refine wp_aload_n dX8_strain_82 1 rfl ?_
            refine wp_getR dX8_strain_83 faX8_24 rfl rfl ?_
            refine wp_cV0w (N := mX1_whole) dX8_strain_86 tmX8_180 okX1_whole rfl rfl rfl rfl rfl rfl rfl rfl (s_X1_whole X _) ?_
            refine wp_i2l dX8_strain_89 ?_
            refine wp_iload_n dX8_strain_90 4 rfl ?_
            refine wp_cS3w (N := mX8_inLowestTerms) dX8_strain_91 tmX8_183 okX8_inLowestTerms rfl rfl rfl rfl (s_X8_inLowestTerms X _ _ _ _) ?_
            refine wp_lreturn dX8_strain_94 rfl ?_
            exact ⟨by unfold f_X8_strain; rw [if_neg c4_1, if_neg c8_2, if_neg c19_3, if_neg c26_4, if_neg c42_5], rfl⟩
          · refine wp_bipush dX8_strain_45 bp_m3 ?_
            refine wp_cS1w (N := mX8_refusedAsLong) dX8_strain_47 tmX8_172 okX8_refusedAsLong rfl rfl rfl rfl (s_X8_refusedAsLong X _ _) ?_
            refine wp_lreturn dX8_strain_50 rfl ?_
            exact ⟨by unfold f_X8_strain; rw [if_neg c4_1, if_neg c8_2, if_neg c19_3, if_neg c26_4, if_pos c42_5], rfl⟩
        · refine wp_bipush dX8_strain_29 bp_m2 ?_
          refine wp_cS1w (N := mX8_refusedAsLong) dX8_strain_31 tmX8_172 okX8_refusedAsLong rfl rfl rfl rfl (s_X8_refusedAsLong X _ _) ?_
          refine wp_lreturn dX8_strain_34 rfl ?_
          exact ⟨by unfold f_X8_strain; rw [if_neg c4_1, if_neg c8_2, if_neg c19_3, if_pos c26_4], rfl⟩
def f_X8_slack (σ : Mem) (a : Int32) : Int32 := if (f_X8_isMinute σ a) = 0 then (-2) else if (f_X1_size σ) = 0 then (-3) else (f_X1_firstSlack σ (f_X4_given σ 0 a) (f_X4_given σ 1 a))
theorem s_X8_slack (X : Amb) (σ : Mem) (a : Int32) (hI : CI σ) : SpW X mX8_slack [.ref (adr X 0), .int a] σ (.int (f_X8_slack σ a)) σ := by
  refine sp_of (by decide +kernel) rfl ?_
  show WP X mX8_slack 0 [(0, .ref (adr X 0)), (1, .int a)] [] σ _
  refine wp_iload_n dX8_slack_0 1 rfl ?_
  refine wp_cS1w (N := mX8_isMinute) dX8_slack_1 tmX8_157 okX8_isMinute rfl rfl rfl rfl (s_X8_isMinute X _ _) ?_
  refine wp_if_ne 10 dX8_slack_4 (by decide) (fun c4_1 => ?_) (fun c4_1 => ?_)
  · refine wp_aload_n dX8_slack_10 0 rfl ?_
    refine wp_getR dX8_slack_11 faX8_24 rfl rfl ?_
    refine wp_cV0w (N := mX1_size) dX8_slack_14 tmX8_126 okX1_size rfl rfl rfl rfl rfl rfl rfl rfl (s_X1_size X _) ?_
    refine wp_if_ne 23 dX8_slack_17 (by decide) (fun c17_2 => ?_) (fun c17_2 => ?_)
    · refine wp_aload_n dX8_slack_23 0 rfl ?_
      refine wp_getR dX8_slack_24 faX8_24 rfl rfl ?_
      refine wp_aload_n dX8_slack_27 0 rfl ?_
      refine wp_getR dX8_slack_28 faX8_72 rfl rfl ?_
      refine wp_iconst dX8_slack_31 ic_0 ?_
      refine wp_iload_n dX8_slack_32 1 rfl ?_
      refine wp_cV2w (N := mX4_given) dX8_slack_33 tmX8_160 okX4_given rfl rfl rfl rfl rfl rfl rfl rfl (s_X4_given X _ _ _) ?_
      refine wp_aload_n dX8_slack_36 0 rfl ?_
      refine wp_getR dX8_slack_37 faX8_72 rfl rfl ?_
      refine wp_iconst dX8_slack_40 ic_1 ?_
      refine wp_iload_n dX8_slack_41 1 rfl ?_
      refine wp_cV2w (N := mX4_given) dX8_slack_42 tmX8_160 okX4_given rfl rfl rfl rfl rfl rfl rfl rfl (s_X4_given X _ _ _) ?_
      refine wp_cV2w (N := mX1_firstSlack) dX8_slack_45 tmX8_187 okX1_firstSlack rfl rfl rfl rfl rfl rfl rfl rfl (s_X1_firstSlack X _ _ _ (hI).z) ?_
      refine wp_ireturn dX8_slack_48 rfl ?_
      exact ⟨by unfold f_X8_slack; rw [if_neg c4_1, if_neg c17_2], rfl⟩
    · refine wp_bipush dX8_slack_20 bp_m3 ?_
      refine wp_ireturn dX8_slack_22 rfl ?_
      exact ⟨by unfold f_X8_slack; rw [if_neg c4_1, if_pos c17_2], rfl⟩
  · refine wp_bipush dX8_slack_7 bp_m2 ?_
    refine wp_ireturn dX8_slack_9 rfl ?_
    exact ⟨by unfold f_X8_slack; rw [if_pos c4_1], rfl⟩
def l_X8_torn_11 : Nat → Int32 → Int32 → Mem → Int32
  | 0, _, _, σ => 0
  | n + 1, a, b, σ => if 40 ≤ b then (-1) else if (f_X1_tears σ (f_X4_given σ 0 b) (f_X4_given σ 1 b) a) = 0 then (l_X8_torn_11 n a (b + 1) σ) else b
theorem lt_X8_torn_11 (X : Amb) : ∀ (n : Nat) (a : Int32) (b : Int32) (σ : Mem), ((40 : Int32).toInt - b.toInt).toNat < n → CI σ → WP X mX8_torn 11 [(0, .ref (adr X 0)), (1, .int a), (2, .int b)] [] σ (fun v σ' => v = some (.int (l_X8_torn_11 n a b σ)) ∧ σ' = σ) := by
  intro n
  induction n with
  | zero => intro a b σ hm; exact absurd hm (Nat.not_lt_zero _)
  | succ n ih =>
    intro a b σ hm hI
    refine wp_iload_n dX8_torn_11 2 rfl ?_
    refine wp_bipush dX8_torn_12 bp_40 ?_
    refine wp_icmp_ge 54 dX8_torn_14 (by decide) (fun c14_1 => ?_) (fun c14_1 => ?_)
    · refine wp_iconst dX8_torn_54 ic_m1 ?_
      refine wp_ireturn dX8_torn_55 rfl ?_
      exact ⟨by rw [l_X8_torn_11, if_pos c14_1], rfl⟩
    · refine wp_aload_n dX8_torn_17 0 rfl ?_
      refine wp_getR dX8_torn_18 faX8_24 rfl rfl ?_
      refine wp_aload_n dX8_torn_21 0 rfl ?_
      refine wp_getR dX8_torn_22 faX8_72 rfl rfl ?_
      refine wp_iconst dX8_torn_25 ic_0 ?_
      refine wp_iload_n dX8_torn_26 2 rfl ?_
      refine wp_cV2w (N := mX4_given) dX8_torn_27 tmX8_160 okX4_given rfl rfl rfl rfl rfl rfl rfl rfl (s_X4_given X _ _ _) ?_
      refine wp_aload_n dX8_torn_30 0 rfl ?_
      refine wp_getR dX8_torn_31 faX8_72 rfl rfl ?_
      refine wp_iconst dX8_torn_34 ic_1 ?_
      refine wp_iload_n dX8_torn_35 2 rfl ?_
      refine wp_cV2w (N := mX4_given) dX8_torn_36 tmX8_160 okX4_given rfl rfl rfl rfl rfl rfl rfl rfl (s_X4_given X _ _ _) ?_
      refine wp_iload_n dX8_torn_39 1 rfl ?_
      refine wp_cV3w (N := mX1_tears) dX8_torn_40 tmX8_193 okX1_tears rfl rfl rfl rfl rfl rfl rfl rfl (s_X1_tears X _ _ _ _ (hI).z) ?_
      refine wp_if_eq 48 dX8_torn_43 (by decide) (fun c43_2 => ?_) (fun c43_2 => ?_)
      · refine wp_iinc (L' := [(2, _), (0, _), (1, _)]) dX8_torn_48 rfl 2 rfl (ii_1 _) rfl ?_
        refine wp_goto 11 dX8_torn_51 (by decide) ?_
        refine wp_drop [1, 2, 0] rfl ?_
        rw [show l_X8_torn_11 (n + 1) a b σ = (l_X8_torn_11 n a (b + 1) σ) from by rw [l_X8_torn_11, if_neg c14_1, if_pos c43_2]]
        exact ih _ _ _ (cnt_up c14_1 hm) hI
      · refine wp_iload_n dX8_torn_46 2 rfl ?_
        refine wp_ireturn dX8_torn_47 rfl ?_
        exact ⟨by rw [l_X8_torn_11, if_neg c14_1, if_neg c43_2], rfl⟩
def f_X8_torn (σ : Mem) : Int32 := (l_X8_torn_11 (fu 41) (f_X3_at σ 15 3 4 5 0) 0 σ)
theorem s_X8_torn (X : Amb) (σ : Mem) (hI : CI σ) : SpW X mX8_torn [.ref (adr X 0)] σ (.int (f_X8_torn σ)) σ := by
  refine sp_of (by decide +kernel) rfl ?_
  show WP X mX8_torn 0 [(0, .ref (adr X 0))] [] σ _
  refine wp_aload_n dX8_torn_0 0 rfl ?_
  refine wp_getR dX8_torn_1 faX8_66 rfl rfl ?_
  refine wp_iconst dX8_torn_4 ic_0 ?_
  refine wp_cV1w (N := mX3_at) dX8_torn_5 tmX8_190 okX3_at rfl rfl rfl rfl rfl rfl rfl rfl (s_X3_at X _ 15 3 4 5 _ dl15) ?_
  refine wp_istore_n (L' := [(1, _), (0, _)]) dX8_torn_8 rfl rfl ?_
  refine wp_iconst dX8_torn_9 ic_0 ?_
  refine wp_istore_n (L' := [(2, _), (1, _), (0, _)]) dX8_torn_10 rfl rfl ?_
  refine wp_drop [2, 1, 0] rfl ?_
  rw [show f_X8_torn σ = (l_X8_torn_11 (fu 41) (f_X3_at σ 15 3 4 5 0) 0 σ) from rfl]
  exact lt_X8_torn_11 X  (fu 41) (f_X3_at σ 15 3 4 5 0) 0 σ (fu_lt (by decide)) hI
def f_X8_squeezedOffIn (σ : Mem) (a : Int32) : Int32 := if (f_X6_bendsAt σ (f_X4_placeIn σ a)) = 0 then (-1) else (f_X1_firstSqueezed σ (f_X4_given σ 0 a) (f_X4_given σ 1 a) (f_X3_at σ 15 3 4 5 1))
theorem s_X8_squeezedOffIn (X : Amb) (σ : Mem) (a : Int32) : SpW X mX8_squeezedOffIn [.ref (adr X 0), .int a] σ (.int (f_X8_squeezedOffIn σ a)) σ := by
  refine sp_of (by decide +kernel) rfl ?_
  show WP X mX8_squeezedOffIn 0 [(0, .ref (adr X 0)), (1, .int a)] [] σ _
  refine wp_aload_n dX8_squeezedOffIn_0 0 rfl ?_
  refine wp_getR dX8_squeezedOffIn_1 faX8_31 rfl rfl ?_
  refine wp_aload_n dX8_squeezedOffIn_4 0 rfl ?_
  refine wp_getR dX8_squeezedOffIn_5 faX8_72 rfl rfl ?_
  refine wp_iload_n dX8_squeezedOffIn_8 1 rfl ?_
  refine wp_cV1w (N := mX4_placeIn) dX8_squeezedOffIn_9 tmX8_169 okX4_placeIn rfl rfl rfl rfl rfl rfl rfl rfl (s_X4_placeIn X _ _) ?_
  refine wp_cV1w (N := mX6_bendsAt) dX8_squeezedOffIn_12 tmX8_139 okX6_bendsAt rfl rfl rfl rfl rfl rfl rfl rfl (s_X6_bendsAt X _ _) ?_
  refine wp_if_ne 20 dX8_squeezedOffIn_15 (by decide) (fun c15_1 => ?_) (fun c15_1 => ?_)
  · refine wp_aload_n dX8_squeezedOffIn_20 0 rfl ?_
    refine wp_getR dX8_squeezedOffIn_21 faX8_24 rfl rfl ?_
    refine wp_aload_n dX8_squeezedOffIn_24 0 rfl ?_
    refine wp_getR dX8_squeezedOffIn_25 faX8_72 rfl rfl ?_
    refine wp_iconst dX8_squeezedOffIn_28 ic_0 ?_
    refine wp_iload_n dX8_squeezedOffIn_29 1 rfl ?_
    refine wp_cV2w (N := mX4_given) dX8_squeezedOffIn_30 tmX8_160 okX4_given rfl rfl rfl rfl rfl rfl rfl rfl (s_X4_given X _ _ _) ?_
    refine wp_aload_n dX8_squeezedOffIn_33 0 rfl ?_
    refine wp_getR dX8_squeezedOffIn_34 faX8_72 rfl rfl ?_
    refine wp_iconst dX8_squeezedOffIn_37 ic_1 ?_
    refine wp_iload_n dX8_squeezedOffIn_38 1 rfl ?_
    refine wp_cV2w (N := mX4_given) dX8_squeezedOffIn_39 tmX8_160 okX4_given rfl rfl rfl rfl rfl rfl rfl rfl (s_X4_given X _ _ _) ?_
    refine wp_aload_n dX8_squeezedOffIn_42 0 rfl ?_
    refine wp_getR dX8_squeezedOffIn_43 faX8_66 rfl rfl ?_
    refine wp_iconst dX8_squeezedOffIn_46 ic_1 ?_
    refine wp_cV1w (N := mX3_at) dX8_squeezedOffIn_47 tmX8_190 okX3_at rfl rfl rfl rfl rfl rfl rfl rfl (s_X3_at X _ 15 3 4 5 _ dl15) ?_
    refine wp_cV3w (N := mX1_firstSqueezed) dX8_squeezedOffIn_50 tmX8_425 okX1_firstSqueezed rfl rfl rfl rfl rfl rfl rfl rfl (s_X1_firstSqueezed X _ _ _ _) ?_
    refine wp_ireturn dX8_squeezedOffIn_53 rfl ?_
    exact ⟨by unfold f_X8_squeezedOffIn; rw [if_neg c15_1], rfl⟩
  · refine wp_iconst dX8_squeezedOffIn_18 ic_m1 ?_
    refine wp_ireturn dX8_squeezedOffIn_19 rfl ?_
    exact ⟨by unfold f_X8_squeezedOffIn; rw [if_pos c15_1], rfl⟩

end
