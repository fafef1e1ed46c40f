noncomputable section
def l_X8_off_12 : Nat → Int32 → Int32 → Mem → Int32
  | 0, _, _, σ => 0
  | n + 1, a, b, σ => if 40 ≤ b then (-1) else if (f_X8_squeezedOffIn σ b) = (-1) then (l_X8_off_12 n a (b + 1) σ) else if a = 0 then b else (f_X8_squeezedOffIn σ b)
theorem lt_X8_off_12 (X : Amb) : ∀ (n : Nat) (a : Int32) (b : Int32) (σ : Mem), ((40 : Int32).toInt - b.toInt).toNat < n → WP X mX8_off 12 [(0, .ref (adr X 0)), (1, .int a), (2, .int b)] [] σ (fun v σ' => v = some (.int (l_X8_off_12 n a b σ)) ∧ σ' = σ) := by
  intro n
  induction n with
  | zero => intro a b σ hm; exact absurd hm (Nat.not_lt_zero _)
  | succ n ih =>
    intro a b σ hm 
    refine wp_iload_n dX8_off_12 2 rfl ?_
    refine wp_bipush dX8_off_13 bp_40 ?_
    refine wp_icmp_ge 45 dX8_off_15 (by decide) (fun c15_1 => ?_) (fun c15_1 => ?_)
    · refine wp_iconst dX8_off_45 ic_m1 ?_
      refine wp_ireturn dX8_off_46 rfl ?_
      exact ⟨by rw [l_X8_off_12, if_pos c15_1], rfl⟩
    · refine wp_aload_n dX8_off_18 0 rfl ?_
      refine wp_iload_n dX8_off_19 2 rfl ?_
      refine wp_cV1w (N := mX8_squeezedOffIn) dX8_off_20 tmX8_197 okX8_squeezedOffIn rfl rfl rfl rfl rfl rfl rfl rfl (s_X8_squeezedOffIn X _ _) ?_
      refine wp_istore_n (L' := [(3, _), (0, _), (1, _), (2, _)]) dX8_off_23 rfl rfl ?_
      refine wp_iload_n dX8_off_24 0 rfl ?_
      refine wp_iconst dX8_off_25 ic_m1 ?_
      refine wp_icmp_eq 39 dX8_off_26 (by decide) (fun c26_2 => ?_) (fun c26_2 => ?_)
      · refine wp_iinc (L' := [(2, _), (3, _), (0, _), (1, _)]) dX8_off_39 rfl 3 rfl (ii_1 _) rfl ?_
        refine wp_goto 12 dX8_off_42 (by decide) ?_
        refine wp_drop [2, 3, 0] rfl ?_
        rw [show l_X8_off_12 (n + 1) a b σ = (l_X8_off_12 n a (b + 1) σ) from by rw [l_X8_off_12, if_neg c15_1, if_pos c26_2]]
        exact ih _ _ _ (cnt_up c15_1 hm) 
      · refine wp_iload_n dX8_off_29 2 rfl ?_
        refine wp_if_ne 37 dX8_off_30 (by decide) (fun c30_3 => ?_) (fun c30_3 => ?_)
        · refine wp_iload_n dX8_off_37 0 rfl ?_
          refine wp_ireturn dX8_off_38 rfl ?_
          exact ⟨by rw [l_X8_off_12, if_neg c15_1, if_neg c26_2, if_neg c30_3], rfl⟩
        · refine wp_iload_n dX8_off_33 3 rfl ?_
          refine wp_goto 38 dX8_off_34 (by decide) ?_
          refine wp_ireturn dX8_off_38 rfl ?_
          exact ⟨by rw [l_X8_off_12, if_neg c15_1, if_neg c26_2, if_pos c30_3], rfl⟩
def f_X8_off (σ : Mem) (a : Int32) : Int32 := if (f_X8_isZeroOrOne σ a) = 0 then (-2) else (l_X8_off_12 (fu 41) a 0 σ)
theorem s_X8_off (X : Amb) (σ : Mem) (a : Int32) : SpW X mX8_off [.ref (adr X 0), .int a] σ (.int (f_X8_off σ a)) σ := by
  refine sp_of (by decide +kernel) rfl ?_
  show WP X mX8_off 0 [(0, .ref (adr X 0)), (1, .int a)] [] σ _
  refine wp_iload_n dX8_off_0 1 rfl ?_
  refine wp_cS1w (N := mX8_isZeroOrOne) dX8_off_1 tmX8_132 okX8_isZeroOrOne rfl rfl rfl rfl (s_X8_isZeroOrOne X _ _) ?_
  refine wp_if_ne 10 dX8_off_4 (by decide) (fun c4_1 => ?_) (fun c4_1 => ?_)
  · refine wp_iconst dX8_off_10 ic_0 ?_
    refine wp_istore_n (L' := [(2, _), (0, _), (1, _)]) dX8_off_11 rfl rfl ?_
    refine wp_drop [1, 2, 0] rfl ?_
    rw [show f_X8_off σ a = (l_X8_off_12 (fu 41) a 0 σ) from by unfold f_X8_off; rw [if_neg c4_1]]
    exact lt_X8_off_12 X  (fu 41) a 0 σ (fu_lt (by decide)) 
  · refine wp_bipush dX8_off_7 bp_m2 ?_
    refine wp_ireturn dX8_off_9 rfl ?_
    exact ⟨by unfold f_X8_off; rw [if_pos c4_1], rfl⟩
def l_X8_over_14 : Nat → Int32 → Mem → Int32
  | 0, _, σ => 0
  | n + 1, a, σ => if 40 ≤ a then (-1) else if (f_X4_placeIn σ a) < (f_X6_size σ) then (l_X8_over_14 n (a + 1) σ) else a
theorem lt_X8_over_14 (X : Amb) : ∀ (n : Nat) (a : Int32) (σ : Mem), ((40 : Int32).toInt - a.toInt).toNat < n → WP X mX8_over 14 [(0, .ref (adr X 0)), (1, .int a)] [] σ (fun v σ' => v = some (.int (l_X8_over_14 n a σ)) ∧ σ' = σ) := by
  intro n
  induction n with
  | zero => intro a σ hm; exact absurd hm (Nat.not_lt_zero _)
  | succ n ih =>
    intro a σ hm 
    refine wp_iload_n dX8_over_14 1 rfl ?_
    refine wp_bipush dX8_over_15 bp_40 ?_
    refine wp_icmp_ge 46 dX8_over_17 (by decide) (fun c17_1 => ?_) (fun c17_1 => ?_)
    · refine wp_iconst dX8_over_46 ic_m1 ?_
      refine wp_ireturn dX8_over_47 rfl ?_
      exact ⟨by rw [l_X8_over_14, if_pos c17_1], rfl⟩
    · refine wp_aload_n dX8_over_20 0 rfl ?_
      refine wp_getR dX8_over_21 faX8_72 rfl rfl ?_
      refine wp_iload_n dX8_over_24 1 rfl ?_
      refine wp_cV1w (N := mX4_placeIn) dX8_over_25 tmX8_169 okX4_placeIn rfl rfl rfl rfl rfl rfl rfl rfl (s_X4_placeIn X _ _) ?_
      refine wp_aload_n dX8_over_28 0 rfl ?_
      refine wp_getR dX8_over_29 faX8_31 rfl rfl ?_
      refine wp_cV0w (N := mX6_size) dX8_over_32 tmX8_131 okX6_size rfl rfl rfl rfl rfl rfl rfl rfl (s_X6_size X _) ?_
      refine wp_icmp_lt 40 dX8_over_35 (by decide) (fun c35_2 => ?_) (fun c35_2 => ?_)
      · refine wp_iinc (L' := [(1, _), (0, _)]) dX8_over_40 rfl 1 rfl (ii_1 _) rfl ?_
        refine wp_goto 14 dX8_over_43 (by decide) ?_
        refine wp_drop [1, 0] rfl ?_
        rw [show l_X8_over_14 (n + 1) a σ = (l_X8_over_14 n (a + 1) σ) from by rw [l_X8_over_14, if_neg c17_1, if_pos c35_2]]
        exact ih _ _ (cnt_up c17_1 hm) 
      · refine wp_iload_n dX8_over_38 1 rfl ?_
        refine wp_ireturn dX8_over_39 rfl ?_
        exact ⟨by rw [l_X8_over_14, if_neg c17_1, if_neg c35_2], rfl⟩
def f_X8_over (σ : Mem) : Int32 := if (f_X6_size σ) = 0 then (-1) else (l_X8_over_14 (fu 41) 0 σ)
theorem s_X8_over (X : Amb) (σ : Mem) : SpW X mX8_over [.ref (adr X 0)] σ (.int (f_X8_over σ)) σ := by
  refine sp_of (by decide +kernel) rfl ?_
  show WP X mX8_over 0 [(0, .ref (adr X 0))] [] σ _
  refine wp_aload_n dX8_over_0 0 rfl ?_
  refine wp_getR dX8_over_1 faX8_31 rfl rfl ?_
  refine wp_cV0w (N := mX6_size) dX8_over_4 tmX8_131 okX6_size rfl rfl rfl rfl rfl rfl rfl rfl (s_X6_size X _) ?_
  refine wp_if_ne 12 dX8_over_7 (by decide) (fun c7_1 => ?_) (fun c7_1 => ?_)
  · refine wp_iconst dX8_over_12 ic_0 ?_
    refine wp_istore_n (L' := [(1, _), (0, _)]) dX8_over_13 rfl rfl ?_
    refine wp_drop [1, 0] rfl ?_
    rw [show f_X8_over σ = (l_X8_over_14 (fu 41) 0 σ) from by unfold f_X8_over; rw [if_neg c7_1]]
    exact lt_X8_over_14 X  (fu 41) 0 σ (fu_lt (by decide)) 
  · refine wp_iconst dX8_over_10 ic_m1 ?_
    refine wp_ireturn dX8_over_11 rfl ?_
    exact ⟨by unfold f_X8_over; rw [if_pos c7_1], rfl⟩
def l_X8_settles_5 : Nat → Int32 → Int32 → Mem → Int32
  | 0, _, _, σ => 0
  | n + 1, a, b, σ => if b < 0 then a else if (f_X4_givesAlike σ b 39) = 0 then a else (l_X8_settles_5 n b (b + (-1)) σ)
theorem lt_X8_settles_5 (X : Amb) : ∀ (n : Nat) (a : Int32) (b : Int32) (σ : Mem), (b.toInt + 1).toNat < n → WP X mX8_settles 5 [(0, .ref (adr X 0)), (1, .int a), (2, .int b)] [] σ (fun v σ' => v = some (.int (l_X8_settles_5 n a b σ)) ∧ σ' = σ) := by
  intro n
  induction n with
  | zero => intro a b σ hm; exact absurd hm (Nat.not_lt_zero _)
  | succ n ih =>
    intro a b σ hm 
    refine wp_iload_n dX8_settles_5 2 rfl ?_
    refine wp_if_lt 30 dX8_settles_6 (by decide) (fun c6_1 => ?_) (fun c6_1 => ?_)
    · refine wp_iload_n dX8_settles_30 1 rfl ?_
      refine wp_ireturn dX8_settles_31 rfl ?_
      exact ⟨by rw [l_X8_settles_5, if_pos c6_1], rfl⟩
    · refine wp_aload_n dX8_settles_9 0 rfl ?_
      refine wp_getR dX8_settles_10 faX8_72 rfl rfl ?_
      refine wp_iload_n dX8_settles_13 2 rfl ?_
      refine wp_bipush dX8_settles_14 bp_39 ?_
      refine wp_cV2w (N := mX4_givesAlike) dX8_settles_16 tmX8_200 okX4_givesAlike rfl rfl rfl rfl rfl rfl rfl rfl (s_X4_givesAlike X _ _ _) ?_
      refine wp_if_eq 30 dX8_settles_19 (by decide) (fun c19_2 => ?_) (fun c19_2 => ?_)
      · refine wp_iload_n dX8_settles_30 1 rfl ?_
        refine wp_ireturn dX8_settles_31 rfl ?_
        exact ⟨by rw [l_X8_settles_5, if_neg c6_1, if_pos c19_2], rfl⟩
      · refine wp_iload_n dX8_settles_22 2 rfl ?_
        refine wp_istore_n (L' := [(1, _), (0, _), (2, _)]) dX8_settles_23 rfl rfl ?_
        refine wp_iinc (L' := [(2, _), (1, _), (0, _)]) dX8_settles_24 rfl 2 rfl (ii_m1 _) rfl ?_
        refine wp_goto 5 dX8_settles_27 (by decide) ?_
        refine wp_drop [2, 1, 0] rfl ?_
        rw [show l_X8_settles_5 (n + 1) a b σ = (l_X8_settles_5 n b (b + (-1)) σ) from by rw [l_X8_settles_5, if_neg c6_1, if_neg c19_2]]
        exact ih _ _ _ (cnt_dn0 c6_1 hm) 
def f_X8_settles (σ : Mem) : Int32 := (l_X8_settles_5 (fu 40) (-1) 38 σ)
theorem s_X8_settles (X : Amb) (σ : Mem) : SpW X mX8_settles [.ref (adr X 0)] σ (.int (f_X8_settles σ)) σ := by
  refine sp_of (by decide +kernel) rfl ?_
  show WP X mX8_settles 0 [(0, .ref (adr X 0))] [] σ _
  refine wp_iconst dX8_settles_0 ic_m1 ?_
  refine wp_istore_n (L' := [(1, _), (0, _)]) dX8_settles_1 rfl rfl ?_
  refine wp_bipush dX8_settles_2 bp_38 ?_
  refine wp_istore_n (L' := [(2, _), (1, _), (0, _)]) dX8_settles_4 rfl rfl ?_
  refine wp_drop [2, 1, 0] rfl ?_
  rw [show f_X8_settles σ = (l_X8_settles_5 (fu 40) (-1) 38 σ) from rfl]
  exact lt_X8_settles_5 X  (fu 40) (-1) 38 σ (fu_lt (by decide)) 
theorem sw_a {a : Int32} (h : 0 ≤ a) (h2 : ¬ 12 < a) : a ≤ 1000 ∧ 0 ≤ a + 1 := by
  rw [Int32.le_iff_toInt_le] at *
  rw [Int32.lt_iff_toInt_lt, show (12 : Int32).toInt = 12 by decide] at h2
  rw [Int32.le_iff_toInt_le, Int32.toInt_zero, show (1000 : Int32).toInt = 1000 by decide]
  rw [Int32.toInt_zero] at h
  rw [addT (by rw [t1]; omega) (by rw [t1]; omega), t1]; omega
def l_X8_swings_2 : Nat → Int32 → Mem → Int32
  | 0, _, σ => 0
  | n + 1, a, σ => if 12 < a then (-1) else if (f_X4_comesAgain σ a) = 0 then (l_X8_swings_2 n (a + 1) σ) else a
theorem lt_X8_swings_2 (X : Amb) : ∀ (n : Nat) (a : Int32) (σ : Mem), ((12 : Int32).toInt + 1 - a.toInt).toNat < n → 0 ≤ a → WP X mX8_swings 2 [(0, .ref (adr X 0)), (1, .int a)] [] σ (fun v σ' => v = some (.int (l_X8_swings_2 n a σ)) ∧ σ' = σ) := by
  intro n
  induction n with
  | zero => intro a σ hm; exact absurd hm (Nat.not_lt_zero _)
  | succ n ih =>
    intro a σ hm ha
    refine wp_iload_n dX8_swings_2 1 rfl ?_
    refine wp_bipush dX8_swings_3 bp_12 ?_
    refine wp_icmp_gt 27 dX8_swings_5 (by decide) (fun c5_1 => ?_) (fun c5_1 => ?_)
    · refine wp_iconst dX8_swings_27 ic_m1 ?_
      refine wp_ireturn dX8_swings_28 rfl ?_
      exact ⟨by rw [l_X8_swings_2, if_pos c5_1], rfl⟩
    · refine wp_aload_n dX8_swings_8 0 rfl ?_
      refine wp_getR dX8_swings_9 faX8_72 rfl rfl ?_
      refine wp_iload_n dX8_swings_12 1 rfl ?_
      refine wp_cV1w (N := mX4_comesAgain) dX8_swings_13 tmX8_203 okX4_comesAgain rfl rfl rfl rfl rfl rfl rfl rfl (s_X4_comesAgain X _ _ ha (sw_a ha c5_1).1) ?_
      refine wp_if_eq 21 dX8_swings_16 (by decide) (fun c16_2 => ?_) (fun c16_2 => ?_)
      · refine wp_iinc (L' := [(1, _), (0, _)]) dX8_swings_21 rfl 1 rfl (ii_1 _) rfl ?_
        refine wp_goto 2 dX8_swings_24 (by decide) ?_
        refine wp_drop [1, 0] rfl ?_
        rw [show l_X8_swings_2 (n + 1) a σ = (l_X8_swings_2 n (a + 1) σ) from by rw [l_X8_swings_2, if_neg c5_1, if_pos c16_2]]
        exact ih _ _ (cnt_le c5_1 (by decide) hm) (sw_a ha c5_1).2
      · refine wp_iload_n dX8_swings_19 1 rfl ?_
        refine wp_ireturn dX8_swings_20 rfl ?_
        exact ⟨by rw [l_X8_swings_2, if_neg c5_1, if_neg c16_2], rfl⟩
def f_X8_swings (σ : Mem) : Int32 := (l_X8_swings_2 (fu 13) 1 σ)
theorem s_X8_swings (X : Amb) (σ : Mem) : SpW X mX8_swings [.ref (adr X 0)] σ (.int (f_X8_swings σ)) σ := by
  refine sp_of (by decide +kernel) rfl ?_
  show WP X mX8_swings 0 [(0, .ref (adr X 0))] [] σ _
  refine wp_iconst dX8_swings_0 ic_1 ?_
  refine wp_istore_n (L' := [(1, _), (0, _)]) dX8_swings_1 rfl rfl ?_
  refine wp_drop [1, 0] rfl ?_
  rw [show f_X8_swings σ = (l_X8_swings_2 (fu 13) 1 σ) from rfl]
  exact lt_X8_swings_2 X  (fu 13) 1 σ (fu_lt (by decide)) (by decide)
def f_X8_does (σ : Mem) (a : Int32) : Int32 := if (f_X8_isZeroOrOne σ a) = 0 then (-2) else (f_X8_inLowestTerms σ ((f_X4_allGiven σ 0).toInt64) (((f_X4_allGiven σ 0) + (f_X4_allGiven σ 1)).toInt64) a).toInt32
theorem s_X8_does (X : Amb) (σ : Mem) (a : Int32) : SpW X mX8_does [.ref (adr X 0), .int a] σ (.int (f_X8_does σ a)) σ := by
  refine sp_of (by decide +kernel) rfl ?_
  show WP X mX8_does 0 [(0, .ref (adr X 0)), (1, .int a)] [] σ _
  refine wp_iload_n dX8_does_0 1 rfl ?_
  refine wp_cS1w (N := mX8_isZeroOrOne) dX8_does_1 tmX8_132 okX8_isZeroOrOne rfl rfl rfl rfl (s_X8_isZeroOrOne X _ _) ?_
  refine wp_if_ne 10 dX8_does_4 (by decide) (fun c4_1 => ?_) (fun c4_1 => ?_)
  · refine wp_aload_n dX8_does_10 0 rfl ?_
    refine wp_getR dX8_does_11 faX8_72 rfl rfl ?_
    refine wp_iconst dX8_does_14 ic_0 ?_
    refine wp_cV1w (N := mX4_allGiven) dX8_does_15 tmX8_206 okX4_allGiven rfl rfl rfl rfl rfl rfl rfl rfl (s_X4_allGiven X _ _) ?_
    refine wp_istore_n (L' := [(2, _), (0, _), (1, _)]) dX8_does_18 rfl rfl ?_
    refine wp_iload_n dX8_does_19 0 rfl ?_
    refine wp_aload_n dX8_does_20 1 rfl ?_
    refine wp_getR dX8_does_21 faX8_72 rfl rfl ?_
    refine wp_iconst dX8_does_24 ic_1 ?_
    refine wp_cV1w (N := mX4_allGiven) dX8_does_25 tmX8_206 okX4_allGiven rfl rfl rfl rfl rfl rfl rfl rfl (s_X4_allGiven X _ _) ?_
    refine wp_iadd dX8_does_28 ?_
    refine wp_istore_n (L' := [(3, _), (2, _), (0, _), (1, _)]) dX8_does_29 rfl rfl ?_
    refine wp_iload_n dX8_does_30 1 rfl ?_
    refine wp_i2l dX8_does_31 ?_
    refine wp_iload_n dX8_does_32 0 rfl ?_
    refine wp_i2l dX8_does_33 ?_
    refine wp_iload_n dX8_does_34 3 rfl ?_
    refine wp_cS3w (N := mX8_inLowestTerms) dX8_does_35 tmX8_183 okX8_inLowestTerms rfl rfl rfl rfl (s_X8_inLowestTerms X _ _ _ _) ?_
    refine wp_l2i dX8_does_38 ?_
    refine wp_ireturn dX8_does_39 rfl ?_
    exact ⟨by unfold f_X8_does; rw [if_neg c4_1], rfl⟩
  · refine wp_bipush dX8_does_7 bp_m2 ?_
    refine wp_ireturn dX8_does_9 rfl ?_
    exact ⟨by unfold f_X8_does; rw [if_pos c4_1], rfl⟩
def f_X8_startOf (σ : Mem) (a : Int32) (b : Int32) : Int32 := if b < a then if a < b then if (f_X1_tears σ 0 0 (f_X3_at σ 15 3 4 5 0)) = 0 then if (f_X1_firstSqueezed σ 0 0 (f_X3_at σ 15 3 4 5 1)) = (-1) then 0 else 2 else 1 else if (f_X1_tears σ 0 ((f_X3_at σ 13 0 1 3 0) + (10 * (a - b))) (f_X3_at σ 15 3 4 5 0)) = 0 then if (f_X1_firstSqueezed σ 0 ((f_X3_at σ 13 0 1 3 0) + (10 * (a - b))) (f_X3_at σ 15 3 4 5 1)) = (-1) then 0 else 2 else 1 else if a < b then if (f_X1_tears σ ((f_X3_at σ 11 0 1 3 0) + (10 * (b - a))) 0 (f_X3_at σ 15 3 4 5 0)) = 0 then if (f_X1_firstSqueezed σ ((f_X3_at σ 11 0 1 3 0) + (10 * (b - a))) 0 (f_X3_at σ 15 3 4 5 1)) = (-1) then 0 else 2 else 1 else if (f_X1_tears σ ((f_X3_at σ 11 0 1 3 0) + (10 * (b - a))) ((f_X3_at σ 13 0 1 3 0) + (10 * (a - b))) (f_X3_at σ 15 3 4 5 0)) = 0 then if (f_X1_firstSqueezed σ ((f_X3_at σ 11 0 1 3 0) + (10 * (b - a))) ((f_X3_at σ 13 0 1 3 0) + (10 * (a - b))) (f_X3_at σ 15 3 4 5 1)) = (-1) then 0 else 2 else 1
theorem s_X8_startOf (X : Amb) (σ : Mem) (a : Int32) (b : Int32) (hI : CI σ) : SpW X mX8_startOf [.ref (adr X 0), .int a, .int b] σ (.int (f_X8_startOf σ a b)) σ := by
  refine sp_of (by decide +kernel) rfl ?_
  show WP X mX8_startOf 0 [(0, .ref (adr X 0)), (1, .int a), (2, .int b)] [] σ _
  refine wp_iload_n dX8_startOf_0 1 rfl ?_
  refine wp_iload_n dX8_startOf_1 2 rfl ?_
  refine wp_icmp_gt 23 dX8_startOf_2 (by decide) (fun c2_1 => ?_) (fun c2_1 => ?_)
  · refine wp_iconst dX8_startOf_23 ic_0 ?_
    refine wp_istore_n (L' := [(3, _), (0, _), (1, _), (2, _)]) dX8_startOf_24 rfl rfl ?_
    refine wp_iload_n dX8_startOf_25 3 rfl ?_
    refine wp_iload_n dX8_startOf_26 2 rfl ?_
    refine wp_icmp_gt 48 dX8_startOf_27 (by decide) (fun c27_2 => ?_) (fun c27_2 => ?_)
    · refine wp_iconst dX8_startOf_48 ic_0 ?_
      refine wp_istore (L' := [(4, _), (3, _), (0, _), (1, _), (2, _)]) dX8_startOf_49 rfl rfl ?_
      refine wp_aload_n dX8_startOf_51 2 rfl ?_
      refine wp_getR dX8_startOf_52 faX8_24 rfl rfl ?_
      refine wp_iload_n dX8_startOf_55 1 rfl ?_
      refine wp_iload dX8_startOf_56 0 rfl ?_
      refine wp_aload_n dX8_startOf_58 2 rfl ?_
      refine wp_getR dX8_startOf_59 faX8_66 rfl rfl ?_
      refine wp_iconst dX8_startOf_62 ic_0 ?_
      refine wp_cV1w (N := mX3_at) dX8_startOf_63 tmX8_190 okX3_at rfl rfl rfl rfl rfl rfl rfl rfl (s_X3_at X _ 15 3 4 5 _ dl15) ?_
      refine wp_cV3w (N := mX1_tears) dX8_startOf_66 tmX8_193 okX1_tears rfl rfl rfl rfl rfl rfl rfl rfl (s_X1_tears X _ _ _ _ (hI).z) ?_
      refine wp_if_eq 74 dX8_startOf_69 (by decide) (fun c69_3 => ?_) (fun c69_3 => ?_)
      · refine wp_aload_n dX8_startOf_74 2 rfl ?_
        refine wp_getR dX8_startOf_75 faX8_24 rfl rfl ?_
        refine wp_iload_n dX8_startOf_78 1 rfl ?_
        refine wp_iload dX8_startOf_79 0 rfl ?_
        refine wp_aload_n dX8_startOf_81 2 rfl ?_
        refine wp_getR dX8_startOf_82 faX8_66 rfl rfl ?_
        refine wp_iconst dX8_startOf_85 ic_1 ?_
        refine wp_cV1w (N := mX3_at) dX8_startOf_86 tmX8_190 okX3_at rfl rfl rfl rfl rfl rfl rfl rfl (s_X3_at X _ 15 3 4 5 _ dl15) ?_
        refine wp_cV3w (N := mX1_firstSqueezed) dX8_startOf_89 tmX8_425 okX1_firstSqueezed rfl rfl rfl rfl rfl rfl rfl rfl (s_X1_firstSqueezed X _ _ _ _) ?_
        refine wp_iconst dX8_startOf_92 ic_m1 ?_
        refine wp_icmp_ne 100 dX8_startOf_93 (by decide) (fun c93_4 => ?_) (fun c93_4 => ?_)
        · refine wp_iconst dX8_startOf_100 ic_2 ?_
          refine wp_ireturn dX8_startOf_101 rfl ?_
          exact ⟨by unfold f_X8_startOf; rw [if_pos c2_1, if_pos c27_2, if_pos c69_3, if_neg c93_4], rfl⟩
        · refine wp_iconst dX8_startOf_96 ic_0 ?_
          refine wp_goto 101 dX8_startOf_97 (by decide) ?_
          refine wp_ireturn dX8_startOf_101 rfl ?_
          exact ⟨by unfold f_X8_startOf; rw [if_pos c2_1, if_pos c27_2, if_pos c69_3, if_pos c93_4], rfl⟩
      · refine wp_iconst dX8_startOf_72 ic_1 ?_
        refine wp_ireturn dX8_startOf_73 rfl ?_
        exact ⟨by unfold f_X8_startOf; rw [if_pos c2_1, if_pos c27_2, if_neg c69_3], rfl⟩
    · refine wp_aload_n dX8_startOf_30 1 rfl ?_
      refine wp_getR dX8_startOf_31 faX8_54 rfl rfl ?_
      refine wp_iconst dX8_startOf_34 ic_0 ?_
      refine wp_cV1w (N := mX3_at) dX8_startOf_35 tmX8_190 okX3_at rfl rfl rfl rfl rfl rfl rfl rfl (s_X3_at X _ 13 0 1 3 _ dl13) ?_
      refine wp_bipush dX8_startOf_38 bp_10 ?_
      refine wp_iload_n dX8_startOf_40 2 rfl ?_
      refine wp_iload_n dX8_startOf_41 3 rfl ?_
      refine wp_isub dX8_startOf_42 ?_
      refine wp_imul dX8_startOf_43 ?_
      refine wp_iadd dX8_startOf_44 ?_
      refine wp_goto 49 dX8_startOf_45 (by decide) ?_
      refine wp_istore (L' := [(4, _), (3, _), (0, _), (1, _), (2, _)]) dX8_startOf_49 rfl rfl ?_
      refine wp_aload_n dX8_startOf_51 2 rfl ?_
      refine wp_getR dX8_startOf_52 faX8_24 rfl rfl ?_
      refine wp_iload_n dX8_startOf_55 1 rfl ?_
      refine wp_iload dX8_startOf_56 0 rfl ?_
      refine wp_aload_n dX8_startOf_58 2 rfl ?_
      refine wp_getR dX8_startOf_59 faX8_66 rfl rfl ?_
      refine wp_iconst dX8_startOf_62 ic_0 ?_
      refine wp_cV1w (N := mX3_at) dX8_startOf_63 tmX8_190 okX3_at rfl rfl rfl rfl rfl rfl rfl rfl (s_X3_at X _ 15 3 4 5 _ dl15) ?_
      refine wp_cV3w (N := mX1_tears) dX8_startOf_66 tmX8_193 okX1_tears rfl rfl rfl rfl rfl rfl rfl rfl (s_X1_tears X _ _ _ _ (hI).z) ?_
      refine wp_if_eq 74 dX8_startOf_69 (by decide) (fun c69_5 => ?_) (fun c69_5 => ?_)
      · refine wp_aload_n dX8_startOf_74 2 rfl ?_
        refine wp_getR dX8_startOf_75 faX8_24 rfl rfl ?_
        refine wp_iload_n dX8_startOf_78 1 rfl ?_
        refine wp_iload dX8_startOf_79 0 rfl ?_
        refine wp_aload_n dX8_startOf_81 2 rfl ?_
        refine wp_getR dX8_startOf_82 faX8_66 rfl rfl ?_
        refine wp_iconst dX8_startOf_85 ic_1 ?_
        refine wp_cV1w (N := mX3_at) dX8_startOf_86 tmX8_190 okX3_at rfl rfl rfl rfl rfl rfl rfl rfl (s_X3_at X _ 15 3 4 5 _ dl15) ?_
        refine wp_cV3w (N := mX1_firstSqueezed) dX8_startOf_89 tmX8_425 okX1_firstSqueezed rfl rfl rfl rfl rfl rfl rfl rfl (s_X1_firstSqueezed X _ _ _ _) ?_
        refine wp_iconst dX8_startOf_92 ic_m1 ?_
        refine wp_icmp_ne 100 dX8_startOf_93 (by decide) (fun c93_6 => ?_) (fun c93_6 => ?_)
        · refine wp_iconst dX8_startOf_100 ic_2 ?_
          refine wp_ireturn dX8_startOf_101 rfl ?_
          exact ⟨by unfold f_X8_startOf; rw [if_pos c2_1, if_neg c27_2, if_pos c69_5, if_neg c93_6], rfl⟩
        · refine wp_iconst dX8_startOf_96 ic_0 ?_
          refine wp_goto 101 dX8_startOf_97 (by decide) ?_
          refine wp_ireturn dX8_startOf_101 rfl ?_
          exact ⟨by unfold f_X8_startOf; rw [if_pos c2_1, if_neg c27_2, if_pos c69_5, if_pos c93_6], rfl⟩
      · refine wp_iconst dX8_startOf_72 ic_1 ?_
        refine wp_ireturn dX8_startOf_73 rfl ?_
        exact ⟨by unfold f_X8_startOf; rw [if_pos c2_1, if_neg c27_2, if_neg c69_5], rfl⟩
  · refine wp_aload_n dX8_startOf_5 0 rfl ?_
    refine wp_getR dX8_startOf_6 faX8_50 rfl rfl ?_
    refine wp_iconst dX8_startOf_9 ic_0 ?_
    refine wp_cV1w (N := mX3_at) dX8_startOf_10 tmX8_190 okX3_at rfl rfl rfl rfl rfl rfl rfl rfl (s_X3_at X _ 11 0 1 3 _ dl11) ?_
    refine wp_bipush dX8_startOf_13 bp_10 ?_
    refine wp_iload_n dX8_startOf_15 2 rfl ?_
    refine wp_iload_n dX8_startOf_16 1 rfl ?_
    refine wp_isub dX8_startOf_17 ?_
    refine wp_imul dX8_startOf_18 ?_
    refine wp_iadd dX8_startOf_19 ?_
    refine wp_goto 24 dX8_startOf_20 (by decide) ?_
    refine wp_istore_n (L' := [(3, _), (0, _), (1, _), (2, _)]) dX8_startOf_24 rfl rfl ?_
    refine wp_iload_n dX8_startOf_25 3 rfl ?_
    refine wp_iload_n dX8_startOf_26 2 rfl ?_
    refine wp_icmp_gt 48 dX8_startOf_27 (by decide) (fun c27_7 => ?_) (fun c27_7 => ?_)
    · refine wp_iconst dX8_startOf_48 ic_0 ?_
      refine wp_istore (L' := [(4, _), (3, _), (0, _), (1, _), (2, _)]) dX8_startOf_49 rfl rfl ?_
      refine wp_aload_n dX8_startOf_51 2 rfl ?_
      refine wp_getR dX8_startOf_52 faX8_24 rfl rfl ?_
      refine wp_iload_n dX8_startOf_55 1 rfl ?_
      refine wp_iload dX8_startOf_56 0 rfl ?_
      refine wp_aload_n dX8_startOf_58 2 rfl ?_
      refine wp_getR dX8_startOf_59 faX8_66 rfl rfl ?_
      refine wp_iconst dX8_startOf_62 ic_0 ?_
      refine wp_cV1w (N := mX3_at) dX8_startOf_63 tmX8_190 okX3_at rfl rfl rfl rfl rfl rfl rfl rfl (s_X3_at X _ 15 3 4 5 _ dl15) ?_
      refine wp_cV3w (N := mX1_tears) dX8_startOf_66 tmX8_193 okX1_tears rfl rfl rfl rfl rfl rfl rfl rfl (s_X1_tears X _ _ _ _ (hI).z) ?_
      refine wp_if_eq 74 dX8_startOf_69 (by decide) (fun c69_8 => ?_) (fun c69_8 => ?_)
      · refine wp_aload_n dX8_startOf_74 2 rfl ?_
        refine wp_getR dX8_startOf_75 faX8_24 rfl rfl ?_
        refine wp_iload_n dX8_startOf_78 1 rfl ?_
        refine wp_iload dX8_startOf_79 0 rfl ?_
        refine wp_aload_n dX8_startOf_81 2 rfl ?_
        refine wp_getR dX8_startOf_82 faX8_66 rfl rfl ?_
        refine wp_iconst dX8_startOf_85 ic_1 ?_
        refine wp_cV1w (N := mX3_at) dX8_startOf_86 tmX8_190 okX3_at rfl rfl rfl rfl rfl rfl rfl rfl (s_X3_at X _ 15 3 4 5 _ dl15) ?_
        refine wp_cV3w (N := mX1_firstSqueezed) dX8_startOf_89 tmX8_425 okX1_firstSqueezed rfl rfl rfl rfl rfl rfl rfl rfl (s_X1_firstSqueezed X _ _ _ _) ?_
        refine wp_iconst dX8_startOf_92 ic_m1 ?_
        refine wp_icmp_ne 100 dX8_startOf_93 (by decide) (fun c93_9 => ?_) (fun c93_9 => ?_)
        · refine wp_iconst dX8_startOf_100 ic_2 ?_
          refine wp_ireturn dX8_startOf_101 rfl ?_
          exact ⟨by unfold f_X8_startOf; rw [if_neg c2_1, if_pos c27_7, if_pos c69_8, if_neg c93_9], rfl⟩
        · refine wp_iconst dX8_startOf_96 ic_0 ?_
          refine wp_goto 101 dX8_startOf_97 (by decide) ?_
          refine wp_ireturn dX8_startOf_101 rfl ?_
          exact ⟨by unfold f_X8_startOf; rw [if_neg c2_1, if_pos c27_7, if_pos c69_8, if_pos c93_9], rfl⟩
      · refine wp_iconst dX8_startOf_72 ic_1 ?_
        refine wp_ireturn dX8_startOf_73 rfl ?_
        exact ⟨by unfold f_X8_startOf; rw [if_neg c2_1, if_pos c27_7, if_neg c69_8], rfl⟩
    · refine wp_aload_n dX8_startOf_30 1 rfl ?_
      refine wp_getR dX8_startOf_31 faX8_54 rfl rfl ?_
      refine wp_iconst dX8_startOf_34 ic_0 ?_
      refine wp_cV1w (N := mX3_at) dX8_startOf_35 tmX8_190 okX3_at rfl rfl rfl rfl rfl rfl rfl rfl (s_X3_at X _ 13 0 1 3 _ dl13) ?_
      refine wp_bipush dX8_startOf_38 bp_10 ?_
      refine wp_iload_n dX8_startOf_40 2 rfl ?_
      refine wp_iload_n dX8_startOf_41 3 rfl ?_
      refine wp_isub dX8_startOf_42 ?_
      refine wp_imul dX8_startOf_43 ?_
      refine wp_iadd dX8_startOf_44 ?_
      refine wp_goto 49 dX8_startOf_45 (by decide) ?_
      refine wp_istore (L' := [(4, _), (3, _), (0, _), (1, _), (2, _)]) dX8_startOf_49 rfl rfl ?_
      refine wp_aload_n dX8_startOf_51 2 rfl ?_
      refine wp_getR dX8_startOf_52 faX8_24 rfl rfl ?_
      refine wp_iload_n dX8_startOf_55 1 rfl ?_
      refine wp_iload dX8_startOf_56 0 rfl ?_
      refine wp_aload_n dX8_startOf_58 2 rfl ?_
      refine wp_getR dX8_startOf_59 faX8_66 rfl rfl ?_
      refine wp_iconst dX8_startOf_62 ic_0 ?_
      refine wp_cV1w (N := mX3_at) dX8_startOf_63 tmX8_190 okX3_at rfl rfl rfl rfl rfl rfl rfl rfl (s_X3_at X _ 15 3 4 5 _ dl15) ?_
      refine wp_cV3w (N := mX1_tears) dX8_startOf_66 tmX8_193 okX1_tears rfl rfl rfl rfl rfl rfl rfl rfl (s_X1_tears X _ _ _ _ (hI).z) ?_
      refine wp_if_eq 74 dX8_startOf_69 (by decide) (fun c69_10 => ?_) (fun c69_10 => ?_)
      · refine wp_aload_n dX8_startOf_74 2 rfl ?_
        refine wp_getR dX8_startOf_75 faX8_24 rfl rfl ?_
        refine wp_iload_n dX8_startOf_78 1 rfl ?_
        refine wp_iload dX8_startOf_79 0 rfl ?_
        refine wp_aload_n dX8_startOf_81 2 rfl ?_
        refine wp_getR dX8_startOf_82 faX8_66 rfl rfl ?_
        refine wp_iconst dX8_startOf_85 ic_1 ?_
        refine wp_cV1w (N := mX3_at) dX8_startOf_86 tmX8_190 okX3_at rfl rfl rfl rfl rfl rfl rfl rfl (s_X3_at X _ 15 3 4 5 _ dl15) ?_
        refine wp_cV3w (N := mX1_firstSqueezed) dX8_startOf_89 tmX8_425 okX1_firstSqueezed rfl rfl rfl rfl rfl rfl rfl rfl (s_X1_firstSqueezed X _ _ _ _) ?_
        refine wp_iconst dX8_startOf_92 ic_m1 ?_
        refine wp_icmp_ne 100 dX8_startOf_93 (by decide) (fun c93_11 => ?_) (fun c93_11 => ?_)
        · refine wp_iconst dX8_startOf_100 ic_2 ?_
          refine wp_ireturn dX8_startOf_101 rfl ?_
          exact ⟨by unfold f_X8_startOf; rw [if_neg c2_1, if_neg c27_7, if_pos c69_10, if_neg c93_11], rfl⟩
        · refine wp_iconst dX8_startOf_96 ic_0 ?_
          refine wp_goto 101 dX8_startOf_97 (by decide) ?_
          refine wp_ireturn dX8_startOf_101 rfl ?_
          exact ⟨by unfold f_X8_startOf; rw [if_neg c2_1, if_neg c27_7, if_pos c69_10, if_pos c93_11], rfl⟩
      · refine wp_iconst dX8_startOf_72 ic_1 ?_
        refine wp_ireturn dX8_startOf_73 rfl ?_
        exact ⟨by unfold f_X8_startOf; rw [if_neg c2_1, if_neg c27_7, if_neg c69_10], rfl⟩
def f_X8_start (σ : Mem) (a : Int32) (b : Int32) : Int32 := if (f_X8_isSecond σ a) = 0 then (-2) else if (f_X8_isSecond σ b) = 0 then (-2) else (f_X8_startOf σ a b)
theorem s_X8_start (X : Amb) (σ : Mem) (a : Int32) (b : Int32) (hI : CI σ) : SpW X mX8_start [.ref (adr X 0), .int a, .int b] σ (.int (f_X8_start σ a b)) σ := by
  refine sp_of (by decide +kernel) rfl ?_
  show WP X mX8_start 0 [(0, .ref (adr X 0)), (1, .int a), (2, .int b)] [] σ _
  refine wp_iload_n dX8_start_0 1 rfl ?_
  refine wp_cS1w (N := mX8_isSecond) dX8_start_1 tmX8_209 okX8_isSecond rfl rfl rfl rfl (s_X8_isSecond X _ _) ?_
  refine wp_if_eq 23 dX8_start_4 (by decide) (fun c4_1 => ?_) (fun c4_1 => ?_)
  · refine wp_bipush dX8_start_23 bp_m2 ?_
    refine wp_ireturn dX8_start_25 rfl ?_
    exact ⟨by unfold f_X8_start; rw [if_pos c4_1], rfl⟩
  · refine wp_iload_n dX8_start_7 2 rfl ?_
    refine wp_cS1w (N := mX8_isSecond) dX8_start_8 tmX8_209 okX8_isSecond rfl rfl rfl rfl (s_X8_isSecond X _ _) ?_
    refine wp_if_eq 23 dX8_start_11 (by decide) (fun c11_2 => ?_) (fun c11_2 => ?_)
    · refine wp_bipush dX8_start_23 bp_m2 ?_
      refine wp_ireturn dX8_start_25 rfl ?_
      exact ⟨by unfold f_X8_start; rw [if_neg c4_1, if_pos c11_2], rfl⟩
    · refine wp_aload_n dX8_start_14 0 rfl ?_
      refine wp_iload_n dX8_start_15 1 rfl ?_
      refine wp_iload_n dX8_start_16 2 rfl ?_
      refine wp_cV2w (N := mX8_startOf) dX8_start_17 tmX8_212 okX8_startOf rfl rfl rfl rfl rfl rfl rfl rfl (s_X8_startOf X _ _ _ hI) ?_
      refine wp_goto 25 dX8_start_20 (by decide) ?_
      refine wp_ireturn dX8_start_25 rfl ?_
      exact ⟨by unfold f_X8_start; rw [if_neg c4_1, if_neg c11_2], rfl⟩
def l_X8_safe_17 : Nat → Int32 → Int32 → Int32 → Int32 → Mem → Int32
  | 0, _, _, _, _, σ => 0
  | n + 1, a, b, c, d, σ => if 100 ≤ d then if a = 0 then b else c else if (f_X8_startOf σ (d / 10) (d - d / 10 * 10)) = 0 then if c = (-1) then (l_X8_safe_17 n a (b + 1) d (d + 1) σ) else (l_X8_safe_17 n a (b + 1) c (d + 1) σ) else (l_X8_safe_17 n a b c (d + 1) σ)
theorem lt_X8_safe_17 (X : Amb) : ∀ (n : Nat) (a : Int32) (b : Int32) (c : Int32) (d : Int32) (σ : Mem), ((100 : Int32).toInt - d.toInt).toNat < n → CI σ → WP X mX8_safe 17 [(0, .ref (adr X 0)), (1, .int a), (2, .int b), (3, .int c), (4, .int d)] [] σ (fun v σ' => v = some (.int (l_X8_safe_17 n a b c d σ)) ∧ σ' = σ) := by
  intro n
  induction n with
  | zero => intro a b c d σ hm; exact absurd hm (Nat.not_lt_zero _)
  | succ n ih =>
    intro a b c d σ hm hI
    refine wp_iload dX8_safe_17 4 rfl ?_
    refine wp_bipush dX8_safe_19 bp_100 ?_
    refine wp_icmp_ge 62 dX8_safe_21 (by decide) (fun c21_1 => ?_) (fun c21_1 => ?_)
    · refine wp_iload_n dX8_safe_62 1 rfl ?_
      refine wp_if_ne 70 dX8_safe_63 (by decide) (fun c63_2 => ?_) (fun c63_2 => ?_)
      · refine wp_iload_n dX8_safe_70 3 rfl ?_
        refine wp_ireturn dX8_safe_71 rfl ?_
        exact ⟨by rw [l_X8_safe_17, if_pos c21_1, if_neg c63_2], rfl⟩
      · refine wp_iload_n dX8_safe_66 2 rfl ?_
        refine wp_goto 71 dX8_safe_67 (by decide) ?_
        refine wp_ireturn dX8_safe_71 rfl ?_
        exact ⟨by rw [l_X8_safe_17, if_pos c21_1, if_pos c63_2], rfl⟩
    · refine wp_aload_n dX8_safe_24 0 rfl ?_
      refine wp_iload dX8_safe_25 4 rfl ?_
      refine wp_bipush dX8_safe_27 bp_10 ?_
      refine wp_idiv dX8_safe_29 (by decide) ?_
      refine wp_iload dX8_safe_30 4 rfl ?_
      refine wp_bipush dX8_safe_32 bp_10 ?_
      refine wp_irem dX8_safe_34 (by decide) ?_
      refine wp_cV2w (N := mX8_startOf) dX8_safe_35 tmX8_212 okX8_startOf rfl rfl rfl rfl rfl rfl rfl rfl (s_X8_startOf X _ _ _ hI) ?_
      refine wp_if_ne 56 dX8_safe_38 (by decide) (fun c38_3 => ?_) (fun c38_3 => ?_)
      · refine wp_iinc (L' := [(4, _), (0, _), (1, _), (2, _), (3, _)]) dX8_safe_56 rfl 4 rfl (ii_1 _) rfl ?_
        refine wp_goto 17 dX8_safe_59 (by decide) ?_
        refine wp_drop [1, 2, 3, 4, 0] rfl ?_
        rw [show l_X8_safe_17 (n + 1) a b c d σ = (l_X8_safe_17 n a b c (d + 1) σ) from by rw [l_X8_safe_17, if_neg c21_1, if_neg c38_3]]
        exact ih _ _ _ _ _ (cnt_up c21_1 hm) hI
      · refine wp_iinc (L' := [(2, _), (0, _), (1, _), (3, _), (4, _)]) dX8_safe_41 rfl 2 rfl (ii_1 _) rfl ?_
        refine wp_iload_n dX8_safe_44 3 rfl ?_
        refine wp_iconst dX8_safe_45 ic_m1 ?_
        refine wp_icmp_ne 54 dX8_safe_46 (by decide) (fun c46_4 => ?_) (fun c46_4 => ?_)
        · refine wp_iload_n dX8_safe_54 3 rfl ?_
          refine wp_istore_n (L' := [(3, _), (2, _), (0, _), (1, _), (4, _)]) dX8_safe_55 rfl rfl ?_
          refine wp_iinc (L' := [(4, _), (3, _), (2, _), (0, _), (1, _)]) dX8_safe_56 rfl 4 rfl (ii_1 _) rfl ?_
          refine wp_goto 17 dX8_safe_59 (by decide) ?_
          refine wp_drop [3, 4, 2, 1, 0] rfl ?_
          rw [show l_X8_safe_17 (n + 1) a b c d σ = (l_X8_safe_17 n a (b + 1) c (d + 1) σ) from by rw [l_X8_safe_17, if_neg c21_1, if_pos c38_3, if_neg c46_4]]
          exact ih _ _ _ _ _ (cnt_up c21_1 hm) hI
        · refine wp_iload dX8_safe_49 4 rfl ?_
          refine wp_goto 55 dX8_safe_51 (by decide) ?_
          refine wp_istore_n (L' := [(3, _), (2, _), (0, _), (1, _), (4, _)]) dX8_safe_55 rfl rfl ?_
          refine wp_iinc (L' := [(4, _), (3, _), (2, _), (0, _), (1, _)]) dX8_safe_56 rfl 4 rfl (ii_1 _) rfl ?_
          refine wp_goto 17 dX8_safe_59 (by decide) ?_
          refine wp_drop [3, 4, 2, 1, 0] rfl ?_
          rw [show l_X8_safe_17 (n + 1) a b c d σ = (l_X8_safe_17 n a (b + 1) d (d + 1) σ) from by rw [l_X8_safe_17, if_neg c21_1, if_pos c38_3, if_pos c46_4]]
          exact ih _ _ _ _ _ (cnt_up c21_1 hm) hI
def f_X8_safe (σ : Mem) (a : Int32) : Int32 := if (f_X8_isZeroOrOne σ a) = 0 then (-2) else (l_X8_safe_17 (fu 101) a 0 (-1) 0 σ)
theorem s_X8_safe (X : Amb) (σ : Mem) (a : Int32) (hI : CI σ) : SpW X mX8_safe [.ref (adr X 0), .int a] σ (.int (f_X8_safe σ a)) σ := by
  refine sp_of (by decide +kernel) rfl ?_
  show WP X mX8_safe 0 [(0, .ref (adr X 0)), (1, .int a)] [] σ _
  refine wp_iload_n dX8_safe_0 1 rfl ?_
  refine wp_cS1w (N := mX8_isZeroOrOne) dX8_safe_1 tmX8_132 okX8_isZeroOrOne rfl rfl rfl rfl (s_X8_isZeroOrOne X _ _) ?_
  refine wp_if_ne 10 dX8_safe_4 (by decide) (fun c4_1 => ?_) (fun c4_1 => ?_)
  · refine wp_iconst dX8_safe_10 ic_0 ?_
    refine wp_istore_n (L' := [(2, _), (0, _), (1, _)]) dX8_safe_11 rfl rfl ?_
    refine wp_iconst dX8_safe_12 ic_m1 ?_
    refine wp_istore_n (L' := [(3, _), (2, _), (0, _), (1, _)]) dX8_safe_13 rfl rfl ?_
    refine wp_iconst dX8_safe_14 ic_0 ?_
    refine wp_istore (L' := [(4, _), (3, _), (2, _), (0, _), (1, _)]) dX8_safe_15 rfl rfl ?_
    refine wp_drop [3, 4, 2, 1, 0] rfl ?_
    rw [show f_X8_safe σ a = (l_X8_safe_17 (fu 101) a 0 (-1) 0 σ) from by unfold f_X8_safe; rw [if_neg c4_1]]
    exact lt_X8_safe_17 X  (fu 101) a 0 (-1) 0 σ (fu_lt (by decide)) hI
  · refine wp_bipush dX8_safe_7 bp_m2 ?_
    refine wp_ireturn dX8_safe_9 rfl ?_
    exact ⟨by unfold f_X8_safe; rw [if_pos c4_1], rfl⟩
theorem fr_l_X0_begin_52 : ∀ (n : Nat) (c : Int32) (σ : Mem) (q : Nat), q ≠ 24 → (l_X0_begin_52 n c σ) q = σ q := by
  intro n
  induction n with
  | zero => intros; rfl
  | succ n ih =>
    intro c σ q h0
    rw [l_X0_begin_52]
    (repeat' split) <;> simp [ih, mst, h0]
theorem fr_X0_begin (σ : Mem) {q : Nat} (h0 : q ≠ 23) (h1 : q ≠ 24) : (f_X0_begin σ) q = σ q := by
  unfold f_X0_begin
  (repeat' split) <;> simp [mst, fr_l_X0_begin_52, h0, h1]
theorem fr_l_X0_weigh_16 : ∀ (n : Nat) (a : Int32) (b : Int32) (c : Int32) (d : Int32) (σ : Mem) (q : Nat), q ≠ 23 → (l_X0_weigh_16 n a b c d σ) q = σ q := by
  intro n
  induction n with
  | zero => intros; rfl
  | succ n ih =>
    intro a b c d σ q h0
    rw [l_X0_weigh_16]
    (repeat' split) <;> simp [ih, mst, h0]
theorem fr_X0_weigh (σ : Mem) (a : Int32) (b : Int32) {q : Nat} (h0 : q ≠ 23) : (f_X0_weigh σ a b) q = σ q := by
  unfold f_X0_weigh
  (repeat' split) <;> simp [mst, fr_l_X0_weigh_16, h0]
theorem fr_X0_keep (σ : Mem) {q : Nat} (h0 : q ≠ 23) (h1 : q ≠ 25) : (f_X0_keep σ) q = σ q := by simp [f_X0_keep, mst, mcp, h0, h1]
theorem fr_l_X0_stepOn_104 : ∀ (n : Nat) (c : Int32) (d : Int32) (σ : Mem) (q : Nat), q ≠ 24 → (l_X0_stepOn_104 n c d σ).2 q = σ q := by
  intro n
  induction n with
  | zero => intros; rfl
  | succ n ih =>
    intro c d σ q h0
    rw [l_X0_stepOn_104]
    (repeat' split) <;> simp [ih, mst, fr_X0_swap, h0]
theorem fr_l_X0_stepOn_60 : ∀ (n : Nat) (a : Int32) (b : Int32) (σ : Mem) (q : Nat), q ≠ 24 → (l_X0_stepOn_60 n a b σ).2 q = σ q := by
  intro n
  induction n with
  | zero => intros; rfl
  | succ n ih =>
    intro a b σ q h0
    rw [l_X0_stepOn_60]
    (repeat' split) <;> simp [ih, mst, fr_X0_swap, fr_l_X0_stepOn_104, h0]
theorem fr_l_X0_stepOn_7 : ∀ (n : Nat) (a : Int32) (σ : Mem) (q : Nat), q ≠ 24 → (l_X0_stepOn_7 n a σ).2 q = σ q := by
  intro n
  induction n with
  | zero => intros; rfl
  | succ n ih =>
    intro a σ q h0
    rw [l_X0_stepOn_7]
    (repeat' split) <;> simp [ih, mst, fr_l_X0_stepOn_60, h0]
theorem fr_X0_stepOn (σ : Mem) {q : Nat} (h0 : q ≠ 24) : (f_X0_stepOn σ).2 q = σ q := by
  unfold f_X0_stepOn
  (repeat' split) <;> simp [mst, fr_l_X0_stepOn_7, h0]
theorem fr_l_X0_find_22 : ∀ (n : Nat) (a : Int32) (b : Int32) (c : Int32) (d : Int32) (σ : Mem) (q : Nat), q ≠ 23 → q ≠ 24 → q ≠ 25 → (l_X0_find_22 n a b c d σ) q = σ q := by
  intro n
  induction n with
  | zero => intros; rfl
  | succ n ih =>
    intro a b c d σ q h0 h1 h2
    rw [l_X0_find_22]
    (repeat' split) <;> simp [ih, mst, fr_X0_weigh, fr_X0_keep, fr_X0_stepOn, h0, h1, h2]
theorem fr_X0_find (σ : Mem) (a : Int32) (b : Int32) {q : Nat} (h0 : q ≠ 23) (h1 : q ≠ 24) (h2 : q ≠ 25) : (f_X0_find σ a b) q = σ q := by
  unfold f_X0_find
  (repeat' split) <;> simp [mst, fr_X0_begin, fr_l_X0_find_22, h0, h1, h2]
def f_X8_findBestRow (σ : Mem) : Mem := if (σ 0 11) = 0 then (mst (f_X0_find σ (f_X3_at σ 11 0 1 3 0) (f_X3_at σ 13 0 1 3 0)) 0 11 1) else σ
theorem s_X8_findBestRow (X : Amb) (σ : Mem) (hI : CI σ) : SpV X mX8_findBestRow [.ref (adr X 0)] σ (f_X8_findBestRow σ) := by
  refine sp_of (by decide +kernel) rfl ?_
  show WP X mX8_findBestRow 0 [(0, .ref (adr X 0))] [] σ _
  refine wp_aload_n dX8_findBestRow_0 0 rfl ?_
  refine wp_getI dX8_findBestRow_1 faX8_417 rfl rfl ?_
  refine wp_if_ne 39 dX8_findBestRow_4 (by decide) (fun c4_1 => ?_) (fun c4_1 => ?_)
  · refine wp_return dX8_findBestRow_39 rfl ?_
    exact ⟨rfl, by unfold f_X8_findBestRow; rw [if_neg c4_1]⟩
  · refine wp_aload_n dX8_findBestRow_7 0 rfl ?_
    refine wp_getR dX8_findBestRow_8 faX8_79 rfl rfl ?_
    refine wp_aload_n dX8_findBestRow_11 0 rfl ?_
    refine wp_getR dX8_findBestRow_12 faX8_24 rfl rfl ?_
    refine wp_aload_n dX8_findBestRow_15 0 rfl ?_
    refine wp_getR dX8_findBestRow_16 faX8_50 rfl rfl ?_
    refine wp_iconst dX8_findBestRow_19 ic_0 ?_
    refine wp_cV1w (N := mX3_at) dX8_findBestRow_20 tmX8_190 okX3_at rfl rfl rfl rfl rfl rfl rfl rfl (s_X3_at X _ 11 0 1 3 _ dl11) ?_
    refine wp_aload_n dX8_findBestRow_23 0 rfl ?_
    refine wp_getR dX8_findBestRow_24 faX8_54 rfl rfl ?_
    refine wp_iconst dX8_findBestRow_27 ic_0 ?_
    refine wp_cV1w (N := mX3_at) dX8_findBestRow_28 tmX8_190 okX3_at rfl rfl rfl rfl rfl rfl rfl rfl (s_X3_at X _ 13 0 1 3 _ dl13) ?_
    refine wp_cV3v (N := mX0_find) dX8_findBestRow_31 tmX8_421 okX0_find rfl rfl rfl rfl rfl rfl rfl rfl (s_X0_find X _ _ _ (hI).1.1) ?_
    refine wp_aload_n dX8_findBestRow_34 0 rfl ?_
    refine wp_iconst dX8_findBestRow_35 ic_1 ?_
    refine wp_putZ dX8_findBestRow_36 fwX8_417 rfl rfl (Or.inr rfl) ?_
    refine wp_return dX8_findBestRow_39 rfl ?_
    exact ⟨rfl, by unfold f_X8_findBestRow; rw [if_pos c4_1]⟩
theorem fr_X8_findBestRow (σ : Mem) {q : Nat} (h0 : q ≠ 0) (h1 : q ≠ 23) (h2 : q ≠ 24) (h3 : q ≠ 25) : (f_X8_findBestRow σ) q = σ q := by
  unfold f_X8_findBestRow
  (repeat' split) <;> simp [mst, fr_X0_find, h0, h1, h2, h3]
theorem CI_X8_findBestRow {σ : Mem} (hI : CI σ) : CI (f_X8_findBestRow σ) := by
  refine hI.fr (fr_X8_findBestRow σ (by decide) (by decide) (by decide) (by decide)) (fun k hk => ?_)
  rcases hk with rfl | rfl | rfl | rfl <;> exact fr_X8_findBestRow σ (by decide) (by decide) (by decide) (by decide)
def f_X8_order (σ : Mem) (a : Int32) : Int32 × Mem := if a < 0 then ((-2), σ) else if a < 6 then ((f_X0_wagonAt (f_X8_findBestRow σ) a), (f_X8_findBestRow σ)) else ((-2), σ)
theorem s_X8_order (X : Amb) (σ : Mem) (a : Int32) (hI : CI σ) : SpW X mX8_order [.ref (adr X 0), .int a] σ (.int (f_X8_order σ a).1) (f_X8_order σ a).2 := by
  refine sp_of (by decide +kernel) rfl ?_
  show WP X mX8_order 0 [(0, .ref (adr X 0)), (1, .int a)] [] σ _
  refine wp_iload_n dX8_order_0 1 rfl ?_
  refine wp_if_lt 10 dX8_order_1 (by decide) (fun c1_1 => ?_) (fun c1_1 => ?_)
  · refine wp_bipush dX8_order_10 bp_m2 ?_
    refine wp_ireturn dX8_order_12 rfl ?_
    exact ⟨by unfold f_X8_order; rw [if_pos c1_1], by unfold f_X8_order; rw [if_pos c1_1]⟩
  · refine wp_iload_n dX8_order_4 1 rfl ?_
    refine wp_bipush dX8_order_5 bp_6 ?_
    refine wp_icmp_lt 13 dX8_order_7 (by decide) (fun c7_2 => ?_) (fun c7_2 => ?_)
    · refine wp_aload_n dX8_order_13 0 rfl ?_
      refine wp_cV0v (N := mX8_findBestRow) dX8_order_14 tmX8_215 okX8_findBestRow rfl rfl rfl rfl rfl rfl rfl rfl (s_X8_findBestRow X _ hI) ?_
      refine wp_aload_n dX8_order_17 0 rfl ?_
      refine wp_getR dX8_order_18 faX8_79 rfl rfl ?_
      refine wp_iload_n dX8_order_21 1 rfl ?_
      refine wp_cV1w (N := mX0_wagonAt) dX8_order_22 tmX8_218 okX0_wagonAt rfl rfl rfl rfl rfl rfl rfl rfl (s_X0_wagonAt X _ _) ?_
      refine wp_ireturn dX8_order_25 rfl ?_
      exact ⟨by unfold f_X8_order; rw [if_neg c1_1, if_pos c7_2], by unfold f_X8_order; rw [if_neg c1_1, if_pos c7_2]⟩
    · refine wp_bipush dX8_order_10 bp_m2 ?_
      refine wp_ireturn dX8_order_12 rfl ?_
      exact ⟨by unfold f_X8_order; rw [if_neg c1_1, if_neg c7_2], by unfold f_X8_order; rw [if_neg c1_1, if_neg c7_2]⟩
def f_X8_squeeze (σ : Mem) (a : Int32) : Int32 × Mem := if (f_X8_isZeroOrOne σ a) = 0 then ((-2), σ) else ((f_X8_inLowestTerms (f_X8_findBestRow σ) ((f_X0_squeezeAbove (f_X8_findBestRow σ)).toInt64) ((f_X0_squeezeBelow (f_X8_findBestRow σ)).toInt64) a).toInt32, (f_X8_findBestRow σ))
theorem s_X8_squeeze (X : Amb) (σ : Mem) (a : Int32) (hI : CI σ) : SpW X mX8_squeeze [.ref (adr X 0), .int a] σ (.int (f_X8_squeeze σ a).1) (f_X8_squeeze σ a).2 := by
  refine sp_of (by decide +kernel) rfl ?_
  show WP X mX8_squeeze 0 [(0, .ref (adr X 0)), (1, .int a)] [] σ _
  refine wp_iload_n dX8_squeeze_0 1 rfl ?_
  refine wp_cS1w (N := mX8_isZeroOrOne) dX8_squeeze_1 tmX8_132 okX8_isZeroOrOne rfl rfl rfl rfl (s_X8_isZeroOrOne X _ _) ?_
  refine wp_if_ne 10 dX8_squeeze_4 (by decide) (fun c4_1 => ?_) (fun c4_1 => ?_)
  · refine wp_aload_n dX8_squeeze_10 0 rfl ?_
    refine wp_cV0v (N := mX8_findBestRow) dX8_squeeze_11 tmX8_215 okX8_findBestRow rfl rfl rfl rfl rfl rfl rfl rfl (s_X8_findBestRow X _ hI) ?_
    refine wp_aload_n dX8_squeeze_14 0 rfl ?_
    refine wp_getR dX8_squeeze_15 faX8_79 rfl rfl ?_
    refine wp_cV0w (N := mX0_squeezeAbove) dX8_squeeze_18 tmX8_221 okX0_squeezeAbove rfl rfl rfl rfl rfl rfl rfl rfl (s_X0_squeezeAbove X _) ?_
    refine wp_i2l dX8_squeeze_21 ?_
    refine wp_aload_n dX8_squeeze_22 0 rfl ?_
    refine wp_getR dX8_squeeze_23 faX8_79 rfl rfl ?_
    refine wp_cV0w (N := mX0_squeezeBelow) dX8_squeeze_26 tmX8_224 okX0_squeezeBelow rfl rfl rfl rfl rfl rfl rfl rfl (s_X0_squeezeBelow X _) ?_
    refine wp_i2l dX8_squeeze_29 ?_
    refine wp_iload_n dX8_squeeze_30 1 rfl ?_
    refine wp_cS3w (N := mX8_inLowestTerms) dX8_squeeze_31 tmX8_183 okX8_inLowestTerms rfl rfl rfl rfl (s_X8_inLowestTerms X _ _ _ _) ?_
    refine wp_l2i dX8_squeeze_34 ?_
    refine wp_ireturn dX8_squeeze_35 rfl ?_
    exact ⟨by unfold f_X8_squeeze; rw [if_neg c4_1], by unfold f_X8_squeeze; rw [if_neg c4_1]⟩
  · refine wp_bipush dX8_squeeze_7 bp_m2 ?_
    refine wp_ireturn dX8_squeeze_9 rfl ?_
    exact ⟨by unfold f_X8_squeeze; rw [if_pos c4_1], by unfold f_X8_squeeze; rw [if_pos c4_1]⟩
theorem CI_X8_order {σ : Mem} {a : Int32} (hI : CI σ) : CI (f_X8_order σ a).2 := by
  unfold f_X8_order
  (repeat' split) <;> first | exact hI | exact CI_X8_findBestRow hI
theorem CI_X8_squeeze {σ : Mem} {a : Int32} (hI : CI σ) : CI (f_X8_squeeze σ a).2 := by
  unfold f_X8_squeeze
  (repeat' split) <;> first | exact hI | exact CI_X8_findBestRow hI
end
