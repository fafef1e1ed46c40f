noncomputable section
def f_X9_in (σ : Mem) (a : Int64) (b : Int64) (c : Int64) : Int32 := if (lg_cmp a b) < 0 then 0 else if 0 < (lg_cmp a c) then 0 else 1
theorem s_X9_in (X : Amb) (σ : Mem) (a : Int64) (b : Int64) (c : Int64) : SpW X mX9_in [.long a, .long b, .long c] σ (.int (f_X9_in σ a b c)) σ := by
  refine sp_of (by decide +kernel) rfl ?_
  show WP X mX9_in 0 [(0, .long a), (2, .long b), (4, .long c)] [] σ _
  refine wp_lload_n dX9_in_0 0 rfl ?_
  refine wp_lload_n dX9_in_1 1 rfl ?_
  refine wp_lcmp dX9_in_2 ?_
  refine wp_if_lt 17 dX9_in_3 (by decide) (fun c3_1 => ?_) (fun c3_1 => ?_)
  · refine wp_iconst dX9_in_17 ic_0 ?_
    refine wp_zreturn dX9_in_18 rfl (Or.inl rfl) ?_
    exact ⟨by unfold f_X9_in; rw [if_pos c3_1], rfl⟩
  · refine wp_lload_n dX9_in_6 0 rfl ?_
    refine wp_lload dX9_in_7 2 rfl ?_
    refine wp_lcmp dX9_in_9 ?_
    refine wp_if_gt 17 dX9_in_10 (by decide) (fun c10_2 => ?_) (fun c10_2 => ?_)
    · refine wp_iconst dX9_in_17 ic_0 ?_
      refine wp_zreturn dX9_in_18 rfl (Or.inl rfl) ?_
      exact ⟨by unfold f_X9_in; rw [if_neg c3_1, if_pos c10_2], rfl⟩
    · refine wp_iconst dX9_in_13 ic_1 ?_
      refine wp_goto 18 dX9_in_14 (by decide) ?_
      refine wp_zreturn dX9_in_18 rfl (Or.inr rfl) ?_
      exact ⟨by unfold f_X9_in; rw [if_neg c3_1, if_neg c10_2], rfl⟩
theorem z_X9_in (σ : Mem) (a : Int64) (b : Int64) (c : Int64) : (f_X9_in σ a b c) = 0 ∨ (f_X9_in σ a b c) = 1 := by
  unfold f_X9_in; (repeat' split) <;> first | exact Or.inl rfl | exact Or.inr rfl | exact z_X9_in ..
def f_X9_no (σ : Mem) (a : Int32) : Int64 := ((-9223372036854775808) - a.toInt64)
theorem s_X9_no (X : Amb) (σ : Mem) (a : Int32) : SpW X mX9_no [.int a] σ (.long (f_X9_no σ a)) σ := by
  refine sp_of (by decide +kernel) rfl ?_
  show WP X mX9_no 0 [(0, .int a)] [] σ _
  refine wp_ldc2 dX9_no_0 tlX9_71 ?_
  refine wp_iload_n dX9_no_3 0 rfl ?_
  refine wp_i2l dX9_no_4 ?_
  refine wp_lsub dX9_no_5 ?_
  refine wp_lreturn dX9_no_6 rfl ?_
  exact ⟨rfl, rfl⟩
def f_X9_isTwo (σ : Mem) (a : Int32) : Int32 := (f_X9_in σ a.toInt64 0 1)
theorem s_X9_isTwo (X : Amb) (σ : Mem) (a : Int32) : SpW X mX9_isTwo [.int a] σ (.int (f_X9_isTwo σ a)) σ := by
  refine sp_of (by decide +kernel) rfl ?_
  show WP X mX9_isTwo 0 [(0, .int a)] [] σ _
  refine wp_iload_n dX9_isTwo_0 0 rfl ?_
  refine wp_i2l dX9_isTwo_1 ?_
  refine wp_lconst dX9_isTwo_2 lc_0 ?_
  refine wp_lconst dX9_isTwo_3 lc_1 ?_
  refine wp_cS3w (N := mX9_in) dX9_isTwo_4 tmX9_73 okX9_in rfl rfl rfl rfl (s_X9_in X _ _ _ _) ?_
  refine wp_zreturn dX9_isTwo_7 rfl (z_X9_in ..) ?_
  exact ⟨rfl, rfl⟩
theorem z_X9_isTwo (σ : Mem) (a : Int32) : (f_X9_isTwo σ a) = 0 ∨ (f_X9_isTwo σ a) = 1 := by
  unfold f_X9_isTwo; (repeat' split) <;> first | exact Or.inl rfl | exact Or.inr rfl | exact z_X9_in ..
def f_X9_lesser (σ : Mem) (a : Int32) (b : Int32) : Int32 := if b ≤ a then b else a
theorem s_X9_lesser (X : Amb) (σ : Mem) (a : Int32) (b : Int32) : SpW X mX9_lesser [.int a, .int b] σ (.int (f_X9_lesser σ a b)) σ := by
  refine sp_of (by decide +kernel) rfl ?_
  show WP X mX9_lesser 0 [(0, .int a), (1, .int b)] [] σ _
  refine wp_iload_n dX9_lesser_0 0 rfl ?_
  refine wp_iload_n dX9_lesser_1 1 rfl ?_
  refine wp_icmp_ge 9 dX9_lesser_2 (by decide) (fun c2_1 => ?_) (fun c2_1 => ?_)
  · refine wp_iload_n dX9_lesser_9 1 rfl ?_
    refine wp_ireturn dX9_lesser_10 rfl ?_
    exact ⟨by unfold f_X9_lesser; rw [if_pos c2_1], rfl⟩
  · refine wp_iload_n dX9_lesser_5 0 rfl ?_
    refine wp_goto 10 dX9_lesser_6 (by decide) ?_
    refine wp_ireturn dX9_lesser_10 rfl ?_
    exact ⟨by unfold f_X9_lesser; rw [if_neg c2_1], rfl⟩
def f_X9_greater (σ : Mem) (a : Int32) (b : Int32) : Int32 := if a ≤ b then b else a
theorem s_X9_greater (X : Amb) (σ : Mem) (a : Int32) (b : Int32) : SpW X mX9_greater [.int a, .int b] σ (.int (f_X9_greater σ a b)) σ := by
  refine sp_of (by decide +kernel) rfl ?_
  show WP X mX9_greater 0 [(0, .int a), (1, .int b)] [] σ _
  refine wp_iload_n dX9_greater_0 0 rfl ?_
  refine wp_iload_n dX9_greater_1 1 rfl ?_
  refine wp_icmp_le 9 dX9_greater_2 (by decide) (fun c2_1 => ?_) (fun c2_1 => ?_)
  · refine wp_iload_n dX9_greater_9 1 rfl ?_
    refine wp_ireturn dX9_greater_10 rfl ?_
    exact ⟨by unfold f_X9_greater; rw [if_pos c2_1], rfl⟩
  · refine wp_iload_n dX9_greater_5 0 rfl ?_
    refine wp_goto 10 dX9_greater_6 (by decide) ?_
    refine wp_ireturn dX9_greater_10 rfl ?_
    exact ⟨by unfold f_X9_greater; rw [if_neg c2_1], rfl⟩
def f_X9_within (σ : Mem) (a : Int32) (b : Int32) : Int32 := if 0 ≤ a then (f_X9_lesser σ a b) else 0
theorem s_X9_within (X : Amb) (σ : Mem) (a : Int32) (b : Int32) : SpW X mX9_within [.int a, .int b] σ (.int (f_X9_within σ a b)) σ := by
  refine sp_of (by decide +kernel) rfl ?_
  show WP X mX9_within 0 [(0, .int a), (1, .int b)] [] σ _
  refine wp_iload_n dX9_within_0 0 rfl ?_
  refine wp_if_ge 8 dX9_within_1 (by decide) (fun c1_1 => ?_) (fun c1_1 => ?_)
  · refine wp_iload_n dX9_within_8 0 rfl ?_
    refine wp_iload_n dX9_within_9 1 rfl ?_
    refine wp_cS2w (N := mX9_lesser) dX9_within_10 tmX9_77 okX9_lesser rfl rfl rfl rfl (s_X9_lesser X _ _ _) ?_
    refine wp_ireturn dX9_within_13 rfl ?_
    exact ⟨by unfold f_X9_within; rw [if_pos c1_1], rfl⟩
  · refine wp_iconst dX9_within_4 ic_0 ?_
    refine wp_goto 13 dX9_within_5 (by decide) ?_
    refine wp_ireturn dX9_within_13 rfl ?_
    exact ⟨by unfold f_X9_within; rw [if_neg c1_1], rfl⟩
def f_X9_isSheet (σ : Mem) (a : Int32) : Int32 := (f_X9_in σ a.toInt64 0 3)
theorem s_X9_isSheet (X : Amb) (σ : Mem) (a : Int32) : SpW X mX9_isSheet [.int a] σ (.int (f_X9_isSheet σ a)) σ := by
  refine sp_of (by decide +kernel) rfl ?_
  show WP X mX9_isSheet 0 [(0, .int a)] [] σ _
  refine wp_iload_n dX9_isSheet_0 0 rfl ?_
  refine wp_i2l dX9_isSheet_1 ?_
  refine wp_lconst dX9_isSheet_2 lc_0 ?_
  refine wp_ldc2 dX9_isSheet_3 tlX9_85 ?_
  refine wp_cS3w (N := mX9_in) dX9_isSheet_6 tmX9_73 okX9_in rfl rfl rfl rfl (s_X9_in X _ _ _ _) ?_
  refine wp_zreturn dX9_isSheet_9 rfl (z_X9_in ..) ?_
  exact ⟨rfl, rfl⟩
theorem z_X9_isSheet (σ : Mem) (a : Int32) : (f_X9_isSheet σ a) = 0 ∨ (f_X9_isSheet σ a) = 1 := by
  unfold f_X9_isSheet; (repeat' split) <;> first | exact Or.inl rfl | exact Or.inr rfl | exact z_X9_in ..
def f_X9_cut (σ : Mem) (a : Int32) (b : Int32) : Int32 := if a = 0 then b.toInt8.toInt32 else if a = 1 then b.toInt16.toInt32 else b
theorem s_X9_cut (X : Amb) (σ : Mem) (a : Int32) (b : Int32) : SpW X mX9_cut [.int a, .int b] σ (.int (f_X9_cut σ a b)) σ := by
  refine sp_of (by decide +kernel) rfl ?_
  show WP X mX9_cut 0 [(0, .int a), (1, .int b)] [] σ _
  refine wp_iload_n dX9_cut_0 0 rfl ?_
  refine wp_if_ne 9 dX9_cut_1 (by decide) (fun c1_1 => ?_) (fun c1_1 => ?_)
  · refine wp_iload_n dX9_cut_9 0 rfl ?_
    refine wp_iconst dX9_cut_10 ic_1 ?_
    refine wp_icmp_ne 19 dX9_cut_11 (by decide) (fun c11_2 => ?_) (fun c11_2 => ?_)
    · refine wp_iload_n dX9_cut_19 1 rfl ?_
      refine wp_ireturn dX9_cut_20 rfl ?_
      exact ⟨by unfold f_X9_cut; rw [if_neg c1_1, if_neg c11_2], rfl⟩
    · refine wp_iload_n dX9_cut_14 1 rfl ?_
      refine wp_i2s dX9_cut_15 ?_
      refine wp_goto 20 dX9_cut_16 (by decide) ?_
      refine wp_ireturn dX9_cut_20 rfl ?_
      exact ⟨by unfold f_X9_cut; rw [if_neg c1_1, if_pos c11_2], rfl⟩
  · refine wp_iload_n dX9_cut_4 1 rfl ?_
    refine wp_i2b dX9_cut_5 ?_
    refine wp_goto 20 dX9_cut_6 (by decide) ?_
    refine wp_ireturn dX9_cut_20 rfl ?_
    exact ⟨by unfold f_X9_cut; rw [if_pos c1_1], rfl⟩
def f_X9_isMinute (σ : Mem) (a : Int32) : Int32 := (f_X9_in σ a.toInt64 0 39)
theorem s_X9_isMinute (X : Amb) (σ : Mem) (a : Int32) : SpW X mX9_isMinute [.int a] σ (.int (f_X9_isMinute σ a)) σ := by
  refine sp_of (by decide +kernel) rfl ?_
  show WP X mX9_isMinute 0 [(0, .int a)] [] σ _
  refine wp_iload_n dX9_isMinute_0 0 rfl ?_
  refine wp_i2l dX9_isMinute_1 ?_
  refine wp_lconst dX9_isMinute_2 lc_0 ?_
  refine wp_ldc2 dX9_isMinute_3 tlX9_150 ?_
  refine wp_cS3w (N := mX9_in) dX9_isMinute_6 tmX9_73 okX9_in rfl rfl rfl rfl (s_X9_in X _ _ _ _) ?_
  refine wp_zreturn dX9_isMinute_9 rfl (z_X9_in ..) ?_
  exact ⟨rfl, rfl⟩
theorem z_X9_isMinute (σ : Mem) (a : Int32) : (f_X9_isMinute σ a) = 0 ∨ (f_X9_isMinute σ a) = 1 := by
  unfold f_X9_isMinute; (repeat' split) <;> first | exact Or.inl rfl | exact Or.inr rfl | exact z_X9_in ..
def l_X9_part_17 : Nat → Int64 → Int64 → Int32 → Int64 → Int64 → Mem → Int64
  | 0, _, _, _, _, _, σ => 0
  | n + 1, a, b, c, d, e, σ => if (lg_cmp e 0) = 0 then if c = 0 then (a / d) else (b / d) else (l_X9_part_17 n a b c e (d - d / e * e) σ)
def bl_X9_part_17 : Nat → Int64 → Int64 → Int32 → Int64 → Int64 → Mem → Prop
  | 0, _, _, _, _, _, _ => False
  | n + 1, a, b, c, d, e, σ => if (lg_cmp e 0) = 0 then if c = 0 then (¬ d = 0) ∧ (True) else (¬ d = 0) ∧ (True) else (¬ e = 0) ∧ ((bl_X9_part_17 n a b c e (d - d / e * e) σ))
theorem lt_X9_part_17 (X : Amb) : ∀ (n : Nat) (a : Int64) (b : Int64) (c : Int32) (d : Int64) (e : Int64) (σ : Mem), bl_X9_part_17 n a b c d e σ → WP X mX9_part 17 [(0, .long a), (2, .long b), (4, .int c), (5, .long d), (7, .long e)] [] σ (fun v σ' => v = some (.long (l_X9_part_17 n a b c d e σ)) ∧ σ' = σ) := by
  intro n
  induction n with
  | zero => intro a b c d e σ hb; exact hb.elim
  | succ n ih =>
    intro a b c d e σ hb
    rw [bl_X9_part_17] at hb
    refine wp_lload dX9_part_17 4 rfl ?_
    refine wp_lconst dX9_part_19 lc_0 ?_
    refine wp_lcmp dX9_part_20 ?_
    refine wp_if_eq 42 dX9_part_21 (by decide) (fun c21_1 => ?_) (fun c21_1 => ?_)
    · rw [if_pos c21_1] at hb
      refine wp_iload dX9_part_42 2 rfl ?_
      refine wp_if_ne 51 dX9_part_44 (by decide) (fun c44_2 => ?_) (fun c44_2 => ?_)
      · rw [if_neg c44_2] at hb
        refine wp_lload_n dX9_part_51 1 rfl ?_
        refine wp_lload dX9_part_52 3 rfl ?_
        obtain ⟨x3, hb⟩ := hb
        refine wp_ldiv dX9_part_54 x3 ?_
        refine wp_lreturn dX9_part_55 rfl ?_
        exact ⟨by rw [l_X9_part_17, if_pos c21_1, if_neg c44_2], rfl⟩
      · rw [if_pos c44_2] at hb
        refine wp_lload_n dX9_part_47 0 rfl ?_
        refine wp_goto 52 dX9_part_48 (by decide) ?_
        refine wp_lload dX9_part_52 3 rfl ?_
        obtain ⟨x4, hb⟩ := hb
        refine wp_ldiv dX9_part_54 x4 ?_
        refine wp_lreturn dX9_part_55 rfl ?_
        exact ⟨by rw [l_X9_part_17, if_pos c21_1, if_pos c44_2], rfl⟩
    · rw [if_neg c21_1] at hb
      refine wp_lload dX9_part_24 3 rfl ?_
      refine wp_lload dX9_part_26 4 rfl ?_
      obtain ⟨x5, hb⟩ := hb
      refine wp_lrem dX9_part_28 x5 ?_
      refine wp_lstore (L' := [(9, _), (0, _), (2, _), (4, _), (5, _), (7, _)]) dX9_part_29 rfl rfl ?_
      refine wp_lload dX9_part_31 5 rfl ?_
      refine wp_lstore (L' := [(5, _), (9, _), (0, _), (2, _), (4, _), (7, _)]) dX9_part_33 rfl rfl ?_
      refine wp_lload dX9_part_35 1 rfl ?_
      refine wp_lstore (L' := [(7, _), (5, _), (9, _), (0, _), (2, _), (4, _)]) dX9_part_37 rfl rfl ?_
      refine wp_goto 17 dX9_part_39 (by decide) ?_
      refine wp_drop [3, 4, 5, 1, 0] rfl ?_
      rw [show l_X9_part_17 (n + 1) a b c d e σ = (l_X9_part_17 n a b c e (d - d / e * e) σ) from by rw [l_X9_part_17, if_neg c21_1]]
      exact ih _ _ _ _ _ _ hb
def f_X9_part (σ : Mem) (a : Int64) (b : Int64) (c : Int32) : Int64 := if 0 ≤ (lg_cmp a 0) then (l_X9_part_17 (fu 200) a b c a b σ) else (l_X9_part_17 (fu 200) a b c (-a) b σ)
def b_X9_part (σ : Mem) (a : Int64) (b : Int64) (c : Int32) : Prop := if 0 ≤ (lg_cmp a 0) then (bl_X9_part_17 (fu 200) a b c a b σ) else (bl_X9_part_17 (fu 200) a b c (-a) b σ)
theorem s_X9_part (X : Amb) (σ : Mem) (a : Int64) (b : Int64) (c : Int32) (hb : b_X9_part σ a b c) : SpW X mX9_part [.long a, .long b, .int c] σ (.long (f_X9_part σ a b c)) σ := by
  unfold b_X9_part at hb
  refine sp_of (by decide +kernel) rfl ?_
  show WP X mX9_part 0 [(0, .long a), (2, .long b), (4, .int c)] [] σ _
  refine wp_lload_n dX9_part_0 0 rfl ?_
  refine wp_lconst dX9_part_1 lc_0 ?_
  refine wp_lcmp dX9_part_2 ?_
  refine wp_if_ge 11 dX9_part_3 (by decide) (fun c3_1 => ?_) (fun c3_1 => ?_)
  · rw [if_pos c3_1] at hb
    refine wp_lload_n dX9_part_11 0 rfl ?_
    refine wp_lstore (L' := [(5, _), (0, _), (2, _), (4, _)]) dX9_part_12 rfl rfl ?_
    refine wp_lload_n dX9_part_14 2 rfl ?_
    refine wp_lstore (L' := [(7, _), (5, _), (0, _), (2, _), (4, _)]) dX9_part_15 rfl rfl ?_
    refine wp_drop [2, 3, 4, 1, 0] rfl ?_
    rw [show f_X9_part σ a b c = (l_X9_part_17 (fu 200) a b c a b σ) from by unfold f_X9_part; rw [if_pos c3_1]]
    exact lt_X9_part_17 X (fu 200) a b c a b σ hb
  · rw [if_neg c3_1] at hb
    refine wp_lload_n dX9_part_6 0 rfl ?_
    refine wp_lneg dX9_part_7 ?_
    refine wp_goto 12 dX9_part_8 (by decide) ?_
    refine wp_lstore (L' := [(5, _), (0, _), (2, _), (4, _)]) dX9_part_12 rfl rfl ?_
    refine wp_lload_n dX9_part_14 2 rfl ?_
    refine wp_lstore (L' := [(7, _), (5, _), (0, _), (2, _), (4, _)]) dX9_part_15 rfl rfl ?_
    refine wp_drop [2, 3, 4, 1, 0] rfl ?_
    rw [show f_X9_part σ a b c = (l_X9_part_17 (fu 200) a b c (-a) b σ) from by unfold f_X9_part; rw [if_neg c3_1]]
    exact lt_X9_part_17 X (fu 200) a b c (-a) b σ hb
def f_X9_met (σ : Mem) (a : Int32) : Int32 × Mem := (((-10) - a), (mst σ 0 4 a))
theorem s_X9_met (X : Amb) (σ : Mem) (a : Int32) : SpW X mX9_met [.ref (adr X 0), .int a] σ (.int (f_X9_met σ a).1) (f_X9_met σ a).2 := by
  refine sp_of (by decide +kernel) rfl ?_
  show WP X mX9_met 0 [(0, .ref (adr X 0)), (1, .int a)] [] σ _
  refine wp_aload_n dX9_met_0 0 rfl ?_
  refine wp_iload_n dX9_met_1 1 rfl ?_
  refine wp_putI dX9_met_2 fwX9_81 rfl rfl ?_
  refine wp_bipush dX9_met_5 bp_m10 ?_
  refine wp_iload_n dX9_met_7 1 rfl ?_
  refine wp_isub dX9_met_8 ?_
  refine wp_ireturn dX9_met_9 rfl ?_
  exact ⟨rfl, rfl⟩
def l_X9_sheet_55 : Nat → Int32 → Int32 → Int32 → Int32 → Mem → Int32 × Mem
  | 0, _, _, _, _, σ => (0, σ)
  | n + 1, a, b, c, d, σ => if c ≤ d then (c, σ) else (l_X9_sheet_55 n a b c (d + 1) (mst σ 3 (((60 * a) + d).toNatClampNeg) 0))
def bl_X9_sheet_55 : Nat → Int32 → Int32 → Int32 → Int32 → Mem → Prop
  | 0, _, _, _, _, _ => False
  | n + 1, a, b, c, d, σ => if c ≤ d then True else (vp_in ((60 * a) + d) 240) ∧ ((bl_X9_sheet_55 n a b c (d + 1) (mst σ 3 (((60 * a) + d).toNatClampNeg) 0)))
theorem lt_X9_sheet_55 (X : Amb) : ∀ (n : Nat) (a : Int32) (b : Int32) (c : Int32) (d : Int32) (σ : Mem), bl_X9_sheet_55 n a b c d σ → WP X mX9_sheet 55 [(0, .ref (adr X 0)), (1, .int a), (2, .int b), (3, .int c), (4, .int d)] [] σ (fun v σ' => v = some (.int (l_X9_sheet_55 n a b c d σ).1) ∧ σ' = (l_X9_sheet_55 n a b c d σ).2) := by
  intro n
  induction n with
  | zero => intro a b c d σ hb; exact hb.elim
  | succ n ih =>
    intro a b c d σ hb
    rw [bl_X9_sheet_55] at hb
    refine wp_iload dX9_sheet_55 4 rfl ?_
    refine wp_iload_n dX9_sheet_57 3 rfl ?_
    refine wp_icmp_ge 80 dX9_sheet_58 (by decide) (fun c58_1 => ?_) (fun c58_1 => ?_)
    · rw [if_pos c58_1] at hb
      refine wp_iload_n dX9_sheet_80 3 rfl ?_
      refine wp_ireturn dX9_sheet_81 rfl ?_
      exact ⟨by rw [l_X9_sheet_55, if_pos c58_1], by rw [l_X9_sheet_55, if_pos c58_1]⟩
    · rw [if_neg c58_1] at hb
      refine wp_aload_n dX9_sheet_61 0 rfl ?_
      refine wp_getR dX9_sheet_62 faX9_16 rfl rfl ?_
      refine wp_bipush dX9_sheet_65 bp_60 ?_
      refine wp_iload_n dX9_sheet_67 1 rfl ?_
      refine wp_imul dX9_sheet_68 ?_
      refine wp_iload dX9_sheet_69 4 rfl ?_
      refine wp_iadd dX9_sheet_71 ?_
      refine wp_iconst dX9_sheet_72 ic_0 ?_
      obtain ⟨x2, hb⟩ := hb
      refine wp_iast dX9_sheet_73 rfl x2 ?_
      refine wp_iinc (L' := [(4, _), (0, _), (1, _), (2, _), (3, _)]) dX9_sheet_74 rfl 4 rfl (ii_1 _) rfl ?_
      refine wp_goto 55 dX9_sheet_77 (by decide) ?_
      refine wp_drop [1, 2, 3, 4, 0] rfl ?_
      rw [show l_X9_sheet_55 (n + 1) a b c d σ = (l_X9_sheet_55 n a b c (d + 1) (mst σ 3 (((60 * a) + d).toNatClampNeg) 0)) from by rw [l_X9_sheet_55, if_neg c58_1]]
      exact ih _ _ _ _ _ hb
def f_X9_sheet (σ : Mem) (a : Int32) (b : Int32) (c : Int32) : Int32 × Mem := if (f_X9_isSheet σ a) = 0 then ((-2), σ) else if (f_X9_in σ b.toInt64 0 2) = 0 then ((-2), σ) else if c ≤ 60 then if 0 ≤ c then (l_X9_sheet_55 (fu 61) a b c 0 (mst (mst σ 1 (a.toNatClampNeg) b) 2 (a.toNatClampNeg) c)) else ((f_X9_met σ 5).1, (f_X9_met σ 5).2) else ((-2), σ)
def b_X9_sheet (σ : Mem) (a : Int32) (b : Int32) (c : Int32) : Prop := if (f_X9_isSheet σ a) = 0 then True else if (f_X9_in σ b.toInt64 0 2) = 0 then True else if c ≤ 60 then if 0 ≤ c then (vp_in a 4) ∧ ((vp_in a 4) ∧ ((bl_X9_sheet_55 (fu 61) a b c 0 (mst (mst σ 1 (a.toNatClampNeg) b) 2 (a.toNatClampNeg) c)))) else True else True
theorem s_X9_sheet (X : Amb) (σ : Mem) (a : Int32) (b : Int32) (c : Int32) (hb : b_X9_sheet σ a b c) : SpW X mX9_sheet [.ref (adr X 0), .int a, .int b, .int c] σ (.int (f_X9_sheet σ a b c).1) (f_X9_sheet σ a b c).2 := by
  unfold b_X9_sheet at hb
  refine sp_of (by decide +kernel) rfl ?_
  show WP X mX9_sheet 0 [(0, .ref (adr X 0)), (1, .int a), (2, .int b), (3, .int c)] [] σ _
  refine wp_iload_n dX9_sheet_0 1 rfl ?_
  refine wp_cS1w (N := mX9_isSheet) dX9_sheet_1 tmX9_87 okX9_isSheet rfl rfl rfl rfl (s_X9_isSheet X _ _) ?_
  refine wp_if_eq 25 dX9_sheet_4 (by decide) (fun c4_1 => ?_) (fun c4_1 => ?_)
  · rw [if_pos c4_1] at hb
    refine wp_bipush dX9_sheet_25 bp_m2 ?_
    refine wp_ireturn dX9_sheet_27 rfl ?_
    exact ⟨by unfold f_X9_sheet; rw [if_pos c4_1], by unfold f_X9_sheet; rw [if_pos c4_1]⟩
  · rw [if_neg c4_1] at hb
    refine wp_iload_n dX9_sheet_7 2 rfl ?_
    refine wp_i2l dX9_sheet_8 ?_
    refine wp_lconst dX9_sheet_9 lc_0 ?_
    refine wp_ldc2 dX9_sheet_10 tlX9_91 ?_
    refine wp_cS3w (N := mX9_in) dX9_sheet_13 tmX9_73 okX9_in rfl rfl rfl rfl (s_X9_in X _ _ _ _) ?_
    refine wp_if_eq 25 dX9_sheet_16 (by decide) (fun c16_2 => ?_) (fun c16_2 => ?_)
    · rw [if_pos c16_2] at hb
      refine wp_bipush dX9_sheet_25 bp_m2 ?_
      refine wp_ireturn dX9_sheet_27 rfl ?_
      exact ⟨by unfold f_X9_sheet; rw [if_neg c4_1, if_pos c16_2], by unfold f_X9_sheet; rw [if_neg c4_1, if_pos c16_2]⟩
    · rw [if_neg c16_2] at hb
      refine wp_iload_n dX9_sheet_19 3 rfl ?_
      refine wp_bipush dX9_sheet_20 bp_60 ?_
      refine wp_icmp_le 28 dX9_sheet_22 (by decide) (fun c22_3 => ?_) (fun c22_3 => ?_)
      · rw [if_pos c22_3] at hb
        refine wp_iload_n dX9_sheet_28 3 rfl ?_
        refine wp_if_ge 38 dX9_sheet_29 (by decide) (fun c29_4 => ?_) (fun c29_4 => ?_)
        · rw [if_pos c29_4] at hb
          refine wp_aload_n dX9_sheet_38 0 rfl ?_
          refine wp_getR dX9_sheet_39 faX9_7 rfl rfl ?_
          refine wp_iload_n dX9_sheet_42 1 rfl ?_
          refine wp_iload_n dX9_sheet_43 2 rfl ?_
          obtain ⟨x5, hb⟩ := hb
          refine wp_iast dX9_sheet_44 rfl x5 ?_
          refine wp_aload_n dX9_sheet_45 0 rfl ?_
          refine wp_getR dX9_sheet_46 faX9_13 rfl rfl ?_
          refine wp_iload_n dX9_sheet_49 1 rfl ?_
          refine wp_iload_n dX9_sheet_50 3 rfl ?_
          obtain ⟨x6, hb⟩ := hb
          refine wp_iast dX9_sheet_51 rfl x6 ?_
          refine wp_iconst dX9_sheet_52 ic_0 ?_
          refine wp_istore (L' := [(4, _), (0, _), (1, _), (2, _), (3, _)]) dX9_sheet_53 rfl rfl ?_
          refine wp_drop [1, 2, 3, 4, 0] rfl ?_
          rw [show f_X9_sheet σ a b c = (l_X9_sheet_55 (fu 61) a b c 0 (mst (mst σ 1 (a.toNatClampNeg) b) 2 (a.toNatClampNeg) c)) from by unfold f_X9_sheet; rw [if_neg c4_1, if_neg c16_2, if_pos c22_3, if_pos c29_4]]
          exact lt_X9_sheet_55 X (fu 61) a b c 0 (mst (mst σ 1 (a.toNatClampNeg) b) 2 (a.toNatClampNeg) c) hb
        · rw [if_neg c29_4] at hb
          refine wp_aload_n dX9_sheet_32 0 rfl ?_
          refine wp_iconst dX9_sheet_33 ic_5 ?_
          refine wp_cV1w (N := mX9_met) dX9_sheet_34 tmX9_93 okX9_met rfl rfl rfl rfl rfl rfl rfl rfl (s_X9_met X _ _) ?_
          refine wp_ireturn dX9_sheet_37 rfl ?_
          exact ⟨by unfold f_X9_sheet; rw [if_neg c4_1, if_neg c16_2, if_pos c22_3, if_neg c29_4], by unfold f_X9_sheet; rw [if_neg c4_1, if_neg c16_2, if_pos c22_3, if_neg c29_4]⟩
      · rw [if_neg c22_3] at hb
        refine wp_bipush dX9_sheet_25 bp_m2 ?_
        refine wp_ireturn dX9_sheet_27 rfl ?_
        exact ⟨by unfold f_X9_sheet; rw [if_neg c4_1, if_neg c16_2, if_neg c22_3], by unfold f_X9_sheet; rw [if_neg c4_1, if_neg c16_2, if_neg c22_3]⟩
def f_X9_lose (σ : Mem) (a : Int32) : Int32 × Mem := if (f_X9_isSheet σ a) = 0 then ((-2), σ) else if 0 ≤ (σ 1 (a.toNatClampNeg)) then ((σ 2 (a.toNatClampNeg)), (mst σ 1 (a.toNatClampNeg) (-1))) else ((f_X9_met σ 1).1, (f_X9_met σ 1).2)
def b_X9_lose (σ : Mem) (a : Int32) : Prop := if (f_X9_isSheet σ a) = 0 then True else (vp_in a 4) ∧ (if 0 ≤ (σ 1 (a.toNatClampNeg)) then (vp_in a 4) ∧ ((vp_in a 4) ∧ (True)) else True)
theorem s_X9_lose (X : Amb) (σ : Mem) (a : Int32) (hb : b_X9_lose σ a) : SpW X mX9_lose [.ref (adr X 0), .int a] σ (.int (f_X9_lose σ a).1) (f_X9_lose σ a).2 := by
  unfold b_X9_lose at hb
  refine sp_of (by decide +kernel) rfl ?_
  show WP X mX9_lose 0 [(0, .ref (adr X 0)), (1, .int a)] [] σ _
  refine wp_iload_n dX9_lose_0 1 rfl ?_
  refine wp_cS1w (N := mX9_isSheet) dX9_lose_1 tmX9_87 okX9_isSheet rfl rfl rfl rfl (s_X9_isSheet X _ _) ?_
  refine wp_if_ne 10 dX9_lose_4 (by decide) (fun c4_1 => ?_) (fun c4_1 => ?_)
  · rw [if_neg c4_1] at hb
    refine wp_aload_n dX9_lose_10 0 rfl ?_
    refine wp_getR dX9_lose_11 faX9_7 rfl rfl ?_
    refine wp_iload_n dX9_lose_14 1 rfl ?_
    obtain ⟨x2, hb⟩ := hb
    refine wp_iald dX9_lose_15 rfl x2 ?_
    refine wp_if_ge 25 dX9_lose_16 (by decide) (fun c16_3 => ?_) (fun c16_3 => ?_)
    · rw [if_pos c16_3] at hb
      refine wp_aload_n dX9_lose_25 0 rfl ?_
      refine wp_getR dX9_lose_26 faX9_7 rfl rfl ?_
      refine wp_iload_n dX9_lose_29 1 rfl ?_
      refine wp_iconst dX9_lose_30 ic_m1 ?_
      obtain ⟨x4, hb⟩ := hb
      refine wp_iast dX9_lose_31 rfl x4 ?_
      refine wp_aload_n dX9_lose_32 0 rfl ?_
      refine wp_getR dX9_lose_33 faX9_13 rfl rfl ?_
      refine wp_iload_n dX9_lose_36 1 rfl ?_
      obtain ⟨x5, hb⟩ := hb
      refine wp_iald dX9_lose_37 rfl x5 ?_
      refine wp_topi (y := (σ 2 (a.toNatClampNeg))) rfl ?_
      refine wp_ireturn dX9_lose_38 rfl ?_
      exact ⟨by unfold f_X9_lose; rw [if_neg c4_1, if_pos c16_3], by unfold f_X9_lose; rw [if_neg c4_1, if_pos c16_3]⟩
    · rw [if_neg c16_3] at hb
      refine wp_aload_n dX9_lose_19 0 rfl ?_
      refine wp_iconst dX9_lose_20 ic_1 ?_
      refine wp_cV1w (N := mX9_met) dX9_lose_21 tmX9_93 okX9_met rfl rfl rfl rfl rfl rfl rfl rfl (s_X9_met X _ _) ?_
      refine wp_ireturn dX9_lose_24 rfl ?_
      exact ⟨by unfold f_X9_lose; rw [if_neg c4_1, if_neg c16_3], by unfold f_X9_lose; rw [if_neg c4_1, if_neg c16_3]⟩
  · rw [if_pos c4_1] at hb
    refine wp_bipush dX9_lose_7 bp_m2 ?_
    refine wp_ireturn dX9_lose_9 rfl ?_
    exact ⟨by unfold f_X9_lose; rw [if_pos c4_1], by unfold f_X9_lose; rw [if_pos c4_1]⟩
def f_X9_lacks (σ : Mem) (a : Int32) (b : Int32) (c : Int32) : Int32 × Mem := if 0 ≤ (σ 1 (a.toNatClampNeg)) then if (σ 1 (a.toNatClampNeg)) = b then if (f_X9_in σ c.toInt64 0 (((σ 2 (a.toNatClampNeg)) - 1).toInt64)) = 0 then ((f_X9_met σ 2).1, (f_X9_met σ 2).2) else (0, σ) else ((f_X9_met σ 3).1, (f_X9_met σ 3).2) else ((f_X9_met σ 1).1, (f_X9_met σ 1).2)
def b_X9_lacks (σ : Mem) (a : Int32) (b : Int32) (c : Int32) : Prop := (vp_in a 4) ∧ (if 0 ≤ (σ 1 (a.toNatClampNeg)) then (vp_in a 4) ∧ (if (σ 1 (a.toNatClampNeg)) = b then (vp_in a 4) ∧ (if (f_X9_in σ c.toInt64 0 (((σ 2 (a.toNatClampNeg)) - 1).toInt64)) = 0 then True else True) else True) else True)
theorem s_X9_lacks (X : Amb) (σ : Mem) (a : Int32) (b : Int32) (c : Int32) (hb : b_X9_lacks σ a b c) : SpW X mX9_lacks [.ref (adr X 0), .int a, .int b, .int c] σ (.int (f_X9_lacks σ a b c).1) (f_X9_lacks σ a b c).2 := by
  unfold b_X9_lacks at hb
  refine sp_of (by decide +kernel) rfl ?_
  show WP X mX9_lacks 0 [(0, .ref (adr X 0)), (1, .int a), (2, .int b), (3, .int c)] [] σ _
  refine wp_aload_n dX9_lacks_0 0 rfl ?_
  refine wp_getR dX9_lacks_1 faX9_7 rfl rfl ?_
  refine wp_iload_n dX9_lacks_4 1 rfl ?_
  obtain ⟨x1, hb⟩ := hb
  refine wp_iald dX9_lacks_5 rfl x1 ?_
  refine wp_if_ge 15 dX9_lacks_6 (by decide) (fun c6_2 => ?_) (fun c6_2 => ?_)
  · rw [if_pos c6_2] at hb
    refine wp_aload_n dX9_lacks_15 0 rfl ?_
    refine wp_getR dX9_lacks_16 faX9_7 rfl rfl ?_
    refine wp_iload_n dX9_lacks_19 1 rfl ?_
    obtain ⟨x3, hb⟩ := hb
    refine wp_iald dX9_lacks_20 rfl x3 ?_
    refine wp_iload_n dX9_lacks_21 2 rfl ?_
    refine wp_icmp_eq 31 dX9_lacks_22 (by decide) (fun c22_4 => ?_) (fun c22_4 => ?_)
    · rw [if_pos c22_4] at hb
      refine wp_iload_n dX9_lacks_31 3 rfl ?_
      refine wp_i2l dX9_lacks_32 ?_
      refine wp_lconst dX9_lacks_33 lc_0 ?_
      refine wp_aload_n dX9_lacks_34 0 rfl ?_
      refine wp_getR dX9_lacks_35 faX9_13 rfl rfl ?_
      refine wp_iload_n dX9_lacks_38 1 rfl ?_
      obtain ⟨x5, hb⟩ := hb
      refine wp_iald dX9_lacks_39 rfl x5 ?_
      refine wp_iconst dX9_lacks_40 ic_1 ?_
      refine wp_isub dX9_lacks_41 ?_
      refine wp_i2l dX9_lacks_42 ?_
      refine wp_cS3w (N := mX9_in) dX9_lacks_43 tmX9_73 okX9_in rfl rfl rfl rfl (s_X9_in X _ _ _ _) ?_
      refine wp_if_eq 53 dX9_lacks_46 (by decide) (fun c46_6 => ?_) (fun c46_6 => ?_)
      · rw [if_pos c46_6] at hb
        refine wp_aload_n dX9_lacks_53 0 rfl ?_
        refine wp_iconst dX9_lacks_54 ic_2 ?_
        refine wp_cV1w (N := mX9_met) dX9_lacks_55 tmX9_93 okX9_met rfl rfl rfl rfl rfl rfl rfl rfl (s_X9_met X _ _) ?_
        refine wp_ireturn dX9_lacks_58 rfl ?_
        exact ⟨by unfold f_X9_lacks; rw [if_pos c6_2, if_pos c22_4, if_pos c46_6], by unfold f_X9_lacks; rw [if_pos c6_2, if_pos c22_4, if_pos c46_6]⟩
      · rw [if_neg c46_6] at hb
        refine wp_iconst dX9_lacks_49 ic_0 ?_
        refine wp_goto 58 dX9_lacks_50 (by decide) ?_
        refine wp_ireturn dX9_lacks_58 rfl ?_
        exact ⟨by unfold f_X9_lacks; rw [if_pos c6_2, if_pos c22_4, if_neg c46_6], by unfold f_X9_lacks; rw [if_pos c6_2, if_pos c22_4, if_neg c46_6]⟩
    · rw [if_neg c22_4] at hb
      refine wp_aload_n dX9_lacks_25 0 rfl ?_
      refine wp_iconst dX9_lacks_26 ic_3 ?_
      refine wp_cV1w (N := mX9_met) dX9_lacks_27 tmX9_93 okX9_met rfl rfl rfl rfl rfl rfl rfl rfl (s_X9_met X _ _) ?_
      refine wp_ireturn dX9_lacks_30 rfl ?_
      exact ⟨by unfold f_X9_lacks; rw [if_pos c6_2, if_neg c22_4], by unfold f_X9_lacks; rw [if_pos c6_2, if_neg c22_4]⟩
  · rw [if_neg c6_2] at hb
    refine wp_aload_n dX9_lacks_9 0 rfl ?_
    refine wp_iconst dX9_lacks_10 ic_1 ?_
    refine wp_cV1w (N := mX9_met) dX9_lacks_11 tmX9_93 okX9_met rfl rfl rfl rfl rfl rfl rfl rfl (s_X9_met X _ _) ?_
    refine wp_ireturn dX9_lacks_14 rfl ?_
    exact ⟨by unfold f_X9_lacks; rw [if_neg c6_2], by unfold f_X9_lacks; rw [if_neg c6_2]⟩
def f_X9_lay (σ : Mem) (a : Int32) (b : Int32) (c : Int32) (d : Int32) : Int32 × Mem := if (f_X9_isSheet σ a) = 0 then ((-2), σ) else if (f_X9_in σ b.toInt64 0 2) = 0 then ((-2), σ) else if (f_X9_lacks σ a b c).1 = 0 then (1, (mst (f_X9_lacks σ a b c).2 3 (((60 * a) + c).toNatClampNeg) (f_X9_cut (f_X9_lacks σ a b c).2 b d))) else ((f_X9_lacks σ a b c).1, (f_X9_lacks σ a b c).2)
def b_X9_lay (σ : Mem) (a : Int32) (b : Int32) (c : Int32) (d : Int32) : Prop := if (f_X9_isSheet σ a) = 0 then True else if (f_X9_in σ b.toInt64 0 2) = 0 then True else (b_X9_lacks σ a b c) ∧ (if (f_X9_lacks σ a b c).1 = 0 then (vp_in ((60 * a) + c) 240) ∧ (True) else True)
theorem s_X9_lay (X : Amb) (σ : Mem) (a : Int32) (b : Int32) (c : Int32) (d : Int32) (hb : b_X9_lay σ a b c d) : SpW X mX9_lay [.ref (adr X 0), .int a, .int b, .int c, .int d] σ (.int (f_X9_lay σ a b c d).1) (f_X9_lay σ a b c d).2 := by
  unfold b_X9_lay at hb
  refine sp_of (by decide +kernel) rfl ?_
  show WP X mX9_lay 0 [(0, .ref (adr X 0)), (1, .int a), (2, .int b), (3, .int c), (4, .int d)] [] σ _
  refine wp_iload_n dX9_lay_0 1 rfl ?_
  refine wp_cS1w (N := mX9_isSheet) dX9_lay_1 tmX9_87 okX9_isSheet rfl rfl rfl rfl (s_X9_isSheet X _ _) ?_
  refine wp_if_eq 19 dX9_lay_4 (by decide) (fun c4_1 => ?_) (fun c4_1 => ?_)
  · rw [if_pos c4_1] at hb
    refine wp_bipush dX9_lay_19 bp_m2 ?_
    refine wp_ireturn dX9_lay_21 rfl ?_
    exact ⟨by unfold f_X9_lay; rw [if_pos c4_1], by unfold f_X9_lay; rw [if_pos c4_1]⟩
  · rw [if_neg c4_1] at hb
    refine wp_iload_n dX9_lay_7 2 rfl ?_
    refine wp_i2l dX9_lay_8 ?_
    refine wp_lconst dX9_lay_9 lc_0 ?_
    refine wp_ldc2 dX9_lay_10 tlX9_91 ?_
    refine wp_cS3w (N := mX9_in) dX9_lay_13 tmX9_73 okX9_in rfl rfl rfl rfl (s_X9_in X _ _ _ _) ?_
    refine wp_if_ne 22 dX9_lay_16 (by decide) (fun c16_2 => ?_) (fun c16_2 => ?_)
    · rw [if_neg c16_2] at hb
      refine wp_aload_n dX9_lay_22 0 rfl ?_
      refine wp_iload_n dX9_lay_23 1 rfl ?_
      refine wp_iload_n dX9_lay_24 2 rfl ?_
      refine wp_iload_n dX9_lay_25 3 rfl ?_
      obtain ⟨x3, hb⟩ := hb
      refine wp_cV3w (N := mX9_lacks) dX9_lay_26 tmX9_97 okX9_lacks rfl rfl rfl rfl rfl rfl rfl rfl (s_X9_lacks X _ _ _ _ x3) ?_
      refine wp_istore (L' := [(5, _), (0, _), (1, _), (2, _), (3, _), (4, _)]) dX9_lay_29 rfl rfl ?_
      refine wp_iload dX9_lay_31 0 rfl ?_
      refine wp_if_eq 39 dX9_lay_33 (by decide) (fun c33_4 => ?_) (fun c33_4 => ?_)
      · rw [if_pos c33_4] at hb
        refine wp_aload_n dX9_lay_39 1 rfl ?_
        refine wp_getR dX9_lay_40 faX9_16 rfl rfl ?_
        refine wp_bipush dX9_lay_43 bp_60 ?_
        refine wp_iload_n dX9_lay_45 2 rfl ?_
        refine wp_imul dX9_lay_46 ?_
        refine wp_iload_n dX9_lay_47 4 rfl ?_
        refine wp_iadd dX9_lay_48 ?_
        refine wp_iload_n dX9_lay_49 3 rfl ?_
        refine wp_iload dX9_lay_50 5 rfl ?_
        refine wp_cS2w (N := mX9_cut) dX9_lay_52 tmX9_101 okX9_cut rfl rfl rfl rfl (s_X9_cut X _ _ _) ?_
        obtain ⟨x5, hb⟩ := hb
        refine wp_iast dX9_lay_55 rfl x5 ?_
        refine wp_iconst dX9_lay_56 ic_1 ?_
        refine wp_ireturn dX9_lay_57 rfl ?_
        exact ⟨by unfold f_X9_lay; rw [if_neg c4_1, if_neg c16_2, if_pos c33_4], by unfold f_X9_lay; rw [if_neg c4_1, if_neg c16_2, if_pos c33_4]⟩
      · rw [if_neg c33_4] at hb
        refine wp_iload dX9_lay_36 0 rfl ?_
        refine wp_ireturn dX9_lay_38 rfl ?_
        exact ⟨by unfold f_X9_lay; rw [if_neg c4_1, if_neg c16_2, if_neg c33_4], by unfold f_X9_lay; rw [if_neg c4_1, if_neg c16_2, if_neg c33_4]⟩
    · rw [if_pos c16_2] at hb
      refine wp_bipush dX9_lay_19 bp_m2 ?_
      refine wp_ireturn dX9_lay_21 rfl ?_
      exact ⟨by unfold f_X9_lay; rw [if_neg c4_1, if_pos c16_2], by unfold f_X9_lay; rw [if_neg c4_1, if_pos c16_2]⟩
def f_X9_get (σ : Mem) (a : Int32) (b : Int32) (c : Int32) : Int32 × Mem := if (f_X9_isSheet σ a) = 0 then ((-2147483648), σ) else if (f_X9_in σ b.toInt64 0 2) = 0 then ((-2147483648), σ) else if (f_X9_lacks σ a b c).1 = 0 then (((f_X9_lacks σ a b c).2 3 (((60 * a) + c).toNatClampNeg)), (f_X9_lacks σ a b c).2) else ((-2147483648), (f_X9_lacks σ a b c).2)
def b_X9_get (σ : Mem) (a : Int32) (b : Int32) (c : Int32) : Prop := if (f_X9_isSheet σ a) = 0 then True else if (f_X9_in σ b.toInt64 0 2) = 0 then True else (b_X9_lacks σ a b c) ∧ (if (f_X9_lacks σ a b c).1 = 0 then (vp_in ((60 * a) + c) 240) ∧ (True) else True)
theorem s_X9_get (X : Amb) (σ : Mem) (a : Int32) (b : Int32) (c : Int32) (hb : b_X9_get σ a b c) : SpW X mX9_get [.ref (adr X 0), .int a, .int b, .int c] σ (.int (f_X9_get σ a b c).1) (f_X9_get σ a b c).2 := by
  unfold b_X9_get at hb
  refine sp_of (by decide +kernel) rfl ?_
  show WP X mX9_get 0 [(0, .ref (adr X 0)), (1, .int a), (2, .int b), (3, .int c)] [] σ _
  refine wp_iload_n dX9_get_0 1 rfl ?_
  refine wp_cS1w (N := mX9_isSheet) dX9_get_1 tmX9_87 okX9_isSheet rfl rfl rfl rfl (s_X9_isSheet X _ _) ?_
  refine wp_if_eq 29 dX9_get_4 (by decide) (fun c4_1 => ?_) (fun c4_1 => ?_)
  · rw [if_pos c4_1] at hb
    refine wp_ldc dX9_get_29 tkX9_104 ?_
    refine wp_ireturn dX9_get_31 rfl ?_
    exact ⟨by unfold f_X9_get; rw [if_pos c4_1], by unfold f_X9_get; rw [if_pos c4_1]⟩
  · rw [if_neg c4_1] at hb
    refine wp_iload_n dX9_get_7 2 rfl ?_
    refine wp_i2l dX9_get_8 ?_
    refine wp_lconst dX9_get_9 lc_0 ?_
    refine wp_ldc2 dX9_get_10 tlX9_91 ?_
    refine wp_cS3w (N := mX9_in) dX9_get_13 tmX9_73 okX9_in rfl rfl rfl rfl (s_X9_in X _ _ _ _) ?_
    refine wp_if_eq 29 dX9_get_16 (by decide) (fun c16_2 => ?_) (fun c16_2 => ?_)
    · rw [if_pos c16_2] at hb
      refine wp_ldc dX9_get_29 tkX9_104 ?_
      refine wp_ireturn dX9_get_31 rfl ?_
      exact ⟨by unfold f_X9_get; rw [if_neg c4_1, if_pos c16_2], by unfold f_X9_get; rw [if_neg c4_1, if_pos c16_2]⟩
    · rw [if_neg c16_2] at hb
      refine wp_aload_n dX9_get_19 0 rfl ?_
      refine wp_iload_n dX9_get_20 1 rfl ?_
      refine wp_iload_n dX9_get_21 2 rfl ?_
      refine wp_iload_n dX9_get_22 3 rfl ?_
      obtain ⟨x3, hb⟩ := hb
      refine wp_cV3w (N := mX9_lacks) dX9_get_23 tmX9_97 okX9_lacks rfl rfl rfl rfl rfl rfl rfl rfl (s_X9_lacks X _ _ _ _ x3) ?_
      refine wp_if_eq 32 dX9_get_26 (by decide) (fun c26_4 => ?_) (fun c26_4 => ?_)
      · rw [if_pos c26_4] at hb
        refine wp_aload_n dX9_get_32 0 rfl ?_
        refine wp_getR dX9_get_33 faX9_16 rfl rfl ?_
        refine wp_bipush dX9_get_36 bp_60 ?_
        refine wp_iload_n dX9_get_38 1 rfl ?_
        refine wp_imul dX9_get_39 ?_
        refine wp_iload_n dX9_get_40 3 rfl ?_
        refine wp_iadd dX9_get_41 ?_
        obtain ⟨x5, hb⟩ := hb
        refine wp_iald dX9_get_42 rfl x5 ?_
        refine wp_ireturn dX9_get_43 rfl ?_
        exact ⟨by unfold f_X9_get; rw [if_neg c4_1, if_neg c16_2, if_pos c26_4], by unfold f_X9_get; rw [if_neg c4_1, if_neg c16_2, if_pos c26_4]⟩
      · rw [if_neg c26_4] at hb
        refine wp_ldc dX9_get_29 tkX9_104 ?_
        refine wp_ireturn dX9_get_31 rfl ?_
        exact ⟨by unfold f_X9_get; rw [if_neg c4_1, if_neg c16_2, if_neg c26_4], by unfold f_X9_get; rw [if_neg c4_1, if_neg c16_2, if_neg c26_4]⟩
def l_X9_copy_157 : Nat → Int32 → Int32 → Int32 → Int32 → Mem → Int32 × Mem
  | 0, _, _, _, _, σ => (0, σ)
  | n + 1, c, d, e, f, σ => if e ≤ f then (1, σ) else (l_X9_copy_157 n c d e (f + 1) (mst σ 3 ((((60 * c) + d) + f).toNatClampNeg) (σ 4 (f.toNatClampNeg))))
def bl_X9_copy_157 : Nat → Int32 → Int32 → Int32 → Int32 → Mem → Prop
  | 0, _, _, _, _, _ => False
  | n + 1, c, d, e, f, σ => if e ≤ f then True else (vp_in f 60) ∧ ((vp_in (((60 * c) + d) + f) 240) ∧ ((bl_X9_copy_157 n c d e (f + 1) (mst σ 3 ((((60 * c) + d) + f).toNatClampNeg) (σ 4 (f.toNatClampNeg))))))
theorem lt_X9_copy_157 (X : Amb) : ∀ (n : Nat) (c : Int32) (d : Int32) (e : Int32) (f : Int32) (σ : Mem), bl_X9_copy_157 n c d e f σ → WP X mX9_copy 157 [(0, .ref (adr X 0)), (3, .int c), (4, .int d), (5, .int e), (6, .int f)] [] σ (fun v σ' => v = some (.int (l_X9_copy_157 n c d e f σ).1) ∧ σ' = (l_X9_copy_157 n c d e f σ).2) := by
  intro n
  induction n with
  | zero => intro c d e f σ hb; exact hb.elim
  | succ n ih =>
    intro c d e f σ hb
    rw [bl_X9_copy_157] at hb
    refine wp_iload dX9_copy_157 4 rfl ?_
    refine wp_iload dX9_copy_159 3 rfl ?_
    refine wp_icmp_ge 192 dX9_copy_161 (by decide) (fun c161_1 => ?_) (fun c161_1 => ?_)
    · rw [if_pos c161_1] at hb
      refine wp_iconst dX9_copy_192 ic_1 ?_
      refine wp_ireturn dX9_copy_193 rfl ?_
      exact ⟨by rw [l_X9_copy_157, if_pos c161_1], by rw [l_X9_copy_157, if_pos c161_1]⟩
    · rw [if_neg c161_1] at hb
      refine wp_aload_n dX9_copy_164 0 rfl ?_
      refine wp_getR dX9_copy_165 faX9_16 rfl rfl ?_
      refine wp_bipush dX9_copy_168 bp_60 ?_
      refine wp_iload_n dX9_copy_170 1 rfl ?_
      refine wp_imul dX9_copy_171 ?_
      refine wp_iload dX9_copy_172 2 rfl ?_
      refine wp_iadd dX9_copy_174 ?_
      refine wp_iload dX9_copy_175 4 rfl ?_
      refine wp_iadd dX9_copy_177 ?_
      refine wp_aload_n dX9_copy_178 0 rfl ?_
      refine wp_getR dX9_copy_179 faX9_19 rfl rfl ?_
      refine wp_iload dX9_copy_182 4 rfl ?_
      obtain ⟨x2, hb⟩ := hb
      refine wp_iald dX9_copy_184 rfl x2 ?_
      obtain ⟨x3, hb⟩ := hb
      refine wp_iast dX9_copy_185 rfl x3 ?_
      refine wp_iinc (L' := [(6, _), (0, _), (3, _), (4, _), (5, _)]) dX9_copy_186 rfl 4 rfl (ii_1 _) rfl ?_
      refine wp_goto 157 dX9_copy_189 (by decide) ?_
      refine wp_drop [1, 2, 3, 4, 0] rfl ?_
      rw [show l_X9_copy_157 (n + 1) c d e f σ = (l_X9_copy_157 n c d e (f + 1) (mst σ 3 ((((60 * c) + d) + f).toNatClampNeg) (σ 4 (f.toNatClampNeg)))) from by rw [l_X9_copy_157, if_neg c161_1]]
      exact ih _ _ _ _ _ hb
def l_X9_copy_120 : Nat → Int32 → Int32 → Int32 → Int32 → Int32 → Int32 → Mem → Int32 × Mem
  | 0, _, _, _, _, _, _, σ => (0, σ)
  | n + 1, a, b, c, d, e, f, σ => if e ≤ f then (l_X9_copy_157 (fu 61) c d e 0 σ) else (l_X9_copy_120 n a b c d e (f + 1) (mst σ 4 (f.toNatClampNeg) (σ 3 ((((60 * a) + b) + f).toNatClampNeg))))
def bl_X9_copy_120 : Nat → Int32 → Int32 → Int32 → Int32 → Int32 → Int32 → Mem → Prop
  | 0, _, _, _, _, _, _, _ => False
  | n + 1, a, b, c, d, e, f, σ => if e ≤ f then (bl_X9_copy_157 (fu 61) c d e 0 σ) else (vp_in (((60 * a) + b) + f) 240) ∧ ((vp_in f 60) ∧ ((bl_X9_copy_120 n a b c d e (f + 1) (mst σ 4 (f.toNatClampNeg) (σ 3 ((((60 * a) + b) + f).toNatClampNeg))))))
theorem lt_X9_copy_120 (X : Amb) : ∀ (n : Nat) (a : Int32) (b : Int32) (c : Int32) (d : Int32) (e : Int32) (f : Int32) (σ : Mem), bl_X9_copy_120 n a b c d e f σ → WP X mX9_copy 120 [(0, .ref (adr X 0)), (1, .int a), (2, .int b), (3, .int c), (4, .int d), (5, .int e), (6, .int f)] [] σ (fun v σ' => v = some (.int (l_X9_copy_120 n a b c d e f σ).1) ∧ σ' = (l_X9_copy_120 n a b c d e f σ).2) := by
  intro n
  induction n with
  | zero => intro a b c d e f σ hb; exact hb.elim
  | succ n ih =>
    intro a b c d e f σ hb
    rw [bl_X9_copy_120] at hb
    refine wp_iload dX9_copy_120 6 rfl ?_
    refine wp_iload dX9_copy_122 5 rfl ?_
    refine wp_icmp_ge 154 dX9_copy_124 (by decide) (fun c124_1 => ?_) (fun c124_1 => ?_)
    · rw [if_pos c124_1] at hb
      refine wp_iconst dX9_copy_154 ic_0 ?_
      refine wp_istore (L' := [(6, _), (0, _), (1, _), (2, _), (3, _), (4, _), (5, _)]) dX9_copy_155 rfl rfl ?_
      refine wp_drop [1, 4, 5, 6, 0] rfl ?_
      rw [show l_X9_copy_120 (n + 1) a b c d e f σ = (l_X9_copy_157 (fu 61) c d e 0 σ) from by rw [l_X9_copy_120]; rw [if_pos c124_1]]
      exact lt_X9_copy_157 X (fu 61) c d e 0 σ hb
    · rw [if_neg c124_1] at hb
      refine wp_aload_n dX9_copy_127 0 rfl ?_
      refine wp_getR dX9_copy_128 faX9_19 rfl rfl ?_
      refine wp_iload dX9_copy_131 6 rfl ?_
      refine wp_aload_n dX9_copy_133 0 rfl ?_
      refine wp_getR dX9_copy_134 faX9_16 rfl rfl ?_
      refine wp_bipush dX9_copy_137 bp_60 ?_
      refine wp_iload_n dX9_copy_139 1 rfl ?_
      refine wp_imul dX9_copy_140 ?_
      refine wp_iload_n dX9_copy_141 2 rfl ?_
      refine wp_iadd dX9_copy_142 ?_
      refine wp_iload dX9_copy_143 6 rfl ?_
      refine wp_iadd dX9_copy_145 ?_
      obtain ⟨x2, hb⟩ := hb
      refine wp_iald dX9_copy_146 rfl x2 ?_
      obtain ⟨x3, hb⟩ := hb
      refine wp_iast dX9_copy_147 rfl x3 ?_
      refine wp_iinc (L' := [(6, _), (0, _), (1, _), (2, _), (3, _), (4, _), (5, _)]) dX9_copy_148 rfl 6 rfl (ii_1 _) rfl ?_
      refine wp_goto 120 dX9_copy_151 (by decide) ?_
      refine wp_drop [1, 2, 3, 4, 5, 6, 0] rfl ?_
      rw [show l_X9_copy_120 (n + 1) a b c d e f σ = (l_X9_copy_120 n a b c d e (f + 1) (mst σ 4 (f.toNatClampNeg) (σ 3 ((((60 * a) + b) + f).toNatClampNeg)))) from by rw [l_X9_copy_120, if_neg c124_1]]
      exact ih _ _ _ _ _ _ _ hb
def f_X9_copy (σ : Mem) (a : Int32) (b : Int32) (c : Int32) (d : Int32) (e : Int32) : Int32 × Mem := if (f_X9_isSheet σ a) = 0 then ((-2), σ) else if (f_X9_isSheet σ c) = 0 then ((-2), σ) else if (σ 1 (a.toNatClampNeg)) < 0 then ((f_X9_met σ 1).1, (f_X9_met σ 1).2) else if 0 ≤ (σ 1 (c.toNatClampNeg)) then if (σ 1 (a.toNatClampNeg)) = (σ 1 (c.toNatClampNeg)) then if b < 0 then ((f_X9_met σ 2).1, (f_X9_met σ 2).2) else if d < 0 then ((f_X9_met σ 2).1, (f_X9_met σ 2).2) else if e < 0 then ((f_X9_met σ 2).1, (f_X9_met σ 2).2) else if 0 < (lg_cmp (b.toInt64 + e.toInt64) ((σ 2 (a.toNatClampNeg)).toInt64)) then ((f_X9_met σ 2).1, (f_X9_met σ 2).2) else if (lg_cmp (d.toInt64 + e.toInt64) ((σ 2 (c.toNatClampNeg)).toInt64)) ≤ 0 then (l_X9_copy_120 (fu 61) a b c d e 0 σ) else ((f_X9_met σ 2).1, (f_X9_met σ 2).2) else ((f_X9_met σ 4).1, (f_X9_met σ 4).2) else ((f_X9_met σ 1).1, (f_X9_met σ 1).2)
def b_X9_copy (σ : Mem) (a : Int32) (b : Int32) (c : Int32) (d : Int32) (e : Int32) : Prop := if (f_X9_isSheet σ a) = 0 then True else if (f_X9_isSheet σ c) = 0 then True else (vp_in a 4) ∧ (if (σ 1 (a.toNatClampNeg)) < 0 then True else (vp_in c 4) ∧ (if 0 ≤ (σ 1 (c.toNatClampNeg)) then (vp_in a 4) ∧ ((vp_in c 4) ∧ (if (σ 1 (a.toNatClampNeg)) = (σ 1 (c.toNatClampNeg)) then if b < 0 then True else if d < 0 then True else if e < 0 then True else (vp_in a 4) ∧ (if 0 < (lg_cmp (b.toInt64 + e.toInt64) ((σ 2 (a.toNatClampNeg)).toInt64)) then True else (vp_in c 4) ∧ (if (lg_cmp (d.toInt64 + e.toInt64) ((σ 2 (c.toNatClampNeg)).toInt64)) ≤ 0 then (bl_X9_copy_120 (fu 61) a b c d e 0 σ) else True)) else True)) else True))
theorem s_X9_copy (X : Amb) (σ : Mem) (a : Int32) (b : Int32) (c : Int32) (d : Int32) (e : Int32) (hb : b_X9_copy σ a b c d e) : SpW X mX9_copy [.ref (adr X 0), .int a, .int b, .int c, .int d, .int e] σ (.int (f_X9_copy σ a b c d e).1) (f_X9_copy σ a b c d e).2 := by
  unfold b_X9_copy at hb
  refine sp_of (by decide +kernel) rfl ?_
  show WP X mX9_copy 0 [(0, .ref (adr X 0)), (1, .int a), (2, .int b), (3, .int c), (4, .int d), (5, .int e)] [] σ _
  refine wp_iload_n dX9_copy_0 1 rfl ?_
  refine wp_cS1w (N := mX9_isSheet) dX9_copy_1 tmX9_87 okX9_isSheet rfl rfl rfl rfl (s_X9_isSheet X _ _) ?_
  refine wp_if_eq 14 dX9_copy_4 (by decide) (fun c4_1 => ?_) (fun c4_1 => ?_)
  · rw [if_pos c4_1] at hb
    refine wp_bipush dX9_copy_14 bp_m2 ?_
    refine wp_ireturn dX9_copy_16 rfl ?_
    exact ⟨by unfold f_X9_copy; rw [if_pos c4_1], by unfold f_X9_copy; rw [if_pos c4_1]⟩
  · rw [if_neg c4_1] at hb
    refine wp_iload_n dX9_copy_7 3 rfl ?_
    refine wp_cS1w (N := mX9_isSheet) dX9_copy_8 tmX9_87 okX9_isSheet rfl rfl rfl rfl (s_X9_isSheet X _ _) ?_
    refine wp_if_ne 17 dX9_copy_11 (by decide) (fun c11_2 => ?_) (fun c11_2 => ?_)
    · rw [if_neg c11_2] at hb
      refine wp_aload_n dX9_copy_17 0 rfl ?_
      refine wp_getR dX9_copy_18 faX9_7 rfl rfl ?_
      refine wp_iload_n dX9_copy_21 1 rfl ?_
      obtain ⟨x3, hb⟩ := hb
      refine wp_iald dX9_copy_22 rfl x3 ?_
      refine wp_if_lt 35 dX9_copy_23 (by decide) (fun c23_4 => ?_) (fun c23_4 => ?_)
      · rw [if_pos c23_4] at hb
        refine wp_aload_n dX9_copy_35 0 rfl ?_
        refine wp_iconst dX9_copy_36 ic_1 ?_
        refine wp_cV1w (N := mX9_met) dX9_copy_37 tmX9_93 okX9_met rfl rfl rfl rfl rfl rfl rfl rfl (s_X9_met X _ _) ?_
        refine wp_ireturn dX9_copy_40 rfl ?_
        exact ⟨by unfold f_X9_copy; rw [if_neg c4_1, if_neg c11_2, if_pos c23_4], by unfold f_X9_copy; rw [if_neg c4_1, if_neg c11_2, if_pos c23_4]⟩
      · rw [if_neg c23_4] at hb
        refine wp_aload_n dX9_copy_26 0 rfl ?_
        refine wp_getR dX9_copy_27 faX9_7 rfl rfl ?_
        refine wp_iload_n dX9_copy_30 3 rfl ?_
        obtain ⟨x5, hb⟩ := hb
        refine wp_iald dX9_copy_31 rfl x5 ?_
        refine wp_if_ge 41 dX9_copy_32 (by decide) (fun c32_6 => ?_) (fun c32_6 => ?_)
        · rw [if_pos c32_6] at hb
          refine wp_aload_n dX9_copy_41 0 rfl ?_
          refine wp_getR dX9_copy_42 faX9_7 rfl rfl ?_
          refine wp_iload_n dX9_copy_45 1 rfl ?_
          obtain ⟨x7, hb⟩ := hb
          refine wp_iald dX9_copy_46 rfl x7 ?_
          refine wp_aload_n dX9_copy_47 0 rfl ?_
          refine wp_getR dX9_copy_48 faX9_7 rfl rfl ?_
          refine wp_iload_n dX9_copy_51 3 rfl ?_
          obtain ⟨x8, hb⟩ := hb
          refine wp_iald dX9_copy_52 rfl x8 ?_
          refine wp_icmp_eq 62 dX9_copy_53 (by decide) (fun c53_9 => ?_) (fun c53_9 => ?_)
          · rw [if_pos c53_9] at hb
            refine wp_iload_n dX9_copy_62 2 rfl ?_
            refine wp_if_lt 111 dX9_copy_63 (by decide) (fun c63_10 => ?_) (fun c63_10 => ?_)
            · rw [if_pos c63_10] at hb
              refine wp_aload_n dX9_copy_111 0 rfl ?_
              refine wp_iconst dX9_copy_112 ic_2 ?_
              refine wp_cV1w (N := mX9_met) dX9_copy_113 tmX9_93 okX9_met rfl rfl rfl rfl rfl rfl rfl rfl (s_X9_met X _ _) ?_
              refine wp_ireturn dX9_copy_116 rfl ?_
              exact ⟨by unfold f_X9_copy; rw [if_neg c4_1, if_neg c11_2, if_neg c23_4, if_pos c32_6, if_pos c53_9, if_pos c63_10], by unfold f_X9_copy; rw [if_neg c4_1, if_neg c11_2, if_neg c23_4, if_pos c32_6, if_pos c53_9, if_pos c63_10]⟩
            · rw [if_neg c63_10] at hb
              refine wp_iload dX9_copy_66 4 rfl ?_
              refine wp_if_lt 111 dX9_copy_68 (by decide) (fun c68_11 => ?_) (fun c68_11 => ?_)
              · rw [if_pos c68_11] at hb
                refine wp_aload_n dX9_copy_111 0 rfl ?_
                refine wp_iconst dX9_copy_112 ic_2 ?_
                refine wp_cV1w (N := mX9_met) dX9_copy_113 tmX9_93 okX9_met rfl rfl rfl rfl rfl rfl rfl rfl (s_X9_met X _ _) ?_
                refine wp_ireturn dX9_copy_116 rfl ?_
                exact ⟨by unfold f_X9_copy; rw [if_neg c4_1, if_neg c11_2, if_neg c23_4, if_pos c32_6, if_pos c53_9, if_neg c63_10, if_pos c68_11], by unfold f_X9_copy; rw [if_neg c4_1, if_neg c11_2, if_neg c23_4, if_pos c32_6, if_pos c53_9, if_neg c63_10, if_pos c68_11]⟩
              · rw [if_neg c68_11] at hb
                refine wp_iload dX9_copy_71 5 rfl ?_
                refine wp_if_lt 111 dX9_copy_73 (by decide) (fun c73_12 => ?_) (fun c73_12 => ?_)
                · rw [if_pos c73_12] at hb
                  refine wp_aload_n dX9_copy_111 0 rfl ?_
                  refine wp_iconst dX9_copy_112 ic_2 ?_
                  refine wp_cV1w (N := mX9_met) dX9_copy_113 tmX9_93 okX9_met rfl rfl rfl rfl rfl rfl rfl rfl (s_X9_met X _ _) ?_
                  refine wp_ireturn dX9_copy_116 rfl ?_
                  exact ⟨by unfold f_X9_copy; rw [if_neg c4_1, if_neg c11_2, if_neg c23_4, if_pos c32_6, if_pos c53_9, if_neg c63_10, if_neg c68_11, if_pos c73_12], by unfold f_X9_copy; rw [if_neg c4_1, if_neg c11_2, if_neg c23_4, if_pos c32_6, if_pos c53_9, if_neg c63_10, if_neg c68_11, if_pos c73_12]⟩
                · rw [if_neg c73_12] at hb
                  refine wp_iload_n dX9_copy_76 2 rfl ?_
                  refine wp_i2l dX9_copy_77 ?_
                  refine wp_iload dX9_copy_78 5 rfl ?_
                  refine wp_i2l dX9_copy_80 ?_
                  refine wp_ladd dX9_copy_81 ?_
                  refine wp_aload_n dX9_copy_82 0 rfl ?_
                  refine wp_getR dX9_copy_83 faX9_13 rfl rfl ?_
                  refine wp_iload_n dX9_copy_86 1 rfl ?_
                  obtain ⟨x13, hb⟩ := hb
                  refine wp_iald dX9_copy_87 rfl x13 ?_
                  refine wp_i2l dX9_copy_88 ?_
                  refine wp_lcmp dX9_copy_89 ?_
                  refine wp_if_gt 111 dX9_copy_90 (by decide) (fun c90_14 => ?_) (fun c90_14 => ?_)
                  · rw [if_pos c90_14] at hb
                    refine wp_aload_n dX9_copy_111 0 rfl ?_
                    refine wp_iconst dX9_copy_112 ic_2 ?_
                    refine wp_cV1w (N := mX9_met) dX9_copy_113 tmX9_93 okX9_met rfl rfl rfl rfl rfl rfl rfl rfl (s_X9_met X _ _) ?_
                    refine wp_ireturn dX9_copy_116 rfl ?_
                    exact ⟨by unfold f_X9_copy; rw [if_neg c4_1, if_neg c11_2, if_neg c23_4, if_pos c32_6, if_pos c53_9, if_neg c63_10, if_neg c68_11, if_neg c73_12, if_pos c90_14], by unfold f_X9_copy; rw [if_neg c4_1, if_neg c11_2, if_neg c23_4, if_pos c32_6, if_pos c53_9, if_neg c63_10, if_neg c68_11, if_neg c73_12, if_pos c90_14]⟩
                  · rw [if_neg c90_14] at hb
                    refine wp_iload dX9_copy_93 4 rfl ?_
                    refine wp_i2l dX9_copy_95 ?_
                    refine wp_iload dX9_copy_96 5 rfl ?_
                    refine wp_i2l dX9_copy_98 ?_
                    refine wp_ladd dX9_copy_99 ?_
                    refine wp_aload_n dX9_copy_100 0 rfl ?_
                    refine wp_getR dX9_copy_101 faX9_13 rfl rfl ?_
                    refine wp_iload_n dX9_copy_104 3 rfl ?_
                    obtain ⟨x15, hb⟩ := hb
                    refine wp_iald dX9_copy_105 rfl x15 ?_
                    refine wp_i2l dX9_copy_106 ?_
                    refine wp_lcmp dX9_copy_107 ?_
                    refine wp_if_le 117 dX9_copy_108 (by decide) (fun c108_16 => ?_) (fun c108_16 => ?_)
                    · rw [if_pos c108_16] at hb
                      refine wp_iconst dX9_copy_117 ic_0 ?_
                      refine wp_istore (L' := [(6, _), (0, _), (1, _), (2, _), (3, _), (4, _), (5, _)]) dX9_copy_118 rfl rfl ?_
                      refine wp_drop [1, 2, 3, 4, 5, 6, 0] rfl ?_
                      rw [show f_X9_copy σ a b c d e = (l_X9_copy_120 (fu 61) a b c d e 0 σ) from by unfold f_X9_copy; rw [if_neg c4_1, if_neg c11_2, if_neg c23_4, if_pos c32_6, if_pos c53_9, if_neg c63_10, if_neg c68_11, if_neg c73_12, if_neg c90_14, if_pos c108_16]]
                      exact lt_X9_copy_120 X (fu 61) a b c d e 0 σ hb
                    · rw [if_neg c108_16] at hb
                      refine wp_aload_n dX9_copy_111 0 rfl ?_
                      refine wp_iconst dX9_copy_112 ic_2 ?_
                      refine wp_cV1w (N := mX9_met) dX9_copy_113 tmX9_93 okX9_met rfl rfl rfl rfl rfl rfl rfl rfl (s_X9_met X _ _) ?_
                      refine wp_ireturn dX9_copy_116 rfl ?_
                      exact ⟨by unfold f_X9_copy; rw [if_neg c4_1, if_neg c11_2, if_neg c23_4, if_pos c32_6, if_pos c53_9, if_neg c63_10, if_neg c68_11, if_neg c73_12, if_neg c90_14, if_neg c108_16], by unfold f_X9_copy; rw [if_neg c4_1, if_neg c11_2, if_neg c23_4, if_pos c32_6, if_pos c53_9, if_neg c63_10, if_neg c68_11, if_neg c73_12, if_neg c90_14, if_neg c108_16]⟩
          · rw [if_neg c53_9] at hb
            refine wp_aload_n dX9_copy_56 0 rfl ?_
            refine wp_iconst dX9_copy_57 ic_4 ?_
            refine wp_cV1w (N := mX9_met) dX9_copy_58 tmX9_93 okX9_met rfl rfl rfl rfl rfl rfl rfl rfl (s_X9_met X _ _) ?_
            refine wp_ireturn dX9_copy_61 rfl ?_
            exact ⟨by unfold f_X9_copy; rw [if_neg c4_1, if_neg c11_2, if_neg c23_4, if_pos c32_6, if_neg c53_9], by unfold f_X9_copy; rw [if_neg c4_1, if_neg c11_2, if_neg c23_4, if_pos c32_6, if_neg c53_9]⟩
        · rw [if_neg c32_6] at hb
          refine wp_aload_n dX9_copy_35 0 rfl ?_
          refine wp_iconst dX9_copy_36 ic_1 ?_
          refine wp_cV1w (N := mX9_met) dX9_copy_37 tmX9_93 okX9_met rfl rfl rfl rfl rfl rfl rfl rfl (s_X9_met X _ _) ?_
          refine wp_ireturn dX9_copy_40 rfl ?_
          exact ⟨by unfold f_X9_copy; rw [if_neg c4_1, if_neg c11_2, if_neg c23_4, if_neg c32_6], by unfold f_X9_copy; rw [if_neg c4_1, if_neg c11_2, if_neg c23_4, if_neg c32_6]⟩
    · rw [if_pos c11_2] at hb
      refine wp_bipush dX9_copy_14 bp_m2 ?_
      refine wp_ireturn dX9_copy_16 rfl ?_
      exact ⟨by unfold f_X9_copy; rw [if_neg c4_1, if_pos c11_2], by unfold f_X9_copy; rw [if_neg c4_1, if_pos c11_2]⟩
end
