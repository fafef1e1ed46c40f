noncomputable section
def l_X8_power_5 : Nat → Int32 → Int32 → Int64 → Int32 → Mem → Int64
  | 0, _, _, _, _, σ => 0
  | n + 1, a, b, c, d, σ => if b ≤ d then c else (l_X8_power_5 n a b (c * a.toInt64) (d + 1) σ)
theorem lt_X8_power_5 (X : Amb) : ∀ (n : Nat) (a : Int32) (b : Int32) (c : Int64) (d : Int32) (σ : Mem), (b.toInt - d.toInt).toNat < n → WP X mX8_power 5 [(0, .int a), (1, .int b), (2, .long c), (4, .int d)] [] σ (fun v σ' => v = some (.long (l_X8_power_5 n a b c d σ)) ∧ σ' = σ) := by
  intro n
  induction n with
  | zero => intro a b c d σ hm; exact absurd hm (Nat.not_lt_zero _)
  | succ n ih =>
    intro a b c d σ hm 
    refine wp_iload dX8_power_5 3 rfl ?_
    refine wp_iload_n dX8_power_7 1 rfl ?_
    refine wp_icmp_ge 22 dX8_power_8 (by decide) (fun c8_1 => ?_) (fun c8_1 => ?_)
    · refine wp_lload_n dX8_power_22 2 rfl ?_
      refine wp_lreturn dX8_power_23 rfl ?_
      exact ⟨by rw [l_X8_power_5, if_pos c8_1], rfl⟩
    · refine wp_lload_n dX8_power_11 2 rfl ?_
      refine wp_iload_n dX8_power_12 0 rfl ?_
      refine wp_i2l dX8_power_13 ?_
      refine wp_lmul dX8_power_14 ?_
      refine wp_lstore_n (L' := [(2, _), (0, _), (1, _), (4, _)]) dX8_power_15 rfl rfl ?_
      refine wp_iinc (L' := [(4, _), (2, _), (0, _), (1, _)]) dX8_power_16 rfl 3 rfl (ii_1 _) rfl ?_
      refine wp_goto 5 dX8_power_19 (by decide) ?_
      refine wp_drop [2, 3, 1, 0] rfl ?_
      rw [show l_X8_power_5 (n + 1) a b c d σ = (l_X8_power_5 n a b (c * a.toInt64) (d + 1) σ) from by rw [l_X8_power_5, if_neg c8_1]]
      exact ih _ _ _ _ _ (cnt_up c8_1 hm) 
def f_X8_power (σ : Mem) (a : Int32) (b : Int32) : Int64 := (l_X8_power_5 (fu (b.toInt.toNat + 1)) a b 1 0 σ)
theorem s_X8_power (X : Amb) (σ : Mem) (a : Int32) (b : Int32) : SpW X mX8_power [.int a, .int b] σ (.long (f_X8_power σ a b)) σ := by
  refine sp_of (by decide +kernel) rfl ?_
  show WP X mX8_power 0 [(0, .int a), (1, .int b)] [] σ _
  refine wp_lconst dX8_power_0 lc_1 ?_
  refine wp_lstore_n (L' := [(2, _), (0, _), (1, _)]) dX8_power_1 rfl rfl ?_
  refine wp_iconst dX8_power_2 ic_0 ?_
  refine wp_istore (L' := [(4, _), (2, _), (0, _), (1, _)]) dX8_power_3 rfl rfl ?_
  refine wp_drop [2, 3, 1, 0] rfl ?_
  rw [show f_X8_power σ a b = (l_X8_power_5 (fu (b.toInt.toNat + 1)) a b 1 0 σ) from rfl]
  exact lt_X8_power_5 X  (fu (b.toInt.toNat + 1)) a b 1 0 σ (fu_lt mu0) 
theorem i64ne {x : Int32} (h : ¬ x = 0) : ¬ x.toInt64 = 0 := by
  intro e; apply h
  have := congrArg Int64.toInt e
  rw [Int32.toInt_toInt64] at this
  exact Int32.toInt_inj.mp (by rw [this]; decide)
theorem inc_ne {d : Int32} (h0 : ¬ d < 0) : ¬ d + 1 = 0 := by
  intro e
  have h1 : d = -1 := by
    have := congrArg (fun x : Int32 => x + (-1)) e
    simp only [Int32.add_assoc] at this
    rw [show (1 : Int32) + -1 = 0 by decide, Int32.add_zero, Int32.zero_add] at this
    exact this
  rw [h1] at h0; exact h0 (by decide)
def l_X8_choices_5 : Nat → Int32 → Int32 → Int64 → Int32 → Mem → Int64
  | 0, _, _, _, _, σ => 0
  | n + 1, a, b, c, d, σ => if b ≤ d then c else (l_X8_choices_5 n a b ((c * (a - d).toInt64) / (d + 1).toInt64) (d + 1) σ)
theorem lt_X8_choices_5 (X : Amb) : ∀ (n : Nat) (a : Int32) (b : Int32) (c : Int64) (d : Int32) (σ : Mem), (b.toInt - d.toInt).toNat < n → ¬ d < 0 → WP X mX8_choices 5 [(0, .int a), (1, .int b), (2, .long c), (4, .int d)] [] σ (fun v σ' => v = some (.long (l_X8_choices_5 n a b c d σ)) ∧ σ' = σ) := by
  intro n
  induction n with
  | zero => intro a b c d σ hm; exact absurd hm (Nat.not_lt_zero _)
  | succ n ih =>
    intro a b c d σ hm h0
    refine wp_iload dX8_choices_5 3 rfl ?_
    refine wp_iload_n dX8_choices_7 1 rfl ?_
    refine wp_icmp_ge 31 dX8_choices_8 (by decide) (fun c8_1 => ?_) (fun c8_1 => ?_)
    · refine wp_lload_n dX8_choices_31 2 rfl ?_
      refine wp_lreturn dX8_choices_32 rfl ?_
      exact ⟨by rw [l_X8_choices_5, if_pos c8_1], rfl⟩
    · refine wp_lload_n dX8_choices_11 2 rfl ?_
      refine wp_iload_n dX8_choices_12 0 rfl ?_
      refine wp_iload dX8_choices_13 3 rfl ?_
      refine wp_isub dX8_choices_15 ?_
      refine wp_i2l dX8_choices_16 ?_
      refine wp_lmul dX8_choices_17 ?_
      refine wp_iload dX8_choices_18 3 rfl ?_
      refine wp_iconst dX8_choices_20 ic_1 ?_
      refine wp_iadd dX8_choices_21 ?_
      refine wp_i2l dX8_choices_22 ?_
      refine wp_ldiv dX8_choices_23 (i64ne (inc_ne h0)) ?_
      refine wp_lstore_n (L' := [(2, _), (0, _), (1, _), (4, _)]) dX8_choices_24 rfl rfl ?_
      refine wp_iinc (L' := [(4, _), (2, _), (0, _), (1, _)]) dX8_choices_25 rfl 3 rfl (ii_1 _) rfl ?_
      refine wp_goto 5 dX8_choices_28 (by decide) ?_
      refine wp_drop [2, 3, 1, 0] rfl ?_
      rw [show l_X8_choices_5 (n + 1) a b c d σ = (l_X8_choices_5 n a b ((c * (a - d).toInt64) / (d + 1).toInt64) (d + 1) σ) from by rw [l_X8_choices_5, if_neg c8_1]]
      exact ih _ _ _ _ _ (cnt_up c8_1 hm) (nn_inc' h0 c8_1)
def f_X8_choices (σ : Mem) (a : Int32) (b : Int32) : Int64 := (l_X8_choices_5 (fu (b.toInt.toNat + 1)) a b 1 0 σ)
theorem s_X8_choices (X : Amb) (σ : Mem) (a : Int32) (b : Int32) : SpW X mX8_choices [.int a, .int b] σ (.long (f_X8_choices σ a b)) σ := by
  refine sp_of (by decide +kernel) rfl ?_
  show WP X mX8_choices 0 [(0, .int a), (1, .int b)] [] σ _
  refine wp_lconst dX8_choices_0 lc_1 ?_
  refine wp_lstore_n (L' := [(2, _), (0, _), (1, _)]) dX8_choices_1 rfl rfl ?_
  refine wp_iconst dX8_choices_2 ic_0 ?_
  refine wp_istore (L' := [(4, _), (2, _), (0, _), (1, _)]) dX8_choices_3 rfl rfl ?_
  refine wp_drop [2, 3, 1, 0] rfl ?_
  rw [show f_X8_choices σ a b = (l_X8_choices_5 (fu (b.toInt.toNat + 1)) a b 1 0 σ) from rfl]
  exact lt_X8_choices_5 X  (fu (b.toInt.toNat + 1)) a b 1 0 σ (fu_lt mu0) nn0
def f_X8_whistles (σ : Mem) (a : Int32) (b : Int32) (c : Int32) (d : Int32) : Int64 := if a < 0 then (f_X8_refusedAsLong σ (-2)) else if 9 < a then (f_X8_refusedAsLong σ (-2)) else if b < 0 then (f_X8_refusedAsLong σ (-2)) else if 16 < b then (f_X8_refusedAsLong σ (-2)) else if c < 0 then (f_X8_refusedAsLong σ (-2)) else if a < c then (f_X8_refusedAsLong σ (-2)) else if (f_X8_isZeroOrOne σ d) = 0 then (f_X8_refusedAsLong σ (-2)) else (f_X8_inLowestTerms σ (((f_X8_choices σ a c) * (f_X8_power σ b c)) * (f_X8_power σ (16 - b) (a - c))) (f_X8_power σ 16 a) d)
theorem s_X8_whistles (X : Amb) (σ : Mem) (a : Int32) (b : Int32) (c : Int32) (d : Int32) : SpW X mX8_whistles [.ref (adr X 0), .int a, .int b, .int c, .int d] σ (.long (f_X8_whistles σ a b c d)) σ := by
  refine sp_of (by decide +kernel) rfl ?_
  show WP X mX8_whistles 0 [(0, .ref (adr X 0)), (1, .int a), (2, .int b), (3, .int c), (4, .int d)] [] σ _
  refine wp_iload_n dX8_whistles_0 1 rfl ?_
  refine wp_if_lt 24 dX8_whistles_1 (by decide) (fun c1_1 => ?_) (fun c1_1 => ?_)
  · refine wp_iconst dX8_whistles_24 ic_0 ?_
    refine wp_istore (L' := [(5, _), (0, _), (1, _), (2, _), (3, _), (4, _)]) dX8_whistles_25 rfl rfl ?_
    refine wp_iload dX8_whistles_27 0 rfl ?_
    refine wp_if_eq 49 dX8_whistles_29 (by decide) (fun _ => ?_) (fun z9 => absurd (by decide) z9)
    refine wp_bipush dX8_whistles_49 bp_m2 ?_
    refine wp_cS1w (N := mX8_refusedAsLong) dX8_whistles_51 tmX8_172 okX8_refusedAsLong rfl rfl rfl rfl (s_X8_refusedAsLong X _ _) ?_
    refine wp_lreturn dX8_whistles_54 rfl ?_
    exact ⟨by unfold f_X8_whistles; rw [if_pos c1_1], rfl⟩
  · refine wp_iload_n dX8_whistles_4 1 rfl ?_
    refine wp_bipush dX8_whistles_5 bp_9 ?_
    refine wp_icmp_gt 24 dX8_whistles_7 (by decide) (fun c7_3 => ?_) (fun c7_3 => ?_)
    · refine wp_iconst dX8_whistles_24 ic_0 ?_
      refine wp_istore (L' := [(5, _), (0, _), (1, _), (2, _), (3, _), (4, _)]) dX8_whistles_25 rfl rfl ?_
      refine wp_iload dX8_whistles_27 0 rfl ?_
      refine wp_if_eq 49 dX8_whistles_29 (by decide) (fun _ => ?_) (fun z9 => absurd (by decide) z9)
      refine wp_bipush dX8_whistles_49 bp_m2 ?_
      refine wp_cS1w (N := mX8_refusedAsLong) dX8_whistles_51 tmX8_172 okX8_refusedAsLong rfl rfl rfl rfl (s_X8_refusedAsLong X _ _) ?_
      refine wp_lreturn dX8_whistles_54 rfl ?_
      exact ⟨by unfold f_X8_whistles; rw [if_neg c1_1, if_pos c7_3], rfl⟩
    · refine wp_iload_n dX8_whistles_10 2 rfl ?_
      refine wp_if_lt 24 dX8_whistles_11 (by decide) (fun c11_5 => ?_) (fun c11_5 => ?_)
      · refine wp_iconst dX8_whistles_24 ic_0 ?_
        refine wp_istore (L' := [(5, _), (0, _), (1, _), (2, _), (3, _), (4, _)]) dX8_whistles_25 rfl rfl ?_
        refine wp_iload dX8_whistles_27 0 rfl ?_
        refine wp_if_eq 49 dX8_whistles_29 (by decide) (fun _ => ?_) (fun z9 => absurd (by decide) z9)
        refine wp_bipush dX8_whistles_49 bp_m2 ?_
        refine wp_cS1w (N := mX8_refusedAsLong) dX8_whistles_51 tmX8_172 okX8_refusedAsLong rfl rfl rfl rfl (s_X8_refusedAsLong X _ _) ?_
        refine wp_lreturn dX8_whistles_54 rfl ?_
        exact ⟨by unfold f_X8_whistles; rw [if_neg c1_1, if_neg c7_3, if_pos c11_5], rfl⟩
      · refine wp_iload_n dX8_whistles_14 2 rfl ?_
        refine wp_bipush dX8_whistles_15 bp_16 ?_
        refine wp_icmp_gt 24 dX8_whistles_17 (by decide) (fun c17_7 => ?_) (fun c17_7 => ?_)
        · refine wp_iconst dX8_whistles_24 ic_0 ?_
          refine wp_istore (L' := [(5, _), (0, _), (1, _), (2, _), (3, _), (4, _)]) dX8_whistles_25 rfl rfl ?_
          refine wp_iload dX8_whistles_27 0 rfl ?_
          refine wp_if_eq 49 dX8_whistles_29 (by decide) (fun _ => ?_) (fun z9 => absurd (by decide) z9)
          refine wp_bipush dX8_whistles_49 bp_m2 ?_
          refine wp_cS1w (N := mX8_refusedAsLong) dX8_whistles_51 tmX8_172 okX8_refusedAsLong rfl rfl rfl rfl (s_X8_refusedAsLong X _ _) ?_
          refine wp_lreturn dX8_whistles_54 rfl ?_
          exact ⟨by unfold f_X8_whistles; rw [if_neg c1_1, if_neg c7_3, if_neg c11_5, if_pos c17_7], rfl⟩
        · refine wp_iconst dX8_whistles_20 ic_1 ?_
          refine wp_goto 25 dX8_whistles_21 (by decide) ?_
          refine wp_istore (L' := [(5, _), (0, _), (1, _), (2, _), (3, _), (4, _)]) dX8_whistles_25 rfl rfl ?_
          refine wp_iload dX8_whistles_27 0 rfl ?_
          refine wp_if_eq 49 dX8_whistles_29 (by decide) (fun z9 => absurd z9 (by decide)) (fun _ => ?_)
          refine wp_iload_n dX8_whistles_32 4 rfl ?_
          refine wp_if_lt 49 dX8_whistles_33 (by decide) (fun c33_10 => ?_) (fun c33_10 => ?_)
          · refine wp_bipush dX8_whistles_49 bp_m2 ?_
            refine wp_cS1w (N := mX8_refusedAsLong) dX8_whistles_51 tmX8_172 okX8_refusedAsLong rfl rfl rfl rfl (s_X8_refusedAsLong X _ _) ?_
            refine wp_lreturn dX8_whistles_54 rfl ?_
            exact ⟨by unfold f_X8_whistles; rw [if_neg c1_1, if_neg c7_3, if_neg c11_5, if_neg c17_7, if_pos c33_10], rfl⟩
          · refine wp_iload_n dX8_whistles_36 4 rfl ?_
            refine wp_iload_n dX8_whistles_37 2 rfl ?_
            refine wp_icmp_gt 49 dX8_whistles_38 (by decide) (fun c38_11 => ?_) (fun c38_11 => ?_)
            · refine wp_bipush dX8_whistles_49 bp_m2 ?_
              refine wp_cS1w (N := mX8_refusedAsLong) dX8_whistles_51 tmX8_172 okX8_refusedAsLong rfl rfl rfl rfl (s_X8_refusedAsLong X _ _) ?_
              refine wp_lreturn dX8_whistles_54 rfl ?_
              exact ⟨by unfold f_X8_whistles; rw [if_neg c1_1, if_neg c7_3, if_neg c11_5, if_neg c17_7, if_neg c33_10, if_pos c38_11], rfl⟩
            · refine wp_iload dX8_whistles_41 5 rfl ?_
              refine wp_cS1w (N := mX8_isZeroOrOne) dX8_whistles_43 tmX8_132 okX8_isZeroOrOne rfl rfl rfl rfl (s_X8_isZeroOrOne X _ _) ?_
              refine wp_if_ne 55 dX8_whistles_46 (by decide) (fun c46_12 => ?_) (fun c46_12 => ?_)
              · refine wp_iload_n dX8_whistles_55 3 rfl ?_
                refine wp_iload_n dX8_whistles_56 4 rfl ?_
                refine wp_cS2w (N := mX8_power) dX8_whistles_57 tmX8_265 okX8_power rfl rfl rfl rfl (s_X8_power X _ _ _) ?_
                refine wp_lstore (L' := [(6, _), (5, _), (0, _), (1, _), (2, _), (3, _), (4, _)]) dX8_whistles_60 rfl rfl ?_
                refine wp_bipush dX8_whistles_62 bp_16 ?_
                refine wp_iload_n dX8_whistles_64 4 rfl ?_
                refine wp_isub dX8_whistles_65 ?_
                refine wp_iload_n dX8_whistles_66 3 rfl ?_
                refine wp_iload_n dX8_whistles_67 5 rfl ?_
                refine wp_isub dX8_whistles_68 ?_
                refine wp_cS2w (N := mX8_power) dX8_whistles_69 tmX8_265 okX8_power rfl rfl rfl rfl (s_X8_power X _ _ _) ?_
                refine wp_lstore (L' := [(8, _), (6, _), (5, _), (0, _), (1, _), (2, _), (3, _), (4, _)]) dX8_whistles_72 rfl rfl ?_
                refine wp_iload_n dX8_whistles_74 4 rfl ?_
                refine wp_iload_n dX8_whistles_75 6 rfl ?_
                refine wp_cS2w (N := mX8_choices) dX8_whistles_76 tmX8_269 okX8_choices rfl rfl rfl rfl (s_X8_choices X _ _ _) ?_
                refine wp_lload dX8_whistles_79 1 rfl ?_
                refine wp_lmul dX8_whistles_81 ?_
                refine wp_lload dX8_whistles_82 0 rfl ?_
                refine wp_lmul dX8_whistles_84 ?_
                refine wp_bipush dX8_whistles_85 bp_16 ?_
                refine wp_iload_n dX8_whistles_87 4 rfl ?_
                refine wp_cS2w (N := mX8_power) dX8_whistles_88 tmX8_265 okX8_power rfl rfl rfl rfl (s_X8_power X _ _ _) ?_
                refine wp_iload dX8_whistles_91 7 rfl ?_
                refine wp_cS3w (N := mX8_inLowestTerms) dX8_whistles_93 tmX8_183 okX8_inLowestTerms rfl rfl rfl rfl (s_X8_inLowestTerms X _ _ _ _) ?_
                refine wp_lreturn dX8_whistles_96 rfl ?_
                exact ⟨by unfold f_X8_whistles; rw [if_neg c1_1, if_neg c7_3, if_neg c11_5, if_neg c17_7, if_neg c33_10, if_neg c38_11, if_neg c46_12], rfl⟩
              · refine wp_bipush dX8_whistles_49 bp_m2 ?_
                refine wp_cS1w (N := mX8_refusedAsLong) dX8_whistles_51 tmX8_172 okX8_refusedAsLong rfl rfl rfl rfl (s_X8_refusedAsLong X _ _) ?_
                refine wp_lreturn dX8_whistles_54 rfl ?_
                exact ⟨by unfold f_X8_whistles; rw [if_neg c1_1, if_neg c7_3, if_neg c11_5, if_neg c17_7, if_neg c33_10, if_neg c38_11, if_pos c46_12], rfl⟩
def f_X8_words (σ : Mem) (a : Int32) : Int32 := if a < 0 then (-2) else if a ≤ 9 then (1 + (8 / (a + 1))) else (-2)
theorem s_X8_words (X : Amb) (σ : Mem) (a : Int32) : SpW X mX8_words [.ref (adr X 0), .int a] σ (.int (f_X8_words σ a)) σ := by
  refine sp_of (by decide +kernel) rfl ?_
  show WP X mX8_words 0 [(0, .ref (adr X 0)), (1, .int a)] [] σ _
  refine wp_iload_n dX8_words_0 1 rfl ?_
  refine wp_if_lt 10 dX8_words_1 (by decide) (fun c1_1 => ?_) (fun c1_1 => ?_)
  · refine wp_bipush dX8_words_10 bp_m2 ?_
    refine wp_ireturn dX8_words_12 rfl ?_
    exact ⟨by unfold f_X8_words; rw [if_pos c1_1], rfl⟩
  · refine wp_iload_n dX8_words_4 1 rfl ?_
    refine wp_bipush dX8_words_5 bp_9 ?_
    refine wp_icmp_le 13 dX8_words_7 (by decide) (fun c7_2 => ?_) (fun c7_2 => ?_)
    · refine wp_iconst dX8_words_13 ic_1 ?_
      refine wp_bipush dX8_words_14 bp_8 ?_
      refine wp_iload_n dX8_words_16 1 rfl ?_
      refine wp_iconst dX8_words_17 ic_1 ?_
      refine wp_iadd dX8_words_18 ?_
      refine wp_idiv dX8_words_19 (inc_ne c1_1) ?_
      refine wp_iadd dX8_words_20 ?_
      refine wp_ireturn dX8_words_21 rfl ?_
      exact ⟨by unfold f_X8_words; rw [if_neg c1_1, if_pos c7_2], rfl⟩
    · refine wp_bipush dX8_words_10 bp_m2 ?_
      refine wp_ireturn dX8_words_12 rfl ?_
      exact ⟨by unfold f_X8_words; rw [if_neg c1_1, if_neg c7_2], rfl⟩
def f_X8_train (σ : Mem) (a : Int32) : Int32 × Mem := if (f_X8_isFootMinute σ a) = 0 then ((-2), σ) else if (f_X2_isFull σ) = 0 then ((f_X2_size (f_X2_tell σ a)), (f_X2_tell σ a)) else ((-4), σ)
theorem s_X8_train (X : Amb) (σ : Mem) (a : Int32) : SpW X mX8_train [.ref (adr X 0), .int a] σ (.int (f_X8_train σ a).1) (f_X8_train σ a).2 := by
  refine sp_of (by decide +kernel) rfl ?_
  show WP X mX8_train 0 [(0, .ref (adr X 0)), (1, .int a)] [] σ _
  refine wp_iload_n dX8_train_0 1 rfl ?_
  refine wp_cS1w (N := mX8_isFootMinute) dX8_train_1 tmX8_227 okX8_isFootMinute rfl rfl rfl rfl (s_X8_isFootMinute X _ _) ?_
  refine wp_if_ne 10 dX8_train_4 (by decide) (fun c4_1 => ?_) (fun c4_1 => ?_)
  · refine wp_aload_n dX8_train_10 0 rfl ?_
    refine wp_getR dX8_train_11 faX8_86 rfl rfl ?_
    refine wp_cV0w (N := mX2_isFull) dX8_train_14 tmX8_230 okX2_isFull rfl rfl rfl rfl rfl rfl rfl rfl (s_X2_isFull X _) ?_
    refine wp_if_eq 23 dX8_train_17 (by decide) (fun c17_2 => ?_) (fun c17_2 => ?_)
    · refine wp_aload_n dX8_train_23 0 rfl ?_
      refine wp_getR dX8_train_24 faX8_86 rfl rfl ?_
      refine wp_iload_n dX8_train_27 1 rfl ?_
      refine wp_cV1v (N := mX2_tell) dX8_train_28 tmX8_231 okX2_tell rfl rfl rfl rfl rfl rfl rfl rfl (s_X2_tell X _ _) ?_
      refine wp_aload_n dX8_train_31 0 rfl ?_
      refine wp_getR dX8_train_32 faX8_86 rfl rfl ?_
      refine wp_cV0w (N := mX2_size) dX8_train_35 tmX8_234 okX2_size rfl rfl rfl rfl rfl rfl rfl rfl (s_X2_size X _) ?_
      refine wp_ireturn dX8_train_38 rfl ?_
      exact ⟨by unfold f_X8_train; rw [if_neg c4_1, if_pos c17_2], by unfold f_X8_train; rw [if_neg c4_1, if_pos c17_2]⟩
    · refine wp_bipush dX8_train_20 bp_m4 ?_
      refine wp_ireturn dX8_train_22 rfl ?_
      exact ⟨by unfold f_X8_train; rw [if_neg c4_1, if_neg c17_2], by unfold f_X8_train; rw [if_neg c4_1, if_neg c17_2]⟩
  · refine wp_bipush dX8_train_7 bp_m2 ?_
    refine wp_ireturn dX8_train_9 rfl ?_
    exact ⟨by unfold f_X8_train; rw [if_pos c4_1], by unfold f_X8_train; rw [if_pos c4_1]⟩
def f_X8_back (σ : Mem) : Int32 × Mem := if (f_X2_size σ) = 0 then ((-3), σ) else ((f_X2_size (f_X2_forgetLast σ)), (f_X2_forgetLast σ))
theorem s_X8_back (X : Amb) (σ : Mem) : SpW X mX8_back [.ref (adr X 0)] σ (.int (f_X8_back σ).1) (f_X8_back σ).2 := by
  refine sp_of (by decide +kernel) rfl ?_
  show WP X mX8_back 0 [(0, .ref (adr X 0))] [] σ _
  refine wp_aload_n dX8_back_0 0 rfl ?_
  refine wp_getR dX8_back_1 faX8_86 rfl rfl ?_
  refine wp_cV0w (N := mX2_size) dX8_back_4 tmX8_234 okX2_size rfl rfl rfl rfl rfl rfl rfl rfl (s_X2_size X _) ?_
  refine wp_if_ne 13 dX8_back_7 (by decide) (fun c7_1 => ?_) (fun c7_1 => ?_)
  · refine wp_aload_n dX8_back_13 0 rfl ?_
    refine wp_getR dX8_back_14 faX8_86 rfl rfl ?_
    refine wp_cV0v (N := mX2_forgetLast) dX8_back_17 tmX8_235 okX2_forgetLast rfl rfl rfl rfl rfl rfl rfl rfl (s_X2_forgetLast X _) ?_
    refine wp_aload_n dX8_back_20 0 rfl ?_
    refine wp_getR dX8_back_21 faX8_86 rfl rfl ?_
    refine wp_cV0w (N := mX2_size) dX8_back_24 tmX8_234 okX2_size rfl rfl rfl rfl rfl rfl rfl rfl (s_X2_size X _) ?_
    refine wp_ireturn dX8_back_27 rfl ?_
    exact ⟨by unfold f_X8_back; rw [if_neg c7_1], by unfold f_X8_back; rw [if_neg c7_1]⟩
  · refine wp_bipush dX8_back_10 bp_m3 ?_
    refine wp_ireturn dX8_back_12 rfl ?_
    exact ⟨by unfold f_X8_back; rw [if_pos c7_1], by unfold f_X8_back; rw [if_pos c7_1]⟩
def f_X8_late (σ : Mem) (a : Int32) (b : Int32) : Int32 × Mem := if a < 1 then ((-2), σ) else if 6 < a then ((-2), σ) else if (f_X8_isZeroOrOne σ b) = 0 then ((-2), σ) else if b = 0 then ((f_X2_waitedTogether (f_X2_pushAll σ a (f_X8_busyMinutes σ))), (f_X2_pushAll σ a (f_X8_busyMinutes σ))) else ((f_X2_waitedMost (f_X2_pushAll σ a (f_X8_busyMinutes σ))), (f_X2_pushAll σ a (f_X8_busyMinutes σ)))
theorem s_X8_late (X : Amb) (σ : Mem) (a : Int32) (b : Int32) : SpW X mX8_late [.ref (adr X 0), .int a, .int b] σ (.int (f_X8_late σ a b).1) (f_X8_late σ a b).2 := by
  refine sp_of (by decide +kernel) rfl ?_
  show WP X mX8_late 0 [(0, .ref (adr X 0)), (1, .int a), (2, .int b)] [] σ _
  refine wp_iload_n dX8_late_0 1 rfl ?_
  refine wp_iconst dX8_late_1 ic_1 ?_
  refine wp_icmp_lt 18 dX8_late_2 (by decide) (fun c2_1 => ?_) (fun c2_1 => ?_)
  · refine wp_bipush dX8_late_18 bp_m2 ?_
    refine wp_ireturn dX8_late_20 rfl ?_
    exact ⟨by unfold f_X8_late; rw [if_pos c2_1], by unfold f_X8_late; rw [if_pos c2_1]⟩
  · refine wp_iload_n dX8_late_5 1 rfl ?_
    refine wp_bipush dX8_late_6 bp_6 ?_
    refine wp_icmp_gt 18 dX8_late_8 (by decide) (fun c8_2 => ?_) (fun c8_2 => ?_)
    · refine wp_bipush dX8_late_18 bp_m2 ?_
      refine wp_ireturn dX8_late_20 rfl ?_
      exact ⟨by unfold f_X8_late; rw [if_neg c2_1, if_pos c8_2], by unfold f_X8_late; rw [if_neg c2_1, if_pos c8_2]⟩
    · refine wp_iload_n dX8_late_11 2 rfl ?_
      refine wp_cS1w (N := mX8_isZeroOrOne) dX8_late_12 tmX8_132 okX8_isZeroOrOne rfl rfl rfl rfl (s_X8_isZeroOrOne X _ _) ?_
      refine wp_if_ne 21 dX8_late_15 (by decide) (fun c15_3 => ?_) (fun c15_3 => ?_)
      · refine wp_aload_n dX8_late_21 0 rfl ?_
        refine wp_getR dX8_late_22 faX8_86 rfl rfl ?_
        refine wp_iload_n dX8_late_25 1 rfl ?_
        refine wp_aload_n dX8_late_26 0 rfl ?_
        refine wp_cV0w (N := mX8_busyMinutes) dX8_late_27 tmX8_252 okX8_busyMinutes rfl rfl rfl rfl rfl rfl rfl rfl (s_X8_busyMinutes X _) ?_
        refine wp_cV2v (N := mX2_pushAll) dX8_late_30 tmX8_255 okX2_pushAll rfl rfl rfl rfl rfl rfl rfl rfl (s_X2_pushAll X _ _ _) ?_
        refine wp_iload_n dX8_late_33 2 rfl ?_
        refine wp_if_ne 47 dX8_late_34 (by decide) (fun c34_4 => ?_) (fun c34_4 => ?_)
        · refine wp_aload_n dX8_late_47 0 rfl ?_
          refine wp_getR dX8_late_48 faX8_86 rfl rfl ?_
          refine wp_cV0w (N := mX2_waitedMost) dX8_late_51 tmX8_262 okX2_waitedMost rfl rfl rfl rfl rfl rfl rfl rfl (s_X2_waitedMost X _) ?_
          refine wp_ireturn dX8_late_54 rfl ?_
          exact ⟨by unfold f_X8_late; rw [if_neg c2_1, if_neg c8_2, if_neg c15_3, if_neg c34_4], by unfold f_X8_late; rw [if_neg c2_1, if_neg c8_2, if_neg c15_3, if_neg c34_4]⟩
        · refine wp_aload_n dX8_late_37 0 rfl ?_
          refine wp_getR dX8_late_38 faX8_86 rfl rfl ?_
          refine wp_cV0w (N := mX2_waitedTogether) dX8_late_41 tmX8_259 okX2_waitedTogether rfl rfl rfl rfl rfl rfl rfl rfl (s_X2_waitedTogether X _) ?_
          refine wp_goto 54 dX8_late_44 (by decide) ?_
          refine wp_ireturn dX8_late_54 rfl ?_
          exact ⟨by unfold f_X8_late; rw [if_neg c2_1, if_neg c8_2, if_neg c15_3, if_pos c34_4], by unfold f_X8_late; rw [if_neg c2_1, if_neg c8_2, if_neg c15_3, if_pos c34_4]⟩
      · refine wp_bipush dX8_late_18 bp_m2 ?_
        refine wp_ireturn dX8_late_20 rfl ?_
        exact ⟨by unfold f_X8_late; rw [if_neg c2_1, if_neg c8_2, if_pos c15_3], by unfold f_X8_late; rw [if_neg c2_1, if_neg c8_2, if_pos c15_3]⟩
def l_X8_enough_16 : Nat → Int32 → Int32 → Mem → Int32 × Mem
  | 0, _, _, σ => (0, σ)
  | n + 1, a, b, σ => if 6 < b then ((-1), σ) else if a < (f_X2_waitedMost (f_X2_pushAll σ b (f_X8_busyMinutes σ))) then (l_X8_enough_16 n a (b + 1) (f_X2_pushAll σ b (f_X8_busyMinutes σ))) else (b, (f_X2_pushAll σ b (f_X8_busyMinutes σ)))
theorem lt_X8_enough_16 (X : Amb) : ∀ (n : Nat) (a : Int32) (b : Int32) (σ : Mem), ((6 : Int32).toInt + 1 - b.toInt).toNat < n → WP X mX8_enough 16 [(0, .ref (adr X 0)), (1, .int a), (2, .int b)] [] σ (fun v σ' => v = some (.int (l_X8_enough_16 n a b σ).1) ∧ σ' = (l_X8_enough_16 n a b σ).2) := by
  intro n
  induction n with
  | zero => intro a b σ hm; exact absurd hm (Nat.not_lt_zero _)
  | succ n ih =>
    intro a b σ hm 
    refine wp_iload_n dX8_enough_16 2 rfl ?_
    refine wp_bipush dX8_enough_17 bp_6 ?_
    refine wp_icmp_gt 53 dX8_enough_19 (by decide) (fun c19_1 => ?_) (fun c19_1 => ?_)
    · refine wp_iconst dX8_enough_53 ic_m1 ?_
      refine wp_ireturn dX8_enough_54 rfl ?_
      exact ⟨by rw [l_X8_enough_16, if_pos c19_1], by rw [l_X8_enough_16, if_pos c19_1]⟩
    · refine wp_aload_n dX8_enough_22 0 rfl ?_
      refine wp_getR dX8_enough_23 faX8_86 rfl rfl ?_
      refine wp_iload_n dX8_enough_26 2 rfl ?_
      refine wp_aload_n dX8_enough_27 0 rfl ?_
      refine wp_cV0w (N := mX8_busyMinutes) dX8_enough_28 tmX8_252 okX8_busyMinutes rfl rfl rfl rfl rfl rfl rfl rfl (s_X8_busyMinutes X _) ?_
      refine wp_cV2v (N := mX2_pushAll) dX8_enough_31 tmX8_255 okX2_pushAll rfl rfl rfl rfl rfl rfl rfl rfl (s_X2_pushAll X _ _ _) ?_
      refine wp_aload_n dX8_enough_34 0 rfl ?_
      refine wp_getR dX8_enough_35 faX8_86 rfl rfl ?_
      refine wp_cV0w (N := mX2_waitedMost) dX8_enough_38 tmX8_262 okX2_waitedMost rfl rfl rfl rfl rfl rfl rfl rfl (s_X2_waitedMost X _) ?_
      refine wp_iload_n dX8_enough_41 1 rfl ?_
      refine wp_icmp_gt 47 dX8_enough_42 (by decide) (fun c42_2 => ?_) (fun c42_2 => ?_)
      · refine wp_iinc (L' := [(2, _), (0, _), (1, _)]) dX8_enough_47 rfl 2 rfl (ii_1 _) rfl ?_
        refine wp_goto 16 dX8_enough_50 (by decide) ?_
        refine wp_drop [1, 2, 0] rfl ?_
        rw [show l_X8_enough_16 (n + 1) a b σ = (l_X8_enough_16 n a (b + 1) (f_X2_pushAll σ b (f_X8_busyMinutes σ))) from by rw [l_X8_enough_16, if_neg c19_1, if_pos c42_2]]
        exact ih _ _ _ (cnt_le c19_1 (by decide) hm) 
      · refine wp_iload_n dX8_enough_45 2 rfl ?_
        refine wp_ireturn dX8_enough_46 rfl ?_
        exact ⟨by rw [l_X8_enough_16, if_neg c19_1, if_neg c42_2], by rw [l_X8_enough_16, if_neg c19_1, if_neg c42_2]⟩
def f_X8_enough (σ : Mem) (a : Int32) : Int32 × Mem := if a < 0 then ((-2), σ) else if a ≤ 999 then (l_X8_enough_16 (fu 7) a 1 σ) else ((-2), σ)
theorem s_X8_enough (X : Amb) (σ : Mem) (a : Int32) : SpW X mX8_enough [.ref (adr X 0), .int a] σ (.int (f_X8_enough σ a).1) (f_X8_enough σ a).2 := by
  refine sp_of (by decide +kernel) rfl ?_
  show WP X mX8_enough 0 [(0, .ref (adr X 0)), (1, .int a)] [] σ _
  refine wp_iload_n dX8_enough_0 1 rfl ?_
  refine wp_if_lt 11 dX8_enough_1 (by decide) (fun c1_1 => ?_) (fun c1_1 => ?_)
  · refine wp_bipush dX8_enough_11 bp_m2 ?_
    refine wp_ireturn dX8_enough_13 rfl ?_
    exact ⟨by unfold f_X8_enough; rw [if_pos c1_1], by unfold f_X8_enough; rw [if_pos c1_1]⟩
  · refine wp_iload_n dX8_enough_4 1 rfl ?_
    refine wp_sipush dX8_enough_5 sp_999 ?_
    refine wp_icmp_le 14 dX8_enough_8 (by decide) (fun c8_2 => ?_) (fun c8_2 => ?_)
    · refine wp_iconst dX8_enough_14 ic_1 ?_
      refine wp_istore_n (L' := [(2, _), (0, _), (1, _)]) dX8_enough_15 rfl rfl ?_
      refine wp_drop [1, 2, 0] rfl ?_
      rw [show f_X8_enough σ a = (l_X8_enough_16 (fu 7) a 1 σ) from by unfold f_X8_enough; rw [if_neg c1_1, if_pos c8_2]]
      exact lt_X8_enough_16 X  (fu 7) a 1 σ (fu_lt (by decide)) 
    · refine wp_bipush dX8_enough_11 bp_m2 ?_
      refine wp_ireturn dX8_enough_13 rfl ?_
      exact ⟨by unfold f_X8_enough; rw [if_neg c1_1, if_neg c8_2], by unfold f_X8_enough; rw [if_neg c1_1, if_neg c8_2]⟩
def f_X8_sheet (σ : Mem) (a : Int32) (b : Int32) (c : Int32) : Int32 × Mem := if 0 ≤ a ∧ a < 4 then if (f_X8_isForm σ b) = 0 then ((-2), σ) else if c ≤ 60 then if 0 ≤ c then (c, (f_X5_renew σ (shk a) b c)) else ((f_X8_found σ 5).1, (f_X8_found σ 5).2) else ((-2), σ) else ((-2), σ)
theorem s_X8_sheet (X : Amb) (σ : Mem) (a : Int32) (b : Int32) (c : Int32) : SpW X mX8_sheet [.ref (adr X 0), .int a, .int b, .int c] σ (.int (f_X8_sheet σ a b c).1) (f_X8_sheet σ a b c).2 := by
  refine sp_of (by decide +kernel) rfl ?_
  show WP X mX8_sheet 0 [(0, .ref (adr X 0)), (1, .int a), (2, .int b), (3, .int c)] [] σ _
  refine wp_aload_n dX8_sheet_0 0 rfl ?_
  refine wp_iload_n dX8_sheet_1 1 rfl ?_
  by_cases k2_0 : 0 ≤ a ∧ a < 4
  · refine wp_cV1w (N := mX8_sheetAt) dX8_sheet_2 tmX8_238 okX8_sheetAt rfl rfl rfl rfl rfl rfl rfl rfl (s_sheetAt X _ _ k2_0) ?_
    refine wp_astore (L' := [(4, _), (0, _), (1, _), (2, _), (3, _)]) dX8_sheet_5 rfl rfl ?_
    refine wp_aload dX8_sheet_7 0 rfl ?_
    refine wp_ifnull dX8_sheet_9 ?_
    refine wp_iload_n dX8_sheet_12 3 rfl ?_
    refine wp_cS1w (N := mX8_isForm) dX8_sheet_13 tmX8_272 okX8_isForm rfl rfl rfl rfl (s_X8_isForm X _ _) ?_
    refine wp_if_eq 25 dX8_sheet_16 (by decide) (fun c16_1 => ?_) (fun c16_1 => ?_)
    · refine wp_bipush dX8_sheet_25 bp_m2 ?_
      refine wp_ireturn dX8_sheet_27 rfl ?_
      exact ⟨by unfold f_X8_sheet; rw [if_pos k2_0, if_pos c16_1], by unfold f_X8_sheet; rw [if_pos k2_0, if_pos c16_1]⟩
    · refine wp_iload_n dX8_sheet_19 4 rfl ?_
      refine wp_bipush dX8_sheet_20 bp_60 ?_
      refine wp_icmp_le 28 dX8_sheet_22 (by decide) (fun c22_2 => ?_) (fun c22_2 => ?_)
      · refine wp_iload_n dX8_sheet_28 4 rfl ?_
        refine wp_if_ge 38 dX8_sheet_29 (by decide) (fun c29_3 => ?_) (fun c29_3 => ?_)
        · refine wp_aload dX8_sheet_38 0 rfl ?_
          refine wp_iload_n dX8_sheet_40 3 rfl ?_
          refine wp_iload_n dX8_sheet_41 4 rfl ?_
          refine wp_cV2v (N := mX5_renew) dX8_sheet_42 tmX8_275 okX5_renew rfl (shk_ok k2_0).s rfl rfl rfl rfl rfl rfl (s_X5_renew X _ (shk a) _ _ (shk_ok k2_0)) ?_
          refine wp_iload_n dX8_sheet_45 4 rfl ?_
          refine wp_ireturn dX8_sheet_46 rfl ?_
          exact ⟨by unfold f_X8_sheet; rw [if_pos k2_0, if_neg c16_1, if_pos c22_2, if_pos c29_3], by unfold f_X8_sheet; rw [if_pos k2_0, if_neg c16_1, if_pos c22_2, if_pos c29_3]⟩
        · refine wp_aload_n dX8_sheet_32 1 rfl ?_
          refine wp_iconst dX8_sheet_33 ic_5 ?_
          refine wp_cV1w (N := mX8_found) dX8_sheet_34 tmX8_245 okX8_found rfl rfl rfl rfl rfl rfl rfl rfl (s_X8_found X _ _) ?_
          refine wp_ireturn dX8_sheet_37 rfl ?_
          exact ⟨by unfold f_X8_sheet; rw [if_pos k2_0, if_neg c16_1, if_pos c22_2, if_neg c29_3], by unfold f_X8_sheet; rw [if_pos k2_0, if_neg c16_1, if_pos c22_2, if_neg c29_3]⟩
      · refine wp_bipush dX8_sheet_25 bp_m2 ?_
        refine wp_ireturn dX8_sheet_27 rfl ?_
        exact ⟨by unfold f_X8_sheet; rw [if_pos k2_0, if_neg c16_1, if_neg c22_2], by unfold f_X8_sheet; rw [if_pos k2_0, if_neg c16_1, if_neg c22_2]⟩
  · refine wp_cV1w (N := mX8_sheetAt) dX8_sheet_2 tmX8_238 okX8_sheetAt rfl rfl rfl rfl rfl rfl rfl rfl (s_sheetAtN X _ _ k2_0) ?_
    refine wp_astoreN (L' := [(4, _), (0, _), (1, _), (2, _), (3, _)]) dX8_sheet_5 rfl rfl ?_
    refine wp_aloadN dX8_sheet_7 0 rfl ?_
    refine wp_ifnullN 25 dX8_sheet_9 (by decide) ?_
    refine wp_bipush dX8_sheet_25 bp_m2 ?_
    refine wp_ireturn dX8_sheet_27 rfl ?_
    exact ⟨by unfold f_X8_sheet; rw [if_neg k2_0], by unfold f_X8_sheet; rw [if_neg k2_0]⟩
def f_X8_lose (σ : Mem) (a : Int32) : Int32 × Mem := if 0 ≤ a ∧ a < 4 then if (f_X5_isLost σ (shk a)) = 0 then ((f_X5_size σ (shk a)), (f_X5_drop σ (shk a))) else ((f_X8_found σ 1).1, (f_X8_found σ 1).2) else ((-2), σ)
theorem s_X8_lose (X : Amb) (σ : Mem) (a : Int32) : SpW X mX8_lose [.ref (adr X 0), .int a] σ (.int (f_X8_lose σ a).1) (f_X8_lose σ a).2 := by
  refine sp_of (by decide +kernel) rfl ?_
  show WP X mX8_lose 0 [(0, .ref (adr X 0)), (1, .int a)] [] σ _
  refine wp_aload_n dX8_lose_0 0 rfl ?_
  refine wp_iload_n dX8_lose_1 1 rfl ?_
  by_cases k2_0 : 0 ≤ a ∧ a < 4
  · refine wp_cV1w (N := mX8_sheetAt) dX8_lose_2 tmX8_238 okX8_sheetAt rfl rfl rfl rfl rfl rfl rfl rfl (s_sheetAt X _ _ k2_0) ?_
    refine wp_astore_n (L' := [(2, _), (0, _), (1, _)]) dX8_lose_5 rfl rfl ?_
    refine wp_aload_n dX8_lose_6 0 rfl ?_
    refine wp_ifnonnull 13 dX8_lose_7 (by decide) ?_
    refine wp_aload_n dX8_lose_13 0 rfl ?_
    refine wp_cV0w (N := mX5_isLost) dX8_lose_14 tmX8_242 okX5_isLost rfl (shk_ok k2_0).s rfl rfl rfl rfl rfl rfl (s_X5_isLost X _ (shk a) (shk_ok k2_0)) ?_
    refine wp_if_eq 26 dX8_lose_17 (by decide) (fun c17_1 => ?_) (fun c17_1 => ?_)
    · refine wp_aload_n dX8_lose_26 0 rfl ?_
      refine wp_cV0w (N := mX5_size) dX8_lose_27 tmX8_248 okX5_size rfl (shk_ok k2_0).s rfl rfl rfl rfl rfl rfl (s_X5_size X _ (shk a) (shk_ok k2_0)) ?_
      refine wp_istore_n (L' := [(3, _), (2, _), (0, _), (1, _)]) dX8_lose_30 rfl rfl ?_
      refine wp_aload_n dX8_lose_31 1 rfl ?_
      refine wp_cV0v (N := mX5_drop) dX8_lose_32 tmX8_278 okX5_drop rfl (shk_ok k2_0).s rfl rfl rfl rfl rfl rfl (s_X5_drop X _ (shk a) (shk_ok k2_0)) ?_
      refine wp_iload_n dX8_lose_35 0 rfl ?_
      refine wp_ireturn dX8_lose_36 rfl ?_
      exact ⟨by unfold f_X8_lose; rw [if_pos k2_0, if_pos c17_1], by unfold f_X8_lose; rw [if_pos k2_0, if_pos c17_1]⟩
    · refine wp_aload_n dX8_lose_20 1 rfl ?_
      refine wp_iconst dX8_lose_21 ic_1 ?_
      refine wp_cV1w (N := mX8_found) dX8_lose_22 tmX8_245 okX8_found rfl rfl rfl rfl rfl rfl rfl rfl (s_X8_found X _ _) ?_
      refine wp_ireturn dX8_lose_25 rfl ?_
      exact ⟨by unfold f_X8_lose; rw [if_pos k2_0, if_neg c17_1], by unfold f_X8_lose; rw [if_pos k2_0, if_neg c17_1]⟩
  · refine wp_cV1w (N := mX8_sheetAt) dX8_lose_2 tmX8_238 okX8_sheetAt rfl rfl rfl rfl rfl rfl rfl rfl (s_sheetAtN X _ _ k2_0) ?_
    refine wp_astore_nN (L' := [(2, _), (0, _), (1, _)]) dX8_lose_5 rfl rfl ?_
    refine wp_aload_nN dX8_lose_6 0 rfl ?_
    refine wp_ifnonnullN dX8_lose_7 ?_
    refine wp_bipush dX8_lose_10 bp_m2 ?_
    refine wp_ireturn dX8_lose_12 rfl ?_
    exact ⟨by unfold f_X8_lose; rw [if_neg k2_0], by unfold f_X8_lose; rw [if_neg k2_0]⟩
def f_X8_findingOfItem (σ : Mem) (k : Nat) (a : Int32) (b : Int32) : Int32 := if (f_X5_isLost σ k) = 0 then if (f_X5_isOfForm σ k a) = 0 then 3 else if (f_X5_hasItems σ k b 1) = 0 then 2 else 0 else 1
theorem s_X8_findingOfItem (X : Amb) (σ : Mem) (k : Nat) (a : Int32) (b : Int32) (hk : Sht k) : SpW X mX8_findingOfItem [.ref (adr X k), .int a, .int b] σ (.int (f_X8_findingOfItem σ k a b)) σ := by
  refine sp_of (by decide +kernel) rfl ?_
  show WP X mX8_findingOfItem 0 [(0, .ref (adr X k)), (1, .int a), (2, .int b)] [] σ _
  refine wp_aload_n dX8_findingOfItem_0 0 rfl ?_
  refine wp_cV0w (N := mX5_isLost) dX8_findingOfItem_1 tmX8_242 okX5_isLost rfl hk.s rfl rfl rfl rfl rfl rfl (s_X5_isLost X _ k hk) ?_
  refine wp_if_eq 9 dX8_findingOfItem_4 (by decide) (fun c4_1 => ?_) (fun c4_1 => ?_)
  · refine wp_aload_n dX8_findingOfItem_9 0 rfl ?_
    refine wp_iload_n dX8_findingOfItem_10 1 rfl ?_
    refine wp_cV1w (N := mX5_isOfForm) dX8_findingOfItem_11 tmX8_292 okX5_isOfForm rfl hk.s rfl rfl rfl rfl rfl rfl (s_X5_isOfForm X _ k _ hk) ?_
    refine wp_if_ne 19 dX8_findingOfItem_14 (by decide) (fun c14_2 => ?_) (fun c14_2 => ?_)
    · refine wp_aload_n dX8_findingOfItem_19 0 rfl ?_
      refine wp_iload_n dX8_findingOfItem_20 2 rfl ?_
      refine wp_iconst dX8_findingOfItem_21 ic_1 ?_
      refine wp_cV2w (N := mX5_hasItems) dX8_findingOfItem_22 tmX8_295 okX5_hasItems rfl hk.s rfl rfl rfl rfl rfl rfl (s_X5_hasItems X _ k _ _ hk) ?_
      refine wp_if_eq 32 dX8_findingOfItem_25 (by decide) (fun c25_3 => ?_) (fun c25_3 => ?_)
      · refine wp_iconst dX8_findingOfItem_32 ic_2 ?_
        refine wp_ireturn dX8_findingOfItem_33 rfl ?_
        exact ⟨by unfold f_X8_findingOfItem; rw [if_pos c4_1, if_neg c14_2, if_pos c25_3], rfl⟩
      · refine wp_iconst dX8_findingOfItem_28 ic_0 ?_
        refine wp_goto 33 dX8_findingOfItem_29 (by decide) ?_
        refine wp_ireturn dX8_findingOfItem_33 rfl ?_
        exact ⟨by unfold f_X8_findingOfItem; rw [if_pos c4_1, if_neg c14_2, if_neg c25_3], rfl⟩
    · refine wp_iconst dX8_findingOfItem_17 ic_3 ?_
      refine wp_ireturn dX8_findingOfItem_18 rfl ?_
      exact ⟨by unfold f_X8_findingOfItem; rw [if_pos c4_1, if_pos c14_2], rfl⟩
  · refine wp_iconst dX8_findingOfItem_7 ic_1 ?_
    refine wp_ireturn dX8_findingOfItem_8 rfl ?_
    exact ⟨by unfold f_X8_findingOfItem; rw [if_neg c4_1], rfl⟩
def f_X8_lay (σ : Mem) (a : Int32) (b : Int32) (c : Int32) (d : Int32) : Int32 × Mem := if 0 ≤ a ∧ a < 4 then if (f_X8_isForm σ b) = 0 then ((-2), σ) else if (f_X8_findingOfItem σ (shk a) b c) = 0 then (1, (f_X5_put σ (shk a) c d)) else ((f_X8_found σ (f_X8_findingOfItem σ (shk a) b c)).1, (f_X8_found σ (f_X8_findingOfItem σ (shk a) b c)).2) else ((-2), σ)
theorem s_X8_lay (X : Amb) (σ : Mem) (a : Int32) (b : Int32) (c : Int32) (d : Int32) : SpW X mX8_lay [.ref (adr X 0), .int a, .int b, .int c, .int d] σ (.int (f_X8_lay σ a b c d).1) (f_X8_lay σ a b c d).2 := by
  refine sp_of (by decide +kernel) rfl ?_
  show WP X mX8_lay 0 [(0, .ref (adr X 0)), (1, .int a), (2, .int b), (3, .int c), (4, .int d)] [] σ _
  refine wp_aload_n dX8_lay_0 0 rfl ?_
  refine wp_iload_n dX8_lay_1 1 rfl ?_
  by_cases k2_0 : 0 ≤ a ∧ a < 4
  · refine wp_cV1w (N := mX8_sheetAt) dX8_lay_2 tmX8_238 okX8_sheetAt rfl rfl rfl rfl rfl rfl rfl rfl (s_sheetAt X _ _ k2_0) ?_
    refine wp_astore (L' := [(5, _), (0, _), (1, _), (2, _), (3, _), (4, _)]) dX8_lay_5 rfl rfl ?_
    refine wp_aload dX8_lay_7 0 rfl ?_
    refine wp_ifnull dX8_lay_9 ?_
    refine wp_iload_n dX8_lay_12 3 rfl ?_
    refine wp_cS1w (N := mX8_isForm) dX8_lay_13 tmX8_272 okX8_isForm rfl rfl rfl rfl (s_X8_isForm X _ _) ?_
    refine wp_if_ne 22 dX8_lay_16 (by decide) (fun c16_1 => ?_) (fun c16_1 => ?_)
    · refine wp_aload dX8_lay_22 0 rfl ?_
      refine wp_iload_n dX8_lay_24 3 rfl ?_
      refine wp_iload_n dX8_lay_25 4 rfl ?_
      refine wp_cS3w (N := mX8_findingOfItem) dX8_lay_26 tmX8_281 okX8_findingOfItem rfl rfl rfl rfl (s_X8_findingOfItem X _ (shk a) _ _ (shk_ok k2_0)) ?_
      refine wp_istore (L' := [(6, _), (5, _), (0, _), (1, _), (2, _), (3, _), (4, _)]) dX8_lay_29 rfl rfl ?_
      refine wp_iload dX8_lay_31 0 rfl ?_
      refine wp_if_eq 43 dX8_lay_33 (by decide) (fun c33_2 => ?_) (fun c33_2 => ?_)
      · refine wp_aload dX8_lay_43 1 rfl ?_
        refine wp_iload_n dX8_lay_45 5 rfl ?_
        refine wp_iload dX8_lay_46 6 rfl ?_
        refine wp_cV2v (N := mX5_put) dX8_lay_48 tmX8_285 okX5_put rfl (shk_ok k2_0).s rfl rfl rfl rfl rfl rfl (s_X5_put X _ (shk a) _ _ (shk_ok k2_0)) ?_
        refine wp_iconst dX8_lay_51 ic_1 ?_
        refine wp_ireturn dX8_lay_52 rfl ?_
        exact ⟨by unfold f_X8_lay; rw [if_pos k2_0, if_neg c16_1, if_pos c33_2], by unfold f_X8_lay; rw [if_pos k2_0, if_neg c16_1, if_pos c33_2]⟩
      · refine wp_aload_n dX8_lay_36 2 rfl ?_
        refine wp_iload dX8_lay_37 0 rfl ?_
        refine wp_cV1w (N := mX8_found) dX8_lay_39 tmX8_245 okX8_found rfl rfl rfl rfl rfl rfl rfl rfl (s_X8_found X _ _) ?_
        refine wp_ireturn dX8_lay_42 rfl ?_
        exact ⟨by unfold f_X8_lay; rw [if_pos k2_0, if_neg c16_1, if_neg c33_2], by unfold f_X8_lay; rw [if_pos k2_0, if_neg c16_1, if_neg c33_2]⟩
    · refine wp_bipush dX8_lay_19 bp_m2 ?_
      refine wp_ireturn dX8_lay_21 rfl ?_
      exact ⟨by unfold f_X8_lay; rw [if_pos k2_0, if_pos c16_1], by unfold f_X8_lay; rw [if_pos k2_0, if_pos c16_1]⟩
  · refine wp_cV1w (N := mX8_sheetAt) dX8_lay_2 tmX8_238 okX8_sheetAt rfl rfl rfl rfl rfl rfl rfl rfl (s_sheetAtN X _ _ k2_0) ?_
    refine wp_astoreN (L' := [(5, _), (0, _), (1, _), (2, _), (3, _), (4, _)]) dX8_lay_5 rfl rfl ?_
    refine wp_aloadN dX8_lay_7 0 rfl ?_
    refine wp_ifnullN 19 dX8_lay_9 (by decide) ?_
    refine wp_bipush dX8_lay_19 bp_m2 ?_
    refine wp_ireturn dX8_lay_21 rfl ?_
    exact ⟨by unfold f_X8_lay; rw [if_neg k2_0], by unfold f_X8_lay; rw [if_neg k2_0]⟩
def f_X8_get (σ : Mem) (a : Int32) (b : Int32) (c : Int32) : Int32 × Mem := if 0 ≤ a ∧ a < 4 then if (f_X8_isForm σ b) = 0 then ((-2147483648), σ) else if (f_X8_findingOfItem σ (shk a) b c) = 0 then ((f_X5_itemAt σ (shk a) c), σ) else ((-2147483648), (f_X8_found σ (f_X8_findingOfItem σ (shk a) b c)).2) else ((-2147483648), σ)
theorem s_X8_get (X : Amb) (σ : Mem) (a : Int32) (b : Int32) (c : Int32) : SpW X mX8_get [.ref (adr X 0), .int a, .int b, .int c] σ (.int (f_X8_get σ a b c).1) (f_X8_get σ a b c).2 := by
  refine sp_of (by decide +kernel) rfl ?_
  show WP X mX8_get 0 [(0, .ref (adr X 0)), (1, .int a), (2, .int b), (3, .int c)] [] σ _
  refine wp_aload_n dX8_get_0 0 rfl ?_
  refine wp_iload_n dX8_get_1 1 rfl ?_
  by_cases k2_0 : 0 ≤ a ∧ a < 4
  · refine wp_cV1w (N := mX8_sheetAt) dX8_get_2 tmX8_238 okX8_sheetAt rfl rfl rfl rfl rfl rfl rfl rfl (s_sheetAt X _ _ k2_0) ?_
    refine wp_astore (L' := [(4, _), (0, _), (1, _), (2, _), (3, _)]) dX8_get_5 rfl rfl ?_
    refine wp_aload dX8_get_7 0 rfl ?_
    refine wp_ifnull dX8_get_9 ?_
    refine wp_iload_n dX8_get_12 3 rfl ?_
    refine wp_cS1w (N := mX8_isForm) dX8_get_13 tmX8_272 okX8_isForm rfl rfl rfl rfl (s_X8_isForm X _ _) ?_
    refine wp_if_ne 23 dX8_get_16 (by decide) (fun c16_1 => ?_) (fun c16_1 => ?_)
    · refine wp_aload dX8_get_23 0 rfl ?_
      refine wp_iload_n dX8_get_25 3 rfl ?_
      refine wp_iload_n dX8_get_26 4 rfl ?_
      refine wp_cS3w (N := mX8_findingOfItem) dX8_get_27 tmX8_281 okX8_findingOfItem rfl rfl rfl rfl (s_X8_findingOfItem X _ (shk a) _ _ (shk_ok k2_0)) ?_
      refine wp_istore (L' := [(5, _), (4, _), (0, _), (1, _), (2, _), (3, _)]) dX8_get_30 rfl rfl ?_
      refine wp_iload dX8_get_32 0 rfl ?_
      refine wp_if_eq 48 dX8_get_34 (by decide) (fun c34_2 => ?_) (fun c34_2 => ?_)
      · refine wp_aload dX8_get_48 1 rfl ?_
        refine wp_iload_n dX8_get_50 5 rfl ?_
        refine wp_cV1w (N := mX5_itemAt) dX8_get_51 tmX8_249 okX5_itemAt rfl (shk_ok k2_0).s rfl rfl rfl rfl rfl rfl (s_X5_itemAt X _ (shk a) _ (shk_ok k2_0)) ?_
        refine wp_ireturn dX8_get_54 rfl ?_
        exact ⟨by unfold f_X8_get; rw [if_pos k2_0, if_neg c16_1, if_pos c34_2], by unfold f_X8_get; rw [if_pos k2_0, if_neg c16_1, if_pos c34_2]⟩
      · refine wp_aload_n dX8_get_37 2 rfl ?_
        refine wp_iload dX8_get_38 0 rfl ?_
        refine wp_cV1w (N := mX8_found) dX8_get_40 tmX8_245 okX8_found rfl rfl rfl rfl rfl rfl rfl rfl (s_X8_found X _ _) ?_
        refine wp_pop dX8_get_43 rfl ?_
        refine wp_ldcw dX8_get_44 tkX8_288 ?_
        refine wp_ireturn dX8_get_47 rfl ?_
        exact ⟨by unfold f_X8_get; rw [if_pos k2_0, if_neg c16_1, if_neg c34_2], by unfold f_X8_get; rw [if_pos k2_0, if_neg c16_1, if_neg c34_2]⟩
    · refine wp_ldcw dX8_get_19 tkX8_288 ?_
      refine wp_ireturn dX8_get_22 rfl ?_
      exact ⟨by unfold f_X8_get; rw [if_pos k2_0, if_pos c16_1], by unfold f_X8_get; rw [if_pos k2_0, if_pos c16_1]⟩
  · refine wp_cV1w (N := mX8_sheetAt) dX8_get_2 tmX8_238 okX8_sheetAt rfl rfl rfl rfl rfl rfl rfl rfl (s_sheetAtN X _ _ k2_0) ?_
    refine wp_astoreN (L' := [(4, _), (0, _), (1, _), (2, _), (3, _)]) dX8_get_5 rfl rfl ?_
    refine wp_aloadN dX8_get_7 0 rfl ?_
    refine wp_ifnullN 19 dX8_get_9 (by decide) ?_
    refine wp_ldcw dX8_get_19 tkX8_288 ?_
    refine wp_ireturn dX8_get_22 rfl ?_
    exact ⟨by unfold f_X8_get; rw [if_neg k2_0], by unfold f_X8_get; rw [if_neg k2_0]⟩
def f_X8_copy (σ : Mem) (a : Int32) (b : Int32) (c : Int32) (d : Int32) (e : Int32) : Int32 × Mem := if 0 ≤ a ∧ a < 4 then if 0 ≤ c ∧ c < 4 then if (f_X5_isLost σ (shk a)) = 0 then if (f_X5_isLost σ (shk c)) = 0 then if (f_X5_isOfForm σ (shk a) (f_X5_formNumber σ (shk c))) = 0 then ((f_X8_found σ 4).1, (f_X8_found σ 4).2) else if (f_X5_hasItems σ (shk a) b e) = 0 then ((f_X8_found σ 2).1, (f_X8_found σ 2).2) else if (f_X5_hasItems σ (shk c) d e) = 0 then ((f_X8_found σ 2).1, (f_X8_found σ 2).2) else (1, (f_X5_takeOver σ (shk c) (shk a) b d e)) else ((f_X8_found σ 1).1, (f_X8_found σ 1).2) else ((f_X8_found σ 1).1, (f_X8_found σ 1).2) else ((-2), σ) else if 0 ≤ c ∧ c < 4 then ((-2), σ) else ((-2), σ)
theorem s_X8_copy (X : Amb) (σ : Mem) (a : Int32) (b : Int32) (c : Int32) (d : Int32) (e : Int32) (hI : CI σ) : SpW X mX8_copy [.ref (adr X 0), .int a, .int b, .int c, .int d, .int e] σ (.int (f_X8_copy σ a b c d e).1) (f_X8_copy σ a b c d e).2 := by
  refine sp_of (by decide +kernel) rfl ?_
  show WP X mX8_copy 0 [(0, .ref (adr X 0)), (1, .int a), (2, .int b), (3, .int c), (4, .int d), (5, .int e)] [] σ _
  refine wp_aload_n dX8_copy_0 0 rfl ?_
  refine wp_iload_n dX8_copy_1 1 rfl ?_
  by_cases k2_0 : 0 ≤ a ∧ a < 4
  · refine wp_cV1w (N := mX8_sheetAt) dX8_copy_2 tmX8_238 okX8_sheetAt rfl rfl rfl rfl rfl rfl rfl rfl (s_sheetAt X _ _ k2_0) ?_
    refine wp_astore (L' := [(6, _), (0, _), (1, _), (2, _), (3, _), (4, _), (5, _)]) dX8_copy_5 rfl rfl ?_
    refine wp_aload_n dX8_copy_7 1 rfl ?_
    refine wp_iload_n dX8_copy_8 4 rfl ?_
    by_cases k9_0 : 0 ≤ c ∧ c < 4
    · refine wp_cV1w (N := mX8_sheetAt) dX8_copy_9 tmX8_238 okX8_sheetAt rfl rfl rfl rfl rfl rfl rfl rfl (s_sheetAt X _ _ k9_0) ?_
      refine wp_astore (L' := [(7, _), (6, _), (0, _), (1, _), (2, _), (3, _), (4, _), (5, _)]) dX8_copy_12 rfl rfl ?_
      refine wp_aload dX8_copy_14 1 rfl ?_
      refine wp_ifnull dX8_copy_16 ?_
      refine wp_aload dX8_copy_19 0 rfl ?_
      refine wp_ifnonnull 27 dX8_copy_21 (by decide) ?_
      refine wp_aload dX8_copy_27 1 rfl ?_
      refine wp_cV0w (N := mX5_isLost) dX8_copy_29 tmX8_242 okX5_isLost rfl (shk_ok k2_0).s rfl rfl rfl rfl rfl rfl (s_X5_isLost X _ (shk a) (shk_ok k2_0)) ?_
      refine wp_if_ne 43 dX8_copy_32 (by decide) (fun c32_1 => ?_) (fun c32_1 => ?_)
      · refine wp_aload_n dX8_copy_43 2 rfl ?_
        refine wp_iconst dX8_copy_44 ic_1 ?_
        refine wp_cV1w (N := mX8_found) dX8_copy_45 tmX8_245 okX8_found rfl rfl rfl rfl rfl rfl rfl rfl (s_X8_found X _ _) ?_
        refine wp_ireturn dX8_copy_48 rfl ?_
        exact ⟨by unfold f_X8_copy; rw [if_pos k2_0, if_pos k9_0, if_neg c32_1], by unfold f_X8_copy; rw [if_pos k2_0, if_pos k9_0, if_neg c32_1]⟩
      · refine wp_aload dX8_copy_35 0 rfl ?_
        refine wp_cV0w (N := mX5_isLost) dX8_copy_37 tmX8_242 okX5_isLost rfl (shk_ok k9_0).s rfl rfl rfl rfl rfl rfl (s_X5_isLost X _ (shk c) (shk_ok k9_0)) ?_
        refine wp_if_eq 49 dX8_copy_40 (by decide) (fun c40_2 => ?_) (fun c40_2 => ?_)
        · refine wp_aload dX8_copy_49 1 rfl ?_
          refine wp_aload dX8_copy_51 0 rfl ?_
          refine wp_cV0w (N := mX5_formNumber) dX8_copy_53 tmX8_289 okX5_formNumber rfl (shk_ok k9_0).s rfl rfl rfl rfl rfl rfl (s_X5_formNumber X _ (shk c) (shk_ok k9_0)) ?_
          refine wp_cV1w (N := mX5_isOfForm) dX8_copy_56 tmX8_292 okX5_isOfForm rfl (shk_ok k2_0).s rfl rfl rfl rfl rfl rfl (s_X5_isOfForm X _ (shk a) _ (shk_ok k2_0)) ?_
          refine wp_if_ne 68 dX8_copy_59 (by decide) (fun c59_3 => ?_) (fun c59_3 => ?_)
          · refine wp_aload dX8_copy_68 1 rfl ?_
            refine wp_iload_n dX8_copy_70 4 rfl ?_
            refine wp_iload dX8_copy_71 7 rfl ?_
            refine wp_cV2w (N := mX5_hasItems) dX8_copy_73 tmX8_295 okX5_hasItems rfl (shk_ok k2_0).s rfl rfl rfl rfl rfl rfl (s_X5_hasItems X _ (shk a) _ _ (shk_ok k2_0)) ?_
            refine wp_if_eq 91 dX8_copy_76 (by decide) (fun c76_4 => ?_) (fun c76_4 => ?_)
            · refine wp_aload_n dX8_copy_91 2 rfl ?_
              refine wp_iconst dX8_copy_92 ic_2 ?_
              refine wp_cV1w (N := mX8_found) dX8_copy_93 tmX8_245 okX8_found rfl rfl rfl rfl rfl rfl rfl rfl (s_X8_found X _ _) ?_
              refine wp_ireturn dX8_copy_96 rfl ?_
              exact ⟨by unfold f_X8_copy; rw [if_pos k2_0, if_pos k9_0, if_pos c32_1, if_pos c40_2, if_neg c59_3, if_pos c76_4], by unfold f_X8_copy; rw [if_pos k2_0, if_pos k9_0, if_pos c32_1, if_pos c40_2, if_neg c59_3, if_pos c76_4]⟩
            · refine wp_aload dX8_copy_79 0 rfl ?_
              refine wp_iload dX8_copy_81 6 rfl ?_
              refine wp_iload dX8_copy_83 7 rfl ?_
              refine wp_cV2w (N := mX5_hasItems) dX8_copy_85 tmX8_295 okX5_hasItems rfl (shk_ok k9_0).s rfl rfl rfl rfl rfl rfl (s_X5_hasItems X _ (shk c) _ _ (shk_ok k9_0)) ?_
              refine wp_if_ne 97 dX8_copy_88 (by decide) (fun c88_5 => ?_) (fun c88_5 => ?_)
              · refine wp_aload dX8_copy_97 0 rfl ?_
                refine wp_aload dX8_copy_99 1 rfl ?_
                refine wp_iload_n dX8_copy_101 4 rfl ?_
                refine wp_iload dX8_copy_102 6 rfl ?_
                refine wp_iload dX8_copy_104 7 rfl ?_
                refine wp_cV4v (N := mX5_takeOver) dX8_copy_106 tmX8_298 okX5_takeOver rfl (shk_ok k9_0).s rfl rfl rfl rfl rfl rfl (s_X5_takeOver X _ (shk c) (shk a) _ _ _ (shk_ok k9_0) (shk_ok k2_0) (hI.2 _ (shk_ok k2_0)).1 (hI.2 _ (shk_ok k2_0)).2 (hI.2 _ (shk_ok k9_0)).1 (hI.2 _ (shk_ok k9_0)).2) ?_
                refine wp_iconst dX8_copy_109 ic_1 ?_
                refine wp_ireturn dX8_copy_110 rfl ?_
                exact ⟨by unfold f_X8_copy; rw [if_pos k2_0, if_pos k9_0, if_pos c32_1, if_pos c40_2, if_neg c59_3, if_neg c76_4, if_neg c88_5], by unfold f_X8_copy; rw [if_pos k2_0, if_pos k9_0, if_pos c32_1, if_pos c40_2, if_neg c59_3, if_neg c76_4, if_neg c88_5]⟩
              · refine wp_aload_n dX8_copy_91 2 rfl ?_
                refine wp_iconst dX8_copy_92 ic_2 ?_
                refine wp_cV1w (N := mX8_found) dX8_copy_93 tmX8_245 okX8_found rfl rfl rfl rfl rfl rfl rfl rfl (s_X8_found X _ _) ?_
                refine wp_ireturn dX8_copy_96 rfl ?_
                exact ⟨by unfold f_X8_copy; rw [if_pos k2_0, if_pos k9_0, if_pos c32_1, if_pos c40_2, if_neg c59_3, if_neg c76_4, if_pos c88_5], by unfold f_X8_copy; rw [if_pos k2_0, if_pos k9_0, if_pos c32_1, if_pos c40_2, if_neg c59_3, if_neg c76_4, if_pos c88_5]⟩
          · refine wp_aload_n dX8_copy_62 2 rfl ?_
            refine wp_iconst dX8_copy_63 ic_4 ?_
            refine wp_cV1w (N := mX8_found) dX8_copy_64 tmX8_245 okX8_found rfl rfl rfl rfl rfl rfl rfl rfl (s_X8_found X _ _) ?_
            refine wp_ireturn dX8_copy_67 rfl ?_
            exact ⟨by unfold f_X8_copy; rw [if_pos k2_0, if_pos k9_0, if_pos c32_1, if_pos c40_2, if_pos c59_3], by unfold f_X8_copy; rw [if_pos k2_0, if_pos k9_0, if_pos c32_1, if_pos c40_2, if_pos c59_3]⟩
        · refine wp_aload_n dX8_copy_43 2 rfl ?_
          refine wp_iconst dX8_copy_44 ic_1 ?_
          refine wp_cV1w (N := mX8_found) dX8_copy_45 tmX8_245 okX8_found rfl rfl rfl rfl rfl rfl rfl rfl (s_X8_found X _ _) ?_
          refine wp_ireturn dX8_copy_48 rfl ?_
          exact ⟨by unfold f_X8_copy; rw [if_pos k2_0, if_pos k9_0, if_pos c32_1, if_neg c40_2], by unfold f_X8_copy; rw [if_pos k2_0, if_pos k9_0, if_pos c32_1, if_neg c40_2]⟩
    · refine wp_cV1w (N := mX8_sheetAt) dX8_copy_9 tmX8_238 okX8_sheetAt rfl rfl rfl rfl rfl rfl rfl rfl (s_sheetAtN X _ _ k9_0) ?_
      refine wp_astoreN (L' := [(7, _), (6, _), (0, _), (1, _), (2, _), (3, _), (4, _), (5, _)]) dX8_copy_12 rfl rfl ?_
      refine wp_aload dX8_copy_14 1 rfl ?_
      refine wp_ifnull dX8_copy_16 ?_
      refine wp_aloadN dX8_copy_19 0 rfl ?_
      refine wp_ifnonnullN dX8_copy_21 ?_
      refine wp_bipush dX8_copy_24 bp_m2 ?_
      refine wp_ireturn dX8_copy_26 rfl ?_
      exact ⟨by unfold f_X8_copy; rw [if_pos k2_0, if_neg k9_0], by unfold f_X8_copy; rw [if_pos k2_0, if_neg k9_0]⟩
  · refine wp_cV1w (N := mX8_sheetAt) dX8_copy_2 tmX8_238 okX8_sheetAt rfl rfl rfl rfl rfl rfl rfl rfl (s_sheetAtN X _ _ k2_0) ?_
    refine wp_astoreN (L' := [(6, _), (0, _), (1, _), (2, _), (3, _), (4, _), (5, _)]) dX8_copy_5 rfl rfl ?_
    refine wp_aload_n dX8_copy_7 1 rfl ?_
    refine wp_iload_n dX8_copy_8 4 rfl ?_
    by_cases k9_0 : 0 ≤ c ∧ c < 4
    · refine wp_cV1w (N := mX8_sheetAt) dX8_copy_9 tmX8_238 okX8_sheetAt rfl rfl rfl rfl rfl rfl rfl rfl (s_sheetAt X _ _ k9_0) ?_
      refine wp_astore (L' := [(7, _), (6, _), (0, _), (1, _), (2, _), (3, _), (4, _), (5, _)]) dX8_copy_12 rfl rfl ?_
      refine wp_aloadN dX8_copy_14 1 rfl ?_
      refine wp_ifnullN 24 dX8_copy_16 (by decide) ?_
      refine wp_bipush dX8_copy_24 bp_m2 ?_
      refine wp_ireturn dX8_copy_26 rfl ?_
      exact ⟨by unfold f_X8_copy; rw [if_neg k2_0, if_pos k9_0], by unfold f_X8_copy; rw [if_neg k2_0, if_pos k9_0]⟩
    · refine wp_cV1w (N := mX8_sheetAt) dX8_copy_9 tmX8_238 okX8_sheetAt rfl rfl rfl rfl rfl rfl rfl rfl (s_sheetAtN X _ _ k9_0) ?_
      refine wp_astoreN (L' := [(7, _), (6, _), (0, _), (1, _), (2, _), (3, _), (4, _), (5, _)]) dX8_copy_12 rfl rfl ?_
      refine wp_aloadN dX8_copy_14 1 rfl ?_
      refine wp_ifnullN 24 dX8_copy_16 (by decide) ?_
      refine wp_bipush dX8_copy_24 bp_m2 ?_
      refine wp_ireturn dX8_copy_26 rfl ?_
      exact ⟨by unfold f_X8_copy; rw [if_neg k2_0, if_neg k9_0], by unfold f_X8_copy; rw [if_neg k2_0, if_neg k9_0]⟩
end
