noncomputable section
def f_X9_gives (σ : Mem) (a : Int32) (b : Int32) : Int32 × Mem := if (f_X9_isMinute (f_X9_lives σ) a) = 0 then ((-2), (f_X9_lives σ)) else if (f_X9_isTwo (f_X9_lives σ) b) = 0 then ((-2), (f_X9_lives σ)) else (((f_X9_lives σ) 12 (((2 * a) + b).toNatClampNeg)), (f_X9_lives σ))
def b_X9_gives (σ : Mem) (a : Int32) (b : Int32) : Prop := (b_X9_lives σ) ∧ (if (f_X9_isMinute (f_X9_lives σ) a) = 0 then True else if (f_X9_isTwo (f_X9_lives σ) b) = 0 then True else (vp_in ((2 * a) + b) 80) ∧ (True))
theorem s_X9_gives (X : Amb) (σ : Mem) (a : Int32) (b : Int32) (hb : b_X9_gives σ a b) : SpW X mX9_gives [.ref (adr X 0), .int a, .int b] σ (.int (f_X9_gives σ a b).1) (f_X9_gives σ a b).2 := by
  unfold b_X9_gives at hb
  refine sp_of (by decide +kernel) rfl ?_
  show WP X mX9_gives 0 [(0, .ref (adr X 0)), (1, .int a), (2, .int b)] [] σ _
  refine wp_aload_n dX9_gives_0 0 rfl ?_
  obtain ⟨x1, hb⟩ := hb
  refine wp_cV0v (N := mX9_lives) dX9_gives_1 tmX9_152 okX9_lives rfl rfl rfl rfl rfl rfl rfl rfl (s_X9_lives X _ x1) ?_
  refine wp_iload_n dX9_gives_4 1 rfl ?_
  refine wp_cS1w (N := mX9_isMinute) dX9_gives_5 tmX9_155 okX9_isMinute rfl rfl rfl rfl (s_X9_isMinute X _ _) ?_
  refine wp_if_eq 31 dX9_gives_8 (by decide) (fun c8_2 => ?_) (fun c8_2 => ?_)
  · rw [if_pos c8_2] at hb
    refine wp_bipush dX9_gives_31 bp_m2 ?_
    refine wp_ireturn dX9_gives_33 rfl ?_
    exact ⟨by unfold f_X9_gives; rw [if_pos c8_2], by unfold f_X9_gives; rw [if_pos c8_2]⟩
  · rw [if_neg c8_2] at hb
    refine wp_iload_n dX9_gives_11 2 rfl ?_
    refine wp_cS1w (N := mX9_isTwo) dX9_gives_12 tmX9_105 okX9_isTwo rfl rfl rfl rfl (s_X9_isTwo X _ _) ?_
    refine wp_if_eq 31 dX9_gives_15 (by decide) (fun c15_3 => ?_) (fun c15_3 => ?_)
    · rw [if_pos c15_3] at hb
      refine wp_bipush dX9_gives_31 bp_m2 ?_
      refine wp_ireturn dX9_gives_33 rfl ?_
      exact ⟨by unfold f_X9_gives; rw [if_neg c8_2, if_pos c15_3], by unfold f_X9_gives; rw [if_neg c8_2, if_pos c15_3]⟩
    · rw [if_neg c15_3] at hb
      refine wp_aload_n dX9_gives_18 0 rfl ?_
      refine wp_getR dX9_gives_19 faX9_44 rfl rfl ?_
      refine wp_iconst dX9_gives_22 ic_2 ?_
      refine wp_iload_n dX9_gives_23 1 rfl ?_
      refine wp_imul dX9_gives_24 ?_
      refine wp_iload_n dX9_gives_25 2 rfl ?_
      refine wp_iadd dX9_gives_26 ?_
      obtain ⟨x4, hb⟩ := hb
      refine wp_iald dX9_gives_27 rfl x4 ?_
      refine wp_goto 33 dX9_gives_28 (by decide) ?_
      refine wp_ireturn dX9_gives_33 rfl ?_
      exact ⟨by unfold f_X9_gives; rw [if_neg c8_2, if_neg c15_3], by unfold f_X9_gives; rw [if_neg c8_2, if_neg c15_3]⟩
def f_X9_placeAt (σ : Mem) (a : Int32) : Int32 := if (σ 0 10) ≤ ((σ 14 (a.toNatClampNeg)) / 10) then (-1) else ((σ 14 (a.toNatClampNeg)) / 10)
def b_X9_placeAt (σ : Mem) (a : Int32) : Prop := (vp_in a 40) ∧ (if (σ 0 10) ≤ ((σ 14 (a.toNatClampNeg)) / 10) then True else (vp_in a 40) ∧ (True))
theorem s_X9_placeAt (X : Amb) (σ : Mem) (a : Int32) (hb : b_X9_placeAt σ a) : SpW X mX9_placeAt [.ref (adr X 0), .int a] σ (.int (f_X9_placeAt σ a)) σ := by
  unfold b_X9_placeAt at hb
  refine sp_of (by decide +kernel) rfl ?_
  show WP X mX9_placeAt 0 [(0, .ref (adr X 0)), (1, .int a)] [] σ _
  refine wp_aload_n dX9_placeAt_0 0 rfl ?_
  refine wp_getR dX9_placeAt_1 faX9_50 rfl rfl ?_
  refine wp_iload_n dX9_placeAt_4 1 rfl ?_
  obtain ⟨x1, hb⟩ := hb
  refine wp_iald dX9_placeAt_5 rfl x1 ?_
  refine wp_bipush dX9_placeAt_6 bp_10 ?_
  refine wp_idiv dX9_placeAt_8 (by decide) ?_
  refine wp_aload_n dX9_placeAt_9 0 rfl ?_
  refine wp_getI dX9_placeAt_10 faX9_118 rfl rfl ?_
  refine wp_icmp_ge 28 dX9_placeAt_13 (by decide) (fun c13_2 => ?_) (fun c13_2 => ?_)
  · rw [if_pos c13_2] at hb
    refine wp_iconst dX9_placeAt_28 ic_m1 ?_
    refine wp_ireturn dX9_placeAt_29 rfl ?_
    exact ⟨by unfold f_X9_placeAt; rw [if_pos c13_2], rfl⟩
  · rw [if_neg c13_2] at hb
    refine wp_aload_n dX9_placeAt_16 0 rfl ?_
    refine wp_getR dX9_placeAt_17 faX9_50 rfl rfl ?_
    refine wp_iload_n dX9_placeAt_20 1 rfl ?_
    obtain ⟨x3, hb⟩ := hb
    refine wp_iald dX9_placeAt_21 rfl x3 ?_
    refine wp_bipush dX9_placeAt_22 bp_10 ?_
    refine wp_idiv dX9_placeAt_24 (by decide) ?_
    refine wp_goto 29 dX9_placeAt_25 (by decide) ?_
    refine wp_ireturn dX9_placeAt_29 rfl ?_
    exact ⟨by unfold f_X9_placeAt; rw [if_neg c13_2], rfl⟩
def f_X9_minuteOf (σ : Mem) (a : Int32) (b : Int32) : Int32 := if b = 0 then (σ 15 (a.toNatClampNeg)) else if b = 1 then (σ 13 (a.toNatClampNeg)) else (f_X9_placeAt σ a)
def b_X9_minuteOf (σ : Mem) (a : Int32) (b : Int32) : Prop := if b = 0 then (vp_in a 40) ∧ (True) else if b = 1 then (vp_in a 40) ∧ (True) else (b_X9_placeAt σ a) ∧ (True)
theorem s_X9_minuteOf (X : Amb) (σ : Mem) (a : Int32) (b : Int32) (hb : b_X9_minuteOf σ a b) : SpW X mX9_minuteOf [.ref (adr X 0), .int a, .int b] σ (.int (f_X9_minuteOf σ a b)) σ := by
  unfold b_X9_minuteOf at hb
  refine sp_of (by decide +kernel) rfl ?_
  show WP X mX9_minuteOf 0 [(0, .ref (adr X 0)), (1, .int a), (2, .int b)] [] σ _
  refine wp_iload_n dX9_minuteOf_0 2 rfl ?_
  refine wp_if_ne 13 dX9_minuteOf_1 (by decide) (fun c1_1 => ?_) (fun c1_1 => ?_)
  · rw [if_neg c1_1] at hb
    refine wp_iload_n dX9_minuteOf_13 2 rfl ?_
    refine wp_iconst dX9_minuteOf_14 ic_1 ?_
    refine wp_icmp_ne 27 dX9_minuteOf_15 (by decide) (fun c15_2 => ?_) (fun c15_2 => ?_)
    · rw [if_neg c15_2] at hb
      refine wp_aload_n dX9_minuteOf_27 0 rfl ?_
      refine wp_iload_n dX9_minuteOf_28 1 rfl ?_
      obtain ⟨x3, hb⟩ := hb
      refine wp_cV1w (N := mX9_placeAt) dX9_minuteOf_29 tmX9_158 okX9_placeAt rfl rfl rfl rfl rfl rfl rfl rfl (s_X9_placeAt X _ _ x3) ?_
      refine wp_ireturn dX9_minuteOf_32 rfl ?_
      exact ⟨by unfold f_X9_minuteOf; rw [if_neg c1_1, if_neg c15_2], rfl⟩
    · rw [if_pos c15_2] at hb
      refine wp_aload_n dX9_minuteOf_18 0 rfl ?_
      refine wp_getR dX9_minuteOf_19 faX9_47 rfl rfl ?_
      refine wp_iload_n dX9_minuteOf_22 1 rfl ?_
      obtain ⟨x4, hb⟩ := hb
      refine wp_iald dX9_minuteOf_23 rfl x4 ?_
      refine wp_goto 32 dX9_minuteOf_24 (by decide) ?_
      refine wp_ireturn dX9_minuteOf_32 rfl ?_
      exact ⟨by unfold f_X9_minuteOf; rw [if_neg c1_1, if_pos c15_2], rfl⟩
  · rw [if_pos c1_1] at hb
    refine wp_aload_n dX9_minuteOf_4 0 rfl ?_
    refine wp_getR dX9_minuteOf_5 faX9_53 rfl rfl ?_
    refine wp_iload_n dX9_minuteOf_8 1 rfl ?_
    obtain ⟨x5, hb⟩ := hb
    refine wp_iald dX9_minuteOf_9 rfl x5 ?_
    refine wp_goto 32 dX9_minuteOf_10 (by decide) ?_
    refine wp_ireturn dX9_minuteOf_32 rfl ?_
    exact ⟨by unfold f_X9_minuteOf; rw [if_pos c1_1], rfl⟩
def f_X9_minute (σ : Mem) (a : Int32) (b : Int32) : Int32 × Mem := if (f_X9_isMinute (f_X9_lives σ) a) = 0 then ((-2), (f_X9_lives σ)) else if (f_X9_in (f_X9_lives σ) b.toInt64 0 2) = 0 then ((-2), (f_X9_lives σ)) else ((f_X9_minuteOf (f_X9_lives σ) a b), (f_X9_lives σ))
def b_X9_minute (σ : Mem) (a : Int32) (b : Int32) : Prop := (b_X9_lives σ) ∧ (if (f_X9_isMinute (f_X9_lives σ) a) = 0 then True else if (f_X9_in (f_X9_lives σ) b.toInt64 0 2) = 0 then True else (b_X9_minuteOf (f_X9_lives σ) a b) ∧ (True))
theorem s_X9_minute (X : Amb) (σ : Mem) (a : Int32) (b : Int32) (hb : b_X9_minute σ a b) : SpW X mX9_minute [.ref (adr X 0), .int a, .int b] σ (.int (f_X9_minute σ a b).1) (f_X9_minute σ a b).2 := by
  unfold b_X9_minute at hb
  refine sp_of (by decide +kernel) rfl ?_
  show WP X mX9_minute 0 [(0, .ref (adr X 0)), (1, .int a), (2, .int b)] [] σ _
  refine wp_aload_n dX9_minute_0 0 rfl ?_
  obtain ⟨x1, hb⟩ := hb
  refine wp_cV0v (N := mX9_lives) dX9_minute_1 tmX9_152 okX9_lives rfl rfl rfl rfl rfl rfl rfl rfl (s_X9_lives X _ x1) ?_
  refine wp_iload_n dX9_minute_4 1 rfl ?_
  refine wp_cS1w (N := mX9_isMinute) dX9_minute_5 tmX9_155 okX9_isMinute rfl rfl rfl rfl (s_X9_isMinute X _ _) ?_
  refine wp_if_eq 32 dX9_minute_8 (by decide) (fun c8_2 => ?_) (fun c8_2 => ?_)
  · rw [if_pos c8_2] at hb
    refine wp_bipush dX9_minute_32 bp_m2 ?_
    refine wp_ireturn dX9_minute_34 rfl ?_
    exact ⟨by unfold f_X9_minute; rw [if_pos c8_2], by unfold f_X9_minute; rw [if_pos c8_2]⟩
  · rw [if_neg c8_2] at hb
    refine wp_iload_n dX9_minute_11 2 rfl ?_
    refine wp_i2l dX9_minute_12 ?_
    refine wp_lconst dX9_minute_13 lc_0 ?_
    refine wp_ldc2 dX9_minute_14 tlX9_91 ?_
    refine wp_cS3w (N := mX9_in) dX9_minute_17 tmX9_73 okX9_in rfl rfl rfl rfl (s_X9_in X _ _ _ _) ?_
    refine wp_if_eq 32 dX9_minute_20 (by decide) (fun c20_3 => ?_) (fun c20_3 => ?_)
    · rw [if_pos c20_3] at hb
      refine wp_bipush dX9_minute_32 bp_m2 ?_
      refine wp_ireturn dX9_minute_34 rfl ?_
      exact ⟨by unfold f_X9_minute; rw [if_neg c8_2, if_pos c20_3], by unfold f_X9_minute; rw [if_neg c8_2, if_pos c20_3]⟩
    · rw [if_neg c20_3] at hb
      refine wp_aload_n dX9_minute_23 0 rfl ?_
      refine wp_iload_n dX9_minute_24 1 rfl ?_
      refine wp_iload_n dX9_minute_25 2 rfl ?_
      obtain ⟨x4, hb⟩ := hb
      refine wp_cV2w (N := mX9_minuteOf) dX9_minute_26 tmX9_161 okX9_minuteOf rfl rfl rfl rfl rfl rfl rfl rfl (s_X9_minuteOf X _ _ _ x4) ?_
      refine wp_goto 34 dX9_minute_29 (by decide) ?_
      refine wp_ireturn dX9_minute_34 rfl ?_
      exact ⟨by unfold f_X9_minute; rw [if_neg c8_2, if_neg c20_3], by unfold f_X9_minute; rw [if_neg c8_2, if_neg c20_3]⟩
def l_X9_ahead_4 : Nat → Int32 → Int32 → Int32 → Mem → Int32
  | 0, _, _, _, σ => 0
  | n + 1, a, b, c, σ => if a ≤ c then b else (l_X9_ahead_4 n a (b + (σ 7 (c.toNatClampNeg))) (c + 1) σ)
def bl_X9_ahead_4 : Nat → Int32 → Int32 → Int32 → Mem → Prop
  | 0, _, _, _, _ => False
  | n + 1, a, b, c, σ => if a ≤ c then True else (vp_in c 12) ∧ ((bl_X9_ahead_4 n a (b + (σ 7 (c.toNatClampNeg))) (c + 1) σ))
theorem lt_X9_ahead_4 (X : Amb) : ∀ (n : Nat) (a : Int32) (b : Int32) (c : Int32) (σ : Mem), bl_X9_ahead_4 n a b c σ → WP X mX9_ahead 4 [(0, .ref (adr X 0)), (1, .int a), (2, .int b), (3, .int c)] [] σ (fun v σ' => v = some (.int (l_X9_ahead_4 n a b c σ)) ∧ σ' = σ) := by
  intro n
  induction n with
  | zero => intro a b c σ hb; exact hb.elim
  | succ n ih =>
    intro a b c σ hb
    rw [bl_X9_ahead_4] at hb
    refine wp_iload_n dX9_ahead_4 3 rfl ?_
    refine wp_iload_n dX9_ahead_5 1 rfl ?_
    refine wp_icmp_ge 24 dX9_ahead_6 (by decide) (fun c6_1 => ?_) (fun c6_1 => ?_)
    · rw [if_pos c6_1] at hb
      refine wp_iload_n dX9_ahead_24 2 rfl ?_
      refine wp_ireturn dX9_ahead_25 rfl ?_
      exact ⟨by rw [l_X9_ahead_4, if_pos c6_1], rfl⟩
    · rw [if_neg c6_1] at hb
      refine wp_iload_n dX9_ahead_9 2 rfl ?_
      refine wp_aload_n dX9_ahead_10 0 rfl ?_
      refine wp_getR dX9_ahead_11 faX9_28 rfl rfl ?_
      refine wp_iload_n dX9_ahead_14 3 rfl ?_
      obtain ⟨x2, hb⟩ := hb
      refine wp_iald dX9_ahead_15 rfl x2 ?_
      refine wp_iadd dX9_ahead_16 ?_
      refine wp_istore_n (L' := [(2, _), (0, _), (1, _), (3, _)]) dX9_ahead_17 rfl rfl ?_
      refine wp_iinc (L' := [(3, _), (2, _), (0, _), (1, _)]) dX9_ahead_18 rfl 3 rfl (ii_1 _) rfl ?_
      refine wp_goto 4 dX9_ahead_21 (by decide) ?_
      refine wp_drop [2, 3, 1, 0] rfl ?_
      rw [show l_X9_ahead_4 (n + 1) a b c σ = (l_X9_ahead_4 n a (b + (σ 7 (c.toNatClampNeg))) (c + 1) σ) from by rw [l_X9_ahead_4, if_neg c6_1]]
      exact ih _ _ _ _ hb
def f_X9_ahead (σ : Mem) (a : Int32) : Int32 := (l_X9_ahead_4 (fu 13) a 0 0 σ)
def b_X9_ahead (σ : Mem) (a : Int32) : Prop := (bl_X9_ahead_4 (fu 13) a 0 0 σ)
theorem s_X9_ahead (X : Amb) (σ : Mem) (a : Int32) (hb : b_X9_ahead σ a) : SpW X mX9_ahead [.ref (adr X 0), .int a] σ (.int (f_X9_ahead σ a)) σ := by
  unfold b_X9_ahead at hb
  refine sp_of (by decide +kernel) rfl ?_
  show WP X mX9_ahead 0 [(0, .ref (adr X 0)), (1, .int a)] [] σ _
  refine wp_iconst dX9_ahead_0 ic_0 ?_
  refine wp_istore_n (L' := [(2, _), (0, _), (1, _)]) dX9_ahead_1 rfl rfl ?_
  refine wp_iconst dX9_ahead_2 ic_0 ?_
  refine wp_istore_n (L' := [(3, _), (2, _), (0, _), (1, _)]) dX9_ahead_3 rfl rfl ?_
  refine wp_drop [2, 3, 1, 0] rfl ?_
  rw [show f_X9_ahead σ a = (l_X9_ahead_4 (fu 13) a 0 0 σ) from rfl]
  exact lt_X9_ahead_4 X (fu 13) a 0 0 σ hb
def f_X9_strainBy (σ : Mem) (a : Int32) (b : Int32) (c : Int32) : Int32 := ((a * (σ 0 9)) - ((a + b) * (f_X9_ahead σ c)))
def b_X9_strainBy (σ : Mem) (a : Int32) (b : Int32) (c : Int32) : Prop := (b_X9_ahead σ c) ∧ (True)
theorem s_X9_strainBy (X : Amb) (σ : Mem) (a : Int32) (b : Int32) (c : Int32) (hb : b_X9_strainBy σ a b c) : SpW X mX9_strainBy [.ref (adr X 0), .int a, .int b, .int c] σ (.int (f_X9_strainBy σ a b c)) σ := by
  unfold b_X9_strainBy at hb
  refine sp_of (by decide +kernel) rfl ?_
  show WP X mX9_strainBy 0 [(0, .ref (adr X 0)), (1, .int a), (2, .int b), (3, .int c)] [] σ _
  refine wp_iload_n dX9_strainBy_0 1 rfl ?_
  refine wp_aload_n dX9_strainBy_1 0 rfl ?_
  refine wp_getI dX9_strainBy_2 faX9_113 rfl rfl ?_
  refine wp_imul dX9_strainBy_5 ?_
  refine wp_iload_n dX9_strainBy_6 1 rfl ?_
  refine wp_iload_n dX9_strainBy_7 2 rfl ?_
  refine wp_iadd dX9_strainBy_8 ?_
  refine wp_aload_n dX9_strainBy_9 0 rfl ?_
  refine wp_iload_n dX9_strainBy_10 3 rfl ?_
  obtain ⟨x1, hb⟩ := hb
  refine wp_cV1w (N := mX9_ahead) dX9_strainBy_11 tmX9_164 okX9_ahead rfl rfl rfl rfl rfl rfl rfl rfl (s_X9_ahead X _ _ x1) ?_
  refine wp_imul dX9_strainBy_14 ?_
  refine wp_isub dX9_strainBy_15 ?_
  refine wp_ireturn dX9_strainBy_16 rfl ?_
  exact ⟨rfl, rfl⟩
def f_X9_strainAt (σ : Mem) (a : Int32) (b : Int32) : Int32 := (f_X9_strainBy σ (σ 12 ((2 * a).toNatClampNeg)) (σ 12 (((2 * a) + 1).toNatClampNeg)) b)
def b_X9_strainAt (σ : Mem) (a : Int32) (b : Int32) : Prop := (vp_in (2 * a) 80) ∧ ((vp_in ((2 * a) + 1) 80) ∧ ((b_X9_strainBy σ (σ 12 ((2 * a).toNatClampNeg)) (σ 12 (((2 * a) + 1).toNatClampNeg)) b) ∧ (True)))
theorem s_X9_strainAt (X : Amb) (σ : Mem) (a : Int32) (b : Int32) (hb : b_X9_strainAt σ a b) : SpW X mX9_strainAt [.ref (adr X 0), .int a, .int b] σ (.int (f_X9_strainAt σ a b)) σ := by
  unfold b_X9_strainAt at hb
  refine sp_of (by decide +kernel) rfl ?_
  show WP X mX9_strainAt 0 [(0, .ref (adr X 0)), (1, .int a), (2, .int b)] [] σ _
  refine wp_aload_n dX9_strainAt_0 0 rfl ?_
  refine wp_aload_n dX9_strainAt_1 0 rfl ?_
  refine wp_getR dX9_strainAt_2 faX9_44 rfl rfl ?_
  refine wp_iconst dX9_strainAt_5 ic_2 ?_
  refine wp_iload_n dX9_strainAt_6 1 rfl ?_
  refine wp_imul dX9_strainAt_7 ?_
  obtain ⟨x1, hb⟩ := hb
  refine wp_iald dX9_strainAt_8 rfl x1 ?_
  refine wp_aload_n dX9_strainAt_9 0 rfl ?_
  refine wp_getR dX9_strainAt_10 faX9_44 rfl rfl ?_
  refine wp_iconst dX9_strainAt_13 ic_2 ?_
  refine wp_iload_n dX9_strainAt_14 1 rfl ?_
  refine wp_imul dX9_strainAt_15 ?_
  refine wp_iconst dX9_strainAt_16 ic_1 ?_
  refine wp_iadd dX9_strainAt_17 ?_
  obtain ⟨x2, hb⟩ := hb
  refine wp_iald dX9_strainAt_18 rfl x2 ?_
  refine wp_iload_n dX9_strainAt_19 2 rfl ?_
  obtain ⟨x3, hb⟩ := hb
  refine wp_cV3w (N := mX9_strainBy) dX9_strainAt_20 tmX9_167 okX9_strainBy rfl rfl rfl rfl rfl rfl rfl rfl (s_X9_strainBy X _ _ _ _ x3) ?_
  refine wp_ireturn dX9_strainAt_23 rfl ?_
  exact ⟨rfl, rfl⟩
def f_X9_strain (σ : Mem) (a : Int32) (b : Int32) (c : Int32) : Int64 × Mem := if (f_X9_isMinute (f_X9_lives σ) a) = 0 then ((f_X9_no (f_X9_lives σ) (-2)), (f_X9_lives σ)) else if (f_X9_in (f_X9_lives σ) b.toInt64 0 (((f_X9_lives σ) 0 7).toInt64)) = 0 then ((f_X9_no (f_X9_lives σ) (-2)), (f_X9_lives σ)) else if (f_X9_isTwo (f_X9_lives σ) c) = 0 then ((f_X9_no (f_X9_lives σ) (-2)), (f_X9_lives σ)) else if ((f_X9_lives σ) 0 7) = 0 then ((f_X9_no (f_X9_lives σ) (-3)), (f_X9_lives σ)) else ((f_X9_part (f_X9_lives σ) ((f_X9_strainAt (f_X9_lives σ) a b).toInt64) (((f_X9_lives σ) 0 9).toInt64) c), (f_X9_lives σ))
def b_X9_strain (σ : Mem) (a : Int32) (b : Int32) (c : Int32) : Prop := (b_X9_lives σ) ∧ (if (f_X9_isMinute (f_X9_lives σ) a) = 0 then True else if (f_X9_in (f_X9_lives σ) b.toInt64 0 (((f_X9_lives σ) 0 7).toInt64)) = 0 then True else if (f_X9_isTwo (f_X9_lives σ) c) = 0 then True else if ((f_X9_lives σ) 0 7) = 0 then True else (b_X9_strainAt (f_X9_lives σ) a b) ∧ ((b_X9_part (f_X9_lives σ) ((f_X9_strainAt (f_X9_lives σ) a b).toInt64) (((f_X9_lives σ) 0 9).toInt64) c) ∧ (True)))
theorem s_X9_strain (X : Amb) (σ : Mem) (a : Int32) (b : Int32) (c : Int32) (hb : b_X9_strain σ a b c) : SpW X mX9_strain [.ref (adr X 0), .int a, .int b, .int c] σ (.long (f_X9_strain σ a b c).1) (f_X9_strain σ a b c).2 := by
  unfold b_X9_strain at hb
  refine sp_of (by decide +kernel) rfl ?_
  show WP X mX9_strain 0 [(0, .ref (adr X 0)), (1, .int a), (2, .int b), (3, .int c)] [] σ _
  refine wp_aload_n dX9_strain_0 0 rfl ?_
  obtain ⟨x1, hb⟩ := hb
  refine wp_cV0v (N := mX9_lives) dX9_strain_1 tmX9_152 okX9_lives rfl rfl rfl rfl rfl rfl rfl rfl (s_X9_lives X _ x1) ?_
  refine wp_iload_n dX9_strain_4 1 rfl ?_
  refine wp_cS1w (N := mX9_isMinute) dX9_strain_5 tmX9_155 okX9_isMinute rfl rfl rfl rfl (s_X9_isMinute X _ _) ?_
  refine wp_if_eq 32 dX9_strain_8 (by decide) (fun c8_2 => ?_) (fun c8_2 => ?_)
  · rw [if_pos c8_2] at hb
    refine wp_bipush dX9_strain_32 bp_m2 ?_
    refine wp_cS1w (N := mX9_no) dX9_strain_34 tmX9_170 okX9_no rfl rfl rfl rfl (s_X9_no X _ _) ?_
    refine wp_lreturn dX9_strain_37 rfl ?_
    exact ⟨by unfold f_X9_strain; rw [if_pos c8_2], by unfold f_X9_strain; rw [if_pos c8_2]⟩
  · rw [if_neg c8_2] at hb
    refine wp_iload_n dX9_strain_11 2 rfl ?_
    refine wp_i2l dX9_strain_12 ?_
    refine wp_lconst dX9_strain_13 lc_0 ?_
    refine wp_aload_n dX9_strain_14 0 rfl ?_
    refine wp_getI dX9_strain_15 faX9_110 rfl rfl ?_
    refine wp_i2l dX9_strain_18 ?_
    refine wp_cS3w (N := mX9_in) dX9_strain_19 tmX9_73 okX9_in rfl rfl rfl rfl (s_X9_in X _ _ _ _) ?_
    refine wp_if_eq 32 dX9_strain_22 (by decide) (fun c22_3 => ?_) (fun c22_3 => ?_)
    · rw [if_pos c22_3] at hb
      refine wp_bipush dX9_strain_32 bp_m2 ?_
      refine wp_cS1w (N := mX9_no) dX9_strain_34 tmX9_170 okX9_no rfl rfl rfl rfl (s_X9_no X _ _) ?_
      refine wp_lreturn dX9_strain_37 rfl ?_
      exact ⟨by unfold f_X9_strain; rw [if_neg c8_2, if_pos c22_3], by unfold f_X9_strain; rw [if_neg c8_2, if_pos c22_3]⟩
    · rw [if_neg c22_3] at hb
      refine wp_iload_n dX9_strain_25 3 rfl ?_
      refine wp_cS1w (N := mX9_isTwo) dX9_strain_26 tmX9_105 okX9_isTwo rfl rfl rfl rfl (s_X9_isTwo X _ _) ?_
      refine wp_if_ne 38 dX9_strain_29 (by decide) (fun c29_4 => ?_) (fun c29_4 => ?_)
      · rw [if_neg c29_4] at hb
        refine wp_aload_n dX9_strain_38 0 rfl ?_
        refine wp_getI dX9_strain_39 faX9_110 rfl rfl ?_
        refine wp_if_ne 53 dX9_strain_42 (by decide) (fun c42_5 => ?_) (fun c42_5 => ?_)
        · rw [if_neg c42_5] at hb
          refine wp_aload_n dX9_strain_53 0 rfl ?_
          refine wp_iload_n dX9_strain_54 1 rfl ?_
          refine wp_iload_n dX9_strain_55 2 rfl ?_
          obtain ⟨x6, hb⟩ := hb
          refine wp_cV2w (N := mX9_strainAt) dX9_strain_56 tmX9_174 okX9_strainAt rfl rfl rfl rfl rfl rfl rfl rfl (s_X9_strainAt X _ _ _ x6) ?_
          refine wp_i2l dX9_strain_59 ?_
          refine wp_aload_n dX9_strain_60 0 rfl ?_
          refine wp_getI dX9_strain_61 faX9_113 rfl rfl ?_
          refine wp_i2l dX9_strain_64 ?_
          refine wp_iload_n dX9_strain_65 3 rfl ?_
          obtain ⟨x7, hb⟩ := hb
          refine wp_cS3w (N := mX9_part) dX9_strain_66 tmX9_177 okX9_part rfl rfl rfl rfl (s_X9_part X _ _ _ _ x7) ?_
          refine wp_lreturn dX9_strain_69 rfl ?_
          exact ⟨by unfold f_X9_strain; rw [if_neg c8_2, if_neg c22_3, if_neg c29_4, if_neg c42_5], by unfold f_X9_strain; rw [if_neg c8_2, if_neg c22_3, if_neg c29_4, if_neg c42_5]⟩
        · rw [if_pos c42_5] at hb
          refine wp_bipush dX9_strain_45 bp_m3 ?_
          refine wp_cS1w (N := mX9_no) dX9_strain_47 tmX9_170 okX9_no rfl rfl rfl rfl (s_X9_no X _ _) ?_
          refine wp_goto 69 dX9_strain_50 (by decide) ?_
          refine wp_lreturn dX9_strain_69 rfl ?_
          exact ⟨by unfold f_X9_strain; rw [if_neg c8_2, if_neg c22_3, if_neg c29_4, if_pos c42_5], by unfold f_X9_strain; rw [if_neg c8_2, if_neg c22_3, if_neg c29_4, if_pos c42_5]⟩
      · rw [if_pos c29_4] at hb
        refine wp_bipush dX9_strain_32 bp_m2 ?_
        refine wp_cS1w (N := mX9_no) dX9_strain_34 tmX9_170 okX9_no rfl rfl rfl rfl (s_X9_no X _ _) ?_
        refine wp_lreturn dX9_strain_37 rfl ?_
        exact ⟨by unfold f_X9_strain; rw [if_neg c8_2, if_neg c22_3, if_pos c29_4], by unfold f_X9_strain; rw [if_neg c8_2, if_neg c22_3, if_pos c29_4]⟩
def l_X9_slackAt_12 : Nat → Int32 → Int32 → Mem → Int32
  | 0, _, _, σ => 0
  | n + 1, a, b, σ => if (σ 0 7) < b then (-1) else if 0 < (f_X9_strainAt σ a b) then (l_X9_slackAt_12 n a (b + 1) σ) else b
def bl_X9_slackAt_12 : Nat → Int32 → Int32 → Mem → Prop
  | 0, _, _, _ => False
  | n + 1, a, b, σ => if (σ 0 7) < b then True else (b_X9_strainAt σ a b) ∧ (if 0 < (f_X9_strainAt σ a b) then (bl_X9_slackAt_12 n a (b + 1) σ) else True)
theorem lt_X9_slackAt_12 (X : Amb) : ∀ (n : Nat) (a : Int32) (b : Int32) (σ : Mem), bl_X9_slackAt_12 n a b σ → WP X mX9_slackAt 12 [(0, .ref (adr X 0)), (1, .int a), (2, .int b)] [] σ (fun v σ' => v = some (.int (l_X9_slackAt_12 n a b σ)) ∧ σ' = σ) := by
  intro n
  induction n with
  | zero => intro a b σ hb; exact hb.elim
  | succ n ih =>
    intro a b σ hb
    rw [bl_X9_slackAt_12] at hb
    refine wp_iload_n dX9_slackAt_12 2 rfl ?_
    refine wp_aload_n dX9_slackAt_13 0 rfl ?_
    refine wp_getI dX9_slackAt_14 faX9_110 rfl rfl ?_
    refine wp_icmp_gt 37 dX9_slackAt_17 (by decide) (fun c17_1 => ?_) (fun c17_1 => ?_)
    · rw [if_pos c17_1] at hb
      refine wp_iconst dX9_slackAt_37 ic_m1 ?_
      refine wp_ireturn dX9_slackAt_38 rfl ?_
      exact ⟨by rw [l_X9_slackAt_12, if_pos c17_1], rfl⟩
    · rw [if_neg c17_1] at hb
      refine wp_aload_n dX9_slackAt_20 0 rfl ?_
      refine wp_iload_n dX9_slackAt_21 1 rfl ?_
      refine wp_iload_n dX9_slackAt_22 2 rfl ?_
      obtain ⟨x2, hb⟩ := hb
      refine wp_cV2w (N := mX9_strainAt) dX9_slackAt_23 tmX9_174 okX9_strainAt rfl rfl rfl rfl rfl rfl rfl rfl (s_X9_strainAt X _ _ _ x2) ?_
      refine wp_if_gt 31 dX9_slackAt_26 (by decide) (fun c26_3 => ?_) (fun c26_3 => ?_)
      · rw [if_pos c26_3] at hb
        refine wp_iinc (L' := [(2, _), (0, _), (1, _)]) dX9_slackAt_31 rfl 2 rfl (ii_1 _) rfl ?_
        refine wp_goto 12 dX9_slackAt_34 (by decide) ?_
        refine wp_drop [1, 2, 0] rfl ?_
        rw [show l_X9_slackAt_12 (n + 1) a b σ = (l_X9_slackAt_12 n a (b + 1) σ) from by rw [l_X9_slackAt_12, if_neg c17_1, if_pos c26_3]]
        exact ih _ _ _ hb
      · rw [if_neg c26_3] at hb
        refine wp_iload_n dX9_slackAt_29 2 rfl ?_
        refine wp_ireturn dX9_slackAt_30 rfl ?_
        exact ⟨by rw [l_X9_slackAt_12, if_neg c17_1, if_neg c26_3], rfl⟩
def f_X9_slackAt (σ : Mem) (a : Int32) : Int32 := if (σ 0 7) = 0 then (-3) else (l_X9_slackAt_12 (fu 14) a 0 σ)
def b_X9_slackAt (σ : Mem) (a : Int32) : Prop := if (σ 0 7) = 0 then True else (bl_X9_slackAt_12 (fu 14) a 0 σ)
theorem s_X9_slackAt (X : Amb) (σ : Mem) (a : Int32) (hb : b_X9_slackAt σ a) : SpW X mX9_slackAt [.ref (adr X 0), .int a] σ (.int (f_X9_slackAt σ a)) σ := by
  unfold b_X9_slackAt at hb
  refine sp_of (by decide +kernel) rfl ?_
  show WP X mX9_slackAt 0 [(0, .ref (adr X 0)), (1, .int a)] [] σ _
  refine wp_aload_n dX9_slackAt_0 0 rfl ?_
  refine wp_getI dX9_slackAt_1 faX9_110 rfl rfl ?_
  refine wp_if_ne 10 dX9_slackAt_4 (by decide) (fun c4_1 => ?_) (fun c4_1 => ?_)
  · rw [if_neg c4_1] at hb
    refine wp_iconst dX9_slackAt_10 ic_0 ?_
    refine wp_istore_n (L' := [(2, _), (0, _), (1, _)]) dX9_slackAt_11 rfl rfl ?_
    refine wp_drop [1, 2, 0] rfl ?_
    rw [show f_X9_slackAt σ a = (l_X9_slackAt_12 (fu 14) a 0 σ) from by unfold f_X9_slackAt; rw [if_neg c4_1]]
    exact lt_X9_slackAt_12 X (fu 14) a 0 σ hb
  · rw [if_pos c4_1] at hb
    refine wp_bipush dX9_slackAt_7 bp_m3 ?_
    refine wp_ireturn dX9_slackAt_9 rfl ?_
    exact ⟨by unfold f_X9_slackAt; rw [if_pos c4_1], rfl⟩
def f_X9_slack (σ : Mem) (a : Int32) : Int32 × Mem := if (f_X9_isMinute (f_X9_lives σ) a) = 0 then ((-2), (f_X9_lives σ)) else ((f_X9_slackAt (f_X9_lives σ) a), (f_X9_lives σ))
def b_X9_slack (σ : Mem) (a : Int32) : Prop := (b_X9_lives σ) ∧ (if (f_X9_isMinute (f_X9_lives σ) a) = 0 then True else (b_X9_slackAt (f_X9_lives σ) a) ∧ (True))
theorem s_X9_slack (X : Amb) (σ : Mem) (a : Int32) (hb : b_X9_slack σ a) : SpW X mX9_slack [.ref (adr X 0), .int a] σ (.int (f_X9_slack σ a).1) (f_X9_slack σ a).2 := by
  unfold b_X9_slack at hb
  refine sp_of (by decide +kernel) rfl ?_
  show WP X mX9_slack 0 [(0, .ref (adr X 0)), (1, .int a)] [] σ _
  refine wp_aload_n dX9_slack_0 0 rfl ?_
  obtain ⟨x1, hb⟩ := hb
  refine wp_cV0v (N := mX9_lives) dX9_slack_1 tmX9_152 okX9_lives rfl rfl rfl rfl rfl rfl rfl rfl (s_X9_lives X _ x1) ?_
  refine wp_iload_n dX9_slack_4 1 rfl ?_
  refine wp_cS1w (N := mX9_isMinute) dX9_slack_5 tmX9_155 okX9_isMinute rfl rfl rfl rfl (s_X9_isMinute X _ _) ?_
  refine wp_if_eq 19 dX9_slack_8 (by decide) (fun c8_2 => ?_) (fun c8_2 => ?_)
  · rw [if_pos c8_2] at hb
    refine wp_bipush dX9_slack_19 bp_m2 ?_
    refine wp_ireturn dX9_slack_21 rfl ?_
    exact ⟨by unfold f_X9_slack; rw [if_pos c8_2], by unfold f_X9_slack; rw [if_pos c8_2]⟩
  · rw [if_neg c8_2] at hb
    refine wp_aload_n dX9_slack_11 0 rfl ?_
    refine wp_iload_n dX9_slack_12 1 rfl ?_
    obtain ⟨x3, hb⟩ := hb
    refine wp_cV1w (N := mX9_slackAt) dX9_slack_13 tmX9_181 okX9_slackAt rfl rfl rfl rfl rfl rfl rfl rfl (s_X9_slackAt X _ _ x3) ?_
    refine wp_goto 21 dX9_slack_16 (by decide) ?_
    refine wp_ireturn dX9_slack_21 rfl ?_
    exact ⟨by unfold f_X9_slack; rw [if_neg c8_2], by unfold f_X9_slack; rw [if_neg c8_2]⟩
end
