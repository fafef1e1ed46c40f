noncomputable section
def f_X9_train (σ : Mem) (a : Int32) : Int32 × Mem := if (f_X9_in σ a.toInt64 0 999) = 0 then ((-2), σ) else if (σ 0 25) = 12 then ((-4), σ) else (((σ 0 25) + 1), (mst (mst σ 18 ((σ 0 25).toNatClampNeg) a) 0 25 ((σ 0 25) + 1)))
def b_X9_train (σ : Mem) (a : Int32) : Prop := if (f_X9_in σ a.toInt64 0 999) = 0 then True else if (σ 0 25) = 12 then True else (vp_in (σ 0 25) 12) ∧ (True)
theorem s_X9_train (X : Amb) (σ : Mem) (a : Int32) (hb : b_X9_train σ a) : SpW X mX9_train [.ref (adr X 0), .int a] σ (.int (f_X9_train σ a).1) (f_X9_train σ a).2 := by
  unfold b_X9_train at hb
  refine sp_of (by decide +kernel) rfl ?_
  show WP X mX9_train 0 [(0, .ref (adr X 0)), (1, .int a)] [] σ _
  refine wp_iload_n dX9_train_0 1 rfl ?_
  refine wp_i2l dX9_train_1 ?_
  refine wp_lconst dX9_train_2 lc_0 ?_
  refine wp_ldc2 dX9_train_3 tlX9_131 ?_
  refine wp_cS3w (N := mX9_in) dX9_train_6 tmX9_73 okX9_in rfl rfl rfl rfl (s_X9_in X _ _ _ _) ?_
  refine wp_if_ne 15 dX9_train_9 (by decide) (fun c9_1 => ?_) (fun c9_1 => ?_)
  · rw [if_neg c9_1] at hb
    refine wp_aload_n dX9_train_15 0 rfl ?_
    refine wp_getI dX9_train_16 faX9_249 rfl rfl ?_
    refine wp_bipush dX9_train_19 bp_12 ?_
    refine wp_icmp_ne 27 dX9_train_21 (by decide) (fun c21_2 => ?_) (fun c21_2 => ?_)
    · rw [if_neg c21_2] at hb
      refine wp_aload_n dX9_train_27 0 rfl ?_
      refine wp_getR dX9_train_28 faX9_62 rfl rfl ?_
      refine wp_aload_n dX9_train_31 0 rfl ?_
      refine wp_getI dX9_train_32 faX9_249 rfl rfl ?_
      refine wp_iload_n dX9_train_35 1 rfl ?_
      obtain ⟨x3, hb⟩ := hb
      refine wp_iast dX9_train_36 rfl x3 ?_
      refine wp_aload_n dX9_train_37 0 rfl ?_
      refine wp_dup dX9_train_38 rfl ?_
      refine wp_getI dX9_train_39 faX9_249 rfl rfl ?_
      refine wp_topi (y := (σ 0 25)) rfl ?_
      refine wp_iconst dX9_train_42 ic_1 ?_
      refine wp_iadd dX9_train_43 ?_
      refine wp_putI dX9_train_44 fwX9_249 rfl rfl ?_
      refine wp_aload_n dX9_train_47 0 rfl ?_
      refine wp_getI dX9_train_48 faX9_249 rfl rfl ?_
      refine wp_topi (y := ((σ 0 25) + 1)) rfl ?_
      refine wp_ireturn dX9_train_51 rfl ?_
      exact ⟨by unfold f_X9_train; rw [if_neg c9_1, if_neg c21_2], by unfold f_X9_train; rw [if_neg c9_1, if_neg c21_2]⟩
    · rw [if_pos c21_2] at hb
      refine wp_bipush dX9_train_24 bp_m4 ?_
      refine wp_ireturn dX9_train_26 rfl ?_
      exact ⟨by unfold f_X9_train; rw [if_neg c9_1, if_pos c21_2], by unfold f_X9_train; rw [if_neg c9_1, if_pos c21_2]⟩
  · rw [if_pos c9_1] at hb
    refine wp_bipush dX9_train_12 bp_m2 ?_
    refine wp_ireturn dX9_train_14 rfl ?_
    exact ⟨by unfold f_X9_train; rw [if_pos c9_1], by unfold f_X9_train; rw [if_pos c9_1]⟩
def f_X9_back (σ : Mem) : Int32 × Mem := if (σ 0 25) = 0 then ((-3), σ) else (((σ 0 25) - 1), (mst σ 0 25 ((σ 0 25) - 1)))
theorem s_X9_back (X : Amb) (σ : Mem) : SpW X mX9_back [.ref (adr X 0)] σ (.int (f_X9_back σ).1) (f_X9_back σ).2 := by
  refine sp_of (by decide +kernel) rfl ?_
  show WP X mX9_back 0 [(0, .ref (adr X 0))] [] σ _
  refine wp_aload_n dX9_back_0 0 rfl ?_
  refine wp_getI dX9_back_1 faX9_249 rfl rfl ?_
  refine wp_if_ne 10 dX9_back_4 (by decide) (fun c4_1 => ?_) (fun c4_1 => ?_)
  · refine wp_aload_n dX9_back_10 0 rfl ?_
    refine wp_dup dX9_back_11 rfl ?_
    refine wp_getI dX9_back_12 faX9_249 rfl rfl ?_
    refine wp_iconst dX9_back_15 ic_1 ?_
    refine wp_isub dX9_back_16 ?_
    refine wp_putI dX9_back_17 fwX9_249 rfl rfl ?_
    refine wp_aload_n dX9_back_20 0 rfl ?_
    refine wp_getI dX9_back_21 faX9_249 rfl rfl ?_
    refine wp_topi (y := ((σ 0 25) - 1)) rfl ?_
    refine wp_ireturn dX9_back_24 rfl ?_
    exact ⟨by unfold f_X9_back; rw [if_neg c4_1], by unfold f_X9_back; rw [if_neg c4_1]⟩
  · refine wp_bipush dX9_back_7 bp_m3 ?_
    refine wp_ireturn dX9_back_9 rfl ?_
    exact ⟨by unfold f_X9_back; rw [if_pos c4_1], by unfold f_X9_back; rw [if_pos c4_1]⟩
def l_X9_read_27 : Nat → Int32 → Int32 → Mem → Int32 × Mem
  | 0, _, _, σ => (0, σ)
  | n + 1, a, b, σ => if (σ 2 (a.toNatClampNeg)) ≤ b then (b, σ) else if (f_X9_train σ (σ 3 (((60 * a) + b).toNatClampNeg))).1 < 0 then (b, (f_X9_train σ (σ 3 (((60 * a) + b).toNatClampNeg))).2) else (l_X9_read_27 n a (b + 1) (f_X9_train σ (σ 3 (((60 * a) + b).toNatClampNeg))).2)
def bl_X9_read_27 : Nat → Int32 → Int32 → Mem → Prop
  | 0, _, _, _ => False
  | n + 1, a, b, σ => (vp_in a 4) ∧ (if (σ 2 (a.toNatClampNeg)) ≤ b then True else (vp_in ((60 * a) + b) 240) ∧ ((b_X9_train σ (σ 3 (((60 * a) + b).toNatClampNeg))) ∧ (if (f_X9_train σ (σ 3 (((60 * a) + b).toNatClampNeg))).1 < 0 then True else (bl_X9_read_27 n a (b + 1) (f_X9_train σ (σ 3 (((60 * a) + b).toNatClampNeg))).2))))
theorem lt_X9_read_27 (X : Amb) : ∀ (n : Nat) (a : Int32) (b : Int32) (σ : Mem), bl_X9_read_27 n a b σ → WP X mX9_read 27 [(0, .ref (adr X 0)), (1, .int a), (2, .int b)] [] σ (fun v σ' => v = some (.int (l_X9_read_27 n a b σ).1) ∧ σ' = (l_X9_read_27 n a b σ).2) := by
  intro n
  induction n with
  | zero => intro a b σ hb; exact hb.elim
  | succ n ih =>
    intro a b σ hb
    rw [bl_X9_read_27] at hb
    refine wp_iload_n dX9_read_27 2 rfl ?_
    refine wp_aload_n dX9_read_28 0 rfl ?_
    refine wp_getR dX9_read_29 faX9_13 rfl rfl ?_
    refine wp_iload_n dX9_read_32 1 rfl ?_
    obtain ⟨x1, hb⟩ := hb
    refine wp_iald dX9_read_33 rfl x1 ?_
    refine wp_icmp_ge 61 dX9_read_34 (by decide) (fun c34_2 => ?_) (fun c34_2 => ?_)
    · rw [if_pos c34_2] at hb
      refine wp_iload_n dX9_read_61 2 rfl ?_
      refine wp_ireturn dX9_read_62 rfl ?_
      exact ⟨by rw [l_X9_read_27, if_pos c34_2], by rw [l_X9_read_27, if_pos c34_2]⟩
    · rw [if_neg c34_2] at hb
      refine wp_aload_n dX9_read_37 0 rfl ?_
      refine wp_aload_n dX9_read_38 0 rfl ?_
      refine wp_getR dX9_read_39 faX9_16 rfl rfl ?_
      refine wp_bipush dX9_read_42 bp_60 ?_
      refine wp_iload_n dX9_read_44 1 rfl ?_
      refine wp_imul dX9_read_45 ?_
      refine wp_iload_n dX9_read_46 2 rfl ?_
      refine wp_iadd dX9_read_47 ?_
      obtain ⟨x3, hb⟩ := hb
      refine wp_iald dX9_read_48 rfl x3 ?_
      obtain ⟨x4, hb⟩ := hb
      refine wp_cV1w (N := mX9_train) dX9_read_49 tmX9_252 okX9_train rfl rfl rfl rfl rfl rfl rfl rfl (s_X9_train X _ _ x4) ?_
      refine wp_if_lt 61 dX9_read_52 (by decide) (fun c52_5 => ?_) (fun c52_5 => ?_)
      · rw [if_pos c52_5] at hb
        refine wp_iload_n dX9_read_61 2 rfl ?_
        refine wp_ireturn dX9_read_62 rfl ?_
        exact ⟨by rw [l_X9_read_27, if_neg c34_2, if_pos c52_5], by rw [l_X9_read_27, if_neg c34_2, if_pos c52_5]⟩
      · rw [if_neg c52_5] at hb
        refine wp_iinc (L' := [(2, _), (0, _), (1, _)]) dX9_read_55 rfl 2 rfl (ii_1 _) rfl ?_
        refine wp_goto 27 dX9_read_58 (by decide) ?_
        refine wp_drop [1, 2, 0] rfl ?_
        rw [show l_X9_read_27 (n + 1) a b σ = (l_X9_read_27 n a (b + 1) (f_X9_train σ (σ 3 (((60 * a) + b).toNatClampNeg))).2) from by rw [l_X9_read_27, if_neg c34_2, if_neg c52_5]]
        exact ih _ _ _ hb
def f_X9_read (σ : Mem) (a : Int32) : Int32 × Mem := if (f_X9_isSheet σ a) = 0 then ((-2), σ) else if 0 ≤ (σ 1 (a.toNatClampNeg)) then (l_X9_read_27 (fu 61) a 0 σ) else ((f_X9_met σ 1).1, (f_X9_met σ 1).2)
def b_X9_read (σ : Mem) (a : Int32) : Prop := if (f_X9_isSheet σ a) = 0 then True else (vp_in a 4) ∧ (if 0 ≤ (σ 1 (a.toNatClampNeg)) then (bl_X9_read_27 (fu 61) a 0 σ) else True)
theorem s_X9_read (X : Amb) (σ : Mem) (a : Int32) (hb : b_X9_read σ a) : SpW X mX9_read [.ref (adr X 0), .int a] σ (.int (f_X9_read σ a).1) (f_X9_read σ a).2 := by
  unfold b_X9_read at hb
  refine sp_of (by decide +kernel) rfl ?_
  show WP X mX9_read 0 [(0, .ref (adr X 0)), (1, .int a)] [] σ _
  refine wp_iload_n dX9_read_0 1 rfl ?_
  refine wp_cS1w (N := mX9_isSheet) dX9_read_1 tmX9_87 okX9_isSheet rfl rfl rfl rfl (s_X9_isSheet X _ _) ?_
  refine wp_if_ne 10 dX9_read_4 (by decide) (fun c4_1 => ?_) (fun c4_1 => ?_)
  · rw [if_neg c4_1] at hb
    refine wp_aload_n dX9_read_10 0 rfl ?_
    refine wp_getR dX9_read_11 faX9_7 rfl rfl ?_
    refine wp_iload_n dX9_read_14 1 rfl ?_
    obtain ⟨x2, hb⟩ := hb
    refine wp_iald dX9_read_15 rfl x2 ?_
    refine wp_if_ge 25 dX9_read_16 (by decide) (fun c16_3 => ?_) (fun c16_3 => ?_)
    · rw [if_pos c16_3] at hb
      refine wp_iconst dX9_read_25 ic_0 ?_
      refine wp_istore_n (L' := [(2, _), (0, _), (1, _)]) dX9_read_26 rfl rfl ?_
      refine wp_drop [1, 2, 0] rfl ?_
      rw [show f_X9_read σ a = (l_X9_read_27 (fu 61) a 0 σ) from by unfold f_X9_read; rw [if_neg c4_1, if_pos c16_3]]
      exact lt_X9_read_27 X (fu 61) a 0 σ hb
    · rw [if_neg c16_3] at hb
      refine wp_aload_n dX9_read_19 0 rfl ?_
      refine wp_iconst dX9_read_20 ic_1 ?_
      refine wp_cV1w (N := mX9_met) dX9_read_21 tmX9_93 okX9_met rfl rfl rfl rfl rfl rfl rfl rfl (s_X9_met X _ _) ?_
      refine wp_ireturn dX9_read_24 rfl ?_
      exact ⟨by unfold f_X9_read; rw [if_neg c4_1, if_neg c16_3], by unfold f_X9_read; rw [if_neg c4_1, if_neg c16_3]⟩
  · rw [if_pos c4_1] at hb
    refine wp_bipush dX9_read_7 bp_m2 ?_
    refine wp_ireturn dX9_read_9 rfl ?_
    exact ⟨by unfold f_X9_read; rw [if_pos c4_1], by unfold f_X9_read; rw [if_pos c4_1]⟩
def l_X9_sorts_12 (K : Int32 → Mem → Mem) : Nat → Int32 → Int32 → Mem → Mem
  | 0, _, _, σ => σ
  | n + 1, a, b, σ => if b ≤ 0 then (K (a + 1) (mst σ 19 (b.toNatClampNeg) (σ 18 (a.toNatClampNeg)))) else if (σ 19 ((b - 1).toNatClampNeg)) ≤ (σ 18 (a.toNatClampNeg)) then (K (a + 1) (mst σ 19 (b.toNatClampNeg) (σ 18 (a.toNatClampNeg)))) else (l_X9_sorts_12 K n a (b + (-1)) (mst σ 19 (b.toNatClampNeg) (σ 19 ((b - 1).toNatClampNeg))))
def bl_X9_sorts_12 (bK : Int32 → Mem → Prop) : Nat → Int32 → Int32 → Mem → Prop
  | 0, _, _, _ => False
  | n + 1, a, b, σ => if b ≤ 0 then (vp_in a 12) ∧ ((vp_in b 12) ∧ ((bK (a + 1) (mst σ 19 (b.toNatClampNeg) (σ 18 (a.toNatClampNeg)))))) else (vp_in (b - 1) 12) ∧ ((vp_in a 12) ∧ (if (σ 19 ((b - 1).toNatClampNeg)) ≤ (σ 18 (a.toNatClampNeg)) then (vp_in a 12) ∧ ((vp_in b 12) ∧ ((bK (a + 1) (mst σ 19 (b.toNatClampNeg) (σ 18 (a.toNatClampNeg)))))) else (vp_in (b - 1) 12) ∧ ((vp_in b 12) ∧ ((bl_X9_sorts_12 bK n a (b + (-1)) (mst σ 19 (b.toNatClampNeg) (σ 19 ((b - 1).toNatClampNeg))))))))
theorem lt_X9_sorts_12 (X : Amb) (K : Int32 → Mem → Mem) (bK : Int32 → Mem → Prop) (hK : ∀ (a : Int32) (σ : Mem), bK a σ → WP X mX9_sorts 2 [(0, .ref (adr X 0)), (1, .int a)] [] σ (fun v σ' => v = none ∧ σ' = K a σ)) : ∀ (n : Nat) (a : Int32) (b : Int32) (σ : Mem), bl_X9_sorts_12 bK n a b σ → WP X mX9_sorts 12 [(0, .ref (adr X 0)), (1, .int a), (2, .int b)] [] σ (fun v σ' => v = none ∧ σ' = l_X9_sorts_12 K n a b σ) := by
  intro n
  induction n with
  | zero => intro a b σ hb; exact hb.elim
  | succ n ih =>
    intro a b σ hb
    rw [bl_X9_sorts_12] at hb
    refine wp_iload_n dX9_sorts_12 2 rfl ?_
    refine wp_if_le 53 dX9_sorts_13 (by decide) (fun c13_1 => ?_) (fun c13_1 => ?_)
    · rw [if_pos c13_1] at hb
      refine wp_aload_n dX9_sorts_53 0 rfl ?_
      refine wp_getR dX9_sorts_54 faX9_65 rfl rfl ?_
      refine wp_iload_n dX9_sorts_57 2 rfl ?_
      refine wp_aload_n dX9_sorts_58 0 rfl ?_
      refine wp_getR dX9_sorts_59 faX9_62 rfl rfl ?_
      refine wp_iload_n dX9_sorts_62 1 rfl ?_
      obtain ⟨x2, hb⟩ := hb
      refine wp_iald dX9_sorts_63 rfl x2 ?_
      obtain ⟨x3, hb⟩ := hb
      refine wp_iast dX9_sorts_64 rfl x3 ?_
      refine wp_iinc (L' := [(1, _), (0, _), (2, _)]) dX9_sorts_65 rfl 1 rfl (ii_1 _) rfl ?_
      refine wp_goto 2 dX9_sorts_68 (by decide) ?_
      refine wp_drop [1, 0] rfl ?_
      rw [show l_X9_sorts_12 K (n + 1) a b σ = (K (a + 1) (mst σ 19 (b.toNatClampNeg) (σ 18 (a.toNatClampNeg)))) from by rw [l_X9_sorts_12, if_pos c13_1]]
      exact hK _ _ hb
    · rw [if_neg c13_1] at hb
      refine wp_aload_n dX9_sorts_16 0 rfl ?_
      refine wp_getR dX9_sorts_17 faX9_65 rfl rfl ?_
      refine wp_iload_n dX9_sorts_20 2 rfl ?_
      refine wp_iconst dX9_sorts_21 ic_1 ?_
      refine wp_isub dX9_sorts_22 ?_
      obtain ⟨x4, hb⟩ := hb
      refine wp_iald dX9_sorts_23 rfl x4 ?_
      refine wp_aload_n dX9_sorts_24 0 rfl ?_
      refine wp_getR dX9_sorts_25 faX9_62 rfl rfl ?_
      refine wp_iload_n dX9_sorts_28 1 rfl ?_
      obtain ⟨x5, hb⟩ := hb
      refine wp_iald dX9_sorts_29 rfl x5 ?_
      refine wp_icmp_le 53 dX9_sorts_30 (by decide) (fun c30_6 => ?_) (fun c30_6 => ?_)
      · rw [if_pos c30_6] at hb
        refine wp_aload_n dX9_sorts_53 0 rfl ?_
        refine wp_getR dX9_sorts_54 faX9_65 rfl rfl ?_
        refine wp_iload_n dX9_sorts_57 2 rfl ?_
        refine wp_aload_n dX9_sorts_58 0 rfl ?_
        refine wp_getR dX9_sorts_59 faX9_62 rfl rfl ?_
        refine wp_iload_n dX9_sorts_62 1 rfl ?_
        obtain ⟨x7, hb⟩ := hb
        refine wp_iald dX9_sorts_63 rfl x7 ?_
        obtain ⟨x8, hb⟩ := hb
        refine wp_iast dX9_sorts_64 rfl x8 ?_
        refine wp_iinc (L' := [(1, _), (0, _), (2, _)]) dX9_sorts_65 rfl 1 rfl (ii_1 _) rfl ?_
        refine wp_goto 2 dX9_sorts_68 (by decide) ?_
        refine wp_drop [1, 0] rfl ?_
        rw [show l_X9_sorts_12 K (n + 1) a b σ = (K (a + 1) (mst σ 19 (b.toNatClampNeg) (σ 18 (a.toNatClampNeg)))) from by rw [l_X9_sorts_12, if_neg c13_1, if_pos c30_6]]
        exact hK _ _ hb
      · rw [if_neg c30_6] at hb
        refine wp_aload_n dX9_sorts_33 0 rfl ?_
        refine wp_getR dX9_sorts_34 faX9_65 rfl rfl ?_
        refine wp_iload_n dX9_sorts_37 2 rfl ?_
        refine wp_aload_n dX9_sorts_38 0 rfl ?_
        refine wp_getR dX9_sorts_39 faX9_65 rfl rfl ?_
        refine wp_iload_n dX9_sorts_42 2 rfl ?_
        refine wp_iconst dX9_sorts_43 ic_1 ?_
        refine wp_isub dX9_sorts_44 ?_
        obtain ⟨x9, hb⟩ := hb
        refine wp_iald dX9_sorts_45 rfl x9 ?_
        obtain ⟨x10, hb⟩ := hb
        refine wp_iast dX9_sorts_46 rfl x10 ?_
        refine wp_iinc (L' := [(2, _), (0, _), (1, _)]) dX9_sorts_47 rfl 2 rfl (ii_m1 _) rfl ?_
        refine wp_goto 12 dX9_sorts_50 (by decide) ?_
        refine wp_drop [1, 2, 0] rfl ?_
        rw [show l_X9_sorts_12 K (n + 1) a b σ = (l_X9_sorts_12 K n a (b + (-1)) (mst σ 19 (b.toNatClampNeg) (σ 19 ((b - 1).toNatClampNeg)))) from by rw [l_X9_sorts_12, if_neg c13_1, if_neg c30_6]]
        exact ih _ _ _ hb
def l_X9_sorts_2 : Nat → Int32 → Mem → Mem
  | 0, _, σ => σ
  | n + 1, a, σ => if (σ 0 25) ≤ a then σ else (l_X9_sorts_12 (l_X9_sorts_2 n) (fu 13) a a σ)
def bl_X9_sorts_2 : Nat → Int32 → Mem → Prop
  | 0, _, _ => False
  | n + 1, a, σ => if (σ 0 25) ≤ a then True else (bl_X9_sorts_12 (bl_X9_sorts_2 n) (fu 13) a a σ)
theorem lt_X9_sorts_2 (X : Amb) : ∀ (n : Nat) (a : Int32) (σ : Mem), bl_X9_sorts_2 n a σ → WP X mX9_sorts 2 [(0, .ref (adr X 0)), (1, .int a)] [] σ (fun v σ' => v = none ∧ σ' = l_X9_sorts_2 n a σ) := by
  intro n
  induction n with
  | zero => intro a σ hb; exact hb.elim
  | succ n ih =>
    intro a σ hb
    rw [bl_X9_sorts_2] at hb
    refine wp_iload_n dX9_sorts_2 1 rfl ?_
    refine wp_aload_n dX9_sorts_3 0 rfl ?_
    refine wp_getI dX9_sorts_4 faX9_249 rfl rfl ?_
    refine wp_icmp_ge 71 dX9_sorts_7 (by decide) (fun c7_1 => ?_) (fun c7_1 => ?_)
    · rw [if_pos c7_1] at hb
      refine wp_return dX9_sorts_71 rfl ?_
      exact ⟨rfl, by rw [l_X9_sorts_2, if_pos c7_1]⟩
    · rw [if_neg c7_1] at hb
      refine wp_iload_n dX9_sorts_10 1 rfl ?_
      refine wp_istore_n (L' := [(2, _), (0, _), (1, _)]) dX9_sorts_11 rfl rfl ?_
      refine wp_drop [1, 2, 0] rfl ?_
      rw [show l_X9_sorts_2 (n + 1) a σ = (l_X9_sorts_12 (l_X9_sorts_2 n) (fu 13) a a σ) from by rw [l_X9_sorts_2]; rw [if_neg c7_1]]
      exact lt_X9_sorts_12 X (l_X9_sorts_2 n) (bl_X9_sorts_2 n) ih (fu 13) a a σ hb
def f_X9_sorts (σ : Mem) : Mem := (l_X9_sorts_2 (fu 13) 0 σ)
def b_X9_sorts (σ : Mem) : Prop := (bl_X9_sorts_2 (fu 13) 0 σ)
theorem s_X9_sorts (X : Amb) (σ : Mem) (hb : b_X9_sorts σ) : SpV X mX9_sorts [.ref (adr X 0)] σ (f_X9_sorts σ) := by
  unfold b_X9_sorts at hb
  refine sp_of (by decide +kernel) rfl ?_
  show WP X mX9_sorts 0 [(0, .ref (adr X 0))] [] σ _
  refine wp_iconst dX9_sorts_0 ic_0 ?_
  refine wp_istore_n (L' := [(1, _), (0, _)]) dX9_sorts_1 rfl rfl ?_
  refine wp_drop [1, 0] rfl ?_
  rw [show f_X9_sorts σ = (l_X9_sorts_2 (fu 13) 0 σ) from rfl]
  exact lt_X9_sorts_2 X (fu 13) 0 σ hb
def l_X9_lateOf_47 (K : Int32 → Int32 → Int32 → Int32 → Int32 → Mem → Int32 × Mem) : Nat → Int32 → Int32 → Int32 → Int32 → Int32 → Int32 → Int32 → Mem → Int32 × Mem
  | 0, _, _, _, _, _, _, _, σ => (0, σ)
  | n + 1, a, b, c, d, e, f, g, σ => if a ≤ g then (K a b (c + ((f_X9_greater σ (σ 19 (e.toNatClampNeg)) (σ 20 (f.toNatClampNeg))) - (σ 19 (e.toNatClampNeg)))) (f_X9_greater (mst σ 20 (f.toNatClampNeg) (((f_X9_greater σ (σ 19 (e.toNatClampNeg)) (σ 20 (f.toNatClampNeg))) + (σ 11 ((2 : Int32).toNatClampNeg))) + (σ 11 ((3 : Int32).toNatClampNeg)))) ((f_X9_greater σ (σ 19 (e.toNatClampNeg)) (σ 20 (f.toNatClampNeg))) - (σ 19 (e.toNatClampNeg))) d) (e + 1) (mst σ 20 (f.toNatClampNeg) (((f_X9_greater σ (σ 19 (e.toNatClampNeg)) (σ 20 (f.toNatClampNeg))) + (σ 11 ((2 : Int32).toNatClampNeg))) + (σ 11 ((3 : Int32).toNatClampNeg))))) else if (σ 20 (f.toNatClampNeg)) ≤ (σ 20 (g.toNatClampNeg)) then (l_X9_lateOf_47 K n a b c d e f (g + 1) σ) else (l_X9_lateOf_47 K n a b c d e g (g + 1) σ)
def bl_X9_lateOf_47 (bK : Int32 → Int32 → Int32 → Int32 → Int32 → Mem → Prop) : Nat → Int32 → Int32 → Int32 → Int32 → Int32 → Int32 → Int32 → Mem → Prop
  | 0, _, _, _, _, _, _, _, _ => False
  | n + 1, a, b, c, d, e, f, g, σ => if a ≤ g then (vp_in e 12) ∧ ((vp_in f 6) ∧ ((vp_in f 6) ∧ ((vp_in e 12) ∧ ((vp_in e 12) ∧ ((bK a b (c + ((f_X9_greater σ (σ 19 (e.toNatClampNeg)) (σ 20 (f.toNatClampNeg))) - (σ 19 (e.toNatClampNeg)))) (f_X9_greater (mst σ 20 (f.toNatClampNeg) (((f_X9_greater σ (σ 19 (e.toNatClampNeg)) (σ 20 (f.toNatClampNeg))) + (σ 11 ((2 : Int32).toNatClampNeg))) + (σ 11 ((3 : Int32).toNatClampNeg)))) ((f_X9_greater σ (σ 19 (e.toNatClampNeg)) (σ 20 (f.toNatClampNeg))) - (σ 19 (e.toNatClampNeg))) d) (e + 1) (mst σ 20 (f.toNatClampNeg) (((f_X9_greater σ (σ 19 (e.toNatClampNeg)) (σ 20 (f.toNatClampNeg))) + (σ 11 ((2 : Int32).toNatClampNeg))) + (σ 11 ((3 : Int32).toNatClampNeg)))))))))) else (vp_in g 6) ∧ ((vp_in f 6) ∧ (if (σ 20 (f.toNatClampNeg)) ≤ (σ 20 (g.toNatClampNeg)) then (bl_X9_lateOf_47 bK n a b c d e f (g + 1) σ) else (bl_X9_lateOf_47 bK n a b c d e g (g + 1) σ)))
theorem lt_X9_lateOf_47 (X : Amb) (K : Int32 → Int32 → Int32 → Int32 → Int32 → Mem → Int32 × Mem) (bK : Int32 → Int32 → Int32 → Int32 → Int32 → Mem → Prop) (hK : ∀ (a : Int32) (b : Int32) (c : Int32) (d : Int32) (e : Int32) (σ : Mem), bK a b c d e σ → WP X mX9_lateOf 32 [(0, .ref (adr X 0)), (1, .int a), (2, .int b), (3, .int c), (4, .int d), (5, .int e)] [] σ (fun v σ' => v = some (.int (K a b c d e σ).1) ∧ σ' = (K a b c d e σ).2)) : ∀ (n : Nat) (a : Int32) (b : Int32) (c : Int32) (d : Int32) (e : Int32) (f : Int32) (g : Int32) (σ : Mem), bl_X9_lateOf_47 bK n a b c d e f g σ → WP X mX9_lateOf 47 [(0, .ref (adr X 0)), (1, .int a), (2, .int b), (3, .int c), (4, .int d), (5, .int e), (6, .int f), (7, .int g)] [] σ (fun v σ' => v = some (.int (l_X9_lateOf_47 K n a b c d e f g σ).1) ∧ σ' = (l_X9_lateOf_47 K n a b c d e f g σ).2) := by
  intro n
  induction n with
  | zero => intro a b c d e f g σ hb; exact hb.elim
  | succ n ih =>
    intro a b c d e f g σ hb
    rw [bl_X9_lateOf_47] at hb
    refine wp_iload dX9_lateOf_47 7 rfl ?_
    refine wp_iload_n dX9_lateOf_49 1 rfl ?_
    refine wp_icmp_ge 85 dX9_lateOf_50 (by decide) (fun c50_1 => ?_) (fun c50_1 => ?_)
    · rw [if_pos c50_1] at hb
      refine wp_aload_n dX9_lateOf_85 0 rfl ?_
      refine wp_getR dX9_lateOf_86 faX9_65 rfl rfl ?_
      refine wp_iload dX9_lateOf_89 5 rfl ?_
      obtain ⟨x2, hb⟩ := hb
      refine wp_iald dX9_lateOf_91 rfl x2 ?_
      refine wp_aload_n dX9_lateOf_92 0 rfl ?_
      refine wp_getR dX9_lateOf_93 faX9_68 rfl rfl ?_
      refine wp_iload dX9_lateOf_96 6 rfl ?_
      obtain ⟨x3, hb⟩ := hb
      refine wp_iald dX9_lateOf_98 rfl x3 ?_
      refine wp_cS2w (N := mX9_greater) dX9_lateOf_99 tmX9_224 okX9_greater rfl rfl rfl rfl (s_X9_greater X _ _ _) ?_
      refine wp_istore (L' := [(7, _), (0, _), (1, _), (2, _), (3, _), (4, _), (5, _), (6, _)]) dX9_lateOf_102 rfl rfl ?_
      refine wp_aload_n dX9_lateOf_104 1 rfl ?_
      refine wp_getR dX9_lateOf_105 faX9_68 rfl rfl ?_
      refine wp_iload dX9_lateOf_108 7 rfl ?_
      refine wp_iload dX9_lateOf_110 0 rfl ?_
      refine wp_aload_n dX9_lateOf_112 1 rfl ?_
      refine wp_getR dX9_lateOf_113 faX9_41 rfl rfl ?_
      refine wp_iconst dX9_lateOf_116 ic_2 ?_
      refine wp_iald dX9_lateOf_117 rfl (vlit 2 5 (by decide)) ?_
      refine wp_iadd dX9_lateOf_118 ?_
      refine wp_aload_n dX9_lateOf_119 1 rfl ?_
      refine wp_getR dX9_lateOf_120 faX9_41 rfl rfl ?_
      refine wp_iconst dX9_lateOf_123 ic_3 ?_
      refine wp_iald dX9_lateOf_124 rfl (vlit 3 5 (by decide)) ?_
      refine wp_iadd dX9_lateOf_125 ?_
      obtain ⟨x4, hb⟩ := hb
      refine wp_iast dX9_lateOf_126 rfl x4 ?_
      refine wp_iload_n dX9_lateOf_127 4 rfl ?_
      refine wp_iload dX9_lateOf_128 0 rfl ?_
      refine wp_aload_n dX9_lateOf_130 1 rfl ?_
      refine wp_getR dX9_lateOf_131 faX9_65 rfl rfl ?_
      refine wp_iload dX9_lateOf_134 6 rfl ?_
      obtain ⟨x5, hb⟩ := hb
      refine wp_iald dX9_lateOf_136 rfl x5 ?_
      refine wp_topi (y := (σ 19 (e.toNatClampNeg))) rfl ?_
      refine wp_isub dX9_lateOf_137 ?_
      refine wp_iadd dX9_lateOf_138 ?_
      refine wp_istore_n (L' := [(3, _), (7, _), (0, _), (1, _), (2, _), (4, _), (5, _), (6, _)]) dX9_lateOf_139 rfl rfl ?_
      refine wp_iload dX9_lateOf_140 1 rfl ?_
      refine wp_aload_n dX9_lateOf_142 2 rfl ?_
      refine wp_getR dX9_lateOf_143 faX9_65 rfl rfl ?_
      refine wp_iload dX9_lateOf_146 6 rfl ?_
      obtain ⟨x6, hb⟩ := hb
      refine wp_iald dX9_lateOf_148 rfl x6 ?_
      refine wp_topi (y := (σ 19 (e.toNatClampNeg))) rfl ?_
      refine wp_isub dX9_lateOf_149 ?_
      refine wp_iload dX9_lateOf_150 5 rfl ?_
      refine wp_cS2w (N := mX9_greater) dX9_lateOf_152 tmX9_224 okX9_greater rfl rfl rfl rfl (s_X9_greater X _ _ _) ?_
      refine wp_istore (L' := [(4, _), (3, _), (7, _), (0, _), (1, _), (2, _), (5, _), (6, _)]) dX9_lateOf_155 rfl rfl ?_
      refine wp_iinc (L' := [(5, _), (4, _), (3, _), (7, _), (0, _), (1, _), (2, _), (6, _)]) dX9_lateOf_157 rfl 6 rfl (ii_1 _) rfl ?_
      refine wp_goto 32 dX9_lateOf_160 (by decide) ?_
      refine wp_drop [4, 5, 6, 2, 1, 0] rfl ?_
      rw [show l_X9_lateOf_47 K (n + 1) a b c d e f g σ = (K a b (c + ((f_X9_greater σ (σ 19 (e.toNatClampNeg)) (σ 20 (f.toNatClampNeg))) - (σ 19 (e.toNatClampNeg)))) (f_X9_greater (mst σ 20 (f.toNatClampNeg) (((f_X9_greater σ (σ 19 (e.toNatClampNeg)) (σ 20 (f.toNatClampNeg))) + (σ 11 ((2 : Int32).toNatClampNeg))) + (σ 11 ((3 : Int32).toNatClampNeg)))) ((f_X9_greater σ (σ 19 (e.toNatClampNeg)) (σ 20 (f.toNatClampNeg))) - (σ 19 (e.toNatClampNeg))) d) (e + 1) (mst σ 20 (f.toNatClampNeg) (((f_X9_greater σ (σ 19 (e.toNatClampNeg)) (σ 20 (f.toNatClampNeg))) + (σ 11 ((2 : Int32).toNatClampNeg))) + (σ 11 ((3 : Int32).toNatClampNeg))))) from by rw [l_X9_lateOf_47, if_pos c50_1]]
      exact hK _ _ _ _ _ _ hb
    · rw [if_neg c50_1] at hb
      refine wp_aload_n dX9_lateOf_53 0 rfl ?_
      refine wp_getR dX9_lateOf_54 faX9_68 rfl rfl ?_
      refine wp_iload dX9_lateOf_57 7 rfl ?_
      obtain ⟨x7, hb⟩ := hb
      refine wp_iald dX9_lateOf_59 rfl x7 ?_
      refine wp_aload_n dX9_lateOf_60 0 rfl ?_
      refine wp_getR dX9_lateOf_61 faX9_68 rfl rfl ?_
      refine wp_iload dX9_lateOf_64 6 rfl ?_
      obtain ⟨x8, hb⟩ := hb
      refine wp_iald dX9_lateOf_66 rfl x8 ?_
      refine wp_icmp_ge 75 dX9_lateOf_67 (by decide) (fun c67_9 => ?_) (fun c67_9 => ?_)
      · rw [if_pos c67_9] at hb
        refine wp_iload dX9_lateOf_75 6 rfl ?_
        refine wp_istore (L' := [(6, _), (0, _), (1, _), (2, _), (3, _), (4, _), (5, _), (7, _)]) dX9_lateOf_77 rfl rfl ?_
        refine wp_iinc (L' := [(7, _), (6, _), (0, _), (1, _), (2, _), (3, _), (4, _), (5, _)]) dX9_lateOf_79 rfl 7 rfl (ii_1 _) rfl ?_
        refine wp_goto 47 dX9_lateOf_82 (by decide) ?_
        refine wp_drop [2, 3, 4, 5, 6, 7, 1, 0] rfl ?_
        rw [show l_X9_lateOf_47 K (n + 1) a b c d e f g σ = (l_X9_lateOf_47 K n a b c d e f (g + 1) σ) from by rw [l_X9_lateOf_47, if_neg c50_1, if_pos c67_9]]
        exact ih _ _ _ _ _ _ _ _ hb
      · rw [if_neg c67_9] at hb
        refine wp_iload dX9_lateOf_70 7 rfl ?_
        refine wp_goto 77 dX9_lateOf_72 (by decide) ?_
        refine wp_istore (L' := [(6, _), (0, _), (1, _), (2, _), (3, _), (4, _), (5, _), (7, _)]) dX9_lateOf_77 rfl rfl ?_
        refine wp_iinc (L' := [(7, _), (6, _), (0, _), (1, _), (2, _), (3, _), (4, _), (5, _)]) dX9_lateOf_79 rfl 7 rfl (ii_1 _) rfl ?_
        refine wp_goto 47 dX9_lateOf_82 (by decide) ?_
        refine wp_drop [2, 3, 4, 5, 6, 7, 1, 0] rfl ?_
        rw [show l_X9_lateOf_47 K (n + 1) a b c d e f g σ = (l_X9_lateOf_47 K n a b c d e g (g + 1) σ) from by rw [l_X9_lateOf_47, if_neg c50_1, if_neg c67_9]]
        exact ih _ _ _ _ _ _ _ _ hb
def l_X9_lateOf_32 : Nat → Int32 → Int32 → Int32 → Int32 → Int32 → Mem → Int32 × Mem
  | 0, _, _, _, _, _, σ => (0, σ)
  | n + 1, a, b, c, d, e, σ => if (σ 0 25) ≤ e then if b = 0 then (c, σ) else (d, σ) else (l_X9_lateOf_47 (l_X9_lateOf_32 n) (fu 7) a b c d e 0 1 σ)
def bl_X9_lateOf_32 : Nat → Int32 → Int32 → Int32 → Int32 → Int32 → Mem → Prop
  | 0, _, _, _, _, _, _ => False
  | n + 1, a, b, c, d, e, σ => if (σ 0 25) ≤ e then if b = 0 then True else True else (bl_X9_lateOf_47 (bl_X9_lateOf_32 n) (fu 7) a b c d e 0 1 σ)
theorem lt_X9_lateOf_32 (X : Amb) : ∀ (n : Nat) (a : Int32) (b : Int32) (c : Int32) (d : Int32) (e : Int32) (σ : Mem), bl_X9_lateOf_32 n a b c d e σ → WP X mX9_lateOf 32 [(0, .ref (adr X 0)), (1, .int a), (2, .int b), (3, .int c), (4, .int d), (5, .int e)] [] σ (fun v σ' => v = some (.int (l_X9_lateOf_32 n a b c d e σ).1) ∧ σ' = (l_X9_lateOf_32 n a b c d e σ).2) := by
  intro n
  induction n with
  | zero => intro a b c d e σ hb; exact hb.elim
  | succ n ih =>
    intro a b c d e σ hb
    rw [bl_X9_lateOf_32] at hb
    refine wp_iload dX9_lateOf_32 5 rfl ?_
    refine wp_aload_n dX9_lateOf_34 0 rfl ?_
    refine wp_getI dX9_lateOf_35 faX9_249 rfl rfl ?_
    refine wp_icmp_ge 163 dX9_lateOf_38 (by decide) (fun c38_1 => ?_) (fun c38_1 => ?_)
    · rw [if_pos c38_1] at hb
      refine wp_iload_n dX9_lateOf_163 2 rfl ?_
      refine wp_if_ne 171 dX9_lateOf_164 (by decide) (fun c164_2 => ?_) (fun c164_2 => ?_)
      · rw [if_neg c164_2] at hb
        refine wp_iload dX9_lateOf_171 4 rfl ?_
        refine wp_ireturn dX9_lateOf_173 rfl ?_
        exact ⟨by rw [l_X9_lateOf_32, if_pos c38_1, if_neg c164_2], by rw [l_X9_lateOf_32, if_pos c38_1, if_neg c164_2]⟩
      · rw [if_pos c164_2] at hb
        refine wp_iload_n dX9_lateOf_167 3 rfl ?_
        refine wp_goto 173 dX9_lateOf_168 (by decide) ?_
        refine wp_ireturn dX9_lateOf_173 rfl ?_
        exact ⟨by rw [l_X9_lateOf_32, if_pos c38_1, if_pos c164_2], by rw [l_X9_lateOf_32, if_pos c38_1, if_pos c164_2]⟩
    · rw [if_neg c38_1] at hb
      refine wp_iconst dX9_lateOf_41 ic_0 ?_
      refine wp_istore (L' := [(6, _), (0, _), (1, _), (2, _), (3, _), (4, _), (5, _)]) dX9_lateOf_42 rfl rfl ?_
      refine wp_iconst dX9_lateOf_44 ic_1 ?_
      refine wp_istore (L' := [(7, _), (6, _), (0, _), (1, _), (2, _), (3, _), (4, _), (5, _)]) dX9_lateOf_45 rfl rfl ?_
      refine wp_drop [2, 3, 4, 5, 6, 7, 1, 0] rfl ?_
      rw [show l_X9_lateOf_32 (n + 1) a b c d e σ = (l_X9_lateOf_47 (l_X9_lateOf_32 n) (fu 7) a b c d e 0 1 σ) from by rw [l_X9_lateOf_32]; rw [if_neg c38_1]]
      exact lt_X9_lateOf_47 X (l_X9_lateOf_32 n) (bl_X9_lateOf_32 n) ih (fu 7) a b c d e 0 1 σ hb
def l_X9_lateOf_6 : Nat → Int32 → Int32 → Int32 → Mem → Int32 × Mem
  | 0, _, _, _, σ => (0, σ)
  | n + 1, a, b, c, σ => if a ≤ c then (l_X9_lateOf_32 (fu 13) a b 0 0 0 σ) else (l_X9_lateOf_6 n a b (c + 1) (mst σ 20 (c.toNatClampNeg) 0))
def bl_X9_lateOf_6 : Nat → Int32 → Int32 → Int32 → Mem → Prop
  | 0, _, _, _, _ => False
  | n + 1, a, b, c, σ => if a ≤ c then (bl_X9_lateOf_32 (fu 13) a b 0 0 0 σ) else (vp_in c 6) ∧ ((bl_X9_lateOf_6 n a b (c + 1) (mst σ 20 (c.toNatClampNeg) 0)))
theorem lt_X9_lateOf_6 (X : Amb) : ∀ (n : Nat) (a : Int32) (b : Int32) (c : Int32) (σ : Mem), bl_X9_lateOf_6 n a b c σ → WP X mX9_lateOf 6 [(0, .ref (adr X 0)), (1, .int a), (2, .int b), (3, .int c)] [] σ (fun v σ' => v = some (.int (l_X9_lateOf_6 n a b c σ).1) ∧ σ' = (l_X9_lateOf_6 n a b c σ).2) := by
  intro n
  induction n with
  | zero => intro a b c σ hb; exact hb.elim
  | succ n ih =>
    intro a b c σ hb
    rw [bl_X9_lateOf_6] at hb
    refine wp_iload_n dX9_lateOf_6 3 rfl ?_
    refine wp_iload_n dX9_lateOf_7 1 rfl ?_
    refine wp_icmp_ge 24 dX9_lateOf_8 (by decide) (fun c8_1 => ?_) (fun c8_1 => ?_)
    · rw [if_pos c8_1] at hb
      refine wp_iconst dX9_lateOf_24 ic_0 ?_
      refine wp_istore_n (L' := [(3, _), (0, _), (1, _), (2, _)]) dX9_lateOf_25 rfl rfl ?_
      refine wp_iconst dX9_lateOf_26 ic_0 ?_
      refine wp_istore (L' := [(4, _), (3, _), (0, _), (1, _), (2, _)]) dX9_lateOf_27 rfl rfl ?_
      refine wp_iconst dX9_lateOf_29 ic_0 ?_
      refine wp_istore (L' := [(5, _), (4, _), (3, _), (0, _), (1, _), (2, _)]) dX9_lateOf_30 rfl rfl ?_
      refine wp_drop [3, 4, 5, 2, 1, 0] rfl ?_
      rw [show l_X9_lateOf_6 (n + 1) a b c σ = (l_X9_lateOf_32 (fu 13) a b 0 0 0 σ) from by rw [l_X9_lateOf_6]; rw [if_pos c8_1]]
      exact lt_X9_lateOf_32 X (fu 13) a b 0 0 0 σ hb
    · rw [if_neg c8_1] at hb
      refine wp_aload_n dX9_lateOf_11 0 rfl ?_
      refine wp_getR dX9_lateOf_12 faX9_68 rfl rfl ?_
      refine wp_iload_n dX9_lateOf_15 3 rfl ?_
      refine wp_iconst dX9_lateOf_16 ic_0 ?_
      obtain ⟨x2, hb⟩ := hb
      refine wp_iast dX9_lateOf_17 rfl x2 ?_
      refine wp_iinc (L' := [(3, _), (0, _), (1, _), (2, _)]) dX9_lateOf_18 rfl 3 rfl (ii_1 _) rfl ?_
      refine wp_goto 6 dX9_lateOf_21 (by decide) ?_
      refine wp_drop [1, 2, 3, 0] rfl ?_
      rw [show l_X9_lateOf_6 (n + 1) a b c σ = (l_X9_lateOf_6 n a b (c + 1) (mst σ 20 (c.toNatClampNeg) 0)) from by rw [l_X9_lateOf_6, if_neg c8_1]]
      exact ih _ _ _ _ hb
def f_X9_lateOf (σ : Mem) (a : Int32) (b : Int32) : Int32 × Mem := (l_X9_lateOf_6 (fu 7) a b 0 (f_X9_sorts σ))
def b_X9_lateOf (σ : Mem) (a : Int32) (b : Int32) : Prop := (b_X9_sorts σ) ∧ ((bl_X9_lateOf_6 (fu 7) a b 0 (f_X9_sorts σ)))
theorem s_X9_lateOf (X : Amb) (σ : Mem) (a : Int32) (b : Int32) (hb : b_X9_lateOf σ a b) : SpW X mX9_lateOf [.ref (adr X 0), .int a, .int b] σ (.int (f_X9_lateOf σ a b).1) (f_X9_lateOf σ a b).2 := by
  unfold b_X9_lateOf at hb
  refine sp_of (by decide +kernel) rfl ?_
  show WP X mX9_lateOf 0 [(0, .ref (adr X 0)), (1, .int a), (2, .int b)] [] σ _
  refine wp_aload_n dX9_lateOf_0 0 rfl ?_
  obtain ⟨x1, hb⟩ := hb
  refine wp_cV0v (N := mX9_sorts) dX9_lateOf_1 tmX9_255 okX9_sorts rfl rfl rfl rfl rfl rfl rfl rfl (s_X9_sorts X _ x1) ?_
  refine wp_iconst dX9_lateOf_4 ic_0 ?_
  refine wp_istore_n (L' := [(3, _), (0, _), (1, _), (2, _)]) dX9_lateOf_5 rfl rfl ?_
  refine wp_drop [1, 2, 3, 0] rfl ?_
  rw [show f_X9_lateOf σ a b = (l_X9_lateOf_6 (fu 7) a b 0 (f_X9_sorts σ)) from rfl]
  exact lt_X9_lateOf_6 X (fu 7) a b 0 (f_X9_sorts σ) hb
def f_X9_late (σ : Mem) (a : Int32) (b : Int32) : Int32 × Mem := if (f_X9_in σ a.toInt64 1 6) = 0 then ((-2), σ) else if (f_X9_isTwo σ b) = 0 then ((-2), σ) else ((f_X9_lateOf σ a b).1, (f_X9_lateOf σ a b).2)
def b_X9_late (σ : Mem) (a : Int32) (b : Int32) : Prop := if (f_X9_in σ a.toInt64 1 6) = 0 then True else if (f_X9_isTwo σ b) = 0 then True else (b_X9_lateOf σ a b) ∧ (True)
theorem s_X9_late (X : Amb) (σ : Mem) (a : Int32) (b : Int32) (hb : b_X9_late σ a b) : SpW X mX9_late [.ref (adr X 0), .int a, .int b] σ (.int (f_X9_late σ a b).1) (f_X9_late σ a b).2 := by
  unfold b_X9_late at hb
  refine sp_of (by decide +kernel) rfl ?_
  show WP X mX9_late 0 [(0, .ref (adr X 0)), (1, .int a), (2, .int b)] [] σ _
  refine wp_iload_n dX9_late_0 1 rfl ?_
  refine wp_i2l dX9_late_1 ?_
  refine wp_lconst dX9_late_2 lc_1 ?_
  refine wp_ldc2 dX9_late_3 tlX9_258 ?_
  refine wp_cS3w (N := mX9_in) dX9_late_6 tmX9_73 okX9_in rfl rfl rfl rfl (s_X9_in X _ _ _ _) ?_
  refine wp_if_eq 28 dX9_late_9 (by decide) (fun c9_1 => ?_) (fun c9_1 => ?_)
  · rw [if_pos c9_1] at hb
    refine wp_bipush dX9_late_28 bp_m2 ?_
    refine wp_ireturn dX9_late_30 rfl ?_
    exact ⟨by unfold f_X9_late; rw [if_pos c9_1], by unfold f_X9_late; rw [if_pos c9_1]⟩
  · rw [if_neg c9_1] at hb
    refine wp_iload_n dX9_late_12 2 rfl ?_
    refine wp_cS1w (N := mX9_isTwo) dX9_late_13 tmX9_105 okX9_isTwo rfl rfl rfl rfl (s_X9_isTwo X _ _) ?_
    refine wp_if_eq 28 dX9_late_16 (by decide) (fun c16_2 => ?_) (fun c16_2 => ?_)
    · rw [if_pos c16_2] at hb
      refine wp_bipush dX9_late_28 bp_m2 ?_
      refine wp_ireturn dX9_late_30 rfl ?_
      exact ⟨by unfold f_X9_late; rw [if_neg c9_1, if_pos c16_2], by unfold f_X9_late; rw [if_neg c9_1, if_pos c16_2]⟩
    · rw [if_neg c16_2] at hb
      refine wp_aload_n dX9_late_19 0 rfl ?_
      refine wp_iload_n dX9_late_20 1 rfl ?_
      refine wp_iload_n dX9_late_21 2 rfl ?_
      obtain ⟨x3, hb⟩ := hb
      refine wp_cV2w (N := mX9_lateOf) dX9_late_22 tmX9_260 okX9_lateOf rfl rfl rfl rfl rfl rfl rfl rfl (s_X9_lateOf X _ _ _ x3) ?_
      refine wp_goto 30 dX9_late_25 (by decide) ?_
      refine wp_ireturn dX9_late_30 rfl ?_
      exact ⟨by unfold f_X9_late; rw [if_neg c9_1, if_neg c16_2], by unfold f_X9_late; rw [if_neg c9_1, if_neg c16_2]⟩
def l_X9_enoughOf_2 : Nat → Int32 → Int32 → Mem → Int32 × Mem
  | 0, _, _, σ => (0, σ)
  | n + 1, a, b, σ => if 7 ≤ b then ((-1), σ) else if a < (f_X9_lateOf σ b 1).1 then (l_X9_enoughOf_2 n a (b + 1) (f_X9_lateOf σ b 1).2) else (b, (f_X9_lateOf σ b 1).2)
def bl_X9_enoughOf_2 : Nat → Int32 → Int32 → Mem → Prop
  | 0, _, _, _ => False
  | n + 1, a, b, σ => if 7 ≤ b then True else (b_X9_lateOf σ b 1) ∧ (if a < (f_X9_lateOf σ b 1).1 then (bl_X9_enoughOf_2 n a (b + 1) (f_X9_lateOf σ b 1).2) else True)
theorem lt_X9_enoughOf_2 (X : Amb) : ∀ (n : Nat) (a : Int32) (b : Int32) (σ : Mem), bl_X9_enoughOf_2 n a b σ → WP X mX9_enoughOf 2 [(0, .ref (adr X 0)), (1, .int a), (2, .int b)] [] σ (fun v σ' => v = some (.int (l_X9_enoughOf_2 n a b σ).1) ∧ σ' = (l_X9_enoughOf_2 n a b σ).2) := by
  intro n
  induction n with
  | zero => intro a b σ hb; exact hb.elim
  | succ n ih =>
    intro a b σ hb
    rw [bl_X9_enoughOf_2] at hb
    refine wp_iload_n dX9_enoughOf_2 2 rfl ?_
    refine wp_bipush dX9_enoughOf_3 bp_7 ?_
    refine wp_icmp_ge 26 dX9_enoughOf_5 (by decide) (fun c5_1 => ?_) (fun c5_1 => ?_)
    · rw [if_pos c5_1] at hb
      refine wp_iconst dX9_enoughOf_26 ic_m1 ?_
      refine wp_ireturn dX9_enoughOf_27 rfl ?_
      exact ⟨by rw [l_X9_enoughOf_2, if_pos c5_1], by rw [l_X9_enoughOf_2, if_pos c5_1]⟩
    · rw [if_neg c5_1] at hb
      refine wp_aload_n dX9_enoughOf_8 0 rfl ?_
      refine wp_iload_n dX9_enoughOf_9 2 rfl ?_
      refine wp_iconst dX9_enoughOf_10 ic_1 ?_
      obtain ⟨x2, hb⟩ := hb
      refine wp_cV2w (N := mX9_lateOf) dX9_enoughOf_11 tmX9_260 okX9_lateOf rfl rfl rfl rfl rfl rfl rfl rfl (s_X9_lateOf X _ _ _ x2) ?_
      refine wp_iload_n dX9_enoughOf_14 1 rfl ?_
      refine wp_icmp_gt 20 dX9_enoughOf_15 (by decide) (fun c15_3 => ?_) (fun c15_3 => ?_)
      · rw [if_pos c15_3] at hb
        refine wp_iinc (L' := [(2, _), (0, _), (1, _)]) dX9_enoughOf_20 rfl 2 rfl (ii_1 _) rfl ?_
        refine wp_goto 2 dX9_enoughOf_23 (by decide) ?_
        refine wp_drop [1, 2, 0] rfl ?_
        rw [show l_X9_enoughOf_2 (n + 1) a b σ = (l_X9_enoughOf_2 n a (b + 1) (f_X9_lateOf σ b 1).2) from by rw [l_X9_enoughOf_2, if_neg c5_1, if_pos c15_3]]
        exact ih _ _ _ hb
      · rw [if_neg c15_3] at hb
        refine wp_iload_n dX9_enoughOf_18 2 rfl ?_
        refine wp_ireturn dX9_enoughOf_19 rfl ?_
        exact ⟨by rw [l_X9_enoughOf_2, if_neg c5_1, if_neg c15_3], by rw [l_X9_enoughOf_2, if_neg c5_1, if_neg c15_3]⟩
def f_X9_enoughOf (σ : Mem) (a : Int32) : Int32 × Mem := (l_X9_enoughOf_2 (fu 7) a 1 σ)
def b_X9_enoughOf (σ : Mem) (a : Int32) : Prop := (bl_X9_enoughOf_2 (fu 7) a 1 σ)
theorem s_X9_enoughOf (X : Amb) (σ : Mem) (a : Int32) (hb : b_X9_enoughOf σ a) : SpW X mX9_enoughOf [.ref (adr X 0), .int a] σ (.int (f_X9_enoughOf σ a).1) (f_X9_enoughOf σ a).2 := by
  unfold b_X9_enoughOf at hb
  refine sp_of (by decide +kernel) rfl ?_
  show WP X mX9_enoughOf 0 [(0, .ref (adr X 0)), (1, .int a)] [] σ _
  refine wp_iconst dX9_enoughOf_0 ic_1 ?_
  refine wp_istore_n (L' := [(2, _), (0, _), (1, _)]) dX9_enoughOf_1 rfl rfl ?_
  refine wp_drop [1, 2, 0] rfl ?_
  rw [show f_X9_enoughOf σ a = (l_X9_enoughOf_2 (fu 7) a 1 σ) from rfl]
  exact lt_X9_enoughOf_2 X (fu 7) a 1 σ hb
def f_X9_enough (σ : Mem) (a : Int32) : Int32 × Mem := if (f_X9_in σ a.toInt64 0 999) = 0 then ((-2), σ) else ((f_X9_enoughOf σ a).1, (f_X9_enoughOf σ a).2)
def b_X9_enough (σ : Mem) (a : Int32) : Prop := if (f_X9_in σ a.toInt64 0 999) = 0 then True else (b_X9_enoughOf σ a) ∧ (True)
theorem s_X9_enough (X : Amb) (σ : Mem) (a : Int32) (hb : b_X9_enough σ a) : SpW X mX9_enough [.ref (adr X 0), .int a] σ (.int (f_X9_enough σ a).1) (f_X9_enough σ a).2 := by
  unfold b_X9_enough at hb
  refine sp_of (by decide +kernel) rfl ?_
  show WP X mX9_enough 0 [(0, .ref (adr X 0)), (1, .int a)] [] σ _
  refine wp_iload_n dX9_enough_0 1 rfl ?_
  refine wp_i2l dX9_enough_1 ?_
  refine wp_lconst dX9_enough_2 lc_0 ?_
  refine wp_ldc2 dX9_enough_3 tlX9_131 ?_
  refine wp_cS3w (N := mX9_in) dX9_enough_6 tmX9_73 okX9_in rfl rfl rfl rfl (s_X9_in X _ _ _ _) ?_
  refine wp_if_eq 20 dX9_enough_9 (by decide) (fun c9_1 => ?_) (fun c9_1 => ?_)
  · rw [if_pos c9_1] at hb
    refine wp_bipush dX9_enough_20 bp_m2 ?_
    refine wp_ireturn dX9_enough_22 rfl ?_
    exact ⟨by unfold f_X9_enough; rw [if_pos c9_1], by unfold f_X9_enough; rw [if_pos c9_1]⟩
  · rw [if_neg c9_1] at hb
    refine wp_aload_n dX9_enough_12 0 rfl ?_
    refine wp_iload_n dX9_enough_13 1 rfl ?_
    obtain ⟨x2, hb⟩ := hb
    refine wp_cV1w (N := mX9_enoughOf) dX9_enough_14 tmX9_263 okX9_enoughOf rfl rfl rfl rfl rfl rfl rfl rfl (s_X9_enoughOf X _ _ x2) ?_
    refine wp_goto 22 dX9_enough_17 (by decide) ?_
    refine wp_ireturn dX9_enough_22 rfl ?_
    exact ⟨by unfold f_X9_enough; rw [if_neg c9_1], by unfold f_X9_enough; rw [if_neg c9_1]⟩
def l_X9_whistlesOf_40 : Nat → Int32 → Int32 → Int32 → Int32 → Int64 → Int64 → Int32 → Mem → Int64
  | 0, _, _, _, _, _, _, _, σ => 0
  | n + 1, a, b, c, d, e, f, g, σ => if a ≤ g then (f_X9_part σ e f d) else if c ≤ g then (l_X9_whistlesOf_40 n a b c d (e * (16 - b).toInt64) (f * 16) (g + 1) σ) else (l_X9_whistlesOf_40 n a b c d (e * b.toInt64) (f * 16) (g + 1) σ)
def bl_X9_whistlesOf_40 : Nat → Int32 → Int32 → Int32 → Int32 → Int64 → Int64 → Int32 → Mem → Prop
  | 0, _, _, _, _, _, _, _, _ => False
  | n + 1, a, b, c, d, e, f, g, σ => if a ≤ g then (b_X9_part σ e f d) ∧ (True) else if c ≤ g then (bl_X9_whistlesOf_40 n a b c d (e * (16 - b).toInt64) (f * 16) (g + 1) σ) else (bl_X9_whistlesOf_40 n a b c d (e * b.toInt64) (f * 16) (g + 1) σ)
theorem lt_X9_whistlesOf_40 (X : Amb) : ∀ (n : Nat) (a : Int32) (b : Int32) (c : Int32) (d : Int32) (e : Int64) (f : Int64) (g : Int32) (σ : Mem), bl_X9_whistlesOf_40 n a b c d e f g σ → WP X mX9_whistlesOf 40 [(0, .int a), (1, .int b), (2, .int c), (3, .int d), (4, .long e), (6, .long f), (8, .int g)] [] σ (fun v σ' => v = some (.long (l_X9_whistlesOf_40 n a b c d e f g σ)) ∧ σ' = σ) := by
  intro n
  induction n with
  | zero => intro a b c d e f g σ hb; exact hb.elim
  | succ n ih =>
    intro a b c d e f g σ hb
    rw [bl_X9_whistlesOf_40] at hb
    refine wp_iload dX9_whistlesOf_40 6 rfl ?_
    refine wp_iload_n dX9_whistlesOf_42 0 rfl ?_
    refine wp_icmp_ge 81 dX9_whistlesOf_43 (by decide) (fun c43_1 => ?_) (fun c43_1 => ?_)
    · rw [if_pos c43_1] at hb
      refine wp_lload dX9_whistlesOf_81 4 rfl ?_
      refine wp_lload dX9_whistlesOf_83 5 rfl ?_
      refine wp_iload_n dX9_whistlesOf_85 3 rfl ?_
      obtain ⟨x2, hb⟩ := hb
      refine wp_cS3w (N := mX9_part) dX9_whistlesOf_86 tmX9_177 okX9_part rfl rfl rfl rfl (s_X9_part X _ _ _ _ x2) ?_
      refine wp_lreturn dX9_whistlesOf_89 rfl ?_
      exact ⟨by rw [l_X9_whistlesOf_40, if_pos c43_1], rfl⟩
    · rw [if_neg c43_1] at hb
      refine wp_lload dX9_whistlesOf_46 4 rfl ?_
      refine wp_iload dX9_whistlesOf_48 6 rfl ?_
      refine wp_iload_n dX9_whistlesOf_50 2 rfl ?_
      refine wp_icmp_ge 59 dX9_whistlesOf_51 (by decide) (fun c51_3 => ?_) (fun c51_3 => ?_)
      · rw [if_pos c51_3] at hb
        refine wp_bipush dX9_whistlesOf_59 bp_16 ?_
        refine wp_iload_n dX9_whistlesOf_61 1 rfl ?_
        refine wp_isub dX9_whistlesOf_62 ?_
        refine wp_i2l dX9_whistlesOf_63 ?_
        refine wp_lmul dX9_whistlesOf_64 ?_
        refine wp_lstore (L' := [(4, _), (0, _), (1, _), (2, _), (3, _), (6, _), (8, _)]) dX9_whistlesOf_65 rfl rfl ?_
        refine wp_lload dX9_whistlesOf_67 5 rfl ?_
        refine wp_ldc2 dX9_whistlesOf_69 tlX9_266 ?_
        refine wp_lmul dX9_whistlesOf_72 ?_
        refine wp_lstore (L' := [(6, _), (4, _), (0, _), (1, _), (2, _), (3, _), (8, _)]) dX9_whistlesOf_73 rfl rfl ?_
        refine wp_iinc (L' := [(8, _), (6, _), (4, _), (0, _), (1, _), (2, _), (3, _)]) dX9_whistlesOf_75 rfl 6 rfl (ii_1 _) rfl ?_
        refine wp_goto 40 dX9_whistlesOf_78 (by decide) ?_
        refine wp_drop [3, 4, 5, 6, 2, 1, 0] rfl ?_
        rw [show l_X9_whistlesOf_40 (n + 1) a b c d e f g σ = (l_X9_whistlesOf_40 n a b c d (e * (16 - b).toInt64) (f * 16) (g + 1) σ) from by rw [l_X9_whistlesOf_40, if_neg c43_1, if_pos c51_3]]
        exact ih _ _ _ _ _ _ _ _ hb
      · rw [if_neg c51_3] at hb
        refine wp_iload_n dX9_whistlesOf_54 1 rfl ?_
        refine wp_i2l dX9_whistlesOf_55 ?_
        refine wp_goto 64 dX9_whistlesOf_56 (by decide) ?_
        refine wp_lmul dX9_whistlesOf_64 ?_
        refine wp_lstore (L' := [(4, _), (0, _), (1, _), (2, _), (3, _), (6, _), (8, _)]) dX9_whistlesOf_65 rfl rfl ?_
        refine wp_lload dX9_whistlesOf_67 5 rfl ?_
        refine wp_ldc2 dX9_whistlesOf_69 tlX9_266 ?_
        refine wp_lmul dX9_whistlesOf_72 ?_
        refine wp_lstore (L' := [(6, _), (4, _), (0, _), (1, _), (2, _), (3, _), (8, _)]) dX9_whistlesOf_73 rfl rfl ?_
        refine wp_iinc (L' := [(8, _), (6, _), (4, _), (0, _), (1, _), (2, _), (3, _)]) dX9_whistlesOf_75 rfl 6 rfl (ii_1 _) rfl ?_
        refine wp_goto 40 dX9_whistlesOf_78 (by decide) ?_
        refine wp_drop [3, 4, 5, 6, 2, 1, 0] rfl ?_
        rw [show l_X9_whistlesOf_40 (n + 1) a b c d e f g σ = (l_X9_whistlesOf_40 n a b c d (e * b.toInt64) (f * 16) (g + 1) σ) from by rw [l_X9_whistlesOf_40, if_neg c43_1, if_neg c51_3]]
        exact ih _ _ _ _ _ _ _ _ hb
def l_X9_whistlesOf_9 : Nat → Int32 → Int32 → Int32 → Int32 → Int64 → Int64 → Int32 → Mem → Int64
  | 0, _, _, _, _, _, _, _, σ => 0
  | n + 1, a, b, c, d, e, f, g, σ => if c ≤ g then (l_X9_whistlesOf_40 (fu 10) a b c d e f 0 σ) else (l_X9_whistlesOf_9 n a b c d ((e * (a - g).toInt64) / (g + 1).toInt64) f (g + 1) σ)
def bl_X9_whistlesOf_9 : Nat → Int32 → Int32 → Int32 → Int32 → Int64 → Int64 → Int32 → Mem → Prop
  | 0, _, _, _, _, _, _, _, _ => False
  | n + 1, a, b, c, d, e, f, g, σ => if c ≤ g then (bl_X9_whistlesOf_40 (fu 10) a b c d e f 0 σ) else (¬ (g + 1).toInt64 = 0) ∧ ((bl_X9_whistlesOf_9 n a b c d ((e * (a - g).toInt64) / (g + 1).toInt64) f (g + 1) σ))
theorem lt_X9_whistlesOf_9 (X : Amb) : ∀ (n : Nat) (a : Int32) (b : Int32) (c : Int32) (d : Int32) (e : Int64) (f : Int64) (g : Int32) (σ : Mem), bl_X9_whistlesOf_9 n a b c d e f g σ → WP X mX9_whistlesOf 9 [(0, .int a), (1, .int b), (2, .int c), (3, .int d), (4, .long e), (6, .long f), (8, .int g)] [] σ (fun v σ' => v = some (.long (l_X9_whistlesOf_9 n a b c d e f g σ)) ∧ σ' = σ) := by
  intro n
  induction n with
  | zero => intro a b c d e f g σ hb; exact hb.elim
  | succ n ih =>
    intro a b c d e f g σ hb
    rw [bl_X9_whistlesOf_9] at hb
    refine wp_iload dX9_whistlesOf_9 6 rfl ?_
    refine wp_iload_n dX9_whistlesOf_11 2 rfl ?_
    refine wp_icmp_ge 37 dX9_whistlesOf_12 (by decide) (fun c12_1 => ?_) (fun c12_1 => ?_)
    · rw [if_pos c12_1] at hb
      refine wp_iconst dX9_whistlesOf_37 ic_0 ?_
      refine wp_istore (L' := [(8, _), (0, _), (1, _), (2, _), (3, _), (4, _), (6, _)]) dX9_whistlesOf_38 rfl rfl ?_
      refine wp_drop [1, 2, 3, 4, 5, 6, 0] rfl ?_
      rw [show l_X9_whistlesOf_9 (n + 1) a b c d e f g σ = (l_X9_whistlesOf_40 (fu 10) a b c d e f 0 σ) from by rw [l_X9_whistlesOf_9]; rw [if_pos c12_1]]
      exact lt_X9_whistlesOf_40 X (fu 10) a b c d e f 0 σ hb
    · rw [if_neg c12_1] at hb
      refine wp_lload dX9_whistlesOf_15 4 rfl ?_
      refine wp_iload_n dX9_whistlesOf_17 0 rfl ?_
      refine wp_iload dX9_whistlesOf_18 6 rfl ?_
      refine wp_isub dX9_whistlesOf_20 ?_
      refine wp_i2l dX9_whistlesOf_21 ?_
      refine wp_lmul dX9_whistlesOf_22 ?_
      refine wp_iload dX9_whistlesOf_23 6 rfl ?_
      refine wp_iconst dX9_whistlesOf_25 ic_1 ?_
      refine wp_iadd dX9_whistlesOf_26 ?_
      refine wp_i2l dX9_whistlesOf_27 ?_
      obtain ⟨x2, hb⟩ := hb
      refine wp_ldiv dX9_whistlesOf_28 x2 ?_
      refine wp_lstore (L' := [(4, _), (0, _), (1, _), (2, _), (3, _), (6, _), (8, _)]) dX9_whistlesOf_29 rfl rfl ?_
      refine wp_iinc (L' := [(8, _), (4, _), (0, _), (1, _), (2, _), (3, _), (6, _)]) dX9_whistlesOf_31 rfl 6 rfl (ii_1 _) rfl ?_
      refine wp_goto 9 dX9_whistlesOf_34 (by decide) ?_
      refine wp_drop [2, 3, 4, 5, 1, 6, 0] rfl ?_
      rw [show l_X9_whistlesOf_9 (n + 1) a b c d e f g σ = (l_X9_whistlesOf_9 n a b c d ((e * (a - g).toInt64) / (g + 1).toInt64) f (g + 1) σ) from by rw [l_X9_whistlesOf_9, if_neg c12_1]]
      exact ih _ _ _ _ _ _ _ _ hb
def f_X9_whistlesOf (σ : Mem) (a : Int32) (b : Int32) (c : Int32) (d : Int32) : Int64 := (l_X9_whistlesOf_9 (fu 10) a b c d 1 1 0 σ)
def b_X9_whistlesOf (σ : Mem) (a : Int32) (b : Int32) (c : Int32) (d : Int32) : Prop := (bl_X9_whistlesOf_9 (fu 10) a b c d 1 1 0 σ)
theorem s_X9_whistlesOf (X : Amb) (σ : Mem) (a : Int32) (b : Int32) (c : Int32) (d : Int32) (hb : b_X9_whistlesOf σ a b c d) : SpW X mX9_whistlesOf [.int a, .int b, .int c, .int d] σ (.long (f_X9_whistlesOf σ a b c d)) σ := by
  unfold b_X9_whistlesOf at hb
  refine sp_of (by decide +kernel) rfl ?_
  show WP X mX9_whistlesOf 0 [(0, .int a), (1, .int b), (2, .int c), (3, .int d)] [] σ _
  refine wp_lconst dX9_whistlesOf_0 lc_1 ?_
  refine wp_lstore (L' := [(4, _), (0, _), (1, _), (2, _), (3, _)]) dX9_whistlesOf_1 rfl rfl ?_
  refine wp_lconst dX9_whistlesOf_3 lc_1 ?_
  refine wp_lstore (L' := [(6, _), (4, _), (0, _), (1, _), (2, _), (3, _)]) dX9_whistlesOf_4 rfl rfl ?_
  refine wp_iconst dX9_whistlesOf_6 ic_0 ?_
  refine wp_istore (L' := [(8, _), (6, _), (4, _), (0, _), (1, _), (2, _), (3, _)]) dX9_whistlesOf_7 rfl rfl ?_
  refine wp_drop [3, 4, 5, 6, 2, 1, 0] rfl ?_
  rw [show f_X9_whistlesOf σ a b c d = (l_X9_whistlesOf_9 (fu 10) a b c d 1 1 0 σ) from rfl]
  exact lt_X9_whistlesOf_9 X (fu 10) a b c d 1 1 0 σ hb
def f_X9_whistles (σ : Mem) (a : Int32) (b : Int32) (c : Int32) (d : Int32) : Int64 := if (f_X9_in σ a.toInt64 0 9) = 0 then (f_X9_no σ (-2)) else if (f_X9_in σ b.toInt64 0 16) = 0 then (f_X9_no σ (-2)) else if (f_X9_in σ c.toInt64 0 a.toInt64) = 0 then (f_X9_no σ (-2)) else if (f_X9_isTwo σ d) = 0 then (f_X9_no σ (-2)) else (f_X9_whistlesOf σ a b c d)
def b_X9_whistles (σ : Mem) (a : Int32) (b : Int32) (c : Int32) (d : Int32) : Prop := if (f_X9_in σ a.toInt64 0 9) = 0 then True else if (f_X9_in σ b.toInt64 0 16) = 0 then True else if (f_X9_in σ c.toInt64 0 a.toInt64) = 0 then True else if (f_X9_isTwo σ d) = 0 then True else (b_X9_whistlesOf σ a b c d) ∧ (True)
theorem s_X9_whistles (X : Amb) (σ : Mem) (a : Int32) (b : Int32) (c : Int32) (d : Int32) (hb : b_X9_whistles σ a b c d) : SpW X mX9_whistles [.ref (adr X 0), .int a, .int b, .int c, .int d] σ (.long (f_X9_whistles σ a b c d)) σ := by
  unfold b_X9_whistles at hb
  refine sp_of (by decide +kernel) rfl ?_
  show WP X mX9_whistles 0 [(0, .ref (adr X 0)), (1, .int a), (2, .int b), (3, .int c), (4, .int d)] [] σ _
  refine wp_iload_n dX9_whistles_0 1 rfl ?_
  refine wp_i2l dX9_whistles_1 ?_
  refine wp_lconst dX9_whistles_2 lc_0 ?_
  refine wp_ldc2 dX9_whistles_3 tlX9_116 ?_
  refine wp_cS3w (N := mX9_in) dX9_whistles_6 tmX9_73 okX9_in rfl rfl rfl rfl (s_X9_in X _ _ _ _) ?_
  refine wp_if_eq 54 dX9_whistles_9 (by decide) (fun c9_1 => ?_) (fun c9_1 => ?_)
  · rw [if_pos c9_1] at hb
    refine wp_bipush dX9_whistles_54 bp_m2 ?_
    refine wp_cS1w (N := mX9_no) dX9_whistles_56 tmX9_170 okX9_no rfl rfl rfl rfl (s_X9_no X _ _) ?_
    refine wp_lreturn dX9_whistles_59 rfl ?_
    exact ⟨by unfold f_X9_whistles; rw [if_pos c9_1], rfl⟩
  · rw [if_neg c9_1] at hb
    refine wp_iload_n dX9_whistles_12 2 rfl ?_
    refine wp_i2l dX9_whistles_13 ?_
    refine wp_lconst dX9_whistles_14 lc_0 ?_
    refine wp_ldc2 dX9_whistles_15 tlX9_266 ?_
    refine wp_cS3w (N := mX9_in) dX9_whistles_18 tmX9_73 okX9_in rfl rfl rfl rfl (s_X9_in X _ _ _ _) ?_
    refine wp_if_eq 54 dX9_whistles_21 (by decide) (fun c21_2 => ?_) (fun c21_2 => ?_)
    · rw [if_pos c21_2] at hb
      refine wp_bipush dX9_whistles_54 bp_m2 ?_
      refine wp_cS1w (N := mX9_no) dX9_whistles_56 tmX9_170 okX9_no rfl rfl rfl rfl (s_X9_no X _ _) ?_
      refine wp_lreturn dX9_whistles_59 rfl ?_
      exact ⟨by unfold f_X9_whistles; rw [if_neg c9_1, if_pos c21_2], rfl⟩
    · rw [if_neg c21_2] at hb
      refine wp_iload_n dX9_whistles_24 3 rfl ?_
      refine wp_i2l dX9_whistles_25 ?_
      refine wp_lconst dX9_whistles_26 lc_0 ?_
      refine wp_iload_n dX9_whistles_27 1 rfl ?_
      refine wp_i2l dX9_whistles_28 ?_
      refine wp_cS3w (N := mX9_in) dX9_whistles_29 tmX9_73 okX9_in rfl rfl rfl rfl (s_X9_in X _ _ _ _) ?_
      refine wp_if_eq 54 dX9_whistles_32 (by decide) (fun c32_3 => ?_) (fun c32_3 => ?_)
      · rw [if_pos c32_3] at hb
        refine wp_bipush dX9_whistles_54 bp_m2 ?_
        refine wp_cS1w (N := mX9_no) dX9_whistles_56 tmX9_170 okX9_no rfl rfl rfl rfl (s_X9_no X _ _) ?_
        refine wp_lreturn dX9_whistles_59 rfl ?_
        exact ⟨by unfold f_X9_whistles; rw [if_neg c9_1, if_neg c21_2, if_pos c32_3], rfl⟩
      · rw [if_neg c32_3] at hb
        refine wp_iload dX9_whistles_35 4 rfl ?_
        refine wp_cS1w (N := mX9_isTwo) dX9_whistles_37 tmX9_105 okX9_isTwo rfl rfl rfl rfl (s_X9_isTwo X _ _) ?_
        refine wp_if_eq 54 dX9_whistles_40 (by decide) (fun c40_4 => ?_) (fun c40_4 => ?_)
        · rw [if_pos c40_4] at hb
          refine wp_bipush dX9_whistles_54 bp_m2 ?_
          refine wp_cS1w (N := mX9_no) dX9_whistles_56 tmX9_170 okX9_no rfl rfl rfl rfl (s_X9_no X _ _) ?_
          refine wp_lreturn dX9_whistles_59 rfl ?_
          exact ⟨by unfold f_X9_whistles; rw [if_neg c9_1, if_neg c21_2, if_neg c32_3, if_pos c40_4], rfl⟩
        · rw [if_neg c40_4] at hb
          refine wp_iload_n dX9_whistles_43 1 rfl ?_
          refine wp_iload_n dX9_whistles_44 2 rfl ?_
          refine wp_iload_n dX9_whistles_45 3 rfl ?_
          refine wp_iload dX9_whistles_46 4 rfl ?_
          obtain ⟨x5, hb⟩ := hb
          refine wp_cS4w (N := mX9_whistlesOf) dX9_whistles_48 tmX9_268 okX9_whistlesOf rfl rfl rfl rfl (s_X9_whistlesOf X _ _ _ _ _ x5) ?_
          refine wp_goto 59 dX9_whistles_51 (by decide) ?_
          refine wp_lreturn dX9_whistles_59 rfl ?_
          exact ⟨by unfold f_X9_whistles; rw [if_neg c9_1, if_neg c21_2, if_neg c32_3, if_neg c40_4], rfl⟩
def f_X9_words (σ : Mem) (a : Int32) : Int32 := if (f_X9_in σ a.toInt64 0 9) = 0 then (-2) else (1 + (8 / (a + 1)))
def b_X9_words (σ : Mem) (a : Int32) : Prop := if (f_X9_in σ a.toInt64 0 9) = 0 then True else (¬ (a + 1) = 0) ∧ (True)
theorem s_X9_words (X : Amb) (σ : Mem) (a : Int32) (hb : b_X9_words σ a) : SpW X mX9_words [.ref (adr X 0), .int a] σ (.int (f_X9_words σ a)) σ := by
  unfold b_X9_words at hb
  refine sp_of (by decide +kernel) rfl ?_
  show WP X mX9_words 0 [(0, .ref (adr X 0)), (1, .int a)] [] σ _
  refine wp_iload_n dX9_words_0 1 rfl ?_
  refine wp_i2l dX9_words_1 ?_
  refine wp_lconst dX9_words_2 lc_0 ?_
  refine wp_ldc2 dX9_words_3 tlX9_116 ?_
  refine wp_cS3w (N := mX9_in) dX9_words_6 tmX9_73 okX9_in rfl rfl rfl rfl (s_X9_in X _ _ _ _) ?_
  refine wp_if_eq 23 dX9_words_9 (by decide) (fun c9_1 => ?_) (fun c9_1 => ?_)
  · rw [if_pos c9_1] at hb
    refine wp_bipush dX9_words_23 bp_m2 ?_
    refine wp_ireturn dX9_words_25 rfl ?_
    exact ⟨by unfold f_X9_words; rw [if_pos c9_1], rfl⟩
  · rw [if_neg c9_1] at hb
    refine wp_iconst dX9_words_12 ic_1 ?_
    refine wp_bipush dX9_words_13 bp_8 ?_
    refine wp_iload_n dX9_words_15 1 rfl ?_
    refine wp_iconst dX9_words_16 ic_1 ?_
    refine wp_iadd dX9_words_17 ?_
    obtain ⟨x2, hb⟩ := hb
    refine wp_idiv dX9_words_18 x2 ?_
    refine wp_iadd dX9_words_19 ?_
    refine wp_goto 25 dX9_words_20 (by decide) ?_
    refine wp_ireturn dX9_words_25 rfl ?_
    exact ⟨by unfold f_X9_words; rw [if_neg c9_1], rfl⟩
end
