noncomputable section
def f_X9_type (σ : Mem) (a : Int32) (b : Int32) : Int32 × Mem := if (f_X9_isTwo σ a) = 0 then ((-2), σ) else if (f_X9_in σ b.toInt64 0 255) = 0 then ((-2), σ) else if a = 0 then if (σ 6 (a.toNatClampNeg)) = 12 then ((-4), σ) else (((σ 6 (a.toNatClampNeg)) + 1), (mst (mst σ 5 (((12 * a) + (σ 6 (a.toNatClampNeg))).toNatClampNeg) b) 6 (a.toNatClampNeg) ((σ 6 (a.toNatClampNeg)) + 1))) else if (σ 6 (a.toNatClampNeg)) = 32 then ((-4), σ) else (((σ 6 (a.toNatClampNeg)) + 1), (mst (mst σ 5 (((12 * a) + (σ 6 (a.toNatClampNeg))).toNatClampNeg) b) 6 (a.toNatClampNeg) ((σ 6 (a.toNatClampNeg)) + 1)))
def b_X9_type (σ : Mem) (a : Int32) (b : Int32) : Prop := if (f_X9_isTwo σ a) = 0 then True else if (f_X9_in σ b.toInt64 0 255) = 0 then True else (vp_in a 2) ∧ (if a = 0 then if (σ 6 (a.toNatClampNeg)) = 12 then True else (vp_in a 2) ∧ ((vp_in ((12 * a) + (σ 6 (a.toNatClampNeg))) 44) ∧ ((vp_in a 2) ∧ ((vp_in a 2) ∧ ((vp_in a 2) ∧ (True))))) else if (σ 6 (a.toNatClampNeg)) = 32 then True else (vp_in a 2) ∧ ((vp_in ((12 * a) + (σ 6 (a.toNatClampNeg))) 44) ∧ ((vp_in a 2) ∧ ((vp_in a 2) ∧ ((vp_in a 2) ∧ (True))))))
theorem s_X9_type (X : Amb) (σ : Mem) (a : Int32) (b : Int32) (hb : b_X9_type σ a b) : SpW X mX9_type [.ref (adr X 0), .int a, .int b] σ (.int (f_X9_type σ a b).1) (f_X9_type σ a b).2 := by
  unfold b_X9_type at hb
  refine sp_of (by decide +kernel) rfl ?_
  show WP X mX9_type 0 [(0, .ref (adr X 0)), (1, .int a), (2, .int b)] [] σ _
  refine wp_iload_n dX9_type_0 1 rfl ?_
  refine wp_cS1w (N := mX9_isTwo) dX9_type_1 tmX9_105 okX9_isTwo rfl rfl rfl rfl (s_X9_isTwo X _ _) ?_
  refine wp_if_eq 19 dX9_type_4 (by decide) (fun c4_1 => ?_) (fun c4_1 => ?_)
  · rw [if_pos c4_1] at hb
    refine wp_bipush dX9_type_19 bp_m2 ?_
    refine wp_ireturn dX9_type_21 rfl ?_
    exact ⟨by unfold f_X9_type; rw [if_pos c4_1], by unfold f_X9_type; rw [if_pos c4_1]⟩
  · rw [if_neg c4_1] at hb
    refine wp_iload_n dX9_type_7 2 rfl ?_
    refine wp_i2l dX9_type_8 ?_
    refine wp_lconst dX9_type_9 lc_0 ?_
    refine wp_ldc2 dX9_type_10 tlX9_108 ?_
    refine wp_cS3w (N := mX9_in) dX9_type_13 tmX9_73 okX9_in rfl rfl rfl rfl (s_X9_in X _ _ _ _) ?_
    refine wp_if_ne 22 dX9_type_16 (by decide) (fun c16_2 => ?_) (fun c16_2 => ?_)
    · rw [if_neg c16_2] at hb
      refine wp_aload_n dX9_type_22 0 rfl ?_
      refine wp_getR dX9_type_23 faX9_25 rfl rfl ?_
      refine wp_iload_n dX9_type_26 1 rfl ?_
      obtain ⟨x3, hb⟩ := hb
      refine wp_iald dX9_type_27 rfl x3 ?_
      refine wp_iload_n dX9_type_28 1 rfl ?_
      refine wp_if_ne 37 dX9_type_29 (by decide) (fun c29_4 => ?_) (fun c29_4 => ?_)
      · rw [if_neg c29_4] at hb
        refine wp_bipush dX9_type_37 bp_32 ?_
        refine wp_icmp_ne 45 dX9_type_39 (by decide) (fun c39_5 => ?_) (fun c39_5 => ?_)
        · rw [if_neg c39_5] at hb
          refine wp_aload_n dX9_type_45 0 rfl ?_
          refine wp_getR dX9_type_46 faX9_22 rfl rfl ?_
          refine wp_bipush dX9_type_49 bp_12 ?_
          refine wp_iload_n dX9_type_51 1 rfl ?_
          refine wp_imul dX9_type_52 ?_
          refine wp_aload_n dX9_type_53 0 rfl ?_
          refine wp_getR dX9_type_54 faX9_25 rfl rfl ?_
          refine wp_iload_n dX9_type_57 1 rfl ?_
          obtain ⟨x6, hb⟩ := hb
          refine wp_iald dX9_type_58 rfl x6 ?_
          refine wp_iadd dX9_type_59 ?_
          refine wp_iload_n dX9_type_60 2 rfl ?_
          obtain ⟨x7, hb⟩ := hb
          refine wp_iast dX9_type_61 rfl x7 ?_
          refine wp_aload_n dX9_type_62 0 rfl ?_
          refine wp_getR dX9_type_63 faX9_25 rfl rfl ?_
          refine wp_iload_n dX9_type_66 1 rfl ?_
          refine wp_dup2 dX9_type_67 rfl rfl ?_
          obtain ⟨x8, hb⟩ := hb
          refine wp_iald dX9_type_68 rfl x8 ?_
          refine wp_topi (y := (σ 6 (a.toNatClampNeg))) rfl ?_
          refine wp_iconst dX9_type_69 ic_1 ?_
          refine wp_iadd dX9_type_70 ?_
          obtain ⟨x9, hb⟩ := hb
          refine wp_iast dX9_type_71 rfl x9 ?_
          refine wp_aload_n dX9_type_72 0 rfl ?_
          refine wp_getR dX9_type_73 faX9_25 rfl rfl ?_
          refine wp_iload_n dX9_type_76 1 rfl ?_
          obtain ⟨x10, hb⟩ := hb
          refine wp_iald dX9_type_77 rfl x10 ?_
          refine wp_topi (y := ((σ 6 (a.toNatClampNeg)) + 1)) (by simp [mst, upd]) ?_
          refine wp_ireturn dX9_type_78 rfl ?_
          exact ⟨by unfold f_X9_type; rw [if_neg c4_1, if_neg c16_2, if_neg c29_4, if_neg c39_5], by unfold f_X9_type; rw [if_neg c4_1, if_neg c16_2, if_neg c29_4, if_neg c39_5]⟩
        · rw [if_pos c39_5] at hb
          refine wp_bipush dX9_type_42 bp_m4 ?_
          refine wp_ireturn dX9_type_44 rfl ?_
          exact ⟨by unfold f_X9_type; rw [if_neg c4_1, if_neg c16_2, if_neg c29_4, if_pos c39_5], by unfold f_X9_type; rw [if_neg c4_1, if_neg c16_2, if_neg c29_4, if_pos c39_5]⟩
      · rw [if_pos c29_4] at hb
        refine wp_bipush dX9_type_32 bp_12 ?_
        refine wp_goto 39 dX9_type_34 (by decide) ?_
        refine wp_icmp_ne 45 dX9_type_39 (by decide) (fun c39_11 => ?_) (fun c39_11 => ?_)
        · rw [if_neg c39_11] at hb
          refine wp_aload_n dX9_type_45 0 rfl ?_
          refine wp_getR dX9_type_46 faX9_22 rfl rfl ?_
          refine wp_bipush dX9_type_49 bp_12 ?_
          refine wp_iload_n dX9_type_51 1 rfl ?_
          refine wp_imul dX9_type_52 ?_
          refine wp_aload_n dX9_type_53 0 rfl ?_
          refine wp_getR dX9_type_54 faX9_25 rfl rfl ?_
          refine wp_iload_n dX9_type_57 1 rfl ?_
          obtain ⟨x12, hb⟩ := hb
          refine wp_iald dX9_type_58 rfl x12 ?_
          refine wp_iadd dX9_type_59 ?_
          refine wp_iload_n dX9_type_60 2 rfl ?_
          obtain ⟨x13, hb⟩ := hb
          refine wp_iast dX9_type_61 rfl x13 ?_
          refine wp_aload_n dX9_type_62 0 rfl ?_
          refine wp_getR dX9_type_63 faX9_25 rfl rfl ?_
          refine wp_iload_n dX9_type_66 1 rfl ?_
          refine wp_dup2 dX9_type_67 rfl rfl ?_
          obtain ⟨x14, hb⟩ := hb
          refine wp_iald dX9_type_68 rfl x14 ?_
          refine wp_topi (y := (σ 6 (a.toNatClampNeg))) rfl ?_
          refine wp_iconst dX9_type_69 ic_1 ?_
          refine wp_iadd dX9_type_70 ?_
          obtain ⟨x15, hb⟩ := hb
          refine wp_iast dX9_type_71 rfl x15 ?_
          refine wp_aload_n dX9_type_72 0 rfl ?_
          refine wp_getR dX9_type_73 faX9_25 rfl rfl ?_
          refine wp_iload_n dX9_type_76 1 rfl ?_
          obtain ⟨x16, hb⟩ := hb
          refine wp_iald dX9_type_77 rfl x16 ?_
          refine wp_topi (y := ((σ 6 (a.toNatClampNeg)) + 1)) (by simp [mst, upd]) ?_
          refine wp_ireturn dX9_type_78 rfl ?_
          exact ⟨by unfold f_X9_type; rw [if_neg c4_1, if_neg c16_2, if_pos c29_4, if_neg c39_11], by unfold f_X9_type; rw [if_neg c4_1, if_neg c16_2, if_pos c29_4, if_neg c39_11]⟩
        · rw [if_pos c39_11] at hb
          refine wp_bipush dX9_type_42 bp_m4 ?_
          refine wp_ireturn dX9_type_44 rfl ?_
          exact ⟨by unfold f_X9_type; rw [if_neg c4_1, if_neg c16_2, if_pos c29_4, if_pos c39_11], by unfold f_X9_type; rw [if_neg c4_1, if_neg c16_2, if_pos c29_4, if_pos c39_11]⟩
    · rw [if_pos c16_2] at hb
      refine wp_bipush dX9_type_19 bp_m2 ?_
      refine wp_ireturn dX9_type_21 rfl ?_
      exact ⟨by unfold f_X9_type; rw [if_neg c4_1, if_pos c16_2], by unfold f_X9_type; rw [if_neg c4_1, if_pos c16_2]⟩
def f_X9_wipe (σ : Mem) (a : Int32) : Int32 × Mem := if (f_X9_isTwo σ a) = 0 then ((-2), σ) else ((σ 6 (a.toNatClampNeg)), (mst σ 6 (a.toNatClampNeg) 0))
def b_X9_wipe (σ : Mem) (a : Int32) : Prop := if (f_X9_isTwo σ a) = 0 then True else (vp_in a 2) ∧ ((vp_in a 2) ∧ (True))
theorem s_X9_wipe (X : Amb) (σ : Mem) (a : Int32) (hb : b_X9_wipe σ a) : SpW X mX9_wipe [.ref (adr X 0), .int a] σ (.int (f_X9_wipe σ a).1) (f_X9_wipe σ a).2 := by
  unfold b_X9_wipe at hb
  refine sp_of (by decide +kernel) rfl ?_
  show WP X mX9_wipe 0 [(0, .ref (adr X 0)), (1, .int a)] [] σ _
  refine wp_iload_n dX9_wipe_0 1 rfl ?_
  refine wp_cS1w (N := mX9_isTwo) dX9_wipe_1 tmX9_105 okX9_isTwo rfl rfl rfl rfl (s_X9_isTwo X _ _) ?_
  refine wp_if_ne 10 dX9_wipe_4 (by decide) (fun c4_1 => ?_) (fun c4_1 => ?_)
  · rw [if_neg c4_1] at hb
    refine wp_aload_n dX9_wipe_10 0 rfl ?_
    refine wp_getR dX9_wipe_11 faX9_25 rfl rfl ?_
    refine wp_iload_n dX9_wipe_14 1 rfl ?_
    obtain ⟨x2, hb⟩ := hb
    refine wp_iald dX9_wipe_15 rfl x2 ?_
    refine wp_istore_n (L' := [(2, _), (0, _), (1, _)]) dX9_wipe_16 rfl rfl ?_
    refine wp_aload_n dX9_wipe_17 1 rfl ?_
    refine wp_getR dX9_wipe_18 faX9_25 rfl rfl ?_
    refine wp_iload_n dX9_wipe_21 2 rfl ?_
    refine wp_iconst dX9_wipe_22 ic_0 ?_
    obtain ⟨x3, hb⟩ := hb
    refine wp_iast dX9_wipe_23 rfl x3 ?_
    refine wp_iload_n dX9_wipe_24 0 rfl ?_
    refine wp_ireturn dX9_wipe_25 rfl ?_
    exact ⟨by unfold f_X9_wipe; rw [if_neg c4_1], by unfold f_X9_wipe; rw [if_neg c4_1]⟩
  · rw [if_pos c4_1] at hb
    refine wp_bipush dX9_wipe_7 bp_m2 ?_
    refine wp_ireturn dX9_wipe_9 rfl ?_
    exact ⟨by unfold f_X9_wipe; rw [if_pos c4_1], by unfold f_X9_wipe; rw [if_pos c4_1]⟩
def f_X9_undo (σ : Mem) (a : Int32) : Int32 × Mem := if (f_X9_isTwo σ a) = 0 then ((-2), σ) else if (σ 6 (a.toNatClampNeg)) = 0 then ((-3), σ) else (((σ 6 (a.toNatClampNeg)) - 1), (mst σ 6 (a.toNatClampNeg) ((σ 6 (a.toNatClampNeg)) - 1)))
def b_X9_undo (σ : Mem) (a : Int32) : Prop := if (f_X9_isTwo σ a) = 0 then True else (vp_in a 2) ∧ (if (σ 6 (a.toNatClampNeg)) = 0 then True else (vp_in a 2) ∧ ((vp_in a 2) ∧ ((vp_in a 2) ∧ (True))))
theorem s_X9_undo (X : Amb) (σ : Mem) (a : Int32) (hb : b_X9_undo σ a) : SpW X mX9_undo [.ref (adr X 0), .int a] σ (.int (f_X9_undo σ a).1) (f_X9_undo σ a).2 := by
  unfold b_X9_undo at hb
  refine sp_of (by decide +kernel) rfl ?_
  show WP X mX9_undo 0 [(0, .ref (adr X 0)), (1, .int a)] [] σ _
  refine wp_iload_n dX9_undo_0 1 rfl ?_
  refine wp_cS1w (N := mX9_isTwo) dX9_undo_1 tmX9_105 okX9_isTwo rfl rfl rfl rfl (s_X9_isTwo X _ _) ?_
  refine wp_if_ne 10 dX9_undo_4 (by decide) (fun c4_1 => ?_) (fun c4_1 => ?_)
  · rw [if_neg c4_1] at hb
    refine wp_aload_n dX9_undo_10 0 rfl ?_
    refine wp_getR dX9_undo_11 faX9_25 rfl rfl ?_
    refine wp_iload_n dX9_undo_14 1 rfl ?_
    obtain ⟨x2, hb⟩ := hb
    refine wp_iald dX9_undo_15 rfl x2 ?_
    refine wp_if_ne 22 dX9_undo_16 (by decide) (fun c16_3 => ?_) (fun c16_3 => ?_)
    · rw [if_neg c16_3] at hb
      refine wp_aload_n dX9_undo_22 0 rfl ?_
      refine wp_getR dX9_undo_23 faX9_25 rfl rfl ?_
      refine wp_iload_n dX9_undo_26 1 rfl ?_
      refine wp_dup2 dX9_undo_27 rfl rfl ?_
      obtain ⟨x4, hb⟩ := hb
      refine wp_iald dX9_undo_28 rfl x4 ?_
      refine wp_iconst dX9_undo_29 ic_1 ?_
      refine wp_isub dX9_undo_30 ?_
      obtain ⟨x5, hb⟩ := hb
      refine wp_iast dX9_undo_31 rfl x5 ?_
      refine wp_aload_n dX9_undo_32 0 rfl ?_
      refine wp_getR dX9_undo_33 faX9_25 rfl rfl ?_
      refine wp_iload_n dX9_undo_36 1 rfl ?_
      obtain ⟨x6, hb⟩ := hb
      refine wp_iald dX9_undo_37 rfl x6 ?_
      refine wp_topi (y := ((σ 6 (a.toNatClampNeg)) - 1)) (by simp [mst, upd]) ?_
      refine wp_ireturn dX9_undo_38 rfl ?_
      exact ⟨by unfold f_X9_undo; rw [if_neg c4_1, if_neg c16_3], by unfold f_X9_undo; rw [if_neg c4_1, if_neg c16_3]⟩
    · rw [if_pos c16_3] at hb
      refine wp_bipush dX9_undo_19 bp_m3 ?_
      refine wp_ireturn dX9_undo_21 rfl ?_
      exact ⟨by unfold f_X9_undo; rw [if_neg c4_1, if_pos c16_3], by unfold f_X9_undo; rw [if_neg c4_1, if_pos c16_3]⟩
  · rw [if_pos c4_1] at hb
    refine wp_bipush dX9_undo_7 bp_m2 ?_
    refine wp_ireturn dX9_undo_9 rfl ?_
    exact ⟨by unfold f_X9_undo; rw [if_pos c4_1], by unfold f_X9_undo; rw [if_pos c4_1]⟩
def l_X9_readsTrain_12 : Nat → Int32 → Mem → Int32 × Mem
  | 0, _, σ => (0, σ)
  | n + 1, a, σ => if (σ 6 ((0 : Int32).toNatClampNeg)) ≤ a then ((-1), σ) else if (f_X9_in σ (((σ 5 (a.toNatClampNeg)) - 48).toInt64) 1 9) = 0 then (a, (mst (mst σ 0 7 0) 0 9 0)) else (l_X9_readsTrain_12 n (a + 1) (mst (mst (mst σ 7 (a.toNatClampNeg) ((σ 5 (a.toNatClampNeg)) - 48)) 0 9 ((σ 0 9) + ((σ 5 (a.toNatClampNeg)) - 48))) 0 7 ((σ 0 7) + 1)))
def bl_X9_readsTrain_12 : Nat → Int32 → Mem → Prop
  | 0, _, _ => False
  | n + 1, a, σ => if (σ 6 ((0 : Int32).toNatClampNeg)) ≤ a then True else (vp_in a 44) ∧ (if (f_X9_in σ (((σ 5 (a.toNatClampNeg)) - 48).toInt64) 1 9) = 0 then True else (vp_in a 12) ∧ ((bl_X9_readsTrain_12 n (a + 1) (mst (mst (mst σ 7 (a.toNatClampNeg) ((σ 5 (a.toNatClampNeg)) - 48)) 0 9 ((σ 0 9) + ((σ 5 (a.toNatClampNeg)) - 48))) 0 7 ((σ 0 7) + 1)))))
theorem lt_X9_readsTrain_12 (X : Amb) : ∀ (n : Nat) (a : Int32) (σ : Mem), bl_X9_readsTrain_12 n a σ → WP X mX9_readsTrain 12 [(0, .ref (adr X 0)), (1, .int a)] [] σ (fun v σ' => v = some (.int (l_X9_readsTrain_12 n a σ).1) ∧ σ' = (l_X9_readsTrain_12 n a σ).2) := by
  intro n
  induction n with
  | zero => intro a σ hb; exact hb.elim
  | succ n ih =>
    intro a σ hb
    rw [bl_X9_readsTrain_12] at hb
    refine wp_iload_n dX9_readsTrain_12 1 rfl ?_
    refine wp_aload_n dX9_readsTrain_13 0 rfl ?_
    refine wp_getR dX9_readsTrain_14 faX9_25 rfl rfl ?_
    refine wp_iconst dX9_readsTrain_17 ic_0 ?_
    refine wp_iald dX9_readsTrain_18 rfl (vlit 0 2 (by decide)) ?_
    refine wp_icmp_ge 89 dX9_readsTrain_19 (by decide) (fun c19_1 => ?_) (fun c19_1 => ?_)
    · rw [if_pos c19_1] at hb
      refine wp_iconst dX9_readsTrain_89 ic_m1 ?_
      refine wp_ireturn dX9_readsTrain_90 rfl ?_
      exact ⟨by rw [l_X9_readsTrain_12, if_pos c19_1], by rw [l_X9_readsTrain_12, if_pos c19_1]⟩
    · rw [if_neg c19_1] at hb
      refine wp_aload_n dX9_readsTrain_22 0 rfl ?_
      refine wp_getR dX9_readsTrain_23 faX9_22 rfl rfl ?_
      refine wp_iload_n dX9_readsTrain_26 1 rfl ?_
      obtain ⟨x2, hb⟩ := hb
      refine wp_iald dX9_readsTrain_27 rfl x2 ?_
      refine wp_bipush dX9_readsTrain_28 bp_48 ?_
      refine wp_isub dX9_readsTrain_30 ?_
      refine wp_istore_n (L' := [(2, _), (0, _), (1, _)]) dX9_readsTrain_31 rfl rfl ?_
      refine wp_iload_n dX9_readsTrain_32 0 rfl ?_
      refine wp_i2l dX9_readsTrain_33 ?_
      refine wp_lconst dX9_readsTrain_34 lc_1 ?_
      refine wp_ldc2 dX9_readsTrain_35 tlX9_116 ?_
      refine wp_cS3w (N := mX9_in) dX9_readsTrain_38 tmX9_73 okX9_in rfl rfl rfl rfl (s_X9_in X _ _ _ _) ?_
      refine wp_if_ne 56 dX9_readsTrain_41 (by decide) (fun c41_3 => ?_) (fun c41_3 => ?_)
      · rw [if_neg c41_3] at hb
        refine wp_aload_n dX9_readsTrain_56 1 rfl ?_
        refine wp_getR dX9_readsTrain_57 faX9_28 rfl rfl ?_
        refine wp_iload_n dX9_readsTrain_60 2 rfl ?_
        refine wp_iload_n dX9_readsTrain_61 0 rfl ?_
        obtain ⟨x4, hb⟩ := hb
        refine wp_iast dX9_readsTrain_62 rfl x4 ?_
        refine wp_aload_n dX9_readsTrain_63 1 rfl ?_
        refine wp_dup dX9_readsTrain_64 rfl ?_
        refine wp_getI dX9_readsTrain_65 faX9_113 rfl rfl ?_
        refine wp_topi (y := (σ 0 9)) rfl ?_
        refine wp_iload_n dX9_readsTrain_68 0 rfl ?_
        refine wp_iadd dX9_readsTrain_69 ?_
        refine wp_putI dX9_readsTrain_70 fwX9_113 rfl rfl ?_
        refine wp_aload_n dX9_readsTrain_73 1 rfl ?_
        refine wp_dup dX9_readsTrain_74 rfl ?_
        refine wp_getI dX9_readsTrain_75 faX9_110 rfl rfl ?_
        refine wp_topi (y := (σ 0 7)) rfl ?_
        refine wp_iconst dX9_readsTrain_78 ic_1 ?_
        refine wp_iadd dX9_readsTrain_79 ?_
        refine wp_putI dX9_readsTrain_80 fwX9_110 rfl rfl ?_
        refine wp_iinc (L' := [(1, _), (2, _), (0, _)]) dX9_readsTrain_83 rfl 2 rfl (ii_1 _) rfl ?_
        refine wp_goto 12 dX9_readsTrain_86 (by decide) ?_
        refine wp_drop [2, 0] rfl ?_
        rw [show l_X9_readsTrain_12 (n + 1) a σ = (l_X9_readsTrain_12 n (a + 1) (mst (mst (mst σ 7 (a.toNatClampNeg) ((σ 5 (a.toNatClampNeg)) - 48)) 0 9 ((σ 0 9) + ((σ 5 (a.toNatClampNeg)) - 48))) 0 7 ((σ 0 7) + 1))) from by rw [l_X9_readsTrain_12, if_neg c19_1, if_neg c41_3]]
        exact ih _ _ hb
      · rw [if_pos c41_3] at hb
        refine wp_aload_n dX9_readsTrain_44 1 rfl ?_
        refine wp_iconst dX9_readsTrain_45 ic_0 ?_
        refine wp_putI dX9_readsTrain_46 fwX9_110 rfl rfl ?_
        refine wp_aload_n dX9_readsTrain_49 1 rfl ?_
        refine wp_iconst dX9_readsTrain_50 ic_0 ?_
        refine wp_putI dX9_readsTrain_51 fwX9_113 rfl rfl ?_
        refine wp_iload_n dX9_readsTrain_54 2 rfl ?_
        refine wp_ireturn dX9_readsTrain_55 rfl ?_
        exact ⟨by rw [l_X9_readsTrain_12, if_neg c19_1, if_pos c41_3], by rw [l_X9_readsTrain_12, if_neg c19_1, if_pos c41_3]⟩
def f_X9_readsTrain (σ : Mem) : Int32 × Mem := (l_X9_readsTrain_12 (fu 13) 0 (mst (mst σ 0 7 0) 0 9 0))
def b_X9_readsTrain (σ : Mem) : Prop := (bl_X9_readsTrain_12 (fu 13) 0 (mst (mst σ 0 7 0) 0 9 0))
theorem s_X9_readsTrain (X : Amb) (σ : Mem) (hb : b_X9_readsTrain σ) : SpW X mX9_readsTrain [.ref (adr X 0)] σ (.int (f_X9_readsTrain σ).1) (f_X9_readsTrain σ).2 := by
  unfold b_X9_readsTrain at hb
  refine sp_of (by decide +kernel) rfl ?_
  show WP X mX9_readsTrain 0 [(0, .ref (adr X 0))] [] σ _
  refine wp_aload_n dX9_readsTrain_0 0 rfl ?_
  refine wp_iconst dX9_readsTrain_1 ic_0 ?_
  refine wp_putI dX9_readsTrain_2 fwX9_110 rfl rfl ?_
  refine wp_aload_n dX9_readsTrain_5 0 rfl ?_
  refine wp_iconst dX9_readsTrain_6 ic_0 ?_
  refine wp_putI dX9_readsTrain_7 fwX9_113 rfl rfl ?_
  refine wp_iconst dX9_readsTrain_10 ic_0 ?_
  refine wp_istore_n (L' := [(1, _), (0, _)]) dX9_readsTrain_11 rfl rfl ?_
  refine wp_drop [1, 0] rfl ?_
  rw [show f_X9_readsTrain σ = (l_X9_readsTrain_12 (fu 13) 0 (mst (mst σ 0 7 0) 0 9 0)) from rfl]
  exact lt_X9_readsTrain_12 X (fu 13) 0 (mst (mst σ 0 7 0) 0 9 0) hb
def l_X9_readsHill_7 : Nat → Int32 → Mem → Int32 × Mem
  | 0, _, σ => (0, σ)
  | n + 1, a, σ => if (σ 6 ((1 : Int32).toNatClampNeg)) ≤ a then ((-1), σ) else if (σ 5 ((12 + a).toNatClampNeg)) = 98 then if (σ 0 10) ≤ 0 then if (σ 0 10) = 16 then (a, (mst σ 0 10 0)) else if (f_X9_in σ (((σ 5 ((12 + a).toNatClampNeg)) - 48).toInt64) 0 9) = 0 then (a, (mst σ 0 10 0)) else (l_X9_readsHill_7 n (a + 1) (mst (mst (mst σ 8 ((σ 0 10).toNatClampNeg) ((σ 5 ((12 + a).toNatClampNeg)) - 48)) 9 ((σ 0 10).toNatClampNeg) 0) 0 10 ((σ 0 10) + 1))) else if (σ 9 (((σ 0 10) - 1).toNatClampNeg)) = 0 then (l_X9_readsHill_7 n (a + 1) (mst σ 9 (((σ 0 10) - 1).toNatClampNeg) 1)) else if (σ 0 10) = 16 then (a, (mst σ 0 10 0)) else if (f_X9_in σ (((σ 5 ((12 + a).toNatClampNeg)) - 48).toInt64) 0 9) = 0 then (a, (mst σ 0 10 0)) else (l_X9_readsHill_7 n (a + 1) (mst (mst (mst σ 8 ((σ 0 10).toNatClampNeg) ((σ 5 ((12 + a).toNatClampNeg)) - 48)) 9 ((σ 0 10).toNatClampNeg) 0) 0 10 ((σ 0 10) + 1))) else if (σ 0 10) = 16 then (a, (mst σ 0 10 0)) else if (f_X9_in σ (((σ 5 ((12 + a).toNatClampNeg)) - 48).toInt64) 0 9) = 0 then (a, (mst σ 0 10 0)) else (l_X9_readsHill_7 n (a + 1) (mst (mst (mst σ 8 ((σ 0 10).toNatClampNeg) ((σ 5 ((12 + a).toNatClampNeg)) - 48)) 9 ((σ 0 10).toNatClampNeg) 0) 0 10 ((σ 0 10) + 1)))
def bl_X9_readsHill_7 : Nat → Int32 → Mem → Prop
  | 0, _, _ => False
  | n + 1, a, σ => if (σ 6 ((1 : Int32).toNatClampNeg)) ≤ a then True else (vp_in (12 + a) 44) ∧ ((vp_in (12 + a) 44) ∧ (if (σ 5 ((12 + a).toNatClampNeg)) = 98 then if (σ 0 10) ≤ 0 then if (σ 0 10) = 16 then True else if (f_X9_in σ (((σ 5 ((12 + a).toNatClampNeg)) - 48).toInt64) 0 9) = 0 then True else (vp_in (σ 0 10) 16) ∧ ((vp_in (σ 0 10) 16) ∧ ((bl_X9_readsHill_7 n (a + 1) (mst (mst (mst σ 8 ((σ 0 10).toNatClampNeg) ((σ 5 ((12 + a).toNatClampNeg)) - 48)) 9 ((σ 0 10).toNatClampNeg) 0) 0 10 ((σ 0 10) + 1))))) else (vp_in ((σ 0 10) - 1) 16) ∧ (if (σ 9 (((σ 0 10) - 1).toNatClampNeg)) = 0 then (vp_in ((σ 0 10) - 1) 16) ∧ ((bl_X9_readsHill_7 n (a + 1) (mst σ 9 (((σ 0 10) - 1).toNatClampNeg) 1))) else if (σ 0 10) = 16 then True else if (f_X9_in σ (((σ 5 ((12 + a).toNatClampNeg)) - 48).toInt64) 0 9) = 0 then True else (vp_in (σ 0 10) 16) ∧ ((vp_in (σ 0 10) 16) ∧ ((bl_X9_readsHill_7 n (a + 1) (mst (mst (mst σ 8 ((σ 0 10).toNatClampNeg) ((σ 5 ((12 + a).toNatClampNeg)) - 48)) 9 ((σ 0 10).toNatClampNeg) 0) 0 10 ((σ 0 10) + 1)))))) else if (σ 0 10) = 16 then True else if (f_X9_in σ (((σ 5 ((12 + a).toNatClampNeg)) - 48).toInt64) 0 9) = 0 then True else (vp_in (σ 0 10) 16) ∧ ((vp_in (σ 0 10) 16) ∧ ((bl_X9_readsHill_7 n (a + 1) (mst (mst (mst σ 8 ((σ 0 10).toNatClampNeg) ((σ 5 ((12 + a).toNatClampNeg)) - 48)) 9 ((σ 0 10).toNatClampNeg) 0) 0 10 ((σ 0 10) + 1)))))))
theorem lt_X9_readsHill_7 (X : Amb) : ∀ (n : Nat) (a : Int32) (σ : Mem), bl_X9_readsHill_7 n a σ → WP X mX9_readsHill 7 [(0, .ref (adr X 0)), (1, .int a)] [] σ (fun v σ' => v = some (.int (l_X9_readsHill_7 n a σ).1) ∧ σ' = (l_X9_readsHill_7 n a σ).2) := by
  intro n
  induction n with
  | zero => intro a σ hb; exact hb.elim
  | succ n ih =>
    intro a σ hb
    rw [bl_X9_readsHill_7] at hb
    refine wp_iload_n dX9_readsHill_7 1 rfl ?_
    refine wp_aload_n dX9_readsHill_8 0 rfl ?_
    refine wp_getR dX9_readsHill_9 faX9_25 rfl rfl ?_
    refine wp_iconst dX9_readsHill_12 ic_1 ?_
    refine wp_iald dX9_readsHill_13 rfl (vlit 1 2 (by decide)) ?_
    refine wp_icmp_ge 158 dX9_readsHill_14 (by decide) (fun c14_1 => ?_) (fun c14_1 => ?_)
    · rw [if_pos c14_1] at hb
      refine wp_iconst dX9_readsHill_158 ic_m1 ?_
      refine wp_ireturn dX9_readsHill_159 rfl ?_
      exact ⟨by rw [l_X9_readsHill_7, if_pos c14_1], by rw [l_X9_readsHill_7, if_pos c14_1]⟩
    · rw [if_neg c14_1] at hb
      refine wp_aload_n dX9_readsHill_17 0 rfl ?_
      refine wp_getR dX9_readsHill_18 faX9_22 rfl rfl ?_
      refine wp_bipush dX9_readsHill_21 bp_12 ?_
      refine wp_iload_n dX9_readsHill_23 1 rfl ?_
      refine wp_iadd dX9_readsHill_24 ?_
      obtain ⟨x2, hb⟩ := hb
      refine wp_iald dX9_readsHill_25 rfl x2 ?_
      refine wp_bipush dX9_readsHill_26 bp_48 ?_
      refine wp_isub dX9_readsHill_28 ?_
      refine wp_istore_n (L' := [(2, _), (0, _), (1, _)]) dX9_readsHill_29 rfl rfl ?_
      refine wp_aload_n dX9_readsHill_30 1 rfl ?_
      refine wp_getR dX9_readsHill_31 faX9_22 rfl rfl ?_
      refine wp_bipush dX9_readsHill_34 bp_12 ?_
      refine wp_iload_n dX9_readsHill_36 2 rfl ?_
      refine wp_iadd dX9_readsHill_37 ?_
      obtain ⟨x3, hb⟩ := hb
      refine wp_iald dX9_readsHill_38 rfl x3 ?_
      refine wp_bipush dX9_readsHill_39 bp_98 ?_
      refine wp_icmp_ne 69 dX9_readsHill_41 (by decide) (fun c41_4 => ?_) (fun c41_4 => ?_)
      · rw [if_neg c41_4] at hb
        refine wp_iconst dX9_readsHill_69 ic_0 ?_
        refine wp_istore_n (L' := [(3, _), (2, _), (0, _), (1, _)]) dX9_readsHill_70 rfl rfl ?_
        refine wp_iload_n dX9_readsHill_71 0 rfl ?_
        refine wp_if_ne 103 dX9_readsHill_72 (by decide) (fun z9 => absurd (by decide) z9) (fun _ => ?_)
        refine wp_aload_n dX9_readsHill_75 2 rfl ?_
        refine wp_getI dX9_readsHill_76 faX9_118 rfl rfl ?_
        refine wp_bipush dX9_readsHill_79 bp_16 ?_
        refine wp_icmp_eq 96 dX9_readsHill_81 (by decide) (fun c81_6 => ?_) (fun c81_6 => ?_)
        · rw [if_pos c81_6] at hb
          refine wp_aload_n dX9_readsHill_96 2 rfl ?_
          refine wp_iconst dX9_readsHill_97 ic_0 ?_
          refine wp_putI dX9_readsHill_98 fwX9_118 rfl rfl ?_
          refine wp_iload_n dX9_readsHill_101 3 rfl ?_
          refine wp_ireturn dX9_readsHill_102 rfl ?_
          exact ⟨by rw [l_X9_readsHill_7, if_neg c14_1, if_neg c41_4, if_pos c81_6], by rw [l_X9_readsHill_7, if_neg c14_1, if_neg c41_4, if_pos c81_6]⟩
        · rw [if_neg c81_6] at hb
          refine wp_iload_n dX9_readsHill_84 1 rfl ?_
          refine wp_i2l dX9_readsHill_85 ?_
          refine wp_lconst dX9_readsHill_86 lc_0 ?_
          refine wp_ldc2 dX9_readsHill_87 tlX9_116 ?_
          refine wp_cS3w (N := mX9_in) dX9_readsHill_90 tmX9_73 okX9_in rfl rfl rfl rfl (s_X9_in X _ _ _ _) ?_
          refine wp_if_ne 103 dX9_readsHill_93 (by decide) (fun c93_7 => ?_) (fun c93_7 => ?_)
          · rw [if_neg c93_7] at hb
            refine wp_iload_n dX9_readsHill_103 0 rfl ?_
            refine wp_if_eq 122 dX9_readsHill_104 (by decide) (fun _ => ?_) (fun z9 => absurd (by decide) z9)
            refine wp_aload_n dX9_readsHill_122 2 rfl ?_
            refine wp_getR dX9_readsHill_123 faX9_31 rfl rfl ?_
            refine wp_aload_n dX9_readsHill_126 2 rfl ?_
            refine wp_getI dX9_readsHill_127 faX9_118 rfl rfl ?_
            refine wp_iload_n dX9_readsHill_130 1 rfl ?_
            obtain ⟨x9, hb⟩ := hb
            refine wp_iast dX9_readsHill_131 rfl x9 ?_
            refine wp_aload_n dX9_readsHill_132 2 rfl ?_
            refine wp_getR dX9_readsHill_133 faX9_34 rfl rfl ?_
            refine wp_aload_n dX9_readsHill_136 2 rfl ?_
            refine wp_getI dX9_readsHill_137 faX9_118 rfl rfl ?_
            refine wp_topi (y := (σ 0 10)) rfl ?_
            refine wp_iconst dX9_readsHill_140 ic_0 ?_
            obtain ⟨x10, hb⟩ := hb
            refine wp_zast dX9_readsHill_141 rfl x10 (Or.inl rfl) ?_
            refine wp_aload_n dX9_readsHill_142 2 rfl ?_
            refine wp_dup dX9_readsHill_143 rfl ?_
            refine wp_getI dX9_readsHill_144 faX9_118 rfl rfl ?_
            refine wp_topi (y := (σ 0 10)) rfl ?_
            refine wp_iconst dX9_readsHill_147 ic_1 ?_
            refine wp_iadd dX9_readsHill_148 ?_
            refine wp_putI dX9_readsHill_149 fwX9_118 rfl rfl ?_
            refine wp_iinc (L' := [(1, _), (3, _), (2, _), (0, _)]) dX9_readsHill_152 rfl 3 rfl (ii_1 _) rfl ?_
            refine wp_goto 7 dX9_readsHill_155 (by decide) ?_
            refine wp_drop [3, 0] rfl ?_
            rw [show l_X9_readsHill_7 (n + 1) a σ = (l_X9_readsHill_7 n (a + 1) (mst (mst (mst σ 8 ((σ 0 10).toNatClampNeg) ((σ 5 ((12 + a).toNatClampNeg)) - 48)) 9 ((σ 0 10).toNatClampNeg) 0) 0 10 ((σ 0 10) + 1))) from by rw [l_X9_readsHill_7, if_neg c14_1, if_neg c41_4, if_neg c81_6, if_neg c93_7]]
            exact ih _ _ hb
          · rw [if_pos c93_7] at hb
            refine wp_aload_n dX9_readsHill_96 2 rfl ?_
            refine wp_iconst dX9_readsHill_97 ic_0 ?_
            refine wp_putI dX9_readsHill_98 fwX9_118 rfl rfl ?_
            refine wp_iload_n dX9_readsHill_101 3 rfl ?_
            refine wp_ireturn dX9_readsHill_102 rfl ?_
            exact ⟨by rw [l_X9_readsHill_7, if_neg c14_1, if_neg c41_4, if_neg c81_6, if_pos c93_7], by rw [l_X9_readsHill_7, if_neg c14_1, if_neg c41_4, if_neg c81_6, if_pos c93_7]⟩
      · rw [if_pos c41_4] at hb
        refine wp_aload_n dX9_readsHill_44 1 rfl ?_
        refine wp_getI dX9_readsHill_45 faX9_118 rfl rfl ?_
        refine wp_if_le 69 dX9_readsHill_48 (by decide) (fun c48_11 => ?_) (fun c48_11 => ?_)
        · rw [if_pos c48_11] at hb
          refine wp_iconst dX9_readsHill_69 ic_0 ?_
          refine wp_istore_n (L' := [(3, _), (2, _), (0, _), (1, _)]) dX9_readsHill_70 rfl rfl ?_
          refine wp_iload_n dX9_readsHill_71 0 rfl ?_
          refine wp_if_ne 103 dX9_readsHill_72 (by decide) (fun z9 => absurd (by decide) z9) (fun _ => ?_)
          refine wp_aload_n dX9_readsHill_75 2 rfl ?_
          refine wp_getI dX9_readsHill_76 faX9_118 rfl rfl ?_
          refine wp_bipush dX9_readsHill_79 bp_16 ?_
          refine wp_icmp_eq 96 dX9_readsHill_81 (by decide) (fun c81_13 => ?_) (fun c81_13 => ?_)
          · rw [if_pos c81_13] at hb
            refine wp_aload_n dX9_readsHill_96 2 rfl ?_
            refine wp_iconst dX9_readsHill_97 ic_0 ?_
            refine wp_putI dX9_readsHill_98 fwX9_118 rfl rfl ?_
            refine wp_iload_n dX9_readsHill_101 3 rfl ?_
            refine wp_ireturn dX9_readsHill_102 rfl ?_
            exact ⟨by rw [l_X9_readsHill_7, if_neg c14_1, if_pos c41_4, if_pos c48_11, if_pos c81_13], by rw [l_X9_readsHill_7, if_neg c14_1, if_pos c41_4, if_pos c48_11, if_pos c81_13]⟩
          · rw [if_neg c81_13] at hb
            refine wp_iload_n dX9_readsHill_84 1 rfl ?_
            refine wp_i2l dX9_readsHill_85 ?_
            refine wp_lconst dX9_readsHill_86 lc_0 ?_
            refine wp_ldc2 dX9_readsHill_87 tlX9_116 ?_
            refine wp_cS3w (N := mX9_in) dX9_readsHill_90 tmX9_73 okX9_in rfl rfl rfl rfl (s_X9_in X _ _ _ _) ?_
            refine wp_if_ne 103 dX9_readsHill_93 (by decide) (fun c93_14 => ?_) (fun c93_14 => ?_)
            · rw [if_neg c93_14] at hb
              refine wp_iload_n dX9_readsHill_103 0 rfl ?_
              refine wp_if_eq 122 dX9_readsHill_104 (by decide) (fun _ => ?_) (fun z9 => absurd (by decide) z9)
              refine wp_aload_n dX9_readsHill_122 2 rfl ?_
              refine wp_getR dX9_readsHill_123 faX9_31 rfl rfl ?_
              refine wp_aload_n dX9_readsHill_126 2 rfl ?_
              refine wp_getI dX9_readsHill_127 faX9_118 rfl rfl ?_
              refine wp_iload_n dX9_readsHill_130 1 rfl ?_
              obtain ⟨x16, hb⟩ := hb
              refine wp_iast dX9_readsHill_131 rfl x16 ?_
              refine wp_aload_n dX9_readsHill_132 2 rfl ?_
              refine wp_getR dX9_readsHill_133 faX9_34 rfl rfl ?_
              refine wp_aload_n dX9_readsHill_136 2 rfl ?_
              refine wp_getI dX9_readsHill_137 faX9_118 rfl rfl ?_
              refine wp_topi (y := (σ 0 10)) rfl ?_
              refine wp_iconst dX9_readsHill_140 ic_0 ?_
              obtain ⟨x17, hb⟩ := hb
              refine wp_zast dX9_readsHill_141 rfl x17 (Or.inl rfl) ?_
              refine wp_aload_n dX9_readsHill_142 2 rfl ?_
              refine wp_dup dX9_readsHill_143 rfl ?_
              refine wp_getI dX9_readsHill_144 faX9_118 rfl rfl ?_
              refine wp_topi (y := (σ 0 10)) rfl ?_
              refine wp_iconst dX9_readsHill_147 ic_1 ?_
              refine wp_iadd dX9_readsHill_148 ?_
              refine wp_putI dX9_readsHill_149 fwX9_118 rfl rfl ?_
              refine wp_iinc (L' := [(1, _), (3, _), (2, _), (0, _)]) dX9_readsHill_152 rfl 3 rfl (ii_1 _) rfl ?_
              refine wp_goto 7 dX9_readsHill_155 (by decide) ?_
              refine wp_drop [3, 0] rfl ?_
              rw [show l_X9_readsHill_7 (n + 1) a σ = (l_X9_readsHill_7 n (a + 1) (mst (mst (mst σ 8 ((σ 0 10).toNatClampNeg) ((σ 5 ((12 + a).toNatClampNeg)) - 48)) 9 ((σ 0 10).toNatClampNeg) 0) 0 10 ((σ 0 10) + 1))) from by rw [l_X9_readsHill_7, if_neg c14_1, if_pos c41_4, if_pos c48_11, if_neg c81_13, if_neg c93_14]]
              exact ih _ _ hb
            · rw [if_pos c93_14] at hb
              refine wp_aload_n dX9_readsHill_96 2 rfl ?_
              refine wp_iconst dX9_readsHill_97 ic_0 ?_
              refine wp_putI dX9_readsHill_98 fwX9_118 rfl rfl ?_
              refine wp_iload_n dX9_readsHill_101 3 rfl ?_
              refine wp_ireturn dX9_readsHill_102 rfl ?_
              exact ⟨by rw [l_X9_readsHill_7, if_neg c14_1, if_pos c41_4, if_pos c48_11, if_neg c81_13, if_pos c93_14], by rw [l_X9_readsHill_7, if_neg c14_1, if_pos c41_4, if_pos c48_11, if_neg c81_13, if_pos c93_14]⟩
        · rw [if_neg c48_11] at hb
          refine wp_aload_n dX9_readsHill_51 1 rfl ?_
          refine wp_getR dX9_readsHill_52 faX9_34 rfl rfl ?_
          refine wp_aload_n dX9_readsHill_55 1 rfl ?_
          refine wp_getI dX9_readsHill_56 faX9_118 rfl rfl ?_
          refine wp_iconst dX9_readsHill_59 ic_1 ?_
          refine wp_isub dX9_readsHill_60 ?_
          obtain ⟨x18, hb⟩ := hb
          refine wp_zald dX9_readsHill_61 rfl x18 ?_
          refine wp_if_ne 69 dX9_readsHill_62 (by decide) (fun c62_19 => ?_) (fun c62_19 => ?_)
          · rw [if_neg c62_19] at hb
            refine wp_iconst dX9_readsHill_69 ic_0 ?_
            refine wp_istore_n (L' := [(3, _), (2, _), (0, _), (1, _)]) dX9_readsHill_70 rfl rfl ?_
            refine wp_iload_n dX9_readsHill_71 0 rfl ?_
            refine wp_if_ne 103 dX9_readsHill_72 (by decide) (fun z9 => absurd (by decide) z9) (fun _ => ?_)
            refine wp_aload_n dX9_readsHill_75 2 rfl ?_
            refine wp_getI dX9_readsHill_76 faX9_118 rfl rfl ?_
            refine wp_bipush dX9_readsHill_79 bp_16 ?_
            refine wp_icmp_eq 96 dX9_readsHill_81 (by decide) (fun c81_21 => ?_) (fun c81_21 => ?_)
            · rw [if_pos c81_21] at hb
              refine wp_aload_n dX9_readsHill_96 2 rfl ?_
              refine wp_iconst dX9_readsHill_97 ic_0 ?_
              refine wp_putI dX9_readsHill_98 fwX9_118 rfl rfl ?_
              refine wp_iload_n dX9_readsHill_101 3 rfl ?_
              refine wp_ireturn dX9_readsHill_102 rfl ?_
              exact ⟨by rw [l_X9_readsHill_7, if_neg c14_1, if_pos c41_4, if_neg c48_11, if_neg c62_19, if_pos c81_21], by rw [l_X9_readsHill_7, if_neg c14_1, if_pos c41_4, if_neg c48_11, if_neg c62_19, if_pos c81_21]⟩
            · rw [if_neg c81_21] at hb
              refine wp_iload_n dX9_readsHill_84 1 rfl ?_
              refine wp_i2l dX9_readsHill_85 ?_
              refine wp_lconst dX9_readsHill_86 lc_0 ?_
              refine wp_ldc2 dX9_readsHill_87 tlX9_116 ?_
              refine wp_cS3w (N := mX9_in) dX9_readsHill_90 tmX9_73 okX9_in rfl rfl rfl rfl (s_X9_in X _ _ _ _) ?_
              refine wp_if_ne 103 dX9_readsHill_93 (by decide) (fun c93_22 => ?_) (fun c93_22 => ?_)
              · rw [if_neg c93_22] at hb
                refine wp_iload_n dX9_readsHill_103 0 rfl ?_
                refine wp_if_eq 122 dX9_readsHill_104 (by decide) (fun _ => ?_) (fun z9 => absurd (by decide) z9)
                refine wp_aload_n dX9_readsHill_122 2 rfl ?_
                refine wp_getR dX9_readsHill_123 faX9_31 rfl rfl ?_
                refine wp_aload_n dX9_readsHill_126 2 rfl ?_
                refine wp_getI dX9_readsHill_127 faX9_118 rfl rfl ?_
                refine wp_iload_n dX9_readsHill_130 1 rfl ?_
                obtain ⟨x24, hb⟩ := hb
                refine wp_iast dX9_readsHill_131 rfl x24 ?_
                refine wp_aload_n dX9_readsHill_132 2 rfl ?_
                refine wp_getR dX9_readsHill_133 faX9_34 rfl rfl ?_
                refine wp_aload_n dX9_readsHill_136 2 rfl ?_
                refine wp_getI dX9_readsHill_137 faX9_118 rfl rfl ?_
                refine wp_topi (y := (σ 0 10)) rfl ?_
                refine wp_iconst dX9_readsHill_140 ic_0 ?_
                obtain ⟨x25, hb⟩ := hb
                refine wp_zast dX9_readsHill_141 rfl x25 (Or.inl rfl) ?_
                refine wp_aload_n dX9_readsHill_142 2 rfl ?_
                refine wp_dup dX9_readsHill_143 rfl ?_
                refine wp_getI dX9_readsHill_144 faX9_118 rfl rfl ?_
                refine wp_topi (y := (σ 0 10)) rfl ?_
                refine wp_iconst dX9_readsHill_147 ic_1 ?_
                refine wp_iadd dX9_readsHill_148 ?_
                refine wp_putI dX9_readsHill_149 fwX9_118 rfl rfl ?_
                refine wp_iinc (L' := [(1, _), (3, _), (2, _), (0, _)]) dX9_readsHill_152 rfl 3 rfl (ii_1 _) rfl ?_
                refine wp_goto 7 dX9_readsHill_155 (by decide) ?_
                refine wp_drop [3, 0] rfl ?_
                rw [show l_X9_readsHill_7 (n + 1) a σ = (l_X9_readsHill_7 n (a + 1) (mst (mst (mst σ 8 ((σ 0 10).toNatClampNeg) ((σ 5 ((12 + a).toNatClampNeg)) - 48)) 9 ((σ 0 10).toNatClampNeg) 0) 0 10 ((σ 0 10) + 1))) from by rw [l_X9_readsHill_7, if_neg c14_1, if_pos c41_4, if_neg c48_11, if_neg c62_19, if_neg c81_21, if_neg c93_22]]
                exact ih _ _ hb
              · rw [if_pos c93_22] at hb
                refine wp_aload_n dX9_readsHill_96 2 rfl ?_
                refine wp_iconst dX9_readsHill_97 ic_0 ?_
                refine wp_putI dX9_readsHill_98 fwX9_118 rfl rfl ?_
                refine wp_iload_n dX9_readsHill_101 3 rfl ?_
                refine wp_ireturn dX9_readsHill_102 rfl ?_
                exact ⟨by rw [l_X9_readsHill_7, if_neg c14_1, if_pos c41_4, if_neg c48_11, if_neg c62_19, if_neg c81_21, if_pos c93_22], by rw [l_X9_readsHill_7, if_neg c14_1, if_pos c41_4, if_neg c48_11, if_neg c62_19, if_neg c81_21, if_pos c93_22]⟩
          · rw [if_pos c62_19] at hb
            refine wp_iconst dX9_readsHill_65 ic_1 ?_
            refine wp_goto 70 dX9_readsHill_66 (by decide) ?_
            refine wp_istore_n (L' := [(3, _), (2, _), (0, _), (1, _)]) dX9_readsHill_70 rfl rfl ?_
            refine wp_iload_n dX9_readsHill_71 0 rfl ?_
            refine wp_if_ne 103 dX9_readsHill_72 (by decide) (fun _ => ?_) (fun z9 => absurd z9 (by decide))
            refine wp_iload_n dX9_readsHill_103 0 rfl ?_
            refine wp_if_eq 122 dX9_readsHill_104 (by decide) (fun z9 => absurd z9 (by decide)) (fun _ => ?_)
            refine wp_aload_n dX9_readsHill_107 2 rfl ?_
            refine wp_getR dX9_readsHill_108 faX9_34 rfl rfl ?_
            refine wp_aload_n dX9_readsHill_111 2 rfl ?_
            refine wp_getI dX9_readsHill_112 faX9_118 rfl rfl ?_
            refine wp_iconst dX9_readsHill_115 ic_1 ?_
            refine wp_isub dX9_readsHill_116 ?_
            refine wp_iconst dX9_readsHill_117 ic_1 ?_
            obtain ⟨x28, hb⟩ := hb
            refine wp_zast dX9_readsHill_118 rfl x28 (Or.inr rfl) ?_
            refine wp_goto 152 dX9_readsHill_119 (by decide) ?_
            refine wp_iinc (L' := [(1, _), (3, _), (2, _), (0, _)]) dX9_readsHill_152 rfl 3 rfl (ii_1 _) rfl ?_
            refine wp_goto 7 dX9_readsHill_155 (by decide) ?_
            refine wp_drop [3, 0] rfl ?_
            rw [show l_X9_readsHill_7 (n + 1) a σ = (l_X9_readsHill_7 n (a + 1) (mst σ 9 (((σ 0 10) - 1).toNatClampNeg) 1)) from by rw [l_X9_readsHill_7, if_neg c14_1, if_pos c41_4, if_neg c48_11, if_pos c62_19]]
            exact ih _ _ hb
def f_X9_readsHill (σ : Mem) : Int32 × Mem := (l_X9_readsHill_7 (fu 33) 0 (mst σ 0 10 0))
def b_X9_readsHill (σ : Mem) : Prop := (bl_X9_readsHill_7 (fu 33) 0 (mst σ 0 10 0))
theorem s_X9_readsHill (X : Amb) (σ : Mem) (hb : b_X9_readsHill σ) : SpW X mX9_readsHill [.ref (adr X 0)] σ (.int (f_X9_readsHill σ).1) (f_X9_readsHill σ).2 := by
  unfold b_X9_readsHill at hb
  refine sp_of (by decide +kernel) rfl ?_
  show WP X mX9_readsHill 0 [(0, .ref (adr X 0))] [] σ _
  refine wp_aload_n dX9_readsHill_0 0 rfl ?_
  refine wp_iconst dX9_readsHill_1 ic_0 ?_
  refine wp_putI dX9_readsHill_2 fwX9_118 rfl rfl ?_
  refine wp_iconst dX9_readsHill_5 ic_0 ?_
  refine wp_istore_n (L' := [(1, _), (0, _)]) dX9_readsHill_6 rfl rfl ?_
  refine wp_drop [1, 0] rfl ?_
  rw [show f_X9_readsHill σ = (l_X9_readsHill_7 (fu 33) 0 (mst σ 0 10 0)) from rfl]
  exact lt_X9_readsHill_7 X (fu 33) 0 (mst σ 0 10 0) hb
def f_X9_reads (σ : Mem) : Mem := (f_X9_readsHill (f_X9_readsTrain σ).2).2
def b_X9_reads (σ : Mem) : Prop := (b_X9_readsTrain σ) ∧ ((b_X9_readsHill (f_X9_readsTrain σ).2) ∧ (True))
theorem s_X9_reads (X : Amb) (σ : Mem) (hb : b_X9_reads σ) : SpV X mX9_reads [.ref (adr X 0)] σ (f_X9_reads σ) := by
  unfold b_X9_reads at hb
  refine sp_of (by decide +kernel) rfl ?_
  show WP X mX9_reads 0 [(0, .ref (adr X 0))] [] σ _
  refine wp_aload_n dX9_reads_0 0 rfl ?_
  obtain ⟨x1, hb⟩ := hb
  refine wp_cV0w (N := mX9_readsTrain) dX9_reads_1 tmX9_121 okX9_readsTrain rfl rfl rfl rfl rfl rfl rfl rfl (s_X9_readsTrain X _ x1) ?_
  refine wp_pop dX9_reads_4 rfl ?_
  refine wp_aload_n dX9_reads_5 0 rfl ?_
  obtain ⟨x2, hb⟩ := hb
  refine wp_cV0w (N := mX9_readsHill) dX9_reads_6 tmX9_125 okX9_readsHill rfl rfl rfl rfl rfl rfl rfl rfl (s_X9_readsHill X _ x2) ?_
  refine wp_pop dX9_reads_9 rfl ?_
  refine wp_return dX9_reads_10 rfl ?_
  exact ⟨rfl, rfl⟩
def f_X9_fault (σ : Mem) (a : Int32) : Int32 × Mem := if (f_X9_isTwo σ a) = 0 then ((-2), σ) else if a = 0 then ((f_X9_readsTrain σ).1, (f_X9_readsTrain σ).2) else ((f_X9_readsHill σ).1, (f_X9_readsHill σ).2)
def b_X9_fault (σ : Mem) (a : Int32) : Prop := if (f_X9_isTwo σ a) = 0 then True else if a = 0 then (b_X9_readsTrain σ) ∧ (True) else (b_X9_readsHill σ) ∧ (True)
theorem s_X9_fault (X : Amb) (σ : Mem) (a : Int32) (hb : b_X9_fault σ a) : SpW X mX9_fault [.ref (adr X 0), .int a] σ (.int (f_X9_fault σ a).1) (f_X9_fault σ a).2 := by
  unfold b_X9_fault at hb
  refine sp_of (by decide +kernel) rfl ?_
  show WP X mX9_fault 0 [(0, .ref (adr X 0)), (1, .int a)] [] σ _
  refine wp_iload_n dX9_fault_0 1 rfl ?_
  refine wp_cS1w (N := mX9_isTwo) dX9_fault_1 tmX9_105 okX9_isTwo rfl rfl rfl rfl (s_X9_isTwo X _ _) ?_
  refine wp_if_ne 12 dX9_fault_4 (by decide) (fun c4_1 => ?_) (fun c4_1 => ?_)
  · rw [if_neg c4_1] at hb
    refine wp_iload_n dX9_fault_12 1 rfl ?_
    refine wp_if_ne 23 dX9_fault_13 (by decide) (fun c13_2 => ?_) (fun c13_2 => ?_)
    · rw [if_neg c13_2] at hb
      refine wp_aload_n dX9_fault_23 0 rfl ?_
      obtain ⟨x3, hb⟩ := hb
      refine wp_cV0w (N := mX9_readsHill) dX9_fault_24 tmX9_125 okX9_readsHill rfl rfl rfl rfl rfl rfl rfl rfl (s_X9_readsHill X _ x3) ?_
      refine wp_ireturn dX9_fault_27 rfl ?_
      exact ⟨by unfold f_X9_fault; rw [if_neg c4_1, if_neg c13_2], by unfold f_X9_fault; rw [if_neg c4_1, if_neg c13_2]⟩
    · rw [if_pos c13_2] at hb
      refine wp_aload_n dX9_fault_16 0 rfl ?_
      obtain ⟨x4, hb⟩ := hb
      refine wp_cV0w (N := mX9_readsTrain) dX9_fault_17 tmX9_121 okX9_readsTrain rfl rfl rfl rfl rfl rfl rfl rfl (s_X9_readsTrain X _ x4) ?_
      refine wp_goto 27 dX9_fault_20 (by decide) ?_
      refine wp_ireturn dX9_fault_27 rfl ?_
      exact ⟨by unfold f_X9_fault; rw [if_neg c4_1, if_pos c13_2], by unfold f_X9_fault; rw [if_neg c4_1, if_pos c13_2]⟩
  · rw [if_pos c4_1] at hb
    refine wp_bipush dX9_fault_7 bp_m2 ?_
    refine wp_goto 27 dX9_fault_9 (by decide) ?_
    refine wp_ireturn dX9_fault_27 rfl ?_
    exact ⟨by unfold f_X9_fault; rw [if_pos c4_1], by unfold f_X9_fault; rw [if_pos c4_1]⟩
def f_X9_wagon (σ : Mem) (a : Int32) : Int32 × Mem := if (f_X9_in (f_X9_reads σ) a.toInt64 0 ((((f_X9_reads σ) 0 7) - 1).toInt64)) = 0 then ((-2), (f_X9_reads σ)) else (((f_X9_reads σ) 7 (a.toNatClampNeg)), (f_X9_reads σ))
def b_X9_wagon (σ : Mem) (a : Int32) : Prop := (b_X9_reads σ) ∧ (if (f_X9_in (f_X9_reads σ) a.toInt64 0 ((((f_X9_reads σ) 0 7) - 1).toInt64)) = 0 then True else (vp_in a 12) ∧ (True))
theorem s_X9_wagon (X : Amb) (σ : Mem) (a : Int32) (hb : b_X9_wagon σ a) : SpW X mX9_wagon [.ref (adr X 0), .int a] σ (.int (f_X9_wagon σ a).1) (f_X9_wagon σ a).2 := by
  unfold b_X9_wagon at hb
  refine sp_of (by decide +kernel) rfl ?_
  show WP X mX9_wagon 0 [(0, .ref (adr X 0)), (1, .int a)] [] σ _
  refine wp_aload_n dX9_wagon_0 0 rfl ?_
  obtain ⟨x1, hb⟩ := hb
  refine wp_cV0v (N := mX9_reads) dX9_wagon_1 tmX9_128 okX9_reads rfl rfl rfl rfl rfl rfl rfl rfl (s_X9_reads X _ x1) ?_
  refine wp_iload_n dX9_wagon_4 1 rfl ?_
  refine wp_i2l dX9_wagon_5 ?_
  refine wp_lconst dX9_wagon_6 lc_0 ?_
  refine wp_aload_n dX9_wagon_7 0 rfl ?_
  refine wp_getI dX9_wagon_8 faX9_110 rfl rfl ?_
  refine wp_iconst dX9_wagon_11 ic_1 ?_
  refine wp_isub dX9_wagon_12 ?_
  refine wp_i2l dX9_wagon_13 ?_
  refine wp_cS3w (N := mX9_in) dX9_wagon_14 tmX9_73 okX9_in rfl rfl rfl rfl (s_X9_in X _ _ _ _) ?_
  refine wp_if_eq 29 dX9_wagon_17 (by decide) (fun c17_2 => ?_) (fun c17_2 => ?_)
  · rw [if_pos c17_2] at hb
    refine wp_bipush dX9_wagon_29 bp_m2 ?_
    refine wp_ireturn dX9_wagon_31 rfl ?_
    exact ⟨by unfold f_X9_wagon; rw [if_pos c17_2], by unfold f_X9_wagon; rw [if_pos c17_2]⟩
  · rw [if_neg c17_2] at hb
    refine wp_aload_n dX9_wagon_20 0 rfl ?_
    refine wp_getR dX9_wagon_21 faX9_28 rfl rfl ?_
    refine wp_iload_n dX9_wagon_24 1 rfl ?_
    obtain ⟨x3, hb⟩ := hb
    refine wp_iald dX9_wagon_25 rfl x3 ?_
    refine wp_goto 31 dX9_wagon_26 (by decide) ?_
    refine wp_ireturn dX9_wagon_31 rfl ?_
    exact ⟨by unfold f_X9_wagon; rw [if_neg c17_2], by unfold f_X9_wagon; rw [if_neg c17_2]⟩
def f_X9_hill (σ : Mem) (a : Int32) (b : Int32) : Int32 × Mem := if (f_X9_in (f_X9_reads σ) a.toInt64 0 ((((f_X9_reads σ) 0 10) - 1).toInt64)) = 0 then ((-2), (f_X9_reads σ)) else if (f_X9_isTwo (f_X9_reads σ) b) = 0 then ((-2), (f_X9_reads σ)) else if b = 0 then (((f_X9_reads σ) 8 (a.toNatClampNeg)), (f_X9_reads σ)) else if ((f_X9_reads σ) 9 (a.toNatClampNeg)) = 0 then (0, (f_X9_reads σ)) else (1, (f_X9_reads σ))
def b_X9_hill (σ : Mem) (a : Int32) (b : Int32) : Prop := (b_X9_reads σ) ∧ (if (f_X9_in (f_X9_reads σ) a.toInt64 0 ((((f_X9_reads σ) 0 10) - 1).toInt64)) = 0 then True else if (f_X9_isTwo (f_X9_reads σ) b) = 0 then True else if b = 0 then (vp_in a 16) ∧ (True) else (vp_in a 16) ∧ (if ((f_X9_reads σ) 9 (a.toNatClampNeg)) = 0 then True else True))
theorem s_X9_hill (X : Amb) (σ : Mem) (a : Int32) (b : Int32) (hb : b_X9_hill σ a b) : SpW X mX9_hill [.ref (adr X 0), .int a, .int b] σ (.int (f_X9_hill σ a b).1) (f_X9_hill σ a b).2 := by
  unfold b_X9_hill at hb
  refine sp_of (by decide +kernel) rfl ?_
  show WP X mX9_hill 0 [(0, .ref (adr X 0)), (1, .int a), (2, .int b)] [] σ _
  refine wp_aload_n dX9_hill_0 0 rfl ?_
  obtain ⟨x1, hb⟩ := hb
  refine wp_cV0v (N := mX9_reads) dX9_hill_1 tmX9_128 okX9_reads rfl rfl rfl rfl rfl rfl rfl rfl (s_X9_reads X _ x1) ?_
  refine wp_iload_n dX9_hill_4 1 rfl ?_
  refine wp_i2l dX9_hill_5 ?_
  refine wp_lconst dX9_hill_6 lc_0 ?_
  refine wp_aload_n dX9_hill_7 0 rfl ?_
  refine wp_getI dX9_hill_8 faX9_118 rfl rfl ?_
  refine wp_iconst dX9_hill_11 ic_1 ?_
  refine wp_isub dX9_hill_12 ?_
  refine wp_i2l dX9_hill_13 ?_
  refine wp_cS3w (N := mX9_in) dX9_hill_14 tmX9_73 okX9_in rfl rfl rfl rfl (s_X9_in X _ _ _ _) ?_
  refine wp_if_eq 27 dX9_hill_17 (by decide) (fun c17_2 => ?_) (fun c17_2 => ?_)
  · rw [if_pos c17_2] at hb
    refine wp_bipush dX9_hill_27 bp_m2 ?_
    refine wp_goto 59 dX9_hill_29 (by decide) ?_
    refine wp_ireturn dX9_hill_59 rfl ?_
    exact ⟨by unfold f_X9_hill; rw [if_pos c17_2], by unfold f_X9_hill; rw [if_pos c17_2]⟩
  · rw [if_neg c17_2] at hb
    refine wp_iload_n dX9_hill_20 2 rfl ?_
    refine wp_cS1w (N := mX9_isTwo) dX9_hill_21 tmX9_105 okX9_isTwo rfl rfl rfl rfl (s_X9_isTwo X _ _) ?_
    refine wp_if_ne 32 dX9_hill_24 (by decide) (fun c24_3 => ?_) (fun c24_3 => ?_)
    · rw [if_neg c24_3] at hb
      refine wp_iload_n dX9_hill_32 2 rfl ?_
      refine wp_if_ne 45 dX9_hill_33 (by decide) (fun c33_4 => ?_) (fun c33_4 => ?_)
      · rw [if_neg c33_4] at hb
        refine wp_aload_n dX9_hill_45 0 rfl ?_
        refine wp_getR dX9_hill_46 faX9_34 rfl rfl ?_
        refine wp_iload_n dX9_hill_49 1 rfl ?_
        obtain ⟨x5, hb⟩ := hb
        refine wp_zald dX9_hill_50 rfl x5 ?_
        refine wp_if_eq 58 dX9_hill_51 (by decide) (fun c51_6 => ?_) (fun c51_6 => ?_)
        · rw [if_pos c51_6] at hb
          refine wp_iconst dX9_hill_58 ic_0 ?_
          refine wp_ireturn dX9_hill_59 rfl ?_
          exact ⟨by unfold f_X9_hill; rw [if_neg c17_2, if_neg c24_3, if_neg c33_4, if_pos c51_6], by unfold f_X9_hill; rw [if_neg c17_2, if_neg c24_3, if_neg c33_4, if_pos c51_6]⟩
        · rw [if_neg c51_6] at hb
          refine wp_iconst dX9_hill_54 ic_1 ?_
          refine wp_goto 59 dX9_hill_55 (by decide) ?_
          refine wp_ireturn dX9_hill_59 rfl ?_
          exact ⟨by unfold f_X9_hill; rw [if_neg c17_2, if_neg c24_3, if_neg c33_4, if_neg c51_6], by unfold f_X9_hill; rw [if_neg c17_2, if_neg c24_3, if_neg c33_4, if_neg c51_6]⟩
      · rw [if_pos c33_4] at hb
        refine wp_aload_n dX9_hill_36 0 rfl ?_
        refine wp_getR dX9_hill_37 faX9_31 rfl rfl ?_
        refine wp_iload_n dX9_hill_40 1 rfl ?_
        obtain ⟨x7, hb⟩ := hb
        refine wp_iald dX9_hill_41 rfl x7 ?_
        refine wp_goto 59 dX9_hill_42 (by decide) ?_
        refine wp_ireturn dX9_hill_59 rfl ?_
        exact ⟨by unfold f_X9_hill; rw [if_neg c17_2, if_neg c24_3, if_pos c33_4], by unfold f_X9_hill; rw [if_neg c17_2, if_neg c24_3, if_pos c33_4]⟩
    · rw [if_pos c24_3] at hb
      refine wp_bipush dX9_hill_27 bp_m2 ?_
      refine wp_goto 59 dX9_hill_29 (by decide) ?_
      refine wp_ireturn dX9_hill_59 rfl ?_
      exact ⟨by unfold f_X9_hill; rw [if_neg c17_2, if_pos c24_3], by unfold f_X9_hill; rw [if_neg c17_2, if_pos c24_3]⟩
def f_X9_engine (σ : Mem) (a : Int32) (b : Int32) (c : Int32) : Int32 × Mem := if (f_X9_isTwo σ a) = 0 then ((-2), σ) else if (f_X9_in σ b.toInt64 0 2) = 0 then ((-2), σ) else if b = 2 then if b = 0 then if (f_X9_in σ c.toInt64 1 999) = 0 then ((-2), σ) else ((σ 10 (((3 * a) + b).toNatClampNeg)), (mst σ 10 (((3 * a) + b).toNatClampNeg) c)) else if b = 1 then if (f_X9_in σ c.toInt64 1 3) = 0 then ((-2), σ) else ((σ 10 (((3 * a) + b).toNatClampNeg)), (mst σ 10 (((3 * a) + b).toNatClampNeg) c)) else if (f_X9_in σ c.toInt64 1 5) = 0 then ((-2), σ) else ((σ 10 (((3 * a) + b).toNatClampNeg)), (mst σ 10 (((3 * a) + b).toNatClampNeg) c)) else if b = 0 then if (f_X9_in σ c.toInt64 0 999) = 0 then ((-2), σ) else ((σ 10 (((3 * a) + b).toNatClampNeg)), (mst σ 10 (((3 * a) + b).toNatClampNeg) c)) else if b = 1 then if (f_X9_in σ c.toInt64 0 3) = 0 then ((-2), σ) else ((σ 10 (((3 * a) + b).toNatClampNeg)), (mst σ 10 (((3 * a) + b).toNatClampNeg) c)) else if (f_X9_in σ c.toInt64 0 5) = 0 then ((-2), σ) else ((σ 10 (((3 * a) + b).toNatClampNeg)), (mst σ 10 (((3 * a) + b).toNatClampNeg) c))
def b_X9_engine (σ : Mem) (a : Int32) (b : Int32) (c : Int32) : Prop := if (f_X9_isTwo σ a) = 0 then True else if (f_X9_in σ b.toInt64 0 2) = 0 then True else if b = 2 then if b = 0 then if (f_X9_in σ c.toInt64 1 999) = 0 then True else (vp_in ((3 * a) + b) 6) ∧ ((vp_in ((3 * a) + b) 6) ∧ (True)) else if b = 1 then if (f_X9_in σ c.toInt64 1 3) = 0 then True else (vp_in ((3 * a) + b) 6) ∧ ((vp_in ((3 * a) + b) 6) ∧ (True)) else if (f_X9_in σ c.toInt64 1 5) = 0 then True else (vp_in ((3 * a) + b) 6) ∧ ((vp_in ((3 * a) + b) 6) ∧ (True)) else if b = 0 then if (f_X9_in σ c.toInt64 0 999) = 0 then True else (vp_in ((3 * a) + b) 6) ∧ ((vp_in ((3 * a) + b) 6) ∧ (True)) else if b = 1 then if (f_X9_in σ c.toInt64 0 3) = 0 then True else (vp_in ((3 * a) + b) 6) ∧ ((vp_in ((3 * a) + b) 6) ∧ (True)) else if (f_X9_in σ c.toInt64 0 5) = 0 then True else (vp_in ((3 * a) + b) 6) ∧ ((vp_in ((3 * a) + b) 6) ∧ (True))
theorem s_X9_engine (X : Amb) (σ : Mem) (a : Int32) (b : Int32) (c : Int32) (hb : b_X9_engine σ a b c) : SpW X mX9_engine [.ref (adr X 0), .int a, .int b, .int c] σ (.int (f_X9_engine σ a b c).1) (f_X9_engine σ a b c).2 := by
  unfold b_X9_engine at hb
  refine sp_of (by decide +kernel) rfl ?_
  show WP X mX9_engine 0 [(0, .ref (adr X 0)), (1, .int a), (2, .int b), (3, .int c)] [] σ _
  refine wp_iload_n dX9_engine_0 1 rfl ?_
  refine wp_cS1w (N := mX9_isTwo) dX9_engine_1 tmX9_105 okX9_isTwo rfl rfl rfl rfl (s_X9_isTwo X _ _) ?_
  refine wp_if_eq 23 dX9_engine_4 (by decide) (fun c4_1 => ?_) (fun c4_1 => ?_)
  · rw [if_pos c4_1] at hb
    refine wp_iconst dX9_engine_23 ic_0 ?_
    refine wp_istore (L' := [(4, _), (0, _), (1, _), (2, _), (3, _)]) dX9_engine_24 rfl rfl ?_
    refine wp_iload dX9_engine_26 0 rfl ?_
    refine wp_if_eq 73 dX9_engine_28 (by decide) (fun _ => ?_) (fun z9 => absurd (by decide) z9)
    refine wp_bipush dX9_engine_73 bp_m2 ?_
    refine wp_ireturn dX9_engine_75 rfl ?_
    exact ⟨by unfold f_X9_engine; rw [if_pos c4_1], by unfold f_X9_engine; rw [if_pos c4_1]⟩
  · rw [if_neg c4_1] at hb
    refine wp_iload_n dX9_engine_7 2 rfl ?_
    refine wp_i2l dX9_engine_8 ?_
    refine wp_lconst dX9_engine_9 lc_0 ?_
    refine wp_ldc2 dX9_engine_10 tlX9_91 ?_
    refine wp_cS3w (N := mX9_in) dX9_engine_13 tmX9_73 okX9_in rfl rfl rfl rfl (s_X9_in X _ _ _ _) ?_
    refine wp_if_eq 23 dX9_engine_16 (by decide) (fun c16_3 => ?_) (fun c16_3 => ?_)
    · rw [if_pos c16_3] at hb
      refine wp_iconst dX9_engine_23 ic_0 ?_
      refine wp_istore (L' := [(4, _), (0, _), (1, _), (2, _), (3, _)]) dX9_engine_24 rfl rfl ?_
      refine wp_iload dX9_engine_26 0 rfl ?_
      refine wp_if_eq 73 dX9_engine_28 (by decide) (fun _ => ?_) (fun z9 => absurd (by decide) z9)
      refine wp_bipush dX9_engine_73 bp_m2 ?_
      refine wp_ireturn dX9_engine_75 rfl ?_
      exact ⟨by unfold f_X9_engine; rw [if_neg c4_1, if_pos c16_3], by unfold f_X9_engine; rw [if_neg c4_1, if_pos c16_3]⟩
    · rw [if_neg c16_3] at hb
      refine wp_iconst dX9_engine_19 ic_1 ?_
      refine wp_goto 24 dX9_engine_20 (by decide) ?_
      refine wp_istore (L' := [(4, _), (0, _), (1, _), (2, _), (3, _)]) dX9_engine_24 rfl rfl ?_
      refine wp_iload dX9_engine_26 0 rfl ?_
      refine wp_if_eq 73 dX9_engine_28 (by decide) (fun z9 => absurd z9 (by decide)) (fun _ => ?_)
      refine wp_iload_n dX9_engine_31 4 rfl ?_
      refine wp_i2l dX9_engine_32 ?_
      refine wp_iload_n dX9_engine_33 3 rfl ?_
      refine wp_iconst dX9_engine_34 ic_2 ?_
      refine wp_icmp_ne 42 dX9_engine_35 (by decide) (fun c35_6 => ?_) (fun c35_6 => ?_)
      · rw [if_neg c35_6] at hb
        refine wp_lconst dX9_engine_42 lc_0 ?_
        refine wp_iload_n dX9_engine_43 3 rfl ?_
        refine wp_if_ne 53 dX9_engine_44 (by decide) (fun c44_7 => ?_) (fun c44_7 => ?_)
        · rw [if_neg c44_7] at hb
          refine wp_iload_n dX9_engine_53 3 rfl ?_
          refine wp_iconst dX9_engine_54 ic_1 ?_
          refine wp_icmp_ne 64 dX9_engine_55 (by decide) (fun c55_8 => ?_) (fun c55_8 => ?_)
          · rw [if_neg c55_8] at hb
            refine wp_ldc2 dX9_engine_64 tlX9_133 ?_
            refine wp_cS3w (N := mX9_in) dX9_engine_67 tmX9_73 okX9_in rfl rfl rfl rfl (s_X9_in X _ _ _ _) ?_
            refine wp_if_ne 76 dX9_engine_70 (by decide) (fun c70_9 => ?_) (fun c70_9 => ?_)
            · rw [if_neg c70_9] at hb
              refine wp_aload_n dX9_engine_76 1 rfl ?_
              refine wp_getR dX9_engine_77 faX9_38 rfl rfl ?_
              refine wp_iconst dX9_engine_80 ic_3 ?_
              refine wp_iload_n dX9_engine_81 2 rfl ?_
              refine wp_imul dX9_engine_82 ?_
              refine wp_iload_n dX9_engine_83 3 rfl ?_
              refine wp_iadd dX9_engine_84 ?_
              obtain ⟨x10, hb⟩ := hb
              refine wp_iald dX9_engine_85 rfl x10 ?_
              refine wp_istore (L' := [(5, _), (4, _), (0, _), (1, _), (2, _), (3, _)]) dX9_engine_86 rfl rfl ?_
              refine wp_aload_n dX9_engine_88 2 rfl ?_
              refine wp_getR dX9_engine_89 faX9_38 rfl rfl ?_
              refine wp_iconst dX9_engine_92 ic_3 ?_
              refine wp_iload_n dX9_engine_93 3 rfl ?_
              refine wp_imul dX9_engine_94 ?_
              refine wp_iload_n dX9_engine_95 4 rfl ?_
              refine wp_iadd dX9_engine_96 ?_
              refine wp_iload_n dX9_engine_97 5 rfl ?_
              obtain ⟨x11, hb⟩ := hb
              refine wp_iast dX9_engine_98 rfl x11 ?_
              refine wp_iload dX9_engine_99 0 rfl ?_
              refine wp_ireturn dX9_engine_101 rfl ?_
              exact ⟨by unfold f_X9_engine; rw [if_neg c4_1, if_neg c16_3, if_neg c35_6, if_neg c44_7, if_neg c55_8, if_neg c70_9], by unfold f_X9_engine; rw [if_neg c4_1, if_neg c16_3, if_neg c35_6, if_neg c44_7, if_neg c55_8, if_neg c70_9]⟩
            · rw [if_pos c70_9] at hb
              refine wp_bipush dX9_engine_73 bp_m2 ?_
              refine wp_ireturn dX9_engine_75 rfl ?_
              exact ⟨by unfold f_X9_engine; rw [if_neg c4_1, if_neg c16_3, if_neg c35_6, if_neg c44_7, if_neg c55_8, if_pos c70_9], by unfold f_X9_engine; rw [if_neg c4_1, if_neg c16_3, if_neg c35_6, if_neg c44_7, if_neg c55_8, if_pos c70_9]⟩
          · rw [if_pos c55_8] at hb
            refine wp_ldc2 dX9_engine_58 tlX9_85 ?_
            refine wp_goto 67 dX9_engine_61 (by decide) ?_
            refine wp_cS3w (N := mX9_in) dX9_engine_67 tmX9_73 okX9_in rfl rfl rfl rfl (s_X9_in X _ _ _ _) ?_
            refine wp_if_ne 76 dX9_engine_70 (by decide) (fun c70_12 => ?_) (fun c70_12 => ?_)
            · rw [if_neg c70_12] at hb
              refine wp_aload_n dX9_engine_76 1 rfl ?_
              refine wp_getR dX9_engine_77 faX9_38 rfl rfl ?_
              refine wp_iconst dX9_engine_80 ic_3 ?_
              refine wp_iload_n dX9_engine_81 2 rfl ?_
              refine wp_imul dX9_engine_82 ?_
              refine wp_iload_n dX9_engine_83 3 rfl ?_
              refine wp_iadd dX9_engine_84 ?_
              obtain ⟨x13, hb⟩ := hb
              refine wp_iald dX9_engine_85 rfl x13 ?_
              refine wp_istore (L' := [(5, _), (4, _), (0, _), (1, _), (2, _), (3, _)]) dX9_engine_86 rfl rfl ?_
              refine wp_aload_n dX9_engine_88 2 rfl ?_
              refine wp_getR dX9_engine_89 faX9_38 rfl rfl ?_
              refine wp_iconst dX9_engine_92 ic_3 ?_
              refine wp_iload_n dX9_engine_93 3 rfl ?_
              refine wp_imul dX9_engine_94 ?_
              refine wp_iload_n dX9_engine_95 4 rfl ?_
              refine wp_iadd dX9_engine_96 ?_
              refine wp_iload_n dX9_engine_97 5 rfl ?_
              obtain ⟨x14, hb⟩ := hb
              refine wp_iast dX9_engine_98 rfl x14 ?_
              refine wp_iload dX9_engine_99 0 rfl ?_
              refine wp_ireturn dX9_engine_101 rfl ?_
              exact ⟨by unfold f_X9_engine; rw [if_neg c4_1, if_neg c16_3, if_neg c35_6, if_neg c44_7, if_pos c55_8, if_neg c70_12], by unfold f_X9_engine; rw [if_neg c4_1, if_neg c16_3, if_neg c35_6, if_neg c44_7, if_pos c55_8, if_neg c70_12]⟩
            · rw [if_pos c70_12] at hb
              refine wp_bipush dX9_engine_73 bp_m2 ?_
              refine wp_ireturn dX9_engine_75 rfl ?_
              exact ⟨by unfold f_X9_engine; rw [if_neg c4_1, if_neg c16_3, if_neg c35_6, if_neg c44_7, if_pos c55_8, if_pos c70_12], by unfold f_X9_engine; rw [if_neg c4_1, if_neg c16_3, if_neg c35_6, if_neg c44_7, if_pos c55_8, if_pos c70_12]⟩
        · rw [if_pos c44_7] at hb
          refine wp_ldc2 dX9_engine_47 tlX9_131 ?_
          refine wp_goto 67 dX9_engine_50 (by decide) ?_
          refine wp_cS3w (N := mX9_in) dX9_engine_67 tmX9_73 okX9_in rfl rfl rfl rfl (s_X9_in X _ _ _ _) ?_
          refine wp_if_ne 76 dX9_engine_70 (by decide) (fun c70_15 => ?_) (fun c70_15 => ?_)
          · rw [if_neg c70_15] at hb
            refine wp_aload_n dX9_engine_76 1 rfl ?_
            refine wp_getR dX9_engine_77 faX9_38 rfl rfl ?_
            refine wp_iconst dX9_engine_80 ic_3 ?_
            refine wp_iload_n dX9_engine_81 2 rfl ?_
            refine wp_imul dX9_engine_82 ?_
            refine wp_iload_n dX9_engine_83 3 rfl ?_
            refine wp_iadd dX9_engine_84 ?_
            obtain ⟨x16, hb⟩ := hb
            refine wp_iald dX9_engine_85 rfl x16 ?_
            refine wp_istore (L' := [(5, _), (4, _), (0, _), (1, _), (2, _), (3, _)]) dX9_engine_86 rfl rfl ?_
            refine wp_aload_n dX9_engine_88 2 rfl ?_
            refine wp_getR dX9_engine_89 faX9_38 rfl rfl ?_
            refine wp_iconst dX9_engine_92 ic_3 ?_
            refine wp_iload_n dX9_engine_93 3 rfl ?_
            refine wp_imul dX9_engine_94 ?_
            refine wp_iload_n dX9_engine_95 4 rfl ?_
            refine wp_iadd dX9_engine_96 ?_
            refine wp_iload_n dX9_engine_97 5 rfl ?_
            obtain ⟨x17, hb⟩ := hb
            refine wp_iast dX9_engine_98 rfl x17 ?_
            refine wp_iload dX9_engine_99 0 rfl ?_
            refine wp_ireturn dX9_engine_101 rfl ?_
            exact ⟨by unfold f_X9_engine; rw [if_neg c4_1, if_neg c16_3, if_neg c35_6, if_pos c44_7, if_neg c70_15], by unfold f_X9_engine; rw [if_neg c4_1, if_neg c16_3, if_neg c35_6, if_pos c44_7, if_neg c70_15]⟩
          · rw [if_pos c70_15] at hb
            refine wp_bipush dX9_engine_73 bp_m2 ?_
            refine wp_ireturn dX9_engine_75 rfl ?_
            exact ⟨by unfold f_X9_engine; rw [if_neg c4_1, if_neg c16_3, if_neg c35_6, if_pos c44_7, if_pos c70_15], by unfold f_X9_engine; rw [if_neg c4_1, if_neg c16_3, if_neg c35_6, if_pos c44_7, if_pos c70_15]⟩
      · rw [if_pos c35_6] at hb
        refine wp_lconst dX9_engine_38 lc_1 ?_
        refine wp_goto 43 dX9_engine_39 (by decide) ?_
        refine wp_iload_n dX9_engine_43 3 rfl ?_
        refine wp_if_ne 53 dX9_engine_44 (by decide) (fun c44_18 => ?_) (fun c44_18 => ?_)
        · rw [if_neg c44_18] at hb
          refine wp_iload_n dX9_engine_53 3 rfl ?_
          refine wp_iconst dX9_engine_54 ic_1 ?_
          refine wp_icmp_ne 64 dX9_engine_55 (by decide) (fun c55_19 => ?_) (fun c55_19 => ?_)
          · rw [if_neg c55_19] at hb
            refine wp_ldc2 dX9_engine_64 tlX9_133 ?_
            refine wp_cS3w (N := mX9_in) dX9_engine_67 tmX9_73 okX9_in rfl rfl rfl rfl (s_X9_in X _ _ _ _) ?_
            refine wp_if_ne 76 dX9_engine_70 (by decide) (fun c70_20 => ?_) (fun c70_20 => ?_)
            · rw [if_neg c70_20] at hb
              refine wp_aload_n dX9_engine_76 1 rfl ?_
              refine wp_getR dX9_engine_77 faX9_38 rfl rfl ?_
              refine wp_iconst dX9_engine_80 ic_3 ?_
              refine wp_iload_n dX9_engine_81 2 rfl ?_
              refine wp_imul dX9_engine_82 ?_
              refine wp_iload_n dX9_engine_83 3 rfl ?_
              refine wp_iadd dX9_engine_84 ?_
              obtain ⟨x21, hb⟩ := hb
              refine wp_iald dX9_engine_85 rfl x21 ?_
              refine wp_istore (L' := [(5, _), (4, _), (0, _), (1, _), (2, _), (3, _)]) dX9_engine_86 rfl rfl ?_
              refine wp_aload_n dX9_engine_88 2 rfl ?_
              refine wp_getR dX9_engine_89 faX9_38 rfl rfl ?_
              refine wp_iconst dX9_engine_92 ic_3 ?_
              refine wp_iload_n dX9_engine_93 3 rfl ?_
              refine wp_imul dX9_engine_94 ?_
              refine wp_iload_n dX9_engine_95 4 rfl ?_
              refine wp_iadd dX9_engine_96 ?_
              refine wp_iload_n dX9_engine_97 5 rfl ?_
              obtain ⟨x22, hb⟩ := hb
              refine wp_iast dX9_engine_98 rfl x22 ?_
              refine wp_iload dX9_engine_99 0 rfl ?_
              refine wp_ireturn dX9_engine_101 rfl ?_
              exact ⟨by unfold f_X9_engine; rw [if_neg c4_1, if_neg c16_3, if_pos c35_6, if_neg c44_18, if_neg c55_19, if_neg c70_20], by unfold f_X9_engine; rw [if_neg c4_1, if_neg c16_3, if_pos c35_6, if_neg c44_18, if_neg c55_19, if_neg c70_20]⟩
            · rw [if_pos c70_20] at hb
              refine wp_bipush dX9_engine_73 bp_m2 ?_
              refine wp_ireturn dX9_engine_75 rfl ?_
              exact ⟨by unfold f_X9_engine; rw [if_neg c4_1, if_neg c16_3, if_pos c35_6, if_neg c44_18, if_neg c55_19, if_pos c70_20], by unfold f_X9_engine; rw [if_neg c4_1, if_neg c16_3, if_pos c35_6, if_neg c44_18, if_neg c55_19, if_pos c70_20]⟩
          · rw [if_pos c55_19] at hb
            refine wp_ldc2 dX9_engine_58 tlX9_85 ?_
            refine wp_goto 67 dX9_engine_61 (by decide) ?_
            refine wp_cS3w (N := mX9_in) dX9_engine_67 tmX9_73 okX9_in rfl rfl rfl rfl (s_X9_in X _ _ _ _) ?_
            refine wp_if_ne 76 dX9_engine_70 (by decide) (fun c70_23 => ?_) (fun c70_23 => ?_)
            · rw [if_neg c70_23] at hb
              refine wp_aload_n dX9_engine_76 1 rfl ?_
              refine wp_getR dX9_engine_77 faX9_38 rfl rfl ?_
              refine wp_iconst dX9_engine_80 ic_3 ?_
              refine wp_iload_n dX9_engine_81 2 rfl ?_
              refine wp_imul dX9_engine_82 ?_
              refine wp_iload_n dX9_engine_83 3 rfl ?_
              refine wp_iadd dX9_engine_84 ?_
              obtain ⟨x24, hb⟩ := hb
              refine wp_iald dX9_engine_85 rfl x24 ?_
              refine wp_istore (L' := [(5, _), (4, _), (0, _), (1, _), (2, _), (3, _)]) dX9_engine_86 rfl rfl ?_
              refine wp_aload_n dX9_engine_88 2 rfl ?_
              refine wp_getR dX9_engine_89 faX9_38 rfl rfl ?_
              refine wp_iconst dX9_engine_92 ic_3 ?_
              refine wp_iload_n dX9_engine_93 3 rfl ?_
              refine wp_imul dX9_engine_94 ?_
              refine wp_iload_n dX9_engine_95 4 rfl ?_
              refine wp_iadd dX9_engine_96 ?_
              refine wp_iload_n dX9_engine_97 5 rfl ?_
              obtain ⟨x25, hb⟩ := hb
              refine wp_iast dX9_engine_98 rfl x25 ?_
              refine wp_iload dX9_engine_99 0 rfl ?_
              refine wp_ireturn dX9_engine_101 rfl ?_
              exact ⟨by unfold f_X9_engine; rw [if_neg c4_1, if_neg c16_3, if_pos c35_6, if_neg c44_18, if_pos c55_19, if_neg c70_23], by unfold f_X9_engine; rw [if_neg c4_1, if_neg c16_3, if_pos c35_6, if_neg c44_18, if_pos c55_19, if_neg c70_23]⟩
            · rw [if_pos c70_23] at hb
              refine wp_bipush dX9_engine_73 bp_m2 ?_
              refine wp_ireturn dX9_engine_75 rfl ?_
              exact ⟨by unfold f_X9_engine; rw [if_neg c4_1, if_neg c16_3, if_pos c35_6, if_neg c44_18, if_pos c55_19, if_pos c70_23], by unfold f_X9_engine; rw [if_neg c4_1, if_neg c16_3, if_pos c35_6, if_neg c44_18, if_pos c55_19, if_pos c70_23]⟩
        · rw [if_pos c44_18] at hb
          refine wp_ldc2 dX9_engine_47 tlX9_131 ?_
          refine wp_goto 67 dX9_engine_50 (by decide) ?_
          refine wp_cS3w (N := mX9_in) dX9_engine_67 tmX9_73 okX9_in rfl rfl rfl rfl (s_X9_in X _ _ _ _) ?_
          refine wp_if_ne 76 dX9_engine_70 (by decide) (fun c70_26 => ?_) (fun c70_26 => ?_)
          · rw [if_neg c70_26] at hb
            refine wp_aload_n dX9_engine_76 1 rfl ?_
            refine wp_getR dX9_engine_77 faX9_38 rfl rfl ?_
            refine wp_iconst dX9_engine_80 ic_3 ?_
            refine wp_iload_n dX9_engine_81 2 rfl ?_
            refine wp_imul dX9_engine_82 ?_
            refine wp_iload_n dX9_engine_83 3 rfl ?_
            refine wp_iadd dX9_engine_84 ?_
            obtain ⟨x27, hb⟩ := hb
            refine wp_iald dX9_engine_85 rfl x27 ?_
            refine wp_istore (L' := [(5, _), (4, _), (0, _), (1, _), (2, _), (3, _)]) dX9_engine_86 rfl rfl ?_
            refine wp_aload_n dX9_engine_88 2 rfl ?_
            refine wp_getR dX9_engine_89 faX9_38 rfl rfl ?_
            refine wp_iconst dX9_engine_92 ic_3 ?_
            refine wp_iload_n dX9_engine_93 3 rfl ?_
            refine wp_imul dX9_engine_94 ?_
            refine wp_iload_n dX9_engine_95 4 rfl ?_
            refine wp_iadd dX9_engine_96 ?_
            refine wp_iload_n dX9_engine_97 5 rfl ?_
            obtain ⟨x28, hb⟩ := hb
            refine wp_iast dX9_engine_98 rfl x28 ?_
            refine wp_iload dX9_engine_99 0 rfl ?_
            refine wp_ireturn dX9_engine_101 rfl ?_
            exact ⟨by unfold f_X9_engine; rw [if_neg c4_1, if_neg c16_3, if_pos c35_6, if_pos c44_18, if_neg c70_26], by unfold f_X9_engine; rw [if_neg c4_1, if_neg c16_3, if_pos c35_6, if_pos c44_18, if_neg c70_26]⟩
          · rw [if_pos c70_26] at hb
            refine wp_bipush dX9_engine_73 bp_m2 ?_
            refine wp_ireturn dX9_engine_75 rfl ?_
            exact ⟨by unfold f_X9_engine; rw [if_neg c4_1, if_neg c16_3, if_pos c35_6, if_pos c44_18, if_pos c70_26], by unfold f_X9_engine; rw [if_neg c4_1, if_neg c16_3, if_pos c35_6, if_pos c44_18, if_pos c70_26]⟩
def f_X9_set (σ : Mem) (a : Int32) (b : Int32) : Int32 × Mem := if (f_X9_in σ a.toInt64 0 4) = 0 then ((-2), σ) else if a = 4 then if a = 0 then if (f_X9_in σ b.toInt64 0 999) = 0 then ((-2), σ) else ((σ 11 (a.toNatClampNeg)), (mst σ 11 (a.toNatClampNeg) b)) else if a = 4 then if (f_X9_in σ b.toInt64 0 20) = 0 then ((-2), σ) else ((σ 11 (a.toNatClampNeg)), (mst σ 11 (a.toNatClampNeg) b)) else if (f_X9_in σ b.toInt64 0 99) = 0 then ((-2), σ) else ((σ 11 (a.toNatClampNeg)), (mst σ 11 (a.toNatClampNeg) b)) else if a = 0 then if (f_X9_in σ b.toInt64 1 999) = 0 then ((-2), σ) else ((σ 11 (a.toNatClampNeg)), (mst σ 11 (a.toNatClampNeg) b)) else if a = 4 then if (f_X9_in σ b.toInt64 1 20) = 0 then ((-2), σ) else ((σ 11 (a.toNatClampNeg)), (mst σ 11 (a.toNatClampNeg) b)) else if (f_X9_in σ b.toInt64 1 99) = 0 then ((-2), σ) else ((σ 11 (a.toNatClampNeg)), (mst σ 11 (a.toNatClampNeg) b))
def b_X9_set (σ : Mem) (a : Int32) (b : Int32) : Prop := if (f_X9_in σ a.toInt64 0 4) = 0 then True else if a = 4 then if a = 0 then if (f_X9_in σ b.toInt64 0 999) = 0 then True else (vp_in a 5) ∧ ((vp_in a 5) ∧ (True)) else if a = 4 then if (f_X9_in σ b.toInt64 0 20) = 0 then True else (vp_in a 5) ∧ ((vp_in a 5) ∧ (True)) else if (f_X9_in σ b.toInt64 0 99) = 0 then True else (vp_in a 5) ∧ ((vp_in a 5) ∧ (True)) else if a = 0 then if (f_X9_in σ b.toInt64 1 999) = 0 then True else (vp_in a 5) ∧ ((vp_in a 5) ∧ (True)) else if a = 4 then if (f_X9_in σ b.toInt64 1 20) = 0 then True else (vp_in a 5) ∧ ((vp_in a 5) ∧ (True)) else if (f_X9_in σ b.toInt64 1 99) = 0 then True else (vp_in a 5) ∧ ((vp_in a 5) ∧ (True))
theorem s_X9_set (X : Amb) (σ : Mem) (a : Int32) (b : Int32) (hb : b_X9_set σ a b) : SpW X mX9_set [.ref (adr X 0), .int a, .int b] σ (.int (f_X9_set σ a b).1) (f_X9_set σ a b).2 := by
  unfold b_X9_set at hb
  refine sp_of (by decide +kernel) rfl ?_
  show WP X mX9_set 0 [(0, .ref (adr X 0)), (1, .int a), (2, .int b)] [] σ _
  refine wp_iload_n dX9_set_0 1 rfl ?_
  refine wp_i2l dX9_set_1 ?_
  refine wp_lconst dX9_set_2 lc_0 ?_
  refine wp_ldc2 dX9_set_3 tlX9_135 ?_
  refine wp_cS3w (N := mX9_in) dX9_set_6 tmX9_73 okX9_in rfl rfl rfl rfl (s_X9_in X _ _ _ _) ?_
  refine wp_if_eq 54 dX9_set_9 (by decide) (fun c9_1 => ?_) (fun c9_1 => ?_)
  · rw [if_pos c9_1] at hb
    refine wp_bipush dX9_set_54 bp_m2 ?_
    refine wp_ireturn dX9_set_56 rfl ?_
    exact ⟨by unfold f_X9_set; rw [if_pos c9_1], by unfold f_X9_set; rw [if_pos c9_1]⟩
  · rw [if_neg c9_1] at hb
    refine wp_iload_n dX9_set_12 2 rfl ?_
    refine wp_i2l dX9_set_13 ?_
    refine wp_iload_n dX9_set_14 1 rfl ?_
    refine wp_iconst dX9_set_15 ic_4 ?_
    refine wp_icmp_ne 23 dX9_set_16 (by decide) (fun c16_2 => ?_) (fun c16_2 => ?_)
    · rw [if_neg c16_2] at hb
      refine wp_lconst dX9_set_23 lc_1 ?_
      refine wp_iload_n dX9_set_24 1 rfl ?_
      refine wp_if_ne 34 dX9_set_25 (by decide) (fun c25_3 => ?_) (fun c25_3 => ?_)
      · rw [if_neg c25_3] at hb
        refine wp_iload_n dX9_set_34 1 rfl ?_
        refine wp_iconst dX9_set_35 ic_4 ?_
        refine wp_icmp_ne 45 dX9_set_36 (by decide) (fun c36_4 => ?_) (fun c36_4 => ?_)
        · rw [if_neg c36_4] at hb
          refine wp_ldc2 dX9_set_45 tlX9_139 ?_
          refine wp_cS3w (N := mX9_in) dX9_set_48 tmX9_73 okX9_in rfl rfl rfl rfl (s_X9_in X _ _ _ _) ?_
          refine wp_if_ne 57 dX9_set_51 (by decide) (fun c51_5 => ?_) (fun c51_5 => ?_)
          · rw [if_neg c51_5] at hb
            refine wp_aload_n dX9_set_57 0 rfl ?_
            refine wp_getR dX9_set_58 faX9_41 rfl rfl ?_
            refine wp_iload_n dX9_set_61 1 rfl ?_
            obtain ⟨x6, hb⟩ := hb
            refine wp_iald dX9_set_62 rfl x6 ?_
            refine wp_istore_n (L' := [(3, _), (0, _), (1, _), (2, _)]) dX9_set_63 rfl rfl ?_
            refine wp_aload_n dX9_set_64 1 rfl ?_
            refine wp_getR dX9_set_65 faX9_41 rfl rfl ?_
            refine wp_iload_n dX9_set_68 2 rfl ?_
            refine wp_iload_n dX9_set_69 3 rfl ?_
            obtain ⟨x7, hb⟩ := hb
            refine wp_iast dX9_set_70 rfl x7 ?_
            refine wp_iload_n dX9_set_71 0 rfl ?_
            refine wp_ireturn dX9_set_72 rfl ?_
            exact ⟨by unfold f_X9_set; rw [if_neg c9_1, if_neg c16_2, if_neg c25_3, if_neg c36_4, if_neg c51_5], by unfold f_X9_set; rw [if_neg c9_1, if_neg c16_2, if_neg c25_3, if_neg c36_4, if_neg c51_5]⟩
          · rw [if_pos c51_5] at hb
            refine wp_bipush dX9_set_54 bp_m2 ?_
            refine wp_ireturn dX9_set_56 rfl ?_
            exact ⟨by unfold f_X9_set; rw [if_neg c9_1, if_neg c16_2, if_neg c25_3, if_neg c36_4, if_pos c51_5], by unfold f_X9_set; rw [if_neg c9_1, if_neg c16_2, if_neg c25_3, if_neg c36_4, if_pos c51_5]⟩
        · rw [if_pos c36_4] at hb
          refine wp_ldc2 dX9_set_39 tlX9_137 ?_
          refine wp_goto 48 dX9_set_42 (by decide) ?_
          refine wp_cS3w (N := mX9_in) dX9_set_48 tmX9_73 okX9_in rfl rfl rfl rfl (s_X9_in X _ _ _ _) ?_
          refine wp_if_ne 57 dX9_set_51 (by decide) (fun c51_8 => ?_) (fun c51_8 => ?_)
          · rw [if_neg c51_8] at hb
            refine wp_aload_n dX9_set_57 0 rfl ?_
            refine wp_getR dX9_set_58 faX9_41 rfl rfl ?_
            refine wp_iload_n dX9_set_61 1 rfl ?_
            obtain ⟨x9, hb⟩ := hb
            refine wp_iald dX9_set_62 rfl x9 ?_
            refine wp_istore_n (L' := [(3, _), (0, _), (1, _), (2, _)]) dX9_set_63 rfl rfl ?_
            refine wp_aload_n dX9_set_64 1 rfl ?_
            refine wp_getR dX9_set_65 faX9_41 rfl rfl ?_
            refine wp_iload_n dX9_set_68 2 rfl ?_
            refine wp_iload_n dX9_set_69 3 rfl ?_
            obtain ⟨x10, hb⟩ := hb
            refine wp_iast dX9_set_70 rfl x10 ?_
            refine wp_iload_n dX9_set_71 0 rfl ?_
            refine wp_ireturn dX9_set_72 rfl ?_
            exact ⟨by unfold f_X9_set; rw [if_neg c9_1, if_neg c16_2, if_neg c25_3, if_pos c36_4, if_neg c51_8], by unfold f_X9_set; rw [if_neg c9_1, if_neg c16_2, if_neg c25_3, if_pos c36_4, if_neg c51_8]⟩
          · rw [if_pos c51_8] at hb
            refine wp_bipush dX9_set_54 bp_m2 ?_
            refine wp_ireturn dX9_set_56 rfl ?_
            exact ⟨by unfold f_X9_set; rw [if_neg c9_1, if_neg c16_2, if_neg c25_3, if_pos c36_4, if_pos c51_8], by unfold f_X9_set; rw [if_neg c9_1, if_neg c16_2, if_neg c25_3, if_pos c36_4, if_pos c51_8]⟩
      · rw [if_pos c25_3] at hb
        refine wp_ldc2 dX9_set_28 tlX9_131 ?_
        refine wp_goto 48 dX9_set_31 (by decide) ?_
        refine wp_cS3w (N := mX9_in) dX9_set_48 tmX9_73 okX9_in rfl rfl rfl rfl (s_X9_in X _ _ _ _) ?_
        refine wp_if_ne 57 dX9_set_51 (by decide) (fun c51_11 => ?_) (fun c51_11 => ?_)
        · rw [if_neg c51_11] at hb
          refine wp_aload_n dX9_set_57 0 rfl ?_
          refine wp_getR dX9_set_58 faX9_41 rfl rfl ?_
          refine wp_iload_n dX9_set_61 1 rfl ?_
          obtain ⟨x12, hb⟩ := hb
          refine wp_iald dX9_set_62 rfl x12 ?_
          refine wp_istore_n (L' := [(3, _), (0, _), (1, _), (2, _)]) dX9_set_63 rfl rfl ?_
          refine wp_aload_n dX9_set_64 1 rfl ?_
          refine wp_getR dX9_set_65 faX9_41 rfl rfl ?_
          refine wp_iload_n dX9_set_68 2 rfl ?_
          refine wp_iload_n dX9_set_69 3 rfl ?_
          obtain ⟨x13, hb⟩ := hb
          refine wp_iast dX9_set_70 rfl x13 ?_
          refine wp_iload_n dX9_set_71 0 rfl ?_
          refine wp_ireturn dX9_set_72 rfl ?_
          exact ⟨by unfold f_X9_set; rw [if_neg c9_1, if_neg c16_2, if_pos c25_3, if_neg c51_11], by unfold f_X9_set; rw [if_neg c9_1, if_neg c16_2, if_pos c25_3, if_neg c51_11]⟩
        · rw [if_pos c51_11] at hb
          refine wp_bipush dX9_set_54 bp_m2 ?_
          refine wp_ireturn dX9_set_56 rfl ?_
          exact ⟨by unfold f_X9_set; rw [if_neg c9_1, if_neg c16_2, if_pos c25_3, if_pos c51_11], by unfold f_X9_set; rw [if_neg c9_1, if_neg c16_2, if_pos c25_3, if_pos c51_11]⟩
    · rw [if_pos c16_2] at hb
      refine wp_lconst dX9_set_19 lc_0 ?_
      refine wp_goto 24 dX9_set_20 (by decide) ?_
      refine wp_iload_n dX9_set_24 1 rfl ?_
      refine wp_if_ne 34 dX9_set_25 (by decide) (fun c25_14 => ?_) (fun c25_14 => ?_)
      · rw [if_neg c25_14] at hb
        refine wp_iload_n dX9_set_34 1 rfl ?_
        refine wp_iconst dX9_set_35 ic_4 ?_
        refine wp_icmp_ne 45 dX9_set_36 (by decide) (fun c36_15 => ?_) (fun c36_15 => ?_)
        · rw [if_neg c36_15] at hb
          refine wp_ldc2 dX9_set_45 tlX9_139 ?_
          refine wp_cS3w (N := mX9_in) dX9_set_48 tmX9_73 okX9_in rfl rfl rfl rfl (s_X9_in X _ _ _ _) ?_
          refine wp_if_ne 57 dX9_set_51 (by decide) (fun c51_16 => ?_) (fun c51_16 => ?_)
          · rw [if_neg c51_16] at hb
            refine wp_aload_n dX9_set_57 0 rfl ?_
            refine wp_getR dX9_set_58 faX9_41 rfl rfl ?_
            refine wp_iload_n dX9_set_61 1 rfl ?_
            obtain ⟨x17, hb⟩ := hb
            refine wp_iald dX9_set_62 rfl x17 ?_
            refine wp_istore_n (L' := [(3, _), (0, _), (1, _), (2, _)]) dX9_set_63 rfl rfl ?_
            refine wp_aload_n dX9_set_64 1 rfl ?_
            refine wp_getR dX9_set_65 faX9_41 rfl rfl ?_
            refine wp_iload_n dX9_set_68 2 rfl ?_
            refine wp_iload_n dX9_set_69 3 rfl ?_
            obtain ⟨x18, hb⟩ := hb
            refine wp_iast dX9_set_70 rfl x18 ?_
            refine wp_iload_n dX9_set_71 0 rfl ?_
            refine wp_ireturn dX9_set_72 rfl ?_
            exact ⟨by unfold f_X9_set; rw [if_neg c9_1, if_pos c16_2, if_neg c25_14, if_neg c36_15, if_neg c51_16], by unfold f_X9_set; rw [if_neg c9_1, if_pos c16_2, if_neg c25_14, if_neg c36_15, if_neg c51_16]⟩
          · rw [if_pos c51_16] at hb
            refine wp_bipush dX9_set_54 bp_m2 ?_
            refine wp_ireturn dX9_set_56 rfl ?_
            exact ⟨by unfold f_X9_set; rw [if_neg c9_1, if_pos c16_2, if_neg c25_14, if_neg c36_15, if_pos c51_16], by unfold f_X9_set; rw [if_neg c9_1, if_pos c16_2, if_neg c25_14, if_neg c36_15, if_pos c51_16]⟩
        · rw [if_pos c36_15] at hb
          refine wp_ldc2 dX9_set_39 tlX9_137 ?_
          refine wp_goto 48 dX9_set_42 (by decide) ?_
          refine wp_cS3w (N := mX9_in) dX9_set_48 tmX9_73 okX9_in rfl rfl rfl rfl (s_X9_in X _ _ _ _) ?_
          refine wp_if_ne 57 dX9_set_51 (by decide) (fun c51_19 => ?_) (fun c51_19 => ?_)
          · rw [if_neg c51_19] at hb
            refine wp_aload_n dX9_set_57 0 rfl ?_
            refine wp_getR dX9_set_58 faX9_41 rfl rfl ?_
            refine wp_iload_n dX9_set_61 1 rfl ?_
            obtain ⟨x20, hb⟩ := hb
            refine wp_iald dX9_set_62 rfl x20 ?_
            refine wp_istore_n (L' := [(3, _), (0, _), (1, _), (2, _)]) dX9_set_63 rfl rfl ?_
            refine wp_aload_n dX9_set_64 1 rfl ?_
            refine wp_getR dX9_set_65 faX9_41 rfl rfl ?_
            refine wp_iload_n dX9_set_68 2 rfl ?_
            refine wp_iload_n dX9_set_69 3 rfl ?_
            obtain ⟨x21, hb⟩ := hb
            refine wp_iast dX9_set_70 rfl x21 ?_
            refine wp_iload_n dX9_set_71 0 rfl ?_
            refine wp_ireturn dX9_set_72 rfl ?_
            exact ⟨by unfold f_X9_set; rw [if_neg c9_1, if_pos c16_2, if_neg c25_14, if_pos c36_15, if_neg c51_19], by unfold f_X9_set; rw [if_neg c9_1, if_pos c16_2, if_neg c25_14, if_pos c36_15, if_neg c51_19]⟩
          · rw [if_pos c51_19] at hb
            refine wp_bipush dX9_set_54 bp_m2 ?_
            refine wp_ireturn dX9_set_56 rfl ?_
            exact ⟨by unfold f_X9_set; rw [if_neg c9_1, if_pos c16_2, if_neg c25_14, if_pos c36_15, if_pos c51_19], by unfold f_X9_set; rw [if_neg c9_1, if_pos c16_2, if_neg c25_14, if_pos c36_15, if_pos c51_19]⟩
      · rw [if_pos c25_14] at hb
        refine wp_ldc2 dX9_set_28 tlX9_131 ?_
        refine wp_goto 48 dX9_set_31 (by decide) ?_
        refine wp_cS3w (N := mX9_in) dX9_set_48 tmX9_73 okX9_in rfl rfl rfl rfl (s_X9_in X _ _ _ _) ?_
        refine wp_if_ne 57 dX9_set_51 (by decide) (fun c51_22 => ?_) (fun c51_22 => ?_)
        · rw [if_neg c51_22] at hb
          refine wp_aload_n dX9_set_57 0 rfl ?_
          refine wp_getR dX9_set_58 faX9_41 rfl rfl ?_
          refine wp_iload_n dX9_set_61 1 rfl ?_
          obtain ⟨x23, hb⟩ := hb
          refine wp_iald dX9_set_62 rfl x23 ?_
          refine wp_istore_n (L' := [(3, _), (0, _), (1, _), (2, _)]) dX9_set_63 rfl rfl ?_
          refine wp_aload_n dX9_set_64 1 rfl ?_
          refine wp_getR dX9_set_65 faX9_41 rfl rfl ?_
          refine wp_iload_n dX9_set_68 2 rfl ?_
          refine wp_iload_n dX9_set_69 3 rfl ?_
          obtain ⟨x24, hb⟩ := hb
          refine wp_iast dX9_set_70 rfl x24 ?_
          refine wp_iload_n dX9_set_71 0 rfl ?_
          refine wp_ireturn dX9_set_72 rfl ?_
          exact ⟨by unfold f_X9_set; rw [if_neg c9_1, if_pos c16_2, if_pos c25_14, if_neg c51_22], by unfold f_X9_set; rw [if_neg c9_1, if_pos c16_2, if_pos c25_14, if_neg c51_22]⟩
        · rw [if_pos c51_22] at hb
          refine wp_bipush dX9_set_54 bp_m2 ?_
          refine wp_ireturn dX9_set_56 rfl ?_
          exact ⟨by unfold f_X9_set; rw [if_neg c9_1, if_pos c16_2, if_pos c25_14, if_pos c51_22], by unfold f_X9_set; rw [if_neg c9_1, if_pos c16_2, if_pos c25_14, if_pos c51_22]⟩
def f_X9_leans (σ : Mem) (a : Int32) (b : Int32) : Int32 := (f_X9_within σ ((σ 15 (a.toNatClampNeg)) - (σ 12 ((((2 * (a - (σ 10 (((3 * b) + 2).toNatClampNeg)))) + 1) - b).toNatClampNeg))) 999)
def b_X9_leans (σ : Mem) (a : Int32) (b : Int32) : Prop := (vp_in ((3 * b) + 2) 6) ∧ ((vp_in (((2 * (a - (σ 10 (((3 * b) + 2).toNatClampNeg)))) + 1) - b) 80) ∧ ((vp_in a 40) ∧ (True)))
theorem s_X9_leans (X : Amb) (σ : Mem) (a : Int32) (b : Int32) (hb : b_X9_leans σ a b) : SpW X mX9_leans [.ref (adr X 0), .int a, .int b] σ (.int (f_X9_leans σ a b)) σ := by
  unfold b_X9_leans at hb
  refine sp_of (by decide +kernel) rfl ?_
  show WP X mX9_leans 0 [(0, .ref (adr X 0)), (1, .int a), (2, .int b)] [] σ _
  refine wp_aload_n dX9_leans_0 0 rfl ?_
  refine wp_getR dX9_leans_1 faX9_44 rfl rfl ?_
  refine wp_iconst dX9_leans_4 ic_2 ?_
  refine wp_iload_n dX9_leans_5 1 rfl ?_
  refine wp_aload_n dX9_leans_6 0 rfl ?_
  refine wp_getR dX9_leans_7 faX9_38 rfl rfl ?_
  refine wp_iconst dX9_leans_10 ic_3 ?_
  refine wp_iload_n dX9_leans_11 2 rfl ?_
  refine wp_imul dX9_leans_12 ?_
  refine wp_iconst dX9_leans_13 ic_2 ?_
  refine wp_iadd dX9_leans_14 ?_
  obtain ⟨x1, hb⟩ := hb
  refine wp_iald dX9_leans_15 rfl x1 ?_
  refine wp_isub dX9_leans_16 ?_
  refine wp_imul dX9_leans_17 ?_
  refine wp_iconst dX9_leans_18 ic_1 ?_
  refine wp_iadd dX9_leans_19 ?_
  refine wp_iload_n dX9_leans_20 2 rfl ?_
  refine wp_isub dX9_leans_21 ?_
  obtain ⟨x2, hb⟩ := hb
  refine wp_iald dX9_leans_22 rfl x2 ?_
  refine wp_istore_n (L' := [(3, _), (0, _), (1, _), (2, _)]) dX9_leans_23 rfl rfl ?_
  refine wp_aload_n dX9_leans_24 1 rfl ?_
  refine wp_getR dX9_leans_25 faX9_53 rfl rfl ?_
  refine wp_iload_n dX9_leans_28 2 rfl ?_
  obtain ⟨x3, hb⟩ := hb
  refine wp_iald dX9_leans_29 rfl x3 ?_
  refine wp_iload_n dX9_leans_30 0 rfl ?_
  refine wp_isub dX9_leans_31 ?_
  refine wp_sipush dX9_leans_32 sp_999 ?_
  refine wp_cS2w (N := mX9_within) dX9_leans_35 tmX9_141 okX9_within rfl rfl rfl rfl (s_X9_within X _ _ _) ?_
  refine wp_ireturn dX9_leans_38 rfl ?_
  exact ⟨rfl, rfl⟩
def f_X9_givesOf (σ : Mem) (a : Int32) (b : Int32) : Int32 := if (σ 10 (((3 * b) + 1).toNatClampNeg)) = 0 then (σ 10 ((3 * b).toNatClampNeg)) else if (σ 10 (((3 * b) + 2).toNatClampNeg)) ≤ a then if (σ 10 (((3 * b) + 1).toNatClampNeg)) = 2 then (σ 12 ((((2 * (a - (σ 10 (((3 * b) + 2).toNatClampNeg)))) + 1) - b).toNatClampNeg)) else if (σ 10 (((3 * b) + 1).toNatClampNeg)) = 1 then (f_X9_leans σ a b) else (((σ 12 ((((2 * a) - 2) + b).toNatClampNeg)) + (f_X9_leans σ a b)) / 2) else (σ 10 ((3 * b).toNatClampNeg))
def b_X9_givesOf (σ : Mem) (a : Int32) (b : Int32) : Prop := (vp_in ((3 * b) + 1) 6) ∧ ((vp_in ((3 * b) + 2) 6) ∧ (if (σ 10 (((3 * b) + 1).toNatClampNeg)) = 0 then (vp_in (3 * b) 6) ∧ (True) else if (σ 10 (((3 * b) + 2).toNatClampNeg)) ≤ a then if (σ 10 (((3 * b) + 1).toNatClampNeg)) = 2 then (vp_in (((2 * (a - (σ 10 (((3 * b) + 2).toNatClampNeg)))) + 1) - b) 80) ∧ (True) else if (σ 10 (((3 * b) + 1).toNatClampNeg)) = 1 then (b_X9_leans σ a b) ∧ (True) else (vp_in (((2 * a) - 2) + b) 80) ∧ ((b_X9_leans σ a b) ∧ (True)) else (vp_in (3 * b) 6) ∧ (True)))
theorem s_X9_givesOf (X : Amb) (σ : Mem) (a : Int32) (b : Int32) (hb : b_X9_givesOf σ a b) : SpW X mX9_givesOf [.ref (adr X 0), .int a, .int b] σ (.int (f_X9_givesOf σ a b)) σ := by
  unfold b_X9_givesOf at hb
  refine sp_of (by decide +kernel) rfl ?_
  show WP X mX9_givesOf 0 [(0, .ref (adr X 0)), (1, .int a), (2, .int b)] [] σ _
  refine wp_aload_n dX9_givesOf_0 0 rfl ?_
  refine wp_getR dX9_givesOf_1 faX9_38 rfl rfl ?_
  refine wp_iconst dX9_givesOf_4 ic_3 ?_
  refine wp_iload_n dX9_givesOf_5 2 rfl ?_
  refine wp_imul dX9_givesOf_6 ?_
  refine wp_iconst dX9_givesOf_7 ic_1 ?_
  refine wp_iadd dX9_givesOf_8 ?_
  obtain ⟨x1, hb⟩ := hb
  refine wp_iald dX9_givesOf_9 rfl x1 ?_
  refine wp_istore_n (L' := [(3, _), (0, _), (1, _), (2, _)]) dX9_givesOf_10 rfl rfl ?_
  refine wp_aload_n dX9_givesOf_11 1 rfl ?_
  refine wp_getR dX9_givesOf_12 faX9_38 rfl rfl ?_
  refine wp_iconst dX9_givesOf_15 ic_3 ?_
  refine wp_iload_n dX9_givesOf_16 3 rfl ?_
  refine wp_imul dX9_givesOf_17 ?_
  refine wp_iconst dX9_givesOf_18 ic_2 ?_
  refine wp_iadd dX9_givesOf_19 ?_
  obtain ⟨x2, hb⟩ := hb
  refine wp_iald dX9_givesOf_20 rfl x2 ?_
  refine wp_istore (L' := [(4, _), (3, _), (0, _), (1, _), (2, _)]) dX9_givesOf_21 rfl rfl ?_
  refine wp_iload_n dX9_givesOf_23 1 rfl ?_
  refine wp_if_eq 33 dX9_givesOf_24 (by decide) (fun c24_3 => ?_) (fun c24_3 => ?_)
  · rw [if_pos c24_3] at hb
    refine wp_aload_n dX9_givesOf_33 2 rfl ?_
    refine wp_getR dX9_givesOf_34 faX9_38 rfl rfl ?_
    refine wp_iconst dX9_givesOf_37 ic_3 ?_
    refine wp_iload_n dX9_givesOf_38 4 rfl ?_
    refine wp_imul dX9_givesOf_39 ?_
    obtain ⟨x4, hb⟩ := hb
    refine wp_iald dX9_givesOf_40 rfl x4 ?_
    refine wp_ireturn dX9_givesOf_41 rfl ?_
    exact ⟨by unfold f_X9_givesOf; rw [if_pos c24_3], rfl⟩
  · rw [if_neg c24_3] at hb
    refine wp_iload_n dX9_givesOf_27 3 rfl ?_
    refine wp_iload dX9_givesOf_28 0 rfl ?_
    refine wp_icmp_ge 42 dX9_givesOf_30 (by decide) (fun c30_5 => ?_) (fun c30_5 => ?_)
    · rw [if_pos c30_5] at hb
      refine wp_iload_n dX9_givesOf_42 1 rfl ?_
      refine wp_iconst dX9_givesOf_43 ic_2 ?_
      refine wp_icmp_ne 63 dX9_givesOf_44 (by decide) (fun c44_6 => ?_) (fun c44_6 => ?_)
      · rw [if_neg c44_6] at hb
        refine wp_iload_n dX9_givesOf_63 1 rfl ?_
        refine wp_iconst dX9_givesOf_64 ic_1 ?_
        refine wp_icmp_ne 77 dX9_givesOf_65 (by decide) (fun c65_7 => ?_) (fun c65_7 => ?_)
        · rw [if_neg c65_7] at hb
          refine wp_aload_n dX9_givesOf_77 2 rfl ?_
          refine wp_getR dX9_givesOf_78 faX9_44 rfl rfl ?_
          refine wp_iconst dX9_givesOf_81 ic_2 ?_
          refine wp_iload_n dX9_givesOf_82 3 rfl ?_
          refine wp_imul dX9_givesOf_83 ?_
          refine wp_iconst dX9_givesOf_84 ic_2 ?_
          refine wp_isub dX9_givesOf_85 ?_
          refine wp_iload_n dX9_givesOf_86 4 rfl ?_
          refine wp_iadd dX9_givesOf_87 ?_
          obtain ⟨x8, hb⟩ := hb
          refine wp_iald dX9_givesOf_88 rfl x8 ?_
          refine wp_aload_n dX9_givesOf_89 2 rfl ?_
          refine wp_iload_n dX9_givesOf_90 3 rfl ?_
          refine wp_iload_n dX9_givesOf_91 4 rfl ?_
          obtain ⟨x9, hb⟩ := hb
          refine wp_cV2w (N := mX9_leans) dX9_givesOf_92 tmX9_144 okX9_leans rfl rfl rfl rfl rfl rfl rfl rfl (s_X9_leans X _ _ _ x9) ?_
          refine wp_iadd dX9_givesOf_95 ?_
          refine wp_iconst dX9_givesOf_96 ic_2 ?_
          refine wp_idiv dX9_givesOf_97 (by decide) ?_
          refine wp_ireturn dX9_givesOf_98 rfl ?_
          exact ⟨by unfold f_X9_givesOf; rw [if_neg c24_3, if_pos c30_5, if_neg c44_6, if_neg c65_7], rfl⟩
        · rw [if_pos c65_7] at hb
          refine wp_aload_n dX9_givesOf_68 2 rfl ?_
          refine wp_iload_n dX9_givesOf_69 3 rfl ?_
          refine wp_iload_n dX9_givesOf_70 4 rfl ?_
          obtain ⟨x10, hb⟩ := hb
          refine wp_cV2w (N := mX9_leans) dX9_givesOf_71 tmX9_144 okX9_leans rfl rfl rfl rfl rfl rfl rfl rfl (s_X9_leans X _ _ _ x10) ?_
          refine wp_goto 98 dX9_givesOf_74 (by decide) ?_
          refine wp_ireturn dX9_givesOf_98 rfl ?_
          exact ⟨by unfold f_X9_givesOf; rw [if_neg c24_3, if_pos c30_5, if_neg c44_6, if_pos c65_7], rfl⟩
      · rw [if_pos c44_6] at hb
        refine wp_aload_n dX9_givesOf_47 2 rfl ?_
        refine wp_getR dX9_givesOf_48 faX9_44 rfl rfl ?_
        refine wp_iconst dX9_givesOf_51 ic_2 ?_
        refine wp_iload_n dX9_givesOf_52 3 rfl ?_
        refine wp_iload dX9_givesOf_53 0 rfl ?_
        refine wp_isub dX9_givesOf_55 ?_
        refine wp_imul dX9_givesOf_56 ?_
        refine wp_iconst dX9_givesOf_57 ic_1 ?_
        refine wp_iadd dX9_givesOf_58 ?_
        refine wp_iload_n dX9_givesOf_59 4 rfl ?_
        refine wp_isub dX9_givesOf_60 ?_
        obtain ⟨x11, hb⟩ := hb
        refine wp_iald dX9_givesOf_61 rfl x11 ?_
        refine wp_ireturn dX9_givesOf_62 rfl ?_
        exact ⟨by unfold f_X9_givesOf; rw [if_neg c24_3, if_pos c30_5, if_pos c44_6], rfl⟩
    · rw [if_neg c30_5] at hb
      refine wp_aload_n dX9_givesOf_33 2 rfl ?_
      refine wp_getR dX9_givesOf_34 faX9_38 rfl rfl ?_
      refine wp_iconst dX9_givesOf_37 ic_3 ?_
      refine wp_iload_n dX9_givesOf_38 4 rfl ?_
      refine wp_imul dX9_givesOf_39 ?_
      obtain ⟨x12, hb⟩ := hb
      refine wp_iald dX9_givesOf_40 rfl x12 ?_
      refine wp_ireturn dX9_givesOf_41 rfl ?_
      exact ⟨by unfold f_X9_givesOf; rw [if_neg c24_3, if_neg c30_5], rfl⟩
end
