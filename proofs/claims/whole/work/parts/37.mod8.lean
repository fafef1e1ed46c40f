noncomputable section
def l_X9_write_51 : Nat → Int32 → Int32 → Int32 → Int32 → Mem → Int32 × Mem
  | 0, _, _, _, _, σ => (0, σ)
  | n + 1, a, b, c, d, σ => if c ≤ d then (c, σ) else (l_X9_write_51 n a b c (d + 1) (mst σ 3 (((60 * b) + d).toNatClampNeg) (f_X9_cut σ (σ 1 (b.toNatClampNeg)) (σ 12 (((2 * d) + a).toNatClampNeg)))))
def bl_X9_write_51 : Nat → Int32 → Int32 → Int32 → Int32 → Mem → Prop
  | 0, _, _, _, _, _ => False
  | n + 1, a, b, c, d, σ => if c ≤ d then True else (vp_in b 4) ∧ ((vp_in ((2 * d) + a) 80) ∧ ((vp_in ((60 * b) + d) 240) ∧ ((bl_X9_write_51 n a b c (d + 1) (mst σ 3 (((60 * b) + d).toNatClampNeg) (f_X9_cut σ (σ 1 (b.toNatClampNeg)) (σ 12 (((2 * d) + a).toNatClampNeg))))))))
theorem lt_X9_write_51 (X : Amb) : ∀ (n : Nat) (a : Int32) (b : Int32) (c : Int32) (d : Int32) (σ : Mem), bl_X9_write_51 n a b c d σ → WP X mX9_write 51 [(0, .ref (adr X 0)), (1, .int a), (2, .int b), (3, .int c), (4, .int d)] [] σ (fun v σ' => v = some (.int (l_X9_write_51 n a b c d σ).1) ∧ σ' = (l_X9_write_51 n a b c d σ).2) := by
  intro n
  induction n with
  | zero => intro a b c d σ hb; exact hb.elim
  | succ n ih =>
    intro a b c d σ hb
    rw [bl_X9_write_51] at hb
    refine wp_iload dX9_write_51 4 rfl ?_
    refine wp_iload_n dX9_write_53 3 rfl ?_
    refine wp_icmp_ge 95 dX9_write_54 (by decide) (fun c54_1 => ?_) (fun c54_1 => ?_)
    · rw [if_pos c54_1] at hb
      refine wp_iload_n dX9_write_95 3 rfl ?_
      refine wp_ireturn dX9_write_96 rfl ?_
      exact ⟨by rw [l_X9_write_51, if_pos c54_1], by rw [l_X9_write_51, if_pos c54_1]⟩
    · rw [if_neg c54_1] at hb
      refine wp_aload_n dX9_write_57 0 rfl ?_
      refine wp_getR dX9_write_58 faX9_16 rfl rfl ?_
      refine wp_bipush dX9_write_61 bp_60 ?_
      refine wp_iload_n dX9_write_63 2 rfl ?_
      refine wp_imul dX9_write_64 ?_
      refine wp_iload dX9_write_65 4 rfl ?_
      refine wp_iadd dX9_write_67 ?_
      refine wp_aload_n dX9_write_68 0 rfl ?_
      refine wp_getR dX9_write_69 faX9_7 rfl rfl ?_
      refine wp_iload_n dX9_write_72 2 rfl ?_
      obtain ⟨x2, hb⟩ := hb
      refine wp_iald dX9_write_73 rfl x2 ?_
      refine wp_aload_n dX9_write_74 0 rfl ?_
      refine wp_getR dX9_write_75 faX9_44 rfl rfl ?_
      refine wp_iconst dX9_write_78 ic_2 ?_
      refine wp_iload dX9_write_79 4 rfl ?_
      refine wp_imul dX9_write_81 ?_
      refine wp_iload_n dX9_write_82 1 rfl ?_
      refine wp_iadd dX9_write_83 ?_
      obtain ⟨x3, hb⟩ := hb
      refine wp_iald dX9_write_84 rfl x3 ?_
      refine wp_cS2w (N := mX9_cut) dX9_write_85 tmX9_101 okX9_cut rfl rfl rfl rfl (s_X9_cut X _ _ _) ?_
      obtain ⟨x4, hb⟩ := hb
      refine wp_iast dX9_write_88 rfl x4 ?_
      refine wp_iinc (L' := [(4, _), (0, _), (1, _), (2, _), (3, _)]) dX9_write_89 rfl 4 rfl (ii_1 _) rfl ?_
      refine wp_goto 51 dX9_write_92 (by decide) ?_
      refine wp_drop [1, 2, 3, 4, 0] rfl ?_
      rw [show l_X9_write_51 (n + 1) a b c d σ = (l_X9_write_51 n a b c (d + 1) (mst σ 3 (((60 * b) + d).toNatClampNeg) (f_X9_cut σ (σ 1 (b.toNatClampNeg)) (σ 12 (((2 * d) + a).toNatClampNeg))))) from by rw [l_X9_write_51, if_neg c54_1]]
      exact ih _ _ _ _ _ hb
def f_X9_write (σ : Mem) (a : Int32) (b : Int32) : Int32 × Mem := if (f_X9_isTwo σ a) = 0 then ((-2), σ) else if (f_X9_isSheet σ b) = 0 then ((-2), σ) else if 0 ≤ (σ 1 (b.toNatClampNeg)) then (l_X9_write_51 (fu 41) a b (f_X9_lesser (f_X9_lives σ) ((f_X9_lives σ) 2 (b.toNatClampNeg)) 40) 0 (f_X9_lives σ)) else ((f_X9_met σ 1).1, (f_X9_met σ 1).2)
def b_X9_write (σ : Mem) (a : Int32) (b : Int32) : Prop := if (f_X9_isTwo σ a) = 0 then True else if (f_X9_isSheet σ b) = 0 then True else (vp_in b 4) ∧ (if 0 ≤ (σ 1 (b.toNatClampNeg)) then (b_X9_lives σ) ∧ ((vp_in b 4) ∧ ((bl_X9_write_51 (fu 41) a b (f_X9_lesser (f_X9_lives σ) ((f_X9_lives σ) 2 (b.toNatClampNeg)) 40) 0 (f_X9_lives σ)))) else True)
theorem s_X9_write (X : Amb) (σ : Mem) (a : Int32) (b : Int32) (hb : b_X9_write σ a b) : SpW X mX9_write [.ref (adr X 0), .int a, .int b] σ (.int (f_X9_write σ a b).1) (f_X9_write σ a b).2 := by
  unfold b_X9_write at hb
  refine sp_of (by decide +kernel) rfl ?_
  show WP X mX9_write 0 [(0, .ref (adr X 0)), (1, .int a), (2, .int b)] [] σ _
  refine wp_iload_n dX9_write_0 1 rfl ?_
  refine wp_cS1w (N := mX9_isTwo) dX9_write_1 tmX9_105 okX9_isTwo rfl rfl rfl rfl (s_X9_isTwo X _ _) ?_
  refine wp_if_eq 14 dX9_write_4 (by decide) (fun c4_1 => ?_) (fun c4_1 => ?_)
  · rw [if_pos c4_1] at hb
    refine wp_bipush dX9_write_14 bp_m2 ?_
    refine wp_ireturn dX9_write_16 rfl ?_
    exact ⟨by unfold f_X9_write; rw [if_pos c4_1], by unfold f_X9_write; rw [if_pos c4_1]⟩
  · rw [if_neg c4_1] at hb
    refine wp_iload_n dX9_write_7 2 rfl ?_
    refine wp_cS1w (N := mX9_isSheet) dX9_write_8 tmX9_87 okX9_isSheet rfl rfl rfl rfl (s_X9_isSheet X _ _) ?_
    refine wp_if_ne 17 dX9_write_11 (by decide) (fun c11_2 => ?_) (fun c11_2 => ?_)
    · rw [if_neg c11_2] at hb
      refine wp_aload_n dX9_write_17 0 rfl ?_
      refine wp_getR dX9_write_18 faX9_7 rfl rfl ?_
      refine wp_iload_n dX9_write_21 2 rfl ?_
      obtain ⟨x3, hb⟩ := hb
      refine wp_iald dX9_write_22 rfl x3 ?_
      refine wp_if_ge 32 dX9_write_23 (by decide) (fun c23_4 => ?_) (fun c23_4 => ?_)
      · rw [if_pos c23_4] at hb
        refine wp_aload_n dX9_write_32 0 rfl ?_
        obtain ⟨x5, hb⟩ := hb
        refine wp_cV0v (N := mX9_lives) dX9_write_33 tmX9_152 okX9_lives rfl rfl rfl rfl rfl rfl rfl rfl (s_X9_lives X _ x5) ?_
        refine wp_aload_n dX9_write_36 0 rfl ?_
        refine wp_getR dX9_write_37 faX9_13 rfl rfl ?_
        refine wp_iload_n dX9_write_40 2 rfl ?_
        obtain ⟨x6, hb⟩ := hb
        refine wp_iald dX9_write_41 rfl x6 ?_
        refine wp_bipush dX9_write_42 bp_40 ?_
        refine wp_cS2w (N := mX9_lesser) dX9_write_44 tmX9_77 okX9_lesser rfl rfl rfl rfl (s_X9_lesser X _ _ _) ?_
        refine wp_istore_n (L' := [(3, _), (0, _), (1, _), (2, _)]) dX9_write_47 rfl rfl ?_
        refine wp_iconst dX9_write_48 ic_0 ?_
        refine wp_istore (L' := [(4, _), (3, _), (0, _), (1, _), (2, _)]) dX9_write_49 rfl rfl ?_
        refine wp_drop [2, 3, 4, 1, 0] rfl ?_
        rw [show f_X9_write σ a b = (l_X9_write_51 (fu 41) a b (f_X9_lesser (f_X9_lives σ) ((f_X9_lives σ) 2 (b.toNatClampNeg)) 40) 0 (f_X9_lives σ)) from by unfold f_X9_write; rw [if_neg c4_1, if_neg c11_2, if_pos c23_4]]
        exact lt_X9_write_51 X (fu 41) a b (f_X9_lesser (f_X9_lives σ) ((f_X9_lives σ) 2 (b.toNatClampNeg)) 40) 0 (f_X9_lives σ) hb
      · rw [if_neg c23_4] at hb
        refine wp_aload_n dX9_write_26 0 rfl ?_
        refine wp_iconst dX9_write_27 ic_1 ?_
        refine wp_cV1w (N := mX9_met) dX9_write_28 tmX9_93 okX9_met rfl rfl rfl rfl rfl rfl rfl rfl (s_X9_met X _ _) ?_
        refine wp_ireturn dX9_write_31 rfl ?_
        exact ⟨by unfold f_X9_write; rw [if_neg c4_1, if_neg c11_2, if_neg c23_4], by unfold f_X9_write; rw [if_neg c4_1, if_neg c11_2, if_neg c23_4]⟩
    · rw [if_pos c11_2] at hb
      refine wp_bipush dX9_write_14 bp_m2 ?_
      refine wp_ireturn dX9_write_16 rfl ?_
      exact ⟨by unfold f_X9_write; rw [if_neg c4_1, if_pos c11_2], by unfold f_X9_write; rw [if_neg c4_1, if_pos c11_2]⟩
end
