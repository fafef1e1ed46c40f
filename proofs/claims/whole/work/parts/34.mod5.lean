noncomputable section
def l_X9_isTorn_5 : Nat → Int32 → Int32 → Int32 → Int32 → Mem → Int32
  | 0, _, _, _, _, σ => 0
  | n + 1, a, b, c, d, σ => if (σ 0 7) < d then c else if (σ 0 7) ≤ 0 then c else if c = 0 then if (f_X9_strainBy σ a b d) ≤ ((σ 11 ((0 : Int32).toNatClampNeg)) * (σ 0 9)) then (l_X9_isTorn_5 n a b 0 (d + 1) σ) else (l_X9_isTorn_5 n a b 1 (d + 1) σ) else (l_X9_isTorn_5 n a b 1 (d + 1) σ)
def bl_X9_isTorn_5 : Nat → Int32 → Int32 → Int32 → Int32 → Mem → Prop
  | 0, _, _, _, _, _ => False
  | n + 1, a, b, c, d, σ => if (σ 0 7) < d then (c = 0 ∨ c = 1) ∧ (True) else if (σ 0 7) ≤ 0 then (c = 0 ∨ c = 1) ∧ (True) else if c = 0 then (b_X9_strainBy σ a b d) ∧ (if (f_X9_strainBy σ a b d) ≤ ((σ 11 ((0 : Int32).toNatClampNeg)) * (σ 0 9)) then (bl_X9_isTorn_5 n a b 0 (d + 1) σ) else (bl_X9_isTorn_5 n a b 1 (d + 1) σ)) else (bl_X9_isTorn_5 n a b 1 (d + 1) σ)
theorem lt_X9_isTorn_5 (X : Amb) : ∀ (n : Nat) (a : Int32) (b : Int32) (c : Int32) (d : Int32) (σ : Mem), bl_X9_isTorn_5 n a b c d σ → WP X mX9_isTorn 5 [(0, .ref (adr X 0)), (1, .int a), (2, .int b), (3, .int c), (4, .int d)] [] σ (fun v σ' => v = some (.int (l_X9_isTorn_5 n a b c d σ)) ∧ σ' = σ) := by
  intro n
  induction n with
  | zero => intro a b c d σ hb; exact hb.elim
  | succ n ih =>
    intro a b c d σ hb
    rw [bl_X9_isTorn_5] at hb
    refine wp_iload dX9_isTorn_5 4 rfl ?_
    refine wp_aload_n dX9_isTorn_7 0 rfl ?_
    refine wp_getI dX9_isTorn_8 faX9_110 rfl rfl ?_
    refine wp_icmp_gt 59 dX9_isTorn_11 (by decide) (fun c11_1 => ?_) (fun c11_1 => ?_)
    · rw [if_pos c11_1] at hb
      refine wp_iload_n dX9_isTorn_59 3 rfl ?_
      obtain ⟨x2, hb⟩ := hb
      refine wp_zreturn dX9_isTorn_60 rfl x2 ?_
      exact ⟨by rw [l_X9_isTorn_5, if_pos c11_1], rfl⟩
    · rw [if_neg c11_1] at hb
      refine wp_aload_n dX9_isTorn_14 0 rfl ?_
      refine wp_getI dX9_isTorn_15 faX9_110 rfl rfl ?_
      refine wp_if_le 59 dX9_isTorn_18 (by decide) (fun c18_3 => ?_) (fun c18_3 => ?_)
      · rw [if_pos c18_3] at hb
        refine wp_iload_n dX9_isTorn_59 3 rfl ?_
        obtain ⟨x4, hb⟩ := hb
        refine wp_zreturn dX9_isTorn_60 rfl x4 ?_
        exact ⟨by rw [l_X9_isTorn_5, if_neg c11_1, if_pos c18_3], rfl⟩
      · rw [if_neg c18_3] at hb
        refine wp_iload_n dX9_isTorn_21 3 rfl ?_
        refine wp_if_ne 47 dX9_isTorn_22 (by decide) (fun c22_5 => ?_) (fun c22_5 => ?_)
        · rw [if_neg c22_5] at hb
          refine wp_iconst dX9_isTorn_47 ic_1 ?_
          refine wp_goto 52 dX9_isTorn_48 (by decide) ?_
          refine wp_istore_n (L' := [(3, _), (0, _), (1, _), (2, _), (4, _)]) dX9_isTorn_52 rfl rfl ?_
          refine wp_iinc (L' := [(4, _), (3, _), (0, _), (1, _), (2, _)]) dX9_isTorn_53 rfl 4 rfl (ii_1 _) rfl ?_
          refine wp_goto 5 dX9_isTorn_56 (by decide) ?_
          refine wp_drop [2, 3, 4, 1, 0] rfl ?_
          rw [show l_X9_isTorn_5 (n + 1) a b c d σ = (l_X9_isTorn_5 n a b 1 (d + 1) σ) from by rw [l_X9_isTorn_5, if_neg c11_1, if_neg c18_3, if_neg c22_5]]
          exact ih _ _ _ _ _ hb
        · rw [if_pos c22_5] at hb
          refine wp_aload_n dX9_isTorn_25 0 rfl ?_
          refine wp_iload_n dX9_isTorn_26 1 rfl ?_
          refine wp_iload_n dX9_isTorn_27 2 rfl ?_
          refine wp_iload dX9_isTorn_28 4 rfl ?_
          obtain ⟨x6, hb⟩ := hb
          refine wp_cV3w (N := mX9_strainBy) dX9_isTorn_30 tmX9_167 okX9_strainBy rfl rfl rfl rfl rfl rfl rfl rfl (s_X9_strainBy X _ _ _ _ x6) ?_
          refine wp_aload_n dX9_isTorn_33 0 rfl ?_
          refine wp_getR dX9_isTorn_34 faX9_41 rfl rfl ?_
          refine wp_iconst dX9_isTorn_37 ic_0 ?_
          refine wp_iald dX9_isTorn_38 rfl (vlit 0 5 (by decide)) ?_
          refine wp_aload_n dX9_isTorn_39 0 rfl ?_
          refine wp_getI dX9_isTorn_40 faX9_113 rfl rfl ?_
          refine wp_imul dX9_isTorn_43 ?_
          refine wp_icmp_le 51 dX9_isTorn_44 (by decide) (fun c44_7 => ?_) (fun c44_7 => ?_)
          · rw [if_pos c44_7] at hb
            refine wp_iconst dX9_isTorn_51 ic_0 ?_
            refine wp_istore_n (L' := [(3, _), (0, _), (1, _), (2, _), (4, _)]) dX9_isTorn_52 rfl rfl ?_
            refine wp_iinc (L' := [(4, _), (3, _), (0, _), (1, _), (2, _)]) dX9_isTorn_53 rfl 4 rfl (ii_1 _) rfl ?_
            refine wp_goto 5 dX9_isTorn_56 (by decide) ?_
            refine wp_drop [2, 3, 4, 1, 0] rfl ?_
            rw [show l_X9_isTorn_5 (n + 1) a b c d σ = (l_X9_isTorn_5 n a b 0 (d + 1) σ) from by rw [l_X9_isTorn_5, if_neg c11_1, if_neg c18_3, if_pos c22_5, if_pos c44_7]]
            exact ih _ _ _ _ _ hb
          · rw [if_neg c44_7] at hb
            refine wp_iconst dX9_isTorn_47 ic_1 ?_
            refine wp_goto 52 dX9_isTorn_48 (by decide) ?_
            refine wp_istore_n (L' := [(3, _), (0, _), (1, _), (2, _), (4, _)]) dX9_isTorn_52 rfl rfl ?_
            refine wp_iinc (L' := [(4, _), (3, _), (0, _), (1, _), (2, _)]) dX9_isTorn_53 rfl 4 rfl (ii_1 _) rfl ?_
            refine wp_goto 5 dX9_isTorn_56 (by decide) ?_
            refine wp_drop [2, 3, 4, 1, 0] rfl ?_
            rw [show l_X9_isTorn_5 (n + 1) a b c d σ = (l_X9_isTorn_5 n a b 1 (d + 1) σ) from by rw [l_X9_isTorn_5, if_neg c11_1, if_neg c18_3, if_pos c22_5, if_neg c44_7]]
            exact ih _ _ _ _ _ hb
def f_X9_isTorn (σ : Mem) (a : Int32) (b : Int32) : Int32 := (l_X9_isTorn_5 (fu 14) a b 0 0 σ)
def b_X9_isTorn (σ : Mem) (a : Int32) (b : Int32) : Prop := (bl_X9_isTorn_5 (fu 14) a b 0 0 σ)
theorem s_X9_isTorn (X : Amb) (σ : Mem) (a : Int32) (b : Int32) (hb : b_X9_isTorn σ a b) : SpW X mX9_isTorn [.ref (adr X 0), .int a, .int b] σ (.int (f_X9_isTorn σ a b)) σ := by
  unfold b_X9_isTorn at hb
  refine sp_of (by decide +kernel) rfl ?_
  show WP X mX9_isTorn 0 [(0, .ref (adr X 0)), (1, .int a), (2, .int b)] [] σ _
  refine wp_iconst dX9_isTorn_0 ic_0 ?_
  refine wp_istore_n (L' := [(3, _), (0, _), (1, _), (2, _)]) dX9_isTorn_1 rfl rfl ?_
  refine wp_iconst dX9_isTorn_2 ic_0 ?_
  refine wp_istore (L' := [(4, _), (3, _), (0, _), (1, _), (2, _)]) dX9_isTorn_3 rfl rfl ?_
  refine wp_drop [2, 3, 4, 1, 0] rfl ?_
  rw [show f_X9_isTorn σ a b = (l_X9_isTorn_5 (fu 14) a b 0 0 σ) from rfl]
  exact lt_X9_isTorn_5 X (fu 14) a b 0 0 σ hb
def l_X9_tornNow_2 : Nat → Int32 → Mem → Int32
  | 0, _, σ => 0
  | n + 1, a, σ => if 40 ≤ a then (-1) else if (f_X9_isTorn σ (σ 12 ((2 * a).toNatClampNeg)) (σ 12 (((2 * a) + 1).toNatClampNeg))) = 0 then (l_X9_tornNow_2 n (a + 1) σ) else a
def bl_X9_tornNow_2 : Nat → Int32 → Mem → Prop
  | 0, _, _ => False
  | n + 1, a, σ => if 40 ≤ a then True else (vp_in (2 * a) 80) ∧ ((vp_in ((2 * a) + 1) 80) ∧ ((b_X9_isTorn σ (σ 12 ((2 * a).toNatClampNeg)) (σ 12 (((2 * a) + 1).toNatClampNeg))) ∧ (if (f_X9_isTorn σ (σ 12 ((2 * a).toNatClampNeg)) (σ 12 (((2 * a) + 1).toNatClampNeg))) = 0 then (bl_X9_tornNow_2 n (a + 1) σ) else True)))
theorem lt_X9_tornNow_2 (X : Amb) : ∀ (n : Nat) (a : Int32) (σ : Mem), bl_X9_tornNow_2 n a σ → WP X mX9_tornNow 2 [(0, .ref (adr X 0)), (1, .int a)] [] σ (fun v σ' => v = some (.int (l_X9_tornNow_2 n a σ)) ∧ σ' = σ) := by
  intro n
  induction n with
  | zero => intro a σ hb; exact hb.elim
  | succ n ih =>
    intro a σ hb
    rw [bl_X9_tornNow_2] at hb
    refine wp_iload_n dX9_tornNow_2 1 rfl ?_
    refine wp_bipush dX9_tornNow_3 bp_40 ?_
    refine wp_icmp_ge 41 dX9_tornNow_5 (by decide) (fun c5_1 => ?_) (fun c5_1 => ?_)
    · rw [if_pos c5_1] at hb
      refine wp_iconst dX9_tornNow_41 ic_m1 ?_
      refine wp_ireturn dX9_tornNow_42 rfl ?_
      exact ⟨by rw [l_X9_tornNow_2, if_pos c5_1], rfl⟩
    · rw [if_neg c5_1] at hb
      refine wp_aload_n dX9_tornNow_8 0 rfl ?_
      refine wp_aload_n dX9_tornNow_9 0 rfl ?_
      refine wp_getR dX9_tornNow_10 faX9_44 rfl rfl ?_
      refine wp_iconst dX9_tornNow_13 ic_2 ?_
      refine wp_iload_n dX9_tornNow_14 1 rfl ?_
      refine wp_imul dX9_tornNow_15 ?_
      obtain ⟨x2, hb⟩ := hb
      refine wp_iald dX9_tornNow_16 rfl x2 ?_
      refine wp_aload_n dX9_tornNow_17 0 rfl ?_
      refine wp_getR dX9_tornNow_18 faX9_44 rfl rfl ?_
      refine wp_iconst dX9_tornNow_21 ic_2 ?_
      refine wp_iload_n dX9_tornNow_22 1 rfl ?_
      refine wp_imul dX9_tornNow_23 ?_
      refine wp_iconst dX9_tornNow_24 ic_1 ?_
      refine wp_iadd dX9_tornNow_25 ?_
      obtain ⟨x3, hb⟩ := hb
      refine wp_iald dX9_tornNow_26 rfl x3 ?_
      obtain ⟨x4, hb⟩ := hb
      refine wp_cV2w (N := mX9_isTorn) dX9_tornNow_27 tmX9_184 okX9_isTorn rfl rfl rfl rfl rfl rfl rfl rfl (s_X9_isTorn X _ _ _ x4) ?_
      refine wp_if_eq 35 dX9_tornNow_30 (by decide) (fun c30_5 => ?_) (fun c30_5 => ?_)
      · rw [if_pos c30_5] at hb
        refine wp_iinc (L' := [(1, _), (0, _)]) dX9_tornNow_35 rfl 1 rfl (ii_1 _) rfl ?_
        refine wp_goto 2 dX9_tornNow_38 (by decide) ?_
        refine wp_drop [1, 0] rfl ?_
        rw [show l_X9_tornNow_2 (n + 1) a σ = (l_X9_tornNow_2 n (a + 1) σ) from by rw [l_X9_tornNow_2, if_neg c5_1, if_pos c30_5]]
        exact ih _ _ hb
      · rw [if_neg c30_5] at hb
        refine wp_iload_n dX9_tornNow_33 1 rfl ?_
        refine wp_ireturn dX9_tornNow_34 rfl ?_
        exact ⟨by rw [l_X9_tornNow_2, if_neg c5_1, if_neg c30_5], rfl⟩
def f_X9_tornNow (σ : Mem) : Int32 := (l_X9_tornNow_2 (fu 41) 0 σ)
def b_X9_tornNow (σ : Mem) : Prop := (bl_X9_tornNow_2 (fu 41) 0 σ)
theorem s_X9_tornNow (X : Amb) (σ : Mem) (hb : b_X9_tornNow σ) : SpW X mX9_tornNow [.ref (adr X 0)] σ (.int (f_X9_tornNow σ)) σ := by
  unfold b_X9_tornNow at hb
  refine sp_of (by decide +kernel) rfl ?_
  show WP X mX9_tornNow 0 [(0, .ref (adr X 0))] [] σ _
  refine wp_iconst dX9_tornNow_0 ic_0 ?_
  refine wp_istore_n (L' := [(1, _), (0, _)]) dX9_tornNow_1 rfl rfl ?_
  refine wp_drop [1, 0] rfl ?_
  rw [show f_X9_tornNow σ = (l_X9_tornNow_2 (fu 41) 0 σ) from rfl]
  exact lt_X9_tornNow_2 X (fu 41) 0 σ hb
def f_X9_torn (σ : Mem) : Int32 × Mem := ((f_X9_tornNow (f_X9_lives σ)), (f_X9_lives σ))
def b_X9_torn (σ : Mem) : Prop := (b_X9_lives σ) ∧ ((b_X9_tornNow (f_X9_lives σ)) ∧ (True))
theorem s_X9_torn (X : Amb) (σ : Mem) (hb : b_X9_torn σ) : SpW X mX9_torn [.ref (adr X 0)] σ (.int (f_X9_torn σ).1) (f_X9_torn σ).2 := by
  unfold b_X9_torn at hb
  refine sp_of (by decide +kernel) rfl ?_
  show WP X mX9_torn 0 [(0, .ref (adr X 0))] [] σ _
  refine wp_aload_n dX9_torn_0 0 rfl ?_
  obtain ⟨x1, hb⟩ := hb
  refine wp_cV0v (N := mX9_lives) dX9_torn_1 tmX9_152 okX9_lives rfl rfl rfl rfl rfl rfl rfl rfl (s_X9_lives X _ x1) ?_
  refine wp_aload_n dX9_torn_4 0 rfl ?_
  obtain ⟨x2, hb⟩ := hb
  refine wp_cV0w (N := mX9_tornNow) dX9_torn_5 tmX9_188 okX9_tornNow rfl rfl rfl rfl rfl rfl rfl rfl (s_X9_tornNow X _ x2) ?_
  refine wp_ireturn dX9_torn_8 rfl ?_
  exact ⟨rfl, rfl⟩
def l_X9_squeezedOff_2 : Nat → Int32 → Int32 → Int32 → Mem → Int32
  | 0, _, _, _, σ => 0
  | n + 1, a, b, c, σ => if (σ 0 7) ≤ c then (-1) else if (-(f_X9_strainBy σ a b c)) ≤ (((σ 11 ((1 : Int32).toNatClampNeg)) * (σ 7 (c.toNatClampNeg))) * (σ 0 9)) then (l_X9_squeezedOff_2 n a b (c + 1) σ) else if (-(f_X9_strainBy σ a b (c + 1))) ≤ (((σ 11 ((1 : Int32).toNatClampNeg)) * (σ 7 (c.toNatClampNeg))) * (σ 0 9)) then (l_X9_squeezedOff_2 n a b (c + 1) σ) else c
def bl_X9_squeezedOff_2 : Nat → Int32 → Int32 → Int32 → Mem → Prop
  | 0, _, _, _, _ => False
  | n + 1, a, b, c, σ => if (σ 0 7) ≤ c then True else (vp_in c 12) ∧ ((b_X9_strainBy σ a b c) ∧ (if (-(f_X9_strainBy σ a b c)) ≤ (((σ 11 ((1 : Int32).toNatClampNeg)) * (σ 7 (c.toNatClampNeg))) * (σ 0 9)) then (bl_X9_squeezedOff_2 n a b (c + 1) σ) else (b_X9_strainBy σ a b (c + 1)) ∧ (if (-(f_X9_strainBy σ a b (c + 1))) ≤ (((σ 11 ((1 : Int32).toNatClampNeg)) * (σ 7 (c.toNatClampNeg))) * (σ 0 9)) then (bl_X9_squeezedOff_2 n a b (c + 1) σ) else True)))
theorem lt_X9_squeezedOff_2 (X : Amb) : ∀ (n : Nat) (a : Int32) (b : Int32) (c : Int32) (σ : Mem), bl_X9_squeezedOff_2 n a b c σ → WP X mX9_squeezedOff 2 [(0, .ref (adr X 0)), (1, .int a), (2, .int b), (3, .int c)] [] σ (fun v σ' => v = some (.int (l_X9_squeezedOff_2 n a b c σ)) ∧ σ' = σ) := by
  intro n
  induction n with
  | zero => intro a b c σ hb; exact hb.elim
  | succ n ih =>
    intro a b c σ hb
    rw [bl_X9_squeezedOff_2] at hb
    refine wp_iload_n dX9_squeezedOff_2 3 rfl ?_
    refine wp_aload_n dX9_squeezedOff_3 0 rfl ?_
    refine wp_getI dX9_squeezedOff_4 faX9_110 rfl rfl ?_
    refine wp_icmp_ge 66 dX9_squeezedOff_7 (by decide) (fun c7_1 => ?_) (fun c7_1 => ?_)
    · rw [if_pos c7_1] at hb
      refine wp_iconst dX9_squeezedOff_66 ic_m1 ?_
      refine wp_ireturn dX9_squeezedOff_67 rfl ?_
      exact ⟨by rw [l_X9_squeezedOff_2, if_pos c7_1], rfl⟩
    · rw [if_neg c7_1] at hb
      refine wp_aload_n dX9_squeezedOff_10 0 rfl ?_
      refine wp_getR dX9_squeezedOff_11 faX9_41 rfl rfl ?_
      refine wp_iconst dX9_squeezedOff_14 ic_1 ?_
      refine wp_iald dX9_squeezedOff_15 rfl (vlit 1 5 (by decide)) ?_
      refine wp_aload_n dX9_squeezedOff_16 0 rfl ?_
      refine wp_getR dX9_squeezedOff_17 faX9_28 rfl rfl ?_
      refine wp_iload_n dX9_squeezedOff_20 3 rfl ?_
      obtain ⟨x2, hb⟩ := hb
      refine wp_iald dX9_squeezedOff_21 rfl x2 ?_
      refine wp_imul dX9_squeezedOff_22 ?_
      refine wp_aload_n dX9_squeezedOff_23 0 rfl ?_
      refine wp_getI dX9_squeezedOff_24 faX9_113 rfl rfl ?_
      refine wp_imul dX9_squeezedOff_27 ?_
      refine wp_istore (L' := [(4, _), (0, _), (1, _), (2, _), (3, _)]) dX9_squeezedOff_28 rfl rfl ?_
      refine wp_aload_n dX9_squeezedOff_30 1 rfl ?_
      refine wp_iload_n dX9_squeezedOff_31 2 rfl ?_
      refine wp_iload_n dX9_squeezedOff_32 3 rfl ?_
      refine wp_iload_n dX9_squeezedOff_33 4 rfl ?_
      obtain ⟨x3, hb⟩ := hb
      refine wp_cV3w (N := mX9_strainBy) dX9_squeezedOff_34 tmX9_167 okX9_strainBy rfl rfl rfl rfl rfl rfl rfl rfl (s_X9_strainBy X _ _ _ _ x3) ?_
      refine wp_ineg dX9_squeezedOff_37 ?_
      refine wp_iload dX9_squeezedOff_38 0 rfl ?_
      refine wp_icmp_le 60 dX9_squeezedOff_40 (by decide) (fun c40_4 => ?_) (fun c40_4 => ?_)
      · rw [if_pos c40_4] at hb
        refine wp_iinc (L' := [(3, _), (4, _), (0, _), (1, _), (2, _)]) dX9_squeezedOff_60 rfl 4 rfl (ii_1 _) rfl ?_
        refine wp_goto 2 dX9_squeezedOff_63 (by decide) ?_
        refine wp_drop [2, 3, 4, 0] rfl ?_
        rw [show l_X9_squeezedOff_2 (n + 1) a b c σ = (l_X9_squeezedOff_2 n a b (c + 1) σ) from by rw [l_X9_squeezedOff_2, if_neg c7_1, if_pos c40_4]]
        exact ih _ _ _ _ hb
      · rw [if_neg c40_4] at hb
        refine wp_aload_n dX9_squeezedOff_43 1 rfl ?_
        refine wp_iload_n dX9_squeezedOff_44 2 rfl ?_
        refine wp_iload_n dX9_squeezedOff_45 3 rfl ?_
        refine wp_iload_n dX9_squeezedOff_46 4 rfl ?_
        refine wp_iconst dX9_squeezedOff_47 ic_1 ?_
        refine wp_iadd dX9_squeezedOff_48 ?_
        obtain ⟨x5, hb⟩ := hb
        refine wp_cV3w (N := mX9_strainBy) dX9_squeezedOff_49 tmX9_167 okX9_strainBy rfl rfl rfl rfl rfl rfl rfl rfl (s_X9_strainBy X _ _ _ _ x5) ?_
        refine wp_ineg dX9_squeezedOff_52 ?_
        refine wp_iload dX9_squeezedOff_53 0 rfl ?_
        refine wp_icmp_le 60 dX9_squeezedOff_55 (by decide) (fun c55_6 => ?_) (fun c55_6 => ?_)
        · rw [if_pos c55_6] at hb
          refine wp_iinc (L' := [(3, _), (4, _), (0, _), (1, _), (2, _)]) dX9_squeezedOff_60 rfl 4 rfl (ii_1 _) rfl ?_
          refine wp_goto 2 dX9_squeezedOff_63 (by decide) ?_
          refine wp_drop [2, 3, 4, 0] rfl ?_
          rw [show l_X9_squeezedOff_2 (n + 1) a b c σ = (l_X9_squeezedOff_2 n a b (c + 1) σ) from by rw [l_X9_squeezedOff_2, if_neg c7_1, if_neg c40_4, if_pos c55_6]]
          exact ih _ _ _ _ hb
        · rw [if_neg c55_6] at hb
          refine wp_iload_n dX9_squeezedOff_58 4 rfl ?_
          refine wp_ireturn dX9_squeezedOff_59 rfl ?_
          exact ⟨by rw [l_X9_squeezedOff_2, if_neg c7_1, if_neg c40_4, if_neg c55_6], rfl⟩
def f_X9_squeezedOff (σ : Mem) (a : Int32) (b : Int32) : Int32 := (l_X9_squeezedOff_2 (fu 13) a b 0 σ)
def b_X9_squeezedOff (σ : Mem) (a : Int32) (b : Int32) : Prop := (bl_X9_squeezedOff_2 (fu 13) a b 0 σ)
theorem s_X9_squeezedOff (X : Amb) (σ : Mem) (a : Int32) (b : Int32) (hb : b_X9_squeezedOff σ a b) : SpW X mX9_squeezedOff [.ref (adr X 0), .int a, .int b] σ (.int (f_X9_squeezedOff σ a b)) σ := by
  unfold b_X9_squeezedOff at hb
  refine sp_of (by decide +kernel) rfl ?_
  show WP X mX9_squeezedOff 0 [(0, .ref (adr X 0)), (1, .int a), (2, .int b)] [] σ _
  refine wp_iconst dX9_squeezedOff_0 ic_0 ?_
  refine wp_istore_n (L' := [(3, _), (0, _), (1, _), (2, _)]) dX9_squeezedOff_1 rfl rfl ?_
  refine wp_drop [1, 2, 3, 0] rfl ?_
  rw [show f_X9_squeezedOff σ a b = (l_X9_squeezedOff_2 (fu 13) a b 0 σ) from rfl]
  exact lt_X9_squeezedOff_2 X (fu 13) a b 0 σ hb
def l_X9_offOf_2 : Nat → Int32 → Int32 → Mem → Int32
  | 0, _, _, σ => 0
  | n + 1, a, b, σ => if 40 ≤ b then (-1) else if (f_X9_placeAt σ b) = (-1) then (l_X9_offOf_2 n a (b + 1) σ) else if (σ 9 ((f_X9_placeAt σ b).toNatClampNeg)) = 0 then (l_X9_offOf_2 n a (b + 1) σ) else if (f_X9_squeezedOff σ (σ 12 ((2 * b).toNatClampNeg)) (σ 12 (((2 * b) + 1).toNatClampNeg))) = (-1) then (l_X9_offOf_2 n a (b + 1) σ) else if a = 0 then b else (f_X9_squeezedOff σ (σ 12 ((2 * b).toNatClampNeg)) (σ 12 (((2 * b) + 1).toNatClampNeg)))
def bl_X9_offOf_2 : Nat → Int32 → Int32 → Mem → Prop
  | 0, _, _, _ => False
  | n + 1, a, b, σ => if 40 ≤ b then True else (b_X9_placeAt σ b) ∧ (if (f_X9_placeAt σ b) = (-1) then (bl_X9_offOf_2 n a (b + 1) σ) else (vp_in (f_X9_placeAt σ b) 16) ∧ (if (σ 9 ((f_X9_placeAt σ b).toNatClampNeg)) = 0 then (bl_X9_offOf_2 n a (b + 1) σ) else (vp_in (2 * b) 80) ∧ ((vp_in ((2 * b) + 1) 80) ∧ ((b_X9_squeezedOff σ (σ 12 ((2 * b).toNatClampNeg)) (σ 12 (((2 * b) + 1).toNatClampNeg))) ∧ (if (f_X9_squeezedOff σ (σ 12 ((2 * b).toNatClampNeg)) (σ 12 (((2 * b) + 1).toNatClampNeg))) = (-1) then (bl_X9_offOf_2 n a (b + 1) σ) else if a = 0 then True else True)))))
theorem lt_X9_offOf_2 (X : Amb) : ∀ (n : Nat) (a : Int32) (b : Int32) (σ : Mem), bl_X9_offOf_2 n a b σ → WP X mX9_offOf 2 [(0, .ref (adr X 0)), (1, .int a), (2, .int b)] [] σ (fun v σ' => v = some (.int (l_X9_offOf_2 n a b σ)) ∧ σ' = σ) := by
  intro n
  induction n with
  | zero => intro a b σ hb; exact hb.elim
  | succ n ih =>
    intro a b σ hb
    rw [bl_X9_offOf_2] at hb
    refine wp_iload_n dX9_offOf_2 2 rfl ?_
    refine wp_bipush dX9_offOf_3 bp_40 ?_
    refine wp_icmp_ge 79 dX9_offOf_5 (by decide) (fun c5_1 => ?_) (fun c5_1 => ?_)
    · rw [if_pos c5_1] at hb
      refine wp_iconst dX9_offOf_79 ic_m1 ?_
      refine wp_ireturn dX9_offOf_80 rfl ?_
      exact ⟨by rw [l_X9_offOf_2, if_pos c5_1], rfl⟩
    · rw [if_neg c5_1] at hb
      refine wp_aload_n dX9_offOf_8 0 rfl ?_
      refine wp_iload_n dX9_offOf_9 2 rfl ?_
      obtain ⟨x2, hb⟩ := hb
      refine wp_cV1w (N := mX9_placeAt) dX9_offOf_10 tmX9_158 okX9_placeAt rfl rfl rfl rfl rfl rfl rfl rfl (s_X9_placeAt X _ _ x2) ?_
      refine wp_istore_n (L' := [(3, _), (0, _), (1, _), (2, _)]) dX9_offOf_13 rfl rfl ?_
      refine wp_iload_n dX9_offOf_14 0 rfl ?_
      refine wp_iconst dX9_offOf_15 ic_m1 ?_
      refine wp_icmp_eq 53 dX9_offOf_16 (by decide) (fun c16_3 => ?_) (fun c16_3 => ?_)
      · rw [if_pos c16_3] at hb
        refine wp_iconst dX9_offOf_53 ic_m1 ?_
        refine wp_istore (L' := [(4, _), (3, _), (0, _), (1, _), (2, _)]) dX9_offOf_54 rfl rfl ?_
        refine wp_iload dX9_offOf_56 0 rfl ?_
        refine wp_iconst dX9_offOf_58 ic_m1 ?_
        refine wp_icmp_eq 73 dX9_offOf_59 (by decide) (fun _ => ?_) (fun z9 => absurd (by decide) z9)
        refine wp_iinc (L' := [(2, _), (4, _), (3, _), (0, _), (1, _)]) dX9_offOf_73 rfl 4 rfl (ii_1 _) rfl ?_
        refine wp_goto 2 dX9_offOf_76 (by decide) ?_
        refine wp_drop [3, 4, 0] rfl ?_
        rw [show l_X9_offOf_2 (n + 1) a b σ = (l_X9_offOf_2 n a (b + 1) σ) from by rw [l_X9_offOf_2, if_neg c5_1, if_pos c16_3]]
        exact ih _ _ _ hb
      · rw [if_neg c16_3] at hb
        refine wp_aload_n dX9_offOf_19 1 rfl ?_
        refine wp_getR dX9_offOf_20 faX9_34 rfl rfl ?_
        refine wp_iload_n dX9_offOf_23 0 rfl ?_
        obtain ⟨x5, hb⟩ := hb
        refine wp_zald dX9_offOf_24 rfl x5 ?_
        refine wp_if_eq 53 dX9_offOf_25 (by decide) (fun c25_6 => ?_) (fun c25_6 => ?_)
        · rw [if_pos c25_6] at hb
          refine wp_iconst dX9_offOf_53 ic_m1 ?_
          refine wp_istore (L' := [(4, _), (3, _), (0, _), (1, _), (2, _)]) dX9_offOf_54 rfl rfl ?_
          refine wp_iload dX9_offOf_56 0 rfl ?_
          refine wp_iconst dX9_offOf_58 ic_m1 ?_
          refine wp_icmp_eq 73 dX9_offOf_59 (by decide) (fun _ => ?_) (fun z9 => absurd (by decide) z9)
          refine wp_iinc (L' := [(2, _), (4, _), (3, _), (0, _), (1, _)]) dX9_offOf_73 rfl 4 rfl (ii_1 _) rfl ?_
          refine wp_goto 2 dX9_offOf_76 (by decide) ?_
          refine wp_drop [3, 4, 0] rfl ?_
          rw [show l_X9_offOf_2 (n + 1) a b σ = (l_X9_offOf_2 n a (b + 1) σ) from by rw [l_X9_offOf_2, if_neg c5_1, if_neg c16_3, if_pos c25_6]]
          exact ih _ _ _ hb
        · rw [if_neg c25_6] at hb
          refine wp_aload_n dX9_offOf_28 1 rfl ?_
          refine wp_aload_n dX9_offOf_29 1 rfl ?_
          refine wp_getR dX9_offOf_30 faX9_44 rfl rfl ?_
          refine wp_iconst dX9_offOf_33 ic_2 ?_
          refine wp_iload_n dX9_offOf_34 3 rfl ?_
          refine wp_imul dX9_offOf_35 ?_
          obtain ⟨x8, hb⟩ := hb
          refine wp_iald dX9_offOf_36 rfl x8 ?_
          refine wp_aload_n dX9_offOf_37 1 rfl ?_
          refine wp_getR dX9_offOf_38 faX9_44 rfl rfl ?_
          refine wp_iconst dX9_offOf_41 ic_2 ?_
          refine wp_iload_n dX9_offOf_42 3 rfl ?_
          refine wp_imul dX9_offOf_43 ?_
          refine wp_iconst dX9_offOf_44 ic_1 ?_
          refine wp_iadd dX9_offOf_45 ?_
          obtain ⟨x9, hb⟩ := hb
          refine wp_iald dX9_offOf_46 rfl x9 ?_
          obtain ⟨x10, hb⟩ := hb
          refine wp_cV2w (N := mX9_squeezedOff) dX9_offOf_47 tmX9_191 okX9_squeezedOff rfl rfl rfl rfl rfl rfl rfl rfl (s_X9_squeezedOff X _ _ _ x10) ?_
          refine wp_goto 54 dX9_offOf_50 (by decide) ?_
          refine wp_istore (L' := [(4, _), (3, _), (0, _), (1, _), (2, _)]) dX9_offOf_54 rfl rfl ?_
          refine wp_iload dX9_offOf_56 0 rfl ?_
          refine wp_iconst dX9_offOf_58 ic_m1 ?_
          refine wp_icmp_eq 73 dX9_offOf_59 (by decide) (fun c59_11 => ?_) (fun c59_11 => ?_)
          · rw [if_pos c59_11] at hb
            refine wp_iinc (L' := [(2, _), (4, _), (3, _), (0, _), (1, _)]) dX9_offOf_73 rfl 4 rfl (ii_1 _) rfl ?_
            refine wp_goto 2 dX9_offOf_76 (by decide) ?_
            refine wp_drop [3, 4, 0] rfl ?_
            rw [show l_X9_offOf_2 (n + 1) a b σ = (l_X9_offOf_2 n a (b + 1) σ) from by rw [l_X9_offOf_2, if_neg c5_1, if_neg c16_3, if_neg c25_6, if_pos c59_11]]
            exact ih _ _ _ hb
          · rw [if_neg c59_11] at hb
            refine wp_iload_n dX9_offOf_62 3 rfl ?_
            refine wp_if_ne 70 dX9_offOf_63 (by decide) (fun c63_12 => ?_) (fun c63_12 => ?_)
            · rw [if_neg c63_12] at hb
              refine wp_iload dX9_offOf_70 0 rfl ?_
              refine wp_ireturn dX9_offOf_72 rfl ?_
              exact ⟨by rw [l_X9_offOf_2, if_neg c5_1, if_neg c16_3, if_neg c25_6, if_neg c59_11, if_neg c63_12], rfl⟩
            · rw [if_pos c63_12] at hb
              refine wp_iload_n dX9_offOf_66 4 rfl ?_
              refine wp_goto 72 dX9_offOf_67 (by decide) ?_
              refine wp_ireturn dX9_offOf_72 rfl ?_
              exact ⟨by rw [l_X9_offOf_2, if_neg c5_1, if_neg c16_3, if_neg c25_6, if_neg c59_11, if_pos c63_12], rfl⟩
def f_X9_offOf (σ : Mem) (a : Int32) : Int32 := (l_X9_offOf_2 (fu 41) a 0 σ)
def b_X9_offOf (σ : Mem) (a : Int32) : Prop := (bl_X9_offOf_2 (fu 41) a 0 σ)
theorem s_X9_offOf (X : Amb) (σ : Mem) (a : Int32) (hb : b_X9_offOf σ a) : SpW X mX9_offOf [.ref (adr X 0), .int a] σ (.int (f_X9_offOf σ a)) σ := by
  unfold b_X9_offOf at hb
  refine sp_of (by decide +kernel) rfl ?_
  show WP X mX9_offOf 0 [(0, .ref (adr X 0)), (1, .int a)] [] σ _
  refine wp_iconst dX9_offOf_0 ic_0 ?_
  refine wp_istore_n (L' := [(2, _), (0, _), (1, _)]) dX9_offOf_1 rfl rfl ?_
  refine wp_drop [1, 2, 0] rfl ?_
  rw [show f_X9_offOf σ a = (l_X9_offOf_2 (fu 41) a 0 σ) from rfl]
  exact lt_X9_offOf_2 X (fu 41) a 0 σ hb
def f_X9_off (σ : Mem) (a : Int32) : Int32 × Mem := if (f_X9_isTwo (f_X9_lives σ) a) = 0 then ((-2), (f_X9_lives σ)) else ((f_X9_offOf (f_X9_lives σ) a), (f_X9_lives σ))
def b_X9_off (σ : Mem) (a : Int32) : Prop := (b_X9_lives σ) ∧ (if (f_X9_isTwo (f_X9_lives σ) a) = 0 then True else (b_X9_offOf (f_X9_lives σ) a) ∧ (True))
theorem s_X9_off (X : Amb) (σ : Mem) (a : Int32) (hb : b_X9_off σ a) : SpW X mX9_off [.ref (adr X 0), .int a] σ (.int (f_X9_off σ a).1) (f_X9_off σ a).2 := by
  unfold b_X9_off at hb
  refine sp_of (by decide +kernel) rfl ?_
  show WP X mX9_off 0 [(0, .ref (adr X 0)), (1, .int a)] [] σ _
  refine wp_aload_n dX9_off_0 0 rfl ?_
  obtain ⟨x1, hb⟩ := hb
  refine wp_cV0v (N := mX9_lives) dX9_off_1 tmX9_152 okX9_lives rfl rfl rfl rfl rfl rfl rfl rfl (s_X9_lives X _ x1) ?_
  refine wp_iload_n dX9_off_4 1 rfl ?_
  refine wp_cS1w (N := mX9_isTwo) dX9_off_5 tmX9_105 okX9_isTwo rfl rfl rfl rfl (s_X9_isTwo X _ _) ?_
  refine wp_if_eq 19 dX9_off_8 (by decide) (fun c8_2 => ?_) (fun c8_2 => ?_)
  · rw [if_pos c8_2] at hb
    refine wp_bipush dX9_off_19 bp_m2 ?_
    refine wp_ireturn dX9_off_21 rfl ?_
    exact ⟨by unfold f_X9_off; rw [if_pos c8_2], by unfold f_X9_off; rw [if_pos c8_2]⟩
  · rw [if_neg c8_2] at hb
    refine wp_aload_n dX9_off_11 0 rfl ?_
    refine wp_iload_n dX9_off_12 1 rfl ?_
    obtain ⟨x3, hb⟩ := hb
    refine wp_cV1w (N := mX9_offOf) dX9_off_13 tmX9_194 okX9_offOf rfl rfl rfl rfl rfl rfl rfl rfl (s_X9_offOf X _ _ x3) ?_
    refine wp_goto 21 dX9_off_16 (by decide) ?_
    refine wp_ireturn dX9_off_21 rfl ?_
    exact ⟨by unfold f_X9_off; rw [if_neg c8_2], by unfold f_X9_off; rw [if_neg c8_2]⟩
def l_X9_overNow_2 : Nat → Int32 → Mem → Int32
  | 0, _, σ => 0
  | n + 1, a, σ => if 40 ≤ a then (-1) else if (σ 0 10) ≤ 0 then (l_X9_overNow_2 n (a + 1) σ) else if (f_X9_placeAt σ a) = (-1) then a else (l_X9_overNow_2 n (a + 1) σ)
def bl_X9_overNow_2 : Nat → Int32 → Mem → Prop
  | 0, _, _ => False
  | n + 1, a, σ => if 40 ≤ a then True else if (σ 0 10) ≤ 0 then (bl_X9_overNow_2 n (a + 1) σ) else (b_X9_placeAt σ a) ∧ (if (f_X9_placeAt σ a) = (-1) then True else (bl_X9_overNow_2 n (a + 1) σ))
theorem lt_X9_overNow_2 (X : Amb) : ∀ (n : Nat) (a : Int32) (σ : Mem), bl_X9_overNow_2 n a σ → WP X mX9_overNow 2 [(0, .ref (adr X 0)), (1, .int a)] [] σ (fun v σ' => v = some (.int (l_X9_overNow_2 n a σ)) ∧ σ' = σ) := by
  intro n
  induction n with
  | zero => intro a σ hb; exact hb.elim
  | succ n ih =>
    intro a σ hb
    rw [bl_X9_overNow_2] at hb
    refine wp_iload_n dX9_overNow_2 1 rfl ?_
    refine wp_bipush dX9_overNow_3 bp_40 ?_
    refine wp_icmp_ge 32 dX9_overNow_5 (by decide) (fun c5_1 => ?_) (fun c5_1 => ?_)
    · rw [if_pos c5_1] at hb
      refine wp_iconst dX9_overNow_32 ic_m1 ?_
      refine wp_ireturn dX9_overNow_33 rfl ?_
      exact ⟨by rw [l_X9_overNow_2, if_pos c5_1], rfl⟩
    · rw [if_neg c5_1] at hb
      refine wp_aload_n dX9_overNow_8 0 rfl ?_
      refine wp_getI dX9_overNow_9 faX9_118 rfl rfl ?_
      refine wp_if_le 26 dX9_overNow_12 (by decide) (fun c12_2 => ?_) (fun c12_2 => ?_)
      · rw [if_pos c12_2] at hb
        refine wp_iinc (L' := [(1, _), (0, _)]) dX9_overNow_26 rfl 1 rfl (ii_1 _) rfl ?_
        refine wp_goto 2 dX9_overNow_29 (by decide) ?_
        refine wp_drop [1, 0] rfl ?_
        rw [show l_X9_overNow_2 (n + 1) a σ = (l_X9_overNow_2 n (a + 1) σ) from by rw [l_X9_overNow_2, if_neg c5_1, if_pos c12_2]]
        exact ih _ _ hb
      · rw [if_neg c12_2] at hb
        refine wp_aload_n dX9_overNow_15 0 rfl ?_
        refine wp_iload_n dX9_overNow_16 1 rfl ?_
        obtain ⟨x3, hb⟩ := hb
        refine wp_cV1w (N := mX9_placeAt) dX9_overNow_17 tmX9_158 okX9_placeAt rfl rfl rfl rfl rfl rfl rfl rfl (s_X9_placeAt X _ _ x3) ?_
        refine wp_iconst dX9_overNow_20 ic_m1 ?_
        refine wp_icmp_ne 26 dX9_overNow_21 (by decide) (fun c21_4 => ?_) (fun c21_4 => ?_)
        · rw [if_neg c21_4] at hb
          refine wp_iinc (L' := [(1, _), (0, _)]) dX9_overNow_26 rfl 1 rfl (ii_1 _) rfl ?_
          refine wp_goto 2 dX9_overNow_29 (by decide) ?_
          refine wp_drop [1, 0] rfl ?_
          rw [show l_X9_overNow_2 (n + 1) a σ = (l_X9_overNow_2 n (a + 1) σ) from by rw [l_X9_overNow_2, if_neg c5_1, if_neg c12_2, if_neg c21_4]]
          exact ih _ _ hb
        · rw [if_pos c21_4] at hb
          refine wp_iload_n dX9_overNow_24 1 rfl ?_
          refine wp_ireturn dX9_overNow_25 rfl ?_
          exact ⟨by rw [l_X9_overNow_2, if_neg c5_1, if_neg c12_2, if_pos c21_4], rfl⟩
def f_X9_overNow (σ : Mem) : Int32 := (l_X9_overNow_2 (fu 41) 0 σ)
def b_X9_overNow (σ : Mem) : Prop := (bl_X9_overNow_2 (fu 41) 0 σ)
theorem s_X9_overNow (X : Amb) (σ : Mem) (hb : b_X9_overNow σ) : SpW X mX9_overNow [.ref (adr X 0)] σ (.int (f_X9_overNow σ)) σ := by
  unfold b_X9_overNow at hb
  refine sp_of (by decide +kernel) rfl ?_
  show WP X mX9_overNow 0 [(0, .ref (adr X 0))] [] σ _
  refine wp_iconst dX9_overNow_0 ic_0 ?_
  refine wp_istore_n (L' := [(1, _), (0, _)]) dX9_overNow_1 rfl rfl ?_
  refine wp_drop [1, 0] rfl ?_
  rw [show f_X9_overNow σ = (l_X9_overNow_2 (fu 41) 0 σ) from rfl]
  exact lt_X9_overNow_2 X (fu 41) 0 σ hb
def f_X9_over (σ : Mem) : Int32 × Mem := ((f_X9_overNow (f_X9_lives σ)), (f_X9_lives σ))
def b_X9_over (σ : Mem) : Prop := (b_X9_lives σ) ∧ ((b_X9_overNow (f_X9_lives σ)) ∧ (True))
theorem s_X9_over (X : Amb) (σ : Mem) (hb : b_X9_over σ) : SpW X mX9_over [.ref (adr X 0)] σ (.int (f_X9_over σ).1) (f_X9_over σ).2 := by
  unfold b_X9_over at hb
  refine sp_of (by decide +kernel) rfl ?_
  show WP X mX9_over 0 [(0, .ref (adr X 0))] [] σ _
  refine wp_aload_n dX9_over_0 0 rfl ?_
  obtain ⟨x1, hb⟩ := hb
  refine wp_cV0v (N := mX9_lives) dX9_over_1 tmX9_152 okX9_lives rfl rfl rfl rfl rfl rfl rfl rfl (s_X9_lives X _ x1) ?_
  refine wp_aload_n dX9_over_4 0 rfl ?_
  obtain ⟨x2, hb⟩ := hb
  refine wp_cV0w (N := mX9_overNow) dX9_over_5 tmX9_197 okX9_overNow rfl rfl rfl rfl rfl rfl rfl rfl (s_X9_overNow X _ x2) ?_
  refine wp_ireturn dX9_over_8 rfl ?_
  exact ⟨rfl, rfl⟩
def f_X9_isAlike (σ : Mem) (a : Int32) (b : Int32) : Int32 := if (σ 12 ((2 * a).toNatClampNeg)) = (σ 12 ((2 * b).toNatClampNeg)) then if (σ 12 (((2 * a) + 1).toNatClampNeg)) = (σ 12 (((2 * b) + 1).toNatClampNeg)) then 1 else 0 else 0
def b_X9_isAlike (σ : Mem) (a : Int32) (b : Int32) : Prop := (vp_in (2 * a) 80) ∧ ((vp_in (2 * b) 80) ∧ (if (σ 12 ((2 * a).toNatClampNeg)) = (σ 12 ((2 * b).toNatClampNeg)) then (vp_in ((2 * a) + 1) 80) ∧ ((vp_in ((2 * b) + 1) 80) ∧ (if (σ 12 (((2 * a) + 1).toNatClampNeg)) = (σ 12 (((2 * b) + 1).toNatClampNeg)) then True else True)) else True))
theorem s_X9_isAlike (X : Amb) (σ : Mem) (a : Int32) (b : Int32) (hb : b_X9_isAlike σ a b) : SpW X mX9_isAlike [.ref (adr X 0), .int a, .int b] σ (.int (f_X9_isAlike σ a b)) σ := by
  unfold b_X9_isAlike at hb
  refine sp_of (by decide +kernel) rfl ?_
  show WP X mX9_isAlike 0 [(0, .ref (adr X 0)), (1, .int a), (2, .int b)] [] σ _
  refine wp_aload_n dX9_isAlike_0 0 rfl ?_
  refine wp_getR dX9_isAlike_1 faX9_44 rfl rfl ?_
  refine wp_iconst dX9_isAlike_4 ic_2 ?_
  refine wp_iload_n dX9_isAlike_5 1 rfl ?_
  refine wp_imul dX9_isAlike_6 ?_
  obtain ⟨x1, hb⟩ := hb
  refine wp_iald dX9_isAlike_7 rfl x1 ?_
  refine wp_aload_n dX9_isAlike_8 0 rfl ?_
  refine wp_getR dX9_isAlike_9 faX9_44 rfl rfl ?_
  refine wp_iconst dX9_isAlike_12 ic_2 ?_
  refine wp_iload_n dX9_isAlike_13 2 rfl ?_
  refine wp_imul dX9_isAlike_14 ?_
  obtain ⟨x2, hb⟩ := hb
  refine wp_iald dX9_isAlike_15 rfl x2 ?_
  refine wp_icmp_ne 46 dX9_isAlike_16 (by decide) (fun c16_3 => ?_) (fun c16_3 => ?_)
  · rw [if_neg c16_3] at hb
    refine wp_iconst dX9_isAlike_46 ic_0 ?_
    refine wp_zreturn dX9_isAlike_47 rfl (Or.inl rfl) ?_
    exact ⟨by unfold f_X9_isAlike; rw [if_neg c16_3], rfl⟩
  · rw [if_pos c16_3] at hb
    refine wp_aload_n dX9_isAlike_19 0 rfl ?_
    refine wp_getR dX9_isAlike_20 faX9_44 rfl rfl ?_
    refine wp_iconst dX9_isAlike_23 ic_2 ?_
    refine wp_iload_n dX9_isAlike_24 1 rfl ?_
    refine wp_imul dX9_isAlike_25 ?_
    refine wp_iconst dX9_isAlike_26 ic_1 ?_
    refine wp_iadd dX9_isAlike_27 ?_
    obtain ⟨x4, hb⟩ := hb
    refine wp_iald dX9_isAlike_28 rfl x4 ?_
    refine wp_aload_n dX9_isAlike_29 0 rfl ?_
    refine wp_getR dX9_isAlike_30 faX9_44 rfl rfl ?_
    refine wp_iconst dX9_isAlike_33 ic_2 ?_
    refine wp_iload_n dX9_isAlike_34 2 rfl ?_
    refine wp_imul dX9_isAlike_35 ?_
    refine wp_iconst dX9_isAlike_36 ic_1 ?_
    refine wp_iadd dX9_isAlike_37 ?_
    obtain ⟨x5, hb⟩ := hb
    refine wp_iald dX9_isAlike_38 rfl x5 ?_
    refine wp_icmp_ne 46 dX9_isAlike_39 (by decide) (fun c39_6 => ?_) (fun c39_6 => ?_)
    · rw [if_neg c39_6] at hb
      refine wp_iconst dX9_isAlike_46 ic_0 ?_
      refine wp_zreturn dX9_isAlike_47 rfl (Or.inl rfl) ?_
      exact ⟨by unfold f_X9_isAlike; rw [if_pos c16_3, if_neg c39_6], rfl⟩
    · rw [if_pos c39_6] at hb
      refine wp_iconst dX9_isAlike_42 ic_1 ?_
      refine wp_goto 47 dX9_isAlike_43 (by decide) ?_
      refine wp_zreturn dX9_isAlike_47 rfl (Or.inr rfl) ?_
      exact ⟨by unfold f_X9_isAlike; rw [if_pos c16_3, if_pos c39_6], rfl⟩
theorem z_X9_isAlike (σ : Mem) (a : Int32) (b : Int32) : (f_X9_isAlike σ a b) = 0 ∨ (f_X9_isAlike σ a b) = 1 := by
  unfold f_X9_isAlike; (repeat' split) <;> first | exact Or.inl rfl | exact Or.inr rfl
def l_X9_settlesNow_7 : Nat → Int32 → Int32 → Int32 → Mem → Int32
  | 0, _, _, _, σ => 0
  | n + 1, a, b, c, σ => if c < 0 then a else if b = 0 then (l_X9_settlesNow_7 n a 0 (c + (-1)) σ) else if (f_X9_isAlike σ c (c + 1)) = 0 then (l_X9_settlesNow_7 n a 0 (c + (-1)) σ) else (l_X9_settlesNow_7 n c 1 (c + (-1)) σ)
def bl_X9_settlesNow_7 : Nat → Int32 → Int32 → Int32 → Mem → Prop
  | 0, _, _, _, _ => False
  | n + 1, a, b, c, σ => if c < 0 then True else if b = 0 then (bl_X9_settlesNow_7 n a 0 (c + (-1)) σ) else (b_X9_isAlike σ c (c + 1)) ∧ (if (f_X9_isAlike σ c (c + 1)) = 0 then (bl_X9_settlesNow_7 n a 0 (c + (-1)) σ) else (bl_X9_settlesNow_7 n c 1 (c + (-1)) σ))
theorem lt_X9_settlesNow_7 (X : Amb) : ∀ (n : Nat) (a : Int32) (b : Int32) (c : Int32) (σ : Mem), bl_X9_settlesNow_7 n a b c σ → WP X mX9_settlesNow 7 [(0, .ref (adr X 0)), (1, .int a), (2, .int b), (3, .int c)] [] σ (fun v σ' => v = some (.int (l_X9_settlesNow_7 n a b c σ)) ∧ σ' = σ) := by
  intro n
  induction n with
  | zero => intro a b c σ hb; exact hb.elim
  | succ n ih =>
    intro a b c σ hb
    rw [bl_X9_settlesNow_7] at hb
    refine wp_iload_n dX9_settlesNow_7 3 rfl ?_
    refine wp_if_lt 48 dX9_settlesNow_8 (by decide) (fun c8_1 => ?_) (fun c8_1 => ?_)
    · rw [if_pos c8_1] at hb
      refine wp_iload_n dX9_settlesNow_48 1 rfl ?_
      refine wp_ireturn dX9_settlesNow_49 rfl ?_
      exact ⟨by rw [l_X9_settlesNow_7, if_pos c8_1], rfl⟩
    · rw [if_neg c8_1] at hb
      refine wp_iload_n dX9_settlesNow_11 2 rfl ?_
      refine wp_if_eq 30 dX9_settlesNow_12 (by decide) (fun c12_2 => ?_) (fun c12_2 => ?_)
      · rw [if_pos c12_2] at hb
        refine wp_iconst dX9_settlesNow_30 ic_0 ?_
        refine wp_istore_n (L' := [(2, _), (0, _), (1, _), (3, _)]) dX9_settlesNow_31 rfl rfl ?_
        refine wp_iload_n dX9_settlesNow_32 0 rfl ?_
        refine wp_if_eq 40 dX9_settlesNow_33 (by decide) (fun _ => ?_) (fun z9 => absurd (by decide) z9)
        refine wp_iload_n dX9_settlesNow_40 2 rfl ?_
        refine wp_istore_n (L' := [(1, _), (2, _), (0, _), (3, _)]) dX9_settlesNow_41 rfl rfl ?_
        refine wp_iinc (L' := [(3, _), (1, _), (2, _), (0, _)]) dX9_settlesNow_42 rfl 3 rfl (ii_m1 _) rfl ?_
        refine wp_goto 7 dX9_settlesNow_45 (by decide) ?_
        refine wp_drop [3, 1, 2, 0] rfl ?_
        rw [show l_X9_settlesNow_7 (n + 1) a b c σ = (l_X9_settlesNow_7 n a 0 (c + (-1)) σ) from by rw [l_X9_settlesNow_7, if_neg c8_1, if_pos c12_2]]
        exact ih _ _ _ _ hb
      · rw [if_neg c12_2] at hb
        refine wp_aload_n dX9_settlesNow_15 0 rfl ?_
        refine wp_iload_n dX9_settlesNow_16 3 rfl ?_
        refine wp_iload_n dX9_settlesNow_17 3 rfl ?_
        refine wp_iconst dX9_settlesNow_18 ic_1 ?_
        refine wp_iadd dX9_settlesNow_19 ?_
        obtain ⟨x4, hb⟩ := hb
        refine wp_cV2w (N := mX9_isAlike) dX9_settlesNow_20 tmX9_200 okX9_isAlike rfl rfl rfl rfl rfl rfl rfl rfl (s_X9_isAlike X _ _ _ x4) ?_
        refine wp_if_eq 30 dX9_settlesNow_23 (by decide) (fun c23_5 => ?_) (fun c23_5 => ?_)
        · rw [if_pos c23_5] at hb
          refine wp_iconst dX9_settlesNow_30 ic_0 ?_
          refine wp_istore_n (L' := [(2, _), (0, _), (1, _), (3, _)]) dX9_settlesNow_31 rfl rfl ?_
          refine wp_iload_n dX9_settlesNow_32 0 rfl ?_
          refine wp_if_eq 40 dX9_settlesNow_33 (by decide) (fun _ => ?_) (fun z9 => absurd (by decide) z9)
          refine wp_iload_n dX9_settlesNow_40 2 rfl ?_
          refine wp_istore_n (L' := [(1, _), (2, _), (0, _), (3, _)]) dX9_settlesNow_41 rfl rfl ?_
          refine wp_iinc (L' := [(3, _), (1, _), (2, _), (0, _)]) dX9_settlesNow_42 rfl 3 rfl (ii_m1 _) rfl ?_
          refine wp_goto 7 dX9_settlesNow_45 (by decide) ?_
          refine wp_drop [3, 1, 2, 0] rfl ?_
          rw [show l_X9_settlesNow_7 (n + 1) a b c σ = (l_X9_settlesNow_7 n a 0 (c + (-1)) σ) from by rw [l_X9_settlesNow_7, if_neg c8_1, if_neg c12_2, if_pos c23_5]]
          exact ih _ _ _ _ hb
        · rw [if_neg c23_5] at hb
          refine wp_iconst dX9_settlesNow_26 ic_1 ?_
          refine wp_goto 31 dX9_settlesNow_27 (by decide) ?_
          refine wp_istore_n (L' := [(2, _), (0, _), (1, _), (3, _)]) dX9_settlesNow_31 rfl rfl ?_
          refine wp_iload_n dX9_settlesNow_32 0 rfl ?_
          refine wp_if_eq 40 dX9_settlesNow_33 (by decide) (fun z9 => absurd z9 (by decide)) (fun _ => ?_)
          refine wp_iload_n dX9_settlesNow_36 3 rfl ?_
          refine wp_goto 41 dX9_settlesNow_37 (by decide) ?_
          refine wp_istore_n (L' := [(1, _), (2, _), (0, _), (3, _)]) dX9_settlesNow_41 rfl rfl ?_
          refine wp_iinc (L' := [(3, _), (1, _), (2, _), (0, _)]) dX9_settlesNow_42 rfl 3 rfl (ii_m1 _) rfl ?_
          refine wp_goto 7 dX9_settlesNow_45 (by decide) ?_
          refine wp_drop [3, 1, 2, 0] rfl ?_
          rw [show l_X9_settlesNow_7 (n + 1) a b c σ = (l_X9_settlesNow_7 n c 1 (c + (-1)) σ) from by rw [l_X9_settlesNow_7, if_neg c8_1, if_neg c12_2, if_neg c23_5]]
          exact ih _ _ _ _ hb
def f_X9_settlesNow (σ : Mem) : Int32 := (l_X9_settlesNow_7 (fu 40) (-1) 1 38 σ)
def b_X9_settlesNow (σ : Mem) : Prop := (bl_X9_settlesNow_7 (fu 40) (-1) 1 38 σ)
theorem s_X9_settlesNow (X : Amb) (σ : Mem) (hb : b_X9_settlesNow σ) : SpW X mX9_settlesNow [.ref (adr X 0)] σ (.int (f_X9_settlesNow σ)) σ := by
  unfold b_X9_settlesNow at hb
  refine sp_of (by decide +kernel) rfl ?_
  show WP X mX9_settlesNow 0 [(0, .ref (adr X 0))] [] σ _
  refine wp_iconst dX9_settlesNow_0 ic_m1 ?_
  refine wp_istore_n (L' := [(1, _), (0, _)]) dX9_settlesNow_1 rfl rfl ?_
  refine wp_iconst dX9_settlesNow_2 ic_1 ?_
  refine wp_istore_n (L' := [(2, _), (1, _), (0, _)]) dX9_settlesNow_3 rfl rfl ?_
  refine wp_bipush dX9_settlesNow_4 bp_38 ?_
  refine wp_istore_n (L' := [(3, _), (2, _), (1, _), (0, _)]) dX9_settlesNow_6 rfl rfl ?_
  refine wp_drop [3, 2, 1, 0] rfl ?_
  rw [show f_X9_settlesNow σ = (l_X9_settlesNow_7 (fu 40) (-1) 1 38 σ) from rfl]
  exact lt_X9_settlesNow_7 X (fu 40) (-1) 1 38 σ hb
def f_X9_settles (σ : Mem) : Int32 × Mem := ((f_X9_settlesNow (f_X9_lives σ)), (f_X9_lives σ))
def b_X9_settles (σ : Mem) : Prop := (b_X9_lives σ) ∧ ((b_X9_settlesNow (f_X9_lives σ)) ∧ (True))
theorem s_X9_settles (X : Amb) (σ : Mem) (hb : b_X9_settles σ) : SpW X mX9_settles [.ref (adr X 0)] σ (.int (f_X9_settles σ).1) (f_X9_settles σ).2 := by
  unfold b_X9_settles at hb
  refine sp_of (by decide +kernel) rfl ?_
  show WP X mX9_settles 0 [(0, .ref (adr X 0))] [] σ _
  refine wp_aload_n dX9_settles_0 0 rfl ?_
  obtain ⟨x1, hb⟩ := hb
  refine wp_cV0v (N := mX9_lives) dX9_settles_1 tmX9_152 okX9_lives rfl rfl rfl rfl rfl rfl rfl rfl (s_X9_lives X _ x1) ?_
  refine wp_aload_n dX9_settles_4 0 rfl ?_
  obtain ⟨x2, hb⟩ := hb
  refine wp_cV0w (N := mX9_settlesNow) dX9_settles_5 tmX9_203 okX9_settlesNow rfl rfl rfl rfl rfl rfl rfl rfl (s_X9_settlesNow X _ x2) ?_
  refine wp_ireturn dX9_settles_8 rfl ?_
  exact ⟨rfl, rfl⟩
def l_X9_swingsNow_13 (K : Int32 → Mem → Int32) : Nat → Int32 → Int32 → Int32 → Mem → Int32
  | 0, _, _, _, σ => 0
  | n + 1, a, b, c, σ => if 40 ≤ (c + a) then if b = 0 then (K (a + 1) σ) else a else if b = 0 then (l_X9_swingsNow_13 K n a 0 (c + 1) σ) else if (f_X9_isAlike σ c (c + a)) = 0 then (l_X9_swingsNow_13 K n a 0 (c + 1) σ) else (l_X9_swingsNow_13 K n a 1 (c + 1) σ)
def bl_X9_swingsNow_13 (bK : Int32 → Mem → Prop) : Nat → Int32 → Int32 → Int32 → Mem → Prop
  | 0, _, _, _, _ => False
  | n + 1, a, b, c, σ => if 40 ≤ (c + a) then if b = 0 then (bK (a + 1) σ) else True else if b = 0 then (bl_X9_swingsNow_13 bK n a 0 (c + 1) σ) else (b_X9_isAlike σ c (c + a)) ∧ (if (f_X9_isAlike σ c (c + a)) = 0 then (bl_X9_swingsNow_13 bK n a 0 (c + 1) σ) else (bl_X9_swingsNow_13 bK n a 1 (c + 1) σ))
theorem lt_X9_swingsNow_13 (X : Amb) (K : Int32 → Mem → Int32) (bK : Int32 → Mem → Prop) (hK : ∀ (a : Int32) (σ : Mem), bK a σ → WP X mX9_swingsNow 2 [(0, .ref (adr X 0)), (1, .int a)] [] σ (fun v σ' => v = some (.int (K a σ)) ∧ σ' = σ)) : ∀ (n : Nat) (a : Int32) (b : Int32) (c : Int32) (σ : Mem), bl_X9_swingsNow_13 bK n a b c σ → WP X mX9_swingsNow 13 [(0, .ref (adr X 0)), (1, .int a), (2, .int b), (3, .int c)] [] σ (fun v σ' => v = some (.int (l_X9_swingsNow_13 K n a b c σ)) ∧ σ' = σ) := by
  intro n
  induction n with
  | zero => intro a b c σ hb; exact hb.elim
  | succ n ih =>
    intro a b c σ hb
    rw [bl_X9_swingsNow_13] at hb
    refine wp_iload_n dX9_swingsNow_13 3 rfl ?_
    refine wp_iload_n dX9_swingsNow_14 1 rfl ?_
    refine wp_iadd dX9_swingsNow_15 ?_
    refine wp_bipush dX9_swingsNow_16 bp_40 ?_
    refine wp_icmp_ge 48 dX9_swingsNow_18 (by decide) (fun c18_1 => ?_) (fun c18_1 => ?_)
    · rw [if_pos c18_1] at hb
      refine wp_iload_n dX9_swingsNow_48 2 rfl ?_
      refine wp_if_eq 54 dX9_swingsNow_49 (by decide) (fun c49_2 => ?_) (fun c49_2 => ?_)
      · rw [if_pos c49_2] at hb
        refine wp_iinc (L' := [(1, _), (0, _), (2, _), (3, _)]) dX9_swingsNow_54 rfl 1 rfl (ii_1 _) rfl ?_
        refine wp_goto 2 dX9_swingsNow_57 (by decide) ?_
        refine wp_drop [1, 0] rfl ?_
        rw [show l_X9_swingsNow_13 K (n + 1) a b c σ = (K (a + 1) σ) from by rw [l_X9_swingsNow_13, if_pos c18_1, if_pos c49_2]]
        exact hK _ _ hb
      · rw [if_neg c49_2] at hb
        refine wp_iload_n dX9_swingsNow_52 1 rfl ?_
        refine wp_ireturn dX9_swingsNow_53 rfl ?_
        exact ⟨by rw [l_X9_swingsNow_13, if_pos c18_1, if_neg c49_2], rfl⟩
    · rw [if_neg c18_1] at hb
      refine wp_iload_n dX9_swingsNow_21 2 rfl ?_
      refine wp_if_eq 40 dX9_swingsNow_22 (by decide) (fun c22_3 => ?_) (fun c22_3 => ?_)
      · rw [if_pos c22_3] at hb
        refine wp_iconst dX9_swingsNow_40 ic_0 ?_
        refine wp_istore_n (L' := [(2, _), (0, _), (1, _), (3, _)]) dX9_swingsNow_41 rfl rfl ?_
        refine wp_iinc (L' := [(3, _), (2, _), (0, _), (1, _)]) dX9_swingsNow_42 rfl 3 rfl (ii_1 _) rfl ?_
        refine wp_goto 13 dX9_swingsNow_45 (by decide) ?_
        refine wp_drop [2, 3, 1, 0] rfl ?_
        rw [show l_X9_swingsNow_13 K (n + 1) a b c σ = (l_X9_swingsNow_13 K n a 0 (c + 1) σ) from by rw [l_X9_swingsNow_13, if_neg c18_1, if_pos c22_3]]
        exact ih _ _ _ _ hb
      · rw [if_neg c22_3] at hb
        refine wp_aload_n dX9_swingsNow_25 0 rfl ?_
        refine wp_iload_n dX9_swingsNow_26 3 rfl ?_
        refine wp_iload_n dX9_swingsNow_27 3 rfl ?_
        refine wp_iload_n dX9_swingsNow_28 1 rfl ?_
        refine wp_iadd dX9_swingsNow_29 ?_
        obtain ⟨x4, hb⟩ := hb
        refine wp_cV2w (N := mX9_isAlike) dX9_swingsNow_30 tmX9_200 okX9_isAlike rfl rfl rfl rfl rfl rfl rfl rfl (s_X9_isAlike X _ _ _ x4) ?_
        refine wp_if_eq 40 dX9_swingsNow_33 (by decide) (fun c33_5 => ?_) (fun c33_5 => ?_)
        · rw [if_pos c33_5] at hb
          refine wp_iconst dX9_swingsNow_40 ic_0 ?_
          refine wp_istore_n (L' := [(2, _), (0, _), (1, _), (3, _)]) dX9_swingsNow_41 rfl rfl ?_
          refine wp_iinc (L' := [(3, _), (2, _), (0, _), (1, _)]) dX9_swingsNow_42 rfl 3 rfl (ii_1 _) rfl ?_
          refine wp_goto 13 dX9_swingsNow_45 (by decide) ?_
          refine wp_drop [2, 3, 1, 0] rfl ?_
          rw [show l_X9_swingsNow_13 K (n + 1) a b c σ = (l_X9_swingsNow_13 K n a 0 (c + 1) σ) from by rw [l_X9_swingsNow_13, if_neg c18_1, if_neg c22_3, if_pos c33_5]]
          exact ih _ _ _ _ hb
        · rw [if_neg c33_5] at hb
          refine wp_iconst dX9_swingsNow_36 ic_1 ?_
          refine wp_goto 41 dX9_swingsNow_37 (by decide) ?_
          refine wp_istore_n (L' := [(2, _), (0, _), (1, _), (3, _)]) dX9_swingsNow_41 rfl rfl ?_
          refine wp_iinc (L' := [(3, _), (2, _), (0, _), (1, _)]) dX9_swingsNow_42 rfl 3 rfl (ii_1 _) rfl ?_
          refine wp_goto 13 dX9_swingsNow_45 (by decide) ?_
          refine wp_drop [2, 3, 1, 0] rfl ?_
          rw [show l_X9_swingsNow_13 K (n + 1) a b c σ = (l_X9_swingsNow_13 K n a 1 (c + 1) σ) from by rw [l_X9_swingsNow_13, if_neg c18_1, if_neg c22_3, if_neg c33_5]]
          exact ih _ _ _ _ hb
def l_X9_swingsNow_2 : Nat → Int32 → Mem → Int32
  | 0, _, σ => 0
  | n + 1, a, σ => if 13 ≤ a then (-1) else (l_X9_swingsNow_13 (l_X9_swingsNow_2 n) (fu 41) a 1 20 σ)
def bl_X9_swingsNow_2 : Nat → Int32 → Mem → Prop
  | 0, _, _ => False
  | n + 1, a, σ => if 13 ≤ a then True else (bl_X9_swingsNow_13 (bl_X9_swingsNow_2 n) (fu 41) a 1 20 σ)
theorem lt_X9_swingsNow_2 (X : Amb) : ∀ (n : Nat) (a : Int32) (σ : Mem), bl_X9_swingsNow_2 n a σ → WP X mX9_swingsNow 2 [(0, .ref (adr X 0)), (1, .int a)] [] σ (fun v σ' => v = some (.int (l_X9_swingsNow_2 n a σ)) ∧ σ' = σ) := by
  intro n
  induction n with
  | zero => intro a σ hb; exact hb.elim
  | succ n ih =>
    intro a σ hb
    rw [bl_X9_swingsNow_2] at hb
    refine wp_iload_n dX9_swingsNow_2 1 rfl ?_
    refine wp_bipush dX9_swingsNow_3 bp_13 ?_
    refine wp_icmp_ge 60 dX9_swingsNow_5 (by decide) (fun c5_1 => ?_) (fun c5_1 => ?_)
    · rw [if_pos c5_1] at hb
      refine wp_iconst dX9_swingsNow_60 ic_m1 ?_
      refine wp_ireturn dX9_swingsNow_61 rfl ?_
      exact ⟨by rw [l_X9_swingsNow_2, if_pos c5_1], rfl⟩
    · rw [if_neg c5_1] at hb
      refine wp_iconst dX9_swingsNow_8 ic_1 ?_
      refine wp_istore_n (L' := [(2, _), (0, _), (1, _)]) dX9_swingsNow_9 rfl rfl ?_
      refine wp_bipush dX9_swingsNow_10 bp_20 ?_
      refine wp_istore_n (L' := [(3, _), (2, _), (0, _), (1, _)]) dX9_swingsNow_12 rfl rfl ?_
      refine wp_drop [2, 3, 1, 0] rfl ?_
      rw [show l_X9_swingsNow_2 (n + 1) a σ = (l_X9_swingsNow_13 (l_X9_swingsNow_2 n) (fu 41) a 1 20 σ) from by rw [l_X9_swingsNow_2]; rw [if_neg c5_1]]
      exact lt_X9_swingsNow_13 X (l_X9_swingsNow_2 n) (bl_X9_swingsNow_2 n) ih (fu 41) a 1 20 σ hb
def f_X9_swingsNow (σ : Mem) : Int32 := (l_X9_swingsNow_2 (fu 13) 1 σ)
def b_X9_swingsNow (σ : Mem) : Prop := (bl_X9_swingsNow_2 (fu 13) 1 σ)
theorem s_X9_swingsNow (X : Amb) (σ : Mem) (hb : b_X9_swingsNow σ) : SpW X mX9_swingsNow [.ref (adr X 0)] σ (.int (f_X9_swingsNow σ)) σ := by
  unfold b_X9_swingsNow at hb
  refine sp_of (by decide +kernel) rfl ?_
  show WP X mX9_swingsNow 0 [(0, .ref (adr X 0))] [] σ _
  refine wp_iconst dX9_swingsNow_0 ic_1 ?_
  refine wp_istore_n (L' := [(1, _), (0, _)]) dX9_swingsNow_1 rfl rfl ?_
  refine wp_drop [1, 0] rfl ?_
  rw [show f_X9_swingsNow σ = (l_X9_swingsNow_2 (fu 13) 1 σ) from rfl]
  exact lt_X9_swingsNow_2 X (fu 13) 1 σ hb
def f_X9_swings (σ : Mem) : Int32 × Mem := ((f_X9_swingsNow (f_X9_lives σ)), (f_X9_lives σ))
def b_X9_swings (σ : Mem) : Prop := (b_X9_lives σ) ∧ ((b_X9_swingsNow (f_X9_lives σ)) ∧ (True))
theorem s_X9_swings (X : Amb) (σ : Mem) (hb : b_X9_swings σ) : SpW X mX9_swings [.ref (adr X 0)] σ (.int (f_X9_swings σ).1) (f_X9_swings σ).2 := by
  unfold b_X9_swings at hb
  refine sp_of (by decide +kernel) rfl ?_
  show WP X mX9_swings 0 [(0, .ref (adr X 0))] [] σ _
  refine wp_aload_n dX9_swings_0 0 rfl ?_
  obtain ⟨x1, hb⟩ := hb
  refine wp_cV0v (N := mX9_lives) dX9_swings_1 tmX9_152 okX9_lives rfl rfl rfl rfl rfl rfl rfl rfl (s_X9_lives X _ x1) ?_
  refine wp_aload_n dX9_swings_4 0 rfl ?_
  obtain ⟨x2, hb⟩ := hb
  refine wp_cV0w (N := mX9_swingsNow) dX9_swings_5 tmX9_206 okX9_swingsNow rfl rfl rfl rfl rfl rfl rfl rfl (s_X9_swingsNow X _ x2) ?_
  refine wp_ireturn dX9_swings_8 rfl ?_
  exact ⟨rfl, rfl⟩
def l_X9_doesOf_7 : Nat → Int32 → Int32 → Int32 → Int32 → Mem → Int32
  | 0, _, _, _, _, σ => 0
  | n + 1, a, b, c, d, σ => if 40 ≤ d then if c = 0 then (f_X9_part σ 0 1 a).toInt32 else (f_X9_part σ b.toInt64 c.toInt64 a).toInt32 else (l_X9_doesOf_7 n a (b + (σ 12 ((2 * d).toNatClampNeg))) (c + ((σ 12 ((2 * d).toNatClampNeg)) + (σ 12 (((2 * d) + 1).toNatClampNeg)))) (d + 1) σ)
def bl_X9_doesOf_7 : Nat → Int32 → Int32 → Int32 → Int32 → Mem → Prop
  | 0, _, _, _, _, _ => False
  | n + 1, a, b, c, d, σ => if 40 ≤ d then if c = 0 then (b_X9_part σ 0 1 a) ∧ (True) else (b_X9_part σ b.toInt64 c.toInt64 a) ∧ (True) else (vp_in (2 * d) 80) ∧ ((vp_in (2 * d) 80) ∧ ((vp_in ((2 * d) + 1) 80) ∧ ((bl_X9_doesOf_7 n a (b + (σ 12 ((2 * d).toNatClampNeg))) (c + ((σ 12 ((2 * d).toNatClampNeg)) + (σ 12 (((2 * d) + 1).toNatClampNeg)))) (d + 1) σ))))
theorem lt_X9_doesOf_7 (X : Amb) : ∀ (n : Nat) (a : Int32) (b : Int32) (c : Int32) (d : Int32) (σ : Mem), bl_X9_doesOf_7 n a b c d σ → WP X mX9_doesOf 7 [(0, .ref (adr X 0)), (1, .int a), (2, .int b), (3, .int c), (4, .int d)] [] σ (fun v σ' => v = some (.int (l_X9_doesOf_7 n a b c d σ)) ∧ σ' = σ) := by
  intro n
  induction n with
  | zero => intro a b c d σ hb; exact hb.elim
  | succ n ih =>
    intro a b c d σ hb
    rw [bl_X9_doesOf_7] at hb
    refine wp_iload dX9_doesOf_7 4 rfl ?_
    refine wp_bipush dX9_doesOf_9 bp_40 ?_
    refine wp_icmp_ge 56 dX9_doesOf_11 (by decide) (fun c11_1 => ?_) (fun c11_1 => ?_)
    · rw [if_pos c11_1] at hb
      refine wp_iload_n dX9_doesOf_56 3 rfl ?_
      refine wp_if_ne 69 dX9_doesOf_57 (by decide) (fun c57_2 => ?_) (fun c57_2 => ?_)
      · rw [if_neg c57_2] at hb
        refine wp_iload_n dX9_doesOf_69 2 rfl ?_
        refine wp_i2l dX9_doesOf_70 ?_
        refine wp_iload_n dX9_doesOf_71 3 rfl ?_
        refine wp_i2l dX9_doesOf_72 ?_
        refine wp_iload_n dX9_doesOf_73 1 rfl ?_
        obtain ⟨x3, hb⟩ := hb
        refine wp_cS3w (N := mX9_part) dX9_doesOf_74 tmX9_177 okX9_part rfl rfl rfl rfl (s_X9_part X _ _ _ _ x3) ?_
        refine wp_l2i dX9_doesOf_77 ?_
        refine wp_ireturn dX9_doesOf_78 rfl ?_
        exact ⟨by rw [l_X9_doesOf_7, if_pos c11_1, if_neg c57_2], rfl⟩
      · rw [if_pos c57_2] at hb
        refine wp_lconst dX9_doesOf_60 lc_0 ?_
        refine wp_lconst dX9_doesOf_61 lc_1 ?_
        refine wp_iload_n dX9_doesOf_62 1 rfl ?_
        obtain ⟨x4, hb⟩ := hb
        refine wp_cS3w (N := mX9_part) dX9_doesOf_63 tmX9_177 okX9_part rfl rfl rfl rfl (s_X9_part X _ _ _ _ x4) ?_
        refine wp_goto 77 dX9_doesOf_66 (by decide) ?_
        refine wp_l2i dX9_doesOf_77 ?_
        refine wp_ireturn dX9_doesOf_78 rfl ?_
        exact ⟨by rw [l_X9_doesOf_7, if_pos c11_1, if_pos c57_2], rfl⟩
    · rw [if_neg c11_1] at hb
      refine wp_iload_n dX9_doesOf_14 2 rfl ?_
      refine wp_aload_n dX9_doesOf_15 0 rfl ?_
      refine wp_getR dX9_doesOf_16 faX9_44 rfl rfl ?_
      refine wp_iconst dX9_doesOf_19 ic_2 ?_
      refine wp_iload dX9_doesOf_20 4 rfl ?_
      refine wp_imul dX9_doesOf_22 ?_
      obtain ⟨x5, hb⟩ := hb
      refine wp_iald dX9_doesOf_23 rfl x5 ?_
      refine wp_iadd dX9_doesOf_24 ?_
      refine wp_istore_n (L' := [(2, _), (0, _), (1, _), (3, _), (4, _)]) dX9_doesOf_25 rfl rfl ?_
      refine wp_iload_n dX9_doesOf_26 3 rfl ?_
      refine wp_aload_n dX9_doesOf_27 1 rfl ?_
      refine wp_getR dX9_doesOf_28 faX9_44 rfl rfl ?_
      refine wp_iconst dX9_doesOf_31 ic_2 ?_
      refine wp_iload dX9_doesOf_32 4 rfl ?_
      refine wp_imul dX9_doesOf_34 ?_
      obtain ⟨x6, hb⟩ := hb
      refine wp_iald dX9_doesOf_35 rfl x6 ?_
      refine wp_aload_n dX9_doesOf_36 1 rfl ?_
      refine wp_getR dX9_doesOf_37 faX9_44 rfl rfl ?_
      refine wp_iconst dX9_doesOf_40 ic_2 ?_
      refine wp_iload dX9_doesOf_41 4 rfl ?_
      refine wp_imul dX9_doesOf_43 ?_
      refine wp_iconst dX9_doesOf_44 ic_1 ?_
      refine wp_iadd dX9_doesOf_45 ?_
      obtain ⟨x7, hb⟩ := hb
      refine wp_iald dX9_doesOf_46 rfl x7 ?_
      refine wp_iadd dX9_doesOf_47 ?_
      refine wp_iadd dX9_doesOf_48 ?_
      refine wp_istore_n (L' := [(3, _), (2, _), (0, _), (1, _), (4, _)]) dX9_doesOf_49 rfl rfl ?_
      refine wp_iinc (L' := [(4, _), (3, _), (2, _), (0, _), (1, _)]) dX9_doesOf_50 rfl 4 rfl (ii_1 _) rfl ?_
      refine wp_goto 7 dX9_doesOf_53 (by decide) ?_
      refine wp_drop [3, 4, 2, 1, 0] rfl ?_
      rw [show l_X9_doesOf_7 (n + 1) a b c d σ = (l_X9_doesOf_7 n a (b + (σ 12 ((2 * d).toNatClampNeg))) (c + ((σ 12 ((2 * d).toNatClampNeg)) + (σ 12 (((2 * d) + 1).toNatClampNeg)))) (d + 1) σ) from by rw [l_X9_doesOf_7, if_neg c11_1]]
      exact ih _ _ _ _ _ hb
def f_X9_doesOf (σ : Mem) (a : Int32) : Int32 := (l_X9_doesOf_7 (fu 41) a 0 0 0 σ)
def b_X9_doesOf (σ : Mem) (a : Int32) : Prop := (bl_X9_doesOf_7 (fu 41) a 0 0 0 σ)
theorem s_X9_doesOf (X : Amb) (σ : Mem) (a : Int32) (hb : b_X9_doesOf σ a) : SpW X mX9_doesOf [.ref (adr X 0), .int a] σ (.int (f_X9_doesOf σ a)) σ := by
  unfold b_X9_doesOf at hb
  refine sp_of (by decide +kernel) rfl ?_
  show WP X mX9_doesOf 0 [(0, .ref (adr X 0)), (1, .int a)] [] σ _
  refine wp_iconst dX9_doesOf_0 ic_0 ?_
  refine wp_istore_n (L' := [(2, _), (0, _), (1, _)]) dX9_doesOf_1 rfl rfl ?_
  refine wp_iconst dX9_doesOf_2 ic_0 ?_
  refine wp_istore_n (L' := [(3, _), (2, _), (0, _), (1, _)]) dX9_doesOf_3 rfl rfl ?_
  refine wp_iconst dX9_doesOf_4 ic_0 ?_
  refine wp_istore (L' := [(4, _), (3, _), (2, _), (0, _), (1, _)]) dX9_doesOf_5 rfl rfl ?_
  refine wp_drop [3, 4, 2, 1, 0] rfl ?_
  rw [show f_X9_doesOf σ a = (l_X9_doesOf_7 (fu 41) a 0 0 0 σ) from rfl]
  exact lt_X9_doesOf_7 X (fu 41) a 0 0 0 σ hb
def f_X9_does (σ : Mem) (a : Int32) : Int32 × Mem := if (f_X9_isTwo (f_X9_lives σ) a) = 0 then ((-2), (f_X9_lives σ)) else ((f_X9_doesOf (f_X9_lives σ) a), (f_X9_lives σ))
def b_X9_does (σ : Mem) (a : Int32) : Prop := (b_X9_lives σ) ∧ (if (f_X9_isTwo (f_X9_lives σ) a) = 0 then True else (b_X9_doesOf (f_X9_lives σ) a) ∧ (True))
theorem s_X9_does (X : Amb) (σ : Mem) (a : Int32) (hb : b_X9_does σ a) : SpW X mX9_does [.ref (adr X 0), .int a] σ (.int (f_X9_does σ a).1) (f_X9_does σ a).2 := by
  unfold b_X9_does at hb
  refine sp_of (by decide +kernel) rfl ?_
  show WP X mX9_does 0 [(0, .ref (adr X 0)), (1, .int a)] [] σ _
  refine wp_aload_n dX9_does_0 0 rfl ?_
  obtain ⟨x1, hb⟩ := hb
  refine wp_cV0v (N := mX9_lives) dX9_does_1 tmX9_152 okX9_lives rfl rfl rfl rfl rfl rfl rfl rfl (s_X9_lives X _ x1) ?_
  refine wp_iload_n dX9_does_4 1 rfl ?_
  refine wp_cS1w (N := mX9_isTwo) dX9_does_5 tmX9_105 okX9_isTwo rfl rfl rfl rfl (s_X9_isTwo X _ _) ?_
  refine wp_if_eq 19 dX9_does_8 (by decide) (fun c8_2 => ?_) (fun c8_2 => ?_)
  · rw [if_pos c8_2] at hb
    refine wp_bipush dX9_does_19 bp_m2 ?_
    refine wp_ireturn dX9_does_21 rfl ?_
    exact ⟨by unfold f_X9_does; rw [if_pos c8_2], by unfold f_X9_does; rw [if_pos c8_2]⟩
  · rw [if_neg c8_2] at hb
    refine wp_aload_n dX9_does_11 0 rfl ?_
    refine wp_iload_n dX9_does_12 1 rfl ?_
    obtain ⟨x3, hb⟩ := hb
    refine wp_cV1w (N := mX9_doesOf) dX9_does_13 tmX9_209 okX9_doesOf rfl rfl rfl rfl rfl rfl rfl rfl (s_X9_doesOf X _ _ x3) ?_
    refine wp_goto 21 dX9_does_16 (by decide) ?_
    refine wp_ireturn dX9_does_21 rfl ?_
    exact ⟨by unfold f_X9_does; rw [if_neg c8_2], by unfold f_X9_does; rw [if_neg c8_2]⟩
def f_X9_startOf (σ : Mem) (a : Int32) (b : Int32) : Int32 := if b ≤ a then if a = b then if a ≤ b then if a = b then if (f_X9_isTorn σ (σ 10 ((0 : Int32).toNatClampNeg)) (σ 10 ((3 : Int32).toNatClampNeg))) = 0 then if (f_X9_squeezedOff σ (σ 10 ((0 : Int32).toNatClampNeg)) (σ 10 ((3 : Int32).toNatClampNeg))) = (-1) then 0 else 2 else 1 else if (f_X9_isTorn σ (σ 10 ((0 : Int32).toNatClampNeg)) 0) = 0 then if (f_X9_squeezedOff σ (σ 10 ((0 : Int32).toNatClampNeg)) 0) = (-1) then 0 else 2 else 1 else if (f_X9_isTorn σ (σ 10 ((0 : Int32).toNatClampNeg)) ((σ 10 ((3 : Int32).toNatClampNeg)) + (10 * (a - b)))) = 0 then if (f_X9_squeezedOff σ (σ 10 ((0 : Int32).toNatClampNeg)) ((σ 10 ((3 : Int32).toNatClampNeg)) + (10 * (a - b)))) = (-1) then 0 else 2 else 1 else if a ≤ b then if a = b then if (f_X9_isTorn σ 0 (σ 10 ((3 : Int32).toNatClampNeg))) = 0 then if (f_X9_squeezedOff σ 0 (σ 10 ((3 : Int32).toNatClampNeg))) = (-1) then 0 else 2 else 1 else if (f_X9_isTorn σ 0 0) = 0 then if (f_X9_squeezedOff σ 0 0) = (-1) then 0 else 2 else 1 else if (f_X9_isTorn σ 0 ((σ 10 ((3 : Int32).toNatClampNeg)) + (10 * (a - b)))) = 0 then if (f_X9_squeezedOff σ 0 ((σ 10 ((3 : Int32).toNatClampNeg)) + (10 * (a - b)))) = (-1) then 0 else 2 else 1 else if a ≤ b then if a = b then if (f_X9_isTorn σ ((σ 10 ((0 : Int32).toNatClampNeg)) + (10 * (b - a))) (σ 10 ((3 : Int32).toNatClampNeg))) = 0 then if (f_X9_squeezedOff σ ((σ 10 ((0 : Int32).toNatClampNeg)) + (10 * (b - a))) (σ 10 ((3 : Int32).toNatClampNeg))) = (-1) then 0 else 2 else 1 else if (f_X9_isTorn σ ((σ 10 ((0 : Int32).toNatClampNeg)) + (10 * (b - a))) 0) = 0 then if (f_X9_squeezedOff σ ((σ 10 ((0 : Int32).toNatClampNeg)) + (10 * (b - a))) 0) = (-1) then 0 else 2 else 1 else if (f_X9_isTorn σ ((σ 10 ((0 : Int32).toNatClampNeg)) + (10 * (b - a))) ((σ 10 ((3 : Int32).toNatClampNeg)) + (10 * (a - b)))) = 0 then if (f_X9_squeezedOff σ ((σ 10 ((0 : Int32).toNatClampNeg)) + (10 * (b - a))) ((σ 10 ((3 : Int32).toNatClampNeg)) + (10 * (a - b)))) = (-1) then 0 else 2 else 1
def b_X9_startOf (σ : Mem) (a : Int32) (b : Int32) : Prop := if b ≤ a then if a = b then if a ≤ b then if a = b then (b_X9_isTorn σ (σ 10 ((0 : Int32).toNatClampNeg)) (σ 10 ((3 : Int32).toNatClampNeg))) ∧ (if (f_X9_isTorn σ (σ 10 ((0 : Int32).toNatClampNeg)) (σ 10 ((3 : Int32).toNatClampNeg))) = 0 then (b_X9_squeezedOff σ (σ 10 ((0 : Int32).toNatClampNeg)) (σ 10 ((3 : Int32).toNatClampNeg))) ∧ (if (f_X9_squeezedOff σ (σ 10 ((0 : Int32).toNatClampNeg)) (σ 10 ((3 : Int32).toNatClampNeg))) = (-1) then True else True) else True) else (b_X9_isTorn σ (σ 10 ((0 : Int32).toNatClampNeg)) 0) ∧ (if (f_X9_isTorn σ (σ 10 ((0 : Int32).toNatClampNeg)) 0) = 0 then (b_X9_squeezedOff σ (σ 10 ((0 : Int32).toNatClampNeg)) 0) ∧ (if (f_X9_squeezedOff σ (σ 10 ((0 : Int32).toNatClampNeg)) 0) = (-1) then True else True) else True) else (b_X9_isTorn σ (σ 10 ((0 : Int32).toNatClampNeg)) ((σ 10 ((3 : Int32).toNatClampNeg)) + (10 * (a - b)))) ∧ (if (f_X9_isTorn σ (σ 10 ((0 : Int32).toNatClampNeg)) ((σ 10 ((3 : Int32).toNatClampNeg)) + (10 * (a - b)))) = 0 then (b_X9_squeezedOff σ (σ 10 ((0 : Int32).toNatClampNeg)) ((σ 10 ((3 : Int32).toNatClampNeg)) + (10 * (a - b)))) ∧ (if (f_X9_squeezedOff σ (σ 10 ((0 : Int32).toNatClampNeg)) ((σ 10 ((3 : Int32).toNatClampNeg)) + (10 * (a - b)))) = (-1) then True else True) else True) else if a ≤ b then if a = b then (b_X9_isTorn σ 0 (σ 10 ((3 : Int32).toNatClampNeg))) ∧ (if (f_X9_isTorn σ 0 (σ 10 ((3 : Int32).toNatClampNeg))) = 0 then (b_X9_squeezedOff σ 0 (σ 10 ((3 : Int32).toNatClampNeg))) ∧ (if (f_X9_squeezedOff σ 0 (σ 10 ((3 : Int32).toNatClampNeg))) = (-1) then True else True) else True) else (b_X9_isTorn σ 0 0) ∧ (if (f_X9_isTorn σ 0 0) = 0 then (b_X9_squeezedOff σ 0 0) ∧ (if (f_X9_squeezedOff σ 0 0) = (-1) then True else True) else True) else (b_X9_isTorn σ 0 ((σ 10 ((3 : Int32).toNatClampNeg)) + (10 * (a - b)))) ∧ (if (f_X9_isTorn σ 0 ((σ 10 ((3 : Int32).toNatClampNeg)) + (10 * (a - b)))) = 0 then (b_X9_squeezedOff σ 0 ((σ 10 ((3 : Int32).toNatClampNeg)) + (10 * (a - b)))) ∧ (if (f_X9_squeezedOff σ 0 ((σ 10 ((3 : Int32).toNatClampNeg)) + (10 * (a - b)))) = (-1) then True else True) else True) else if a ≤ b then if a = b then (b_X9_isTorn σ ((σ 10 ((0 : Int32).toNatClampNeg)) + (10 * (b - a))) (σ 10 ((3 : Int32).toNatClampNeg))) ∧ (if (f_X9_isTorn σ ((σ 10 ((0 : Int32).toNatClampNeg)) + (10 * (b - a))) (σ 10 ((3 : Int32).toNatClampNeg))) = 0 then (b_X9_squeezedOff σ ((σ 10 ((0 : Int32).toNatClampNeg)) + (10 * (b - a))) (σ 10 ((3 : Int32).toNatClampNeg))) ∧ (if (f_X9_squeezedOff σ ((σ 10 ((0 : Int32).toNatClampNeg)) + (10 * (b - a))) (σ 10 ((3 : Int32).toNatClampNeg))) = (-1) then True else True) else True) else (b_X9_isTorn σ ((σ 10 ((0 : Int32).toNatClampNeg)) + (10 * (b - a))) 0) ∧ (if (f_X9_isTorn σ ((σ 10 ((0 : Int32).toNatClampNeg)) + (10 * (b - a))) 0) = 0 then (b_X9_squeezedOff σ ((σ 10 ((0 : Int32).toNatClampNeg)) + (10 * (b - a))) 0) ∧ (if (f_X9_squeezedOff σ ((σ 10 ((0 : Int32).toNatClampNeg)) + (10 * (b - a))) 0) = (-1) then True else True) else True) else (b_X9_isTorn σ ((σ 10 ((0 : Int32).toNatClampNeg)) + (10 * (b - a))) ((σ 10 ((3 : Int32).toNatClampNeg)) + (10 * (a - b)))) ∧ (if (f_X9_isTorn σ ((σ 10 ((0 : Int32).toNatClampNeg)) + (10 * (b - a))) ((σ 10 ((3 : Int32).toNatClampNeg)) + (10 * (a - b)))) = 0 then (b_X9_squeezedOff σ ((σ 10 ((0 : Int32).toNatClampNeg)) + (10 * (b - a))) ((σ 10 ((3 : Int32).toNatClampNeg)) + (10 * (a - b)))) ∧ (if (f_X9_squeezedOff σ ((σ 10 ((0 : Int32).toNatClampNeg)) + (10 * (b - a))) ((σ 10 ((3 : Int32).toNatClampNeg)) + (10 * (a - b)))) = (-1) then True else True) else True)
theorem s_X9_startOf (X : Amb) (σ : Mem) (a : Int32) (b : Int32) (hb : b_X9_startOf σ a b) : SpW X mX9_startOf [.ref (adr X 0), .int a, .int b] σ (.int (f_X9_startOf σ a b)) σ := by
  unfold b_X9_startOf at hb
  refine sp_of (by decide +kernel) rfl ?_
  show WP X mX9_startOf 0 [(0, .ref (adr X 0)), (1, .int a), (2, .int b)] [] σ _
  refine wp_iload_n dX9_startOf_0 1 rfl ?_
  refine wp_iload_n dX9_startOf_1 2 rfl ?_
  refine wp_icmp_ge 21 dX9_startOf_2 (by decide) (fun c2_1 => ?_) (fun c2_1 => ?_)
  · rw [if_pos c2_1] at hb
    refine wp_iload_n dX9_startOf_21 1 rfl ?_
    refine wp_iload_n dX9_startOf_22 2 rfl ?_
    refine wp_icmp_ne 35 dX9_startOf_23 (by decide) (fun c23_2 => ?_) (fun c23_2 => ?_)
    · rw [if_neg c23_2] at hb
      refine wp_iconst dX9_startOf_35 ic_0 ?_
      refine wp_istore_n (L' := [(3, _), (0, _), (1, _), (2, _)]) dX9_startOf_36 rfl rfl ?_
      refine wp_iload_n dX9_startOf_37 3 rfl ?_
      refine wp_iload_n dX9_startOf_38 2 rfl ?_
      refine wp_icmp_ge 58 dX9_startOf_39 (by decide) (fun c39_3 => ?_) (fun c39_3 => ?_)
      · rw [if_pos c39_3] at hb
        refine wp_iload_n dX9_startOf_58 2 rfl ?_
        refine wp_iload_n dX9_startOf_59 3 rfl ?_
        refine wp_icmp_ne 72 dX9_startOf_60 (by decide) (fun c60_4 => ?_) (fun c60_4 => ?_)
        · rw [if_neg c60_4] at hb
          refine wp_iconst dX9_startOf_72 ic_0 ?_
          refine wp_istore (L' := [(4, _), (3, _), (0, _), (1, _), (2, _)]) dX9_startOf_73 rfl rfl ?_
          refine wp_aload_n dX9_startOf_75 2 rfl ?_
          refine wp_iload_n dX9_startOf_76 1 rfl ?_
          refine wp_iload dX9_startOf_77 0 rfl ?_
          obtain ⟨x5, hb⟩ := hb
          refine wp_cV2w (N := mX9_isTorn) dX9_startOf_79 tmX9_184 okX9_isTorn rfl rfl rfl rfl rfl rfl rfl rfl (s_X9_isTorn X _ _ _ x5) ?_
          refine wp_if_eq 89 dX9_startOf_82 (by decide) (fun c82_6 => ?_) (fun c82_6 => ?_)
          · rw [if_pos c82_6] at hb
            refine wp_aload_n dX9_startOf_89 2 rfl ?_
            refine wp_iload_n dX9_startOf_90 1 rfl ?_
            refine wp_iload dX9_startOf_91 0 rfl ?_
            obtain ⟨x7, hb⟩ := hb
            refine wp_cV2w (N := mX9_squeezedOff) dX9_startOf_93 tmX9_191 okX9_squeezedOff rfl rfl rfl rfl rfl rfl rfl rfl (s_X9_squeezedOff X _ _ _ x7) ?_
            refine wp_iconst dX9_startOf_96 ic_m1 ?_
            refine wp_icmp_eq 104 dX9_startOf_97 (by decide) (fun c97_8 => ?_) (fun c97_8 => ?_)
            · rw [if_pos c97_8] at hb
              refine wp_iconst dX9_startOf_104 ic_0 ?_
              refine wp_ireturn dX9_startOf_105 rfl ?_
              exact ⟨by unfold f_X9_startOf; rw [if_pos c2_1, if_neg c23_2, if_pos c39_3, if_neg c60_4, if_pos c82_6, if_pos c97_8], rfl⟩
            · rw [if_neg c97_8] at hb
              refine wp_iconst dX9_startOf_100 ic_2 ?_
              refine wp_goto 105 dX9_startOf_101 (by decide) ?_
              refine wp_ireturn dX9_startOf_105 rfl ?_
              exact ⟨by unfold f_X9_startOf; rw [if_pos c2_1, if_neg c23_2, if_pos c39_3, if_neg c60_4, if_pos c82_6, if_neg c97_8], rfl⟩
          · rw [if_neg c82_6] at hb
            refine wp_iconst dX9_startOf_85 ic_1 ?_
            refine wp_goto 105 dX9_startOf_86 (by decide) ?_
            refine wp_ireturn dX9_startOf_105 rfl ?_
            exact ⟨by unfold f_X9_startOf; rw [if_pos c2_1, if_neg c23_2, if_pos c39_3, if_neg c60_4, if_neg c82_6], rfl⟩
        · rw [if_pos c60_4] at hb
          refine wp_aload_n dX9_startOf_63 1 rfl ?_
          refine wp_getR dX9_startOf_64 faX9_38 rfl rfl ?_
          refine wp_iconst dX9_startOf_67 ic_3 ?_
          refine wp_iald dX9_startOf_68 rfl (vlit 3 6 (by decide)) ?_
          refine wp_goto 73 dX9_startOf_69 (by decide) ?_
          refine wp_istore (L' := [(4, _), (3, _), (0, _), (1, _), (2, _)]) dX9_startOf_73 rfl rfl ?_
          refine wp_aload_n dX9_startOf_75 2 rfl ?_
          refine wp_iload_n dX9_startOf_76 1 rfl ?_
          refine wp_iload dX9_startOf_77 0 rfl ?_
          obtain ⟨x9, hb⟩ := hb
          refine wp_cV2w (N := mX9_isTorn) dX9_startOf_79 tmX9_184 okX9_isTorn rfl rfl rfl rfl rfl rfl rfl rfl (s_X9_isTorn X _ _ _ x9) ?_
          refine wp_if_eq 89 dX9_startOf_82 (by decide) (fun c82_10 => ?_) (fun c82_10 => ?_)
          · rw [if_pos c82_10] at hb
            refine wp_aload_n dX9_startOf_89 2 rfl ?_
            refine wp_iload_n dX9_startOf_90 1 rfl ?_
            refine wp_iload dX9_startOf_91 0 rfl ?_
            obtain ⟨x11, hb⟩ := hb
            refine wp_cV2w (N := mX9_squeezedOff) dX9_startOf_93 tmX9_191 okX9_squeezedOff rfl rfl rfl rfl rfl rfl rfl rfl (s_X9_squeezedOff X _ _ _ x11) ?_
            refine wp_iconst dX9_startOf_96 ic_m1 ?_
            refine wp_icmp_eq 104 dX9_startOf_97 (by decide) (fun c97_12 => ?_) (fun c97_12 => ?_)
            · rw [if_pos c97_12] at hb
              refine wp_iconst dX9_startOf_104 ic_0 ?_
              refine wp_ireturn dX9_startOf_105 rfl ?_
              exact ⟨by unfold f_X9_startOf; rw [if_pos c2_1, if_neg c23_2, if_pos c39_3, if_pos c60_4, if_pos c82_10, if_pos c97_12], rfl⟩
            · rw [if_neg c97_12] at hb
              refine wp_iconst dX9_startOf_100 ic_2 ?_
              refine wp_goto 105 dX9_startOf_101 (by decide) ?_
              refine wp_ireturn dX9_startOf_105 rfl ?_
              exact ⟨by unfold f_X9_startOf; rw [if_pos c2_1, if_neg c23_2, if_pos c39_3, if_pos c60_4, if_pos c82_10, if_neg c97_12], rfl⟩
          · rw [if_neg c82_10] at hb
            refine wp_iconst dX9_startOf_85 ic_1 ?_
            refine wp_goto 105 dX9_startOf_86 (by decide) ?_
            refine wp_ireturn dX9_startOf_105 rfl ?_
            exact ⟨by unfold f_X9_startOf; rw [if_pos c2_1, if_neg c23_2, if_pos c39_3, if_pos c60_4, if_neg c82_10], rfl⟩
      · rw [if_neg c39_3] at hb
        refine wp_aload_n dX9_startOf_42 1 rfl ?_
        refine wp_getR dX9_startOf_43 faX9_38 rfl rfl ?_
        refine wp_iconst dX9_startOf_46 ic_3 ?_
        refine wp_iald dX9_startOf_47 rfl (vlit 3 6 (by decide)) ?_
        refine wp_bipush dX9_startOf_48 bp_10 ?_
        refine wp_iload_n dX9_startOf_50 2 rfl ?_
        refine wp_iload_n dX9_startOf_51 3 rfl ?_
        refine wp_isub dX9_startOf_52 ?_
        refine wp_imul dX9_startOf_53 ?_
        refine wp_iadd dX9_startOf_54 ?_
        refine wp_goto 73 dX9_startOf_55 (by decide) ?_
        refine wp_istore (L' := [(4, _), (3, _), (0, _), (1, _), (2, _)]) dX9_startOf_73 rfl rfl ?_
        refine wp_aload_n dX9_startOf_75 2 rfl ?_
        refine wp_iload_n dX9_startOf_76 1 rfl ?_
        refine wp_iload dX9_startOf_77 0 rfl ?_
        obtain ⟨x13, hb⟩ := hb
        refine wp_cV2w (N := mX9_isTorn) dX9_startOf_79 tmX9_184 okX9_isTorn rfl rfl rfl rfl rfl rfl rfl rfl (s_X9_isTorn X _ _ _ x13) ?_
        refine wp_if_eq 89 dX9_startOf_82 (by decide) (fun c82_14 => ?_) (fun c82_14 => ?_)
        · rw [if_pos c82_14] at hb
          refine wp_aload_n dX9_startOf_89 2 rfl ?_
          refine wp_iload_n dX9_startOf_90 1 rfl ?_
          refine wp_iload dX9_startOf_91 0 rfl ?_
          obtain ⟨x15, hb⟩ := hb
          refine wp_cV2w (N := mX9_squeezedOff) dX9_startOf_93 tmX9_191 okX9_squeezedOff rfl rfl rfl rfl rfl rfl rfl rfl (s_X9_squeezedOff X _ _ _ x15) ?_
          refine wp_iconst dX9_startOf_96 ic_m1 ?_
          refine wp_icmp_eq 104 dX9_startOf_97 (by decide) (fun c97_16 => ?_) (fun c97_16 => ?_)
          · rw [if_pos c97_16] at hb
            refine wp_iconst dX9_startOf_104 ic_0 ?_
            refine wp_ireturn dX9_startOf_105 rfl ?_
            exact ⟨by unfold f_X9_startOf; rw [if_pos c2_1, if_neg c23_2, if_neg c39_3, if_pos c82_14, if_pos c97_16], rfl⟩
          · rw [if_neg c97_16] at hb
            refine wp_iconst dX9_startOf_100 ic_2 ?_
            refine wp_goto 105 dX9_startOf_101 (by decide) ?_
            refine wp_ireturn dX9_startOf_105 rfl ?_
            exact ⟨by unfold f_X9_startOf; rw [if_pos c2_1, if_neg c23_2, if_neg c39_3, if_pos c82_14, if_neg c97_16], rfl⟩
        · rw [if_neg c82_14] at hb
          refine wp_iconst dX9_startOf_85 ic_1 ?_
          refine wp_goto 105 dX9_startOf_86 (by decide) ?_
          refine wp_ireturn dX9_startOf_105 rfl ?_
          exact ⟨by unfold f_X9_startOf; rw [if_pos c2_1, if_neg c23_2, if_neg c39_3, if_neg c82_14], rfl⟩
    · rw [if_pos c23_2] at hb
      refine wp_aload_n dX9_startOf_26 0 rfl ?_
      refine wp_getR dX9_startOf_27 faX9_38 rfl rfl ?_
      refine wp_iconst dX9_startOf_30 ic_0 ?_
      refine wp_iald dX9_startOf_31 rfl (vlit 0 6 (by decide)) ?_
      refine wp_goto 36 dX9_startOf_32 (by decide) ?_
      refine wp_istore_n (L' := [(3, _), (0, _), (1, _), (2, _)]) dX9_startOf_36 rfl rfl ?_
      refine wp_iload_n dX9_startOf_37 3 rfl ?_
      refine wp_iload_n dX9_startOf_38 2 rfl ?_
      refine wp_icmp_ge 58 dX9_startOf_39 (by decide) (fun c39_17 => ?_) (fun c39_17 => ?_)
      · rw [if_pos c39_17] at hb
        refine wp_iload_n dX9_startOf_58 2 rfl ?_
        refine wp_iload_n dX9_startOf_59 3 rfl ?_
        refine wp_icmp_ne 72 dX9_startOf_60 (by decide) (fun c60_18 => ?_) (fun c60_18 => ?_)
        · rw [if_neg c60_18] at hb
          refine wp_iconst dX9_startOf_72 ic_0 ?_
          refine wp_istore (L' := [(4, _), (3, _), (0, _), (1, _), (2, _)]) dX9_startOf_73 rfl rfl ?_
          refine wp_aload_n dX9_startOf_75 2 rfl ?_
          refine wp_iload_n dX9_startOf_76 1 rfl ?_
          refine wp_iload dX9_startOf_77 0 rfl ?_
          obtain ⟨x19, hb⟩ := hb
          refine wp_cV2w (N := mX9_isTorn) dX9_startOf_79 tmX9_184 okX9_isTorn rfl rfl rfl rfl rfl rfl rfl rfl (s_X9_isTorn X _ _ _ x19) ?_
          refine wp_if_eq 89 dX9_startOf_82 (by decide) (fun c82_20 => ?_) (fun c82_20 => ?_)
          · rw [if_pos c82_20] at hb
            refine wp_aload_n dX9_startOf_89 2 rfl ?_
            refine wp_iload_n dX9_startOf_90 1 rfl ?_
            refine wp_iload dX9_startOf_91 0 rfl ?_
            obtain ⟨x21, hb⟩ := hb
            refine wp_cV2w (N := mX9_squeezedOff) dX9_startOf_93 tmX9_191 okX9_squeezedOff rfl rfl rfl rfl rfl rfl rfl rfl (s_X9_squeezedOff X _ _ _ x21) ?_
            refine wp_iconst dX9_startOf_96 ic_m1 ?_
            refine wp_icmp_eq 104 dX9_startOf_97 (by decide) (fun c97_22 => ?_) (fun c97_22 => ?_)
            · rw [if_pos c97_22] at hb
              refine wp_iconst dX9_startOf_104 ic_0 ?_
              refine wp_ireturn dX9_startOf_105 rfl ?_
              exact ⟨by unfold f_X9_startOf; rw [if_pos c2_1, if_pos c23_2, if_pos c39_17, if_neg c60_18, if_pos c82_20, if_pos c97_22], rfl⟩
            · rw [if_neg c97_22] at hb
              refine wp_iconst dX9_startOf_100 ic_2 ?_
              refine wp_goto 105 dX9_startOf_101 (by decide) ?_
              refine wp_ireturn dX9_startOf_105 rfl ?_
              exact ⟨by unfold f_X9_startOf; rw [if_pos c2_1, if_pos c23_2, if_pos c39_17, if_neg c60_18, if_pos c82_20, if_neg c97_22], rfl⟩
          · rw [if_neg c82_20] at hb
            refine wp_iconst dX9_startOf_85 ic_1 ?_
            refine wp_goto 105 dX9_startOf_86 (by decide) ?_
            refine wp_ireturn dX9_startOf_105 rfl ?_
            exact ⟨by unfold f_X9_startOf; rw [if_pos c2_1, if_pos c23_2, if_pos c39_17, if_neg c60_18, if_neg c82_20], rfl⟩
        · rw [if_pos c60_18] at hb
          refine wp_aload_n dX9_startOf_63 1 rfl ?_
          refine wp_getR dX9_startOf_64 faX9_38 rfl rfl ?_
          refine wp_iconst dX9_startOf_67 ic_3 ?_
          refine wp_iald dX9_startOf_68 rfl (vlit 3 6 (by decide)) ?_
          refine wp_goto 73 dX9_startOf_69 (by decide) ?_
          refine wp_istore (L' := [(4, _), (3, _), (0, _), (1, _), (2, _)]) dX9_startOf_73 rfl rfl ?_
          refine wp_aload_n dX9_startOf_75 2 rfl ?_
          refine wp_iload_n dX9_startOf_76 1 rfl ?_
          refine wp_iload dX9_startOf_77 0 rfl ?_
          obtain ⟨x23, hb⟩ := hb
          refine wp_cV2w (N := mX9_isTorn) dX9_startOf_79 tmX9_184 okX9_isTorn rfl rfl rfl rfl rfl rfl rfl rfl (s_X9_isTorn X _ _ _ x23) ?_
          refine wp_if_eq 89 dX9_startOf_82 (by decide) (fun c82_24 => ?_) (fun c82_24 => ?_)
          · rw [if_pos c82_24] at hb
            refine wp_aload_n dX9_startOf_89 2 rfl ?_
            refine wp_iload_n dX9_startOf_90 1 rfl ?_
            refine wp_iload dX9_startOf_91 0 rfl ?_
            obtain ⟨x25, hb⟩ := hb
            refine wp_cV2w (N := mX9_squeezedOff) dX9_startOf_93 tmX9_191 okX9_squeezedOff rfl rfl rfl rfl rfl rfl rfl rfl (s_X9_squeezedOff X _ _ _ x25) ?_
            refine wp_iconst dX9_startOf_96 ic_m1 ?_
            refine wp_icmp_eq 104 dX9_startOf_97 (by decide) (fun c97_26 => ?_) (fun c97_26 => ?_)
            · rw [if_pos c97_26] at hb
              refine wp_iconst dX9_startOf_104 ic_0 ?_
              refine wp_ireturn dX9_startOf_105 rfl ?_
              exact ⟨by unfold f_X9_startOf; rw [if_pos c2_1, if_pos c23_2, if_pos c39_17, if_pos c60_18, if_pos c82_24, if_pos c97_26], rfl⟩
            · rw [if_neg c97_26] at hb
              refine wp_iconst dX9_startOf_100 ic_2 ?_
              refine wp_goto 105 dX9_startOf_101 (by decide) ?_
              refine wp_ireturn dX9_startOf_105 rfl ?_
              exact ⟨by unfold f_X9_startOf; rw [if_pos c2_1, if_pos c23_2, if_pos c39_17, if_pos c60_18, if_pos c82_24, if_neg c97_26], rfl⟩
          · rw [if_neg c82_24] at hb
            refine wp_iconst dX9_startOf_85 ic_1 ?_
            refine wp_goto 105 dX9_startOf_86 (by decide) ?_
            refine wp_ireturn dX9_startOf_105 rfl ?_
            exact ⟨by unfold f_X9_startOf; rw [if_pos c2_1, if_pos c23_2, if_pos c39_17, if_pos c60_18, if_neg c82_24], rfl⟩
      · rw [if_neg c39_17] at hb
        refine wp_aload_n dX9_startOf_42 1 rfl ?_
        refine wp_getR dX9_startOf_43 faX9_38 rfl rfl ?_
        refine wp_iconst dX9_startOf_46 ic_3 ?_
        refine wp_iald dX9_startOf_47 rfl (vlit 3 6 (by decide)) ?_
        refine wp_bipush dX9_startOf_48 bp_10 ?_
        refine wp_iload_n dX9_startOf_50 2 rfl ?_
        refine wp_iload_n dX9_startOf_51 3 rfl ?_
        refine wp_isub dX9_startOf_52 ?_
        refine wp_imul dX9_startOf_53 ?_
        refine wp_iadd dX9_startOf_54 ?_
        refine wp_goto 73 dX9_startOf_55 (by decide) ?_
        refine wp_istore (L' := [(4, _), (3, _), (0, _), (1, _), (2, _)]) dX9_startOf_73 rfl rfl ?_
        refine wp_aload_n dX9_startOf_75 2 rfl ?_
        refine wp_iload_n dX9_startOf_76 1 rfl ?_
        refine wp_iload dX9_startOf_77 0 rfl ?_
        obtain ⟨x27, hb⟩ := hb
        refine wp_cV2w (N := mX9_isTorn) dX9_startOf_79 tmX9_184 okX9_isTorn rfl rfl rfl rfl rfl rfl rfl rfl (s_X9_isTorn X _ _ _ x27) ?_
        refine wp_if_eq 89 dX9_startOf_82 (by decide) (fun c82_28 => ?_) (fun c82_28 => ?_)
        · rw [if_pos c82_28] at hb
          refine wp_aload_n dX9_startOf_89 2 rfl ?_
          refine wp_iload_n dX9_startOf_90 1 rfl ?_
          refine wp_iload dX9_startOf_91 0 rfl ?_
          obtain ⟨x29, hb⟩ := hb
          refine wp_cV2w (N := mX9_squeezedOff) dX9_startOf_93 tmX9_191 okX9_squeezedOff rfl rfl rfl rfl rfl rfl rfl rfl (s_X9_squeezedOff X _ _ _ x29) ?_
          refine wp_iconst dX9_startOf_96 ic_m1 ?_
          refine wp_icmp_eq 104 dX9_startOf_97 (by decide) (fun c97_30 => ?_) (fun c97_30 => ?_)
          · rw [if_pos c97_30] at hb
            refine wp_iconst dX9_startOf_104 ic_0 ?_
            refine wp_ireturn dX9_startOf_105 rfl ?_
            exact ⟨by unfold f_X9_startOf; rw [if_pos c2_1, if_pos c23_2, if_neg c39_17, if_pos c82_28, if_pos c97_30], rfl⟩
          · rw [if_neg c97_30] at hb
            refine wp_iconst dX9_startOf_100 ic_2 ?_
            refine wp_goto 105 dX9_startOf_101 (by decide) ?_
            refine wp_ireturn dX9_startOf_105 rfl ?_
            exact ⟨by unfold f_X9_startOf; rw [if_pos c2_1, if_pos c23_2, if_neg c39_17, if_pos c82_28, if_neg c97_30], rfl⟩
        · rw [if_neg c82_28] at hb
          refine wp_iconst dX9_startOf_85 ic_1 ?_
          refine wp_goto 105 dX9_startOf_86 (by decide) ?_
          refine wp_ireturn dX9_startOf_105 rfl ?_
          exact ⟨by unfold f_X9_startOf; rw [if_pos c2_1, if_pos c23_2, if_neg c39_17, if_neg c82_28], rfl⟩
  · rw [if_neg c2_1] at hb
    refine wp_aload_n dX9_startOf_5 0 rfl ?_
    refine wp_getR dX9_startOf_6 faX9_38 rfl rfl ?_
    refine wp_iconst dX9_startOf_9 ic_0 ?_
    refine wp_iald dX9_startOf_10 rfl (vlit 0 6 (by decide)) ?_
    refine wp_bipush dX9_startOf_11 bp_10 ?_
    refine wp_iload_n dX9_startOf_13 2 rfl ?_
    refine wp_iload_n dX9_startOf_14 1 rfl ?_
    refine wp_isub dX9_startOf_15 ?_
    refine wp_imul dX9_startOf_16 ?_
    refine wp_iadd dX9_startOf_17 ?_
    refine wp_goto 36 dX9_startOf_18 (by decide) ?_
    refine wp_istore_n (L' := [(3, _), (0, _), (1, _), (2, _)]) dX9_startOf_36 rfl rfl ?_
    refine wp_iload_n dX9_startOf_37 3 rfl ?_
    refine wp_iload_n dX9_startOf_38 2 rfl ?_
    refine wp_icmp_ge 58 dX9_startOf_39 (by decide) (fun c39_31 => ?_) (fun c39_31 => ?_)
    · rw [if_pos c39_31] at hb
      refine wp_iload_n dX9_startOf_58 2 rfl ?_
      refine wp_iload_n dX9_startOf_59 3 rfl ?_
      refine wp_icmp_ne 72 dX9_startOf_60 (by decide) (fun c60_32 => ?_) (fun c60_32 => ?_)
      · rw [if_neg c60_32] at hb
        refine wp_iconst dX9_startOf_72 ic_0 ?_
        refine wp_istore (L' := [(4, _), (3, _), (0, _), (1, _), (2, _)]) dX9_startOf_73 rfl rfl ?_
        refine wp_aload_n dX9_startOf_75 2 rfl ?_
        refine wp_iload_n dX9_startOf_76 1 rfl ?_
        refine wp_iload dX9_startOf_77 0 rfl ?_
        obtain ⟨x33, hb⟩ := hb
        refine wp_cV2w (N := mX9_isTorn) dX9_startOf_79 tmX9_184 okX9_isTorn rfl rfl rfl rfl rfl rfl rfl rfl (s_X9_isTorn X _ _ _ x33) ?_
        refine wp_if_eq 89 dX9_startOf_82 (by decide) (fun c82_34 => ?_) (fun c82_34 => ?_)
        · rw [if_pos c82_34] at hb
          refine wp_aload_n dX9_startOf_89 2 rfl ?_
          refine wp_iload_n dX9_startOf_90 1 rfl ?_
          refine wp_iload dX9_startOf_91 0 rfl ?_
          obtain ⟨x35, hb⟩ := hb
          refine wp_cV2w (N := mX9_squeezedOff) dX9_startOf_93 tmX9_191 okX9_squeezedOff rfl rfl rfl rfl rfl rfl rfl rfl (s_X9_squeezedOff X _ _ _ x35) ?_
          refine wp_iconst dX9_startOf_96 ic_m1 ?_
          refine wp_icmp_eq 104 dX9_startOf_97 (by decide) (fun c97_36 => ?_) (fun c97_36 => ?_)
          · rw [if_pos c97_36] at hb
            refine wp_iconst dX9_startOf_104 ic_0 ?_
            refine wp_ireturn dX9_startOf_105 rfl ?_
            exact ⟨by unfold f_X9_startOf; rw [if_neg c2_1, if_pos c39_31, if_neg c60_32, if_pos c82_34, if_pos c97_36], rfl⟩
          · rw [if_neg c97_36] at hb
            refine wp_iconst dX9_startOf_100 ic_2 ?_
            refine wp_goto 105 dX9_startOf_101 (by decide) ?_
            refine wp_ireturn dX9_startOf_105 rfl ?_
            exact ⟨by unfold f_X9_startOf; rw [if_neg c2_1, if_pos c39_31, if_neg c60_32, if_pos c82_34, if_neg c97_36], rfl⟩
        · rw [if_neg c82_34] at hb
          refine wp_iconst dX9_startOf_85 ic_1 ?_
          refine wp_goto 105 dX9_startOf_86 (by decide) ?_
          refine wp_ireturn dX9_startOf_105 rfl ?_
          exact ⟨by unfold f_X9_startOf; rw [if_neg c2_1, if_pos c39_31, if_neg c60_32, if_neg c82_34], rfl⟩
      · rw [if_pos c60_32] at hb
        refine wp_aload_n dX9_startOf_63 1 rfl ?_
        refine wp_getR dX9_startOf_64 faX9_38 rfl rfl ?_
        refine wp_iconst dX9_startOf_67 ic_3 ?_
        refine wp_iald dX9_startOf_68 rfl (vlit 3 6 (by decide)) ?_
        refine wp_goto 73 dX9_startOf_69 (by decide) ?_
        refine wp_istore (L' := [(4, _), (3, _), (0, _), (1, _), (2, _)]) dX9_startOf_73 rfl rfl ?_
        refine wp_aload_n dX9_startOf_75 2 rfl ?_
        refine wp_iload_n dX9_startOf_76 1 rfl ?_
        refine wp_iload dX9_startOf_77 0 rfl ?_
        obtain ⟨x37, hb⟩ := hb
        refine wp_cV2w (N := mX9_isTorn) dX9_startOf_79 tmX9_184 okX9_isTorn rfl rfl rfl rfl rfl rfl rfl rfl (s_X9_isTorn X _ _ _ x37) ?_
        refine wp_if_eq 89 dX9_startOf_82 (by decide) (fun c82_38 => ?_) (fun c82_38 => ?_)
        · rw [if_pos c82_38] at hb
          refine wp_aload_n dX9_startOf_89 2 rfl ?_
          refine wp_iload_n dX9_startOf_90 1 rfl ?_
          refine wp_iload dX9_startOf_91 0 rfl ?_
          obtain ⟨x39, hb⟩ := hb
          refine wp_cV2w (N := mX9_squeezedOff) dX9_startOf_93 tmX9_191 okX9_squeezedOff rfl rfl rfl rfl rfl rfl rfl rfl (s_X9_squeezedOff X _ _ _ x39) ?_
          refine wp_iconst dX9_startOf_96 ic_m1 ?_
          refine wp_icmp_eq 104 dX9_startOf_97 (by decide) (fun c97_40 => ?_) (fun c97_40 => ?_)
          · rw [if_pos c97_40] at hb
            refine wp_iconst dX9_startOf_104 ic_0 ?_
            refine wp_ireturn dX9_startOf_105 rfl ?_
            exact ⟨by unfold f_X9_startOf; rw [if_neg c2_1, if_pos c39_31, if_pos c60_32, if_pos c82_38, if_pos c97_40], rfl⟩
          · rw [if_neg c97_40] at hb
            refine wp_iconst dX9_startOf_100 ic_2 ?_
            refine wp_goto 105 dX9_startOf_101 (by decide) ?_
            refine wp_ireturn dX9_startOf_105 rfl ?_
            exact ⟨by unfold f_X9_startOf; rw [if_neg c2_1, if_pos c39_31, if_pos c60_32, if_pos c82_38, if_neg c97_40], rfl⟩
        · rw [if_neg c82_38] at hb
          refine wp_iconst dX9_startOf_85 ic_1 ?_
          refine wp_goto 105 dX9_startOf_86 (by decide) ?_
          refine wp_ireturn dX9_startOf_105 rfl ?_
          exact ⟨by unfold f_X9_startOf; rw [if_neg c2_1, if_pos c39_31, if_pos c60_32, if_neg c82_38], rfl⟩
    · rw [if_neg c39_31] at hb
      refine wp_aload_n dX9_startOf_42 1 rfl ?_
      refine wp_getR dX9_startOf_43 faX9_38 rfl rfl ?_
      refine wp_iconst dX9_startOf_46 ic_3 ?_
      refine wp_iald dX9_startOf_47 rfl (vlit 3 6 (by decide)) ?_
      refine wp_bipush dX9_startOf_48 bp_10 ?_
      refine wp_iload_n dX9_startOf_50 2 rfl ?_
      refine wp_iload_n dX9_startOf_51 3 rfl ?_
      refine wp_isub dX9_startOf_52 ?_
      refine wp_imul dX9_startOf_53 ?_
      refine wp_iadd dX9_startOf_54 ?_
      refine wp_goto 73 dX9_startOf_55 (by decide) ?_
      refine wp_istore (L' := [(4, _), (3, _), (0, _), (1, _), (2, _)]) dX9_startOf_73 rfl rfl ?_
      refine wp_aload_n dX9_startOf_75 2 rfl ?_
      refine wp_iload_n dX9_startOf_76 1 rfl ?_
      refine wp_iload dX9_startOf_77 0 rfl ?_
      obtain ⟨x41, hb⟩ := hb
      refine wp_cV2w (N := mX9_isTorn) dX9_startOf_79 tmX9_184 okX9_isTorn rfl rfl rfl rfl rfl rfl rfl rfl (s_X9_isTorn X _ _ _ x41) ?_
      refine wp_if_eq 89 dX9_startOf_82 (by decide) (fun c82_42 => ?_) (fun c82_42 => ?_)
      · rw [if_pos c82_42] at hb
        refine wp_aload_n dX9_startOf_89 2 rfl ?_
        refine wp_iload_n dX9_startOf_90 1 rfl ?_
        refine wp_iload dX9_startOf_91 0 rfl ?_
        obtain ⟨x43, hb⟩ := hb
        refine wp_cV2w (N := mX9_squeezedOff) dX9_startOf_93 tmX9_191 okX9_squeezedOff rfl rfl rfl rfl rfl rfl rfl rfl (s_X9_squeezedOff X _ _ _ x43) ?_
        refine wp_iconst dX9_startOf_96 ic_m1 ?_
        refine wp_icmp_eq 104 dX9_startOf_97 (by decide) (fun c97_44 => ?_) (fun c97_44 => ?_)
        · rw [if_pos c97_44] at hb
          refine wp_iconst dX9_startOf_104 ic_0 ?_
          refine wp_ireturn dX9_startOf_105 rfl ?_
          exact ⟨by unfold f_X9_startOf; rw [if_neg c2_1, if_neg c39_31, if_pos c82_42, if_pos c97_44], rfl⟩
        · rw [if_neg c97_44] at hb
          refine wp_iconst dX9_startOf_100 ic_2 ?_
          refine wp_goto 105 dX9_startOf_101 (by decide) ?_
          refine wp_ireturn dX9_startOf_105 rfl ?_
          exact ⟨by unfold f_X9_startOf; rw [if_neg c2_1, if_neg c39_31, if_pos c82_42, if_neg c97_44], rfl⟩
      · rw [if_neg c82_42] at hb
        refine wp_iconst dX9_startOf_85 ic_1 ?_
        refine wp_goto 105 dX9_startOf_86 (by decide) ?_
        refine wp_ireturn dX9_startOf_105 rfl ?_
        exact ⟨by unfold f_X9_startOf; rw [if_neg c2_1, if_neg c39_31, if_neg c82_42], rfl⟩
def f_X9_start (σ : Mem) (a : Int32) (b : Int32) : Int32 × Mem := if (f_X9_in (f_X9_reads σ) a.toInt64 0 9) = 0 then ((-2), (f_X9_reads σ)) else if (f_X9_in (f_X9_reads σ) b.toInt64 0 9) = 0 then ((-2), (f_X9_reads σ)) else ((f_X9_startOf (f_X9_reads σ) a b), (f_X9_reads σ))
def b_X9_start (σ : Mem) (a : Int32) (b : Int32) : Prop := (b_X9_reads σ) ∧ (if (f_X9_in (f_X9_reads σ) a.toInt64 0 9) = 0 then True else if (f_X9_in (f_X9_reads σ) b.toInt64 0 9) = 0 then True else (b_X9_startOf (f_X9_reads σ) a b) ∧ (True))
theorem s_X9_start (X : Amb) (σ : Mem) (a : Int32) (b : Int32) (hb : b_X9_start σ a b) : SpW X mX9_start [.ref (adr X 0), .int a, .int b] σ (.int (f_X9_start σ a b).1) (f_X9_start σ a b).2 := by
  unfold b_X9_start at hb
  refine sp_of (by decide +kernel) rfl ?_
  show WP X mX9_start 0 [(0, .ref (adr X 0)), (1, .int a), (2, .int b)] [] σ _
  refine wp_aload_n dX9_start_0 0 rfl ?_
  obtain ⟨x1, hb⟩ := hb
  refine wp_cV0v (N := mX9_reads) dX9_start_1 tmX9_128 okX9_reads rfl rfl rfl rfl rfl rfl rfl rfl (s_X9_reads X _ x1) ?_
  refine wp_iload_n dX9_start_4 1 rfl ?_
  refine wp_i2l dX9_start_5 ?_
  refine wp_lconst dX9_start_6 lc_0 ?_
  refine wp_ldc2 dX9_start_7 tlX9_116 ?_
  refine wp_cS3w (N := mX9_in) dX9_start_10 tmX9_73 okX9_in rfl rfl rfl rfl (s_X9_in X _ _ _ _) ?_
  refine wp_if_eq 37 dX9_start_13 (by decide) (fun c13_2 => ?_) (fun c13_2 => ?_)
  · rw [if_pos c13_2] at hb
    refine wp_bipush dX9_start_37 bp_m2 ?_
    refine wp_ireturn dX9_start_39 rfl ?_
    exact ⟨by unfold f_X9_start; rw [if_pos c13_2], by unfold f_X9_start; rw [if_pos c13_2]⟩
  · rw [if_neg c13_2] at hb
    refine wp_iload_n dX9_start_16 2 rfl ?_
    refine wp_i2l dX9_start_17 ?_
    refine wp_lconst dX9_start_18 lc_0 ?_
    refine wp_ldc2 dX9_start_19 tlX9_116 ?_
    refine wp_cS3w (N := mX9_in) dX9_start_22 tmX9_73 okX9_in rfl rfl rfl rfl (s_X9_in X _ _ _ _) ?_
    refine wp_if_eq 37 dX9_start_25 (by decide) (fun c25_3 => ?_) (fun c25_3 => ?_)
    · rw [if_pos c25_3] at hb
      refine wp_bipush dX9_start_37 bp_m2 ?_
      refine wp_ireturn dX9_start_39 rfl ?_
      exact ⟨by unfold f_X9_start; rw [if_neg c13_2, if_pos c25_3], by unfold f_X9_start; rw [if_neg c13_2, if_pos c25_3]⟩
    · rw [if_neg c25_3] at hb
      refine wp_aload_n dX9_start_28 0 rfl ?_
      refine wp_iload_n dX9_start_29 1 rfl ?_
      refine wp_iload_n dX9_start_30 2 rfl ?_
      obtain ⟨x4, hb⟩ := hb
      refine wp_cV2w (N := mX9_startOf) dX9_start_31 tmX9_212 okX9_startOf rfl rfl rfl rfl rfl rfl rfl rfl (s_X9_startOf X _ _ _ x4) ?_
      refine wp_goto 39 dX9_start_34 (by decide) ?_
      refine wp_ireturn dX9_start_39 rfl ?_
      exact ⟨by unfold f_X9_start; rw [if_neg c13_2, if_neg c25_3], by unfold f_X9_start; rw [if_neg c13_2, if_neg c25_3]⟩
def l_X9_safeOf_8 : Nat → Int32 → Int32 → Int32 → Int32 → Mem → Int32
  | 0, _, _, _, _, σ => 0
  | n + 1, a, b, c, d, σ => if d < 0 then if a = 0 then b else c else if (f_X9_startOf σ (d / 10) (d - d / 10 * 10)) = 0 then (l_X9_safeOf_8 n a (b + 1) d (d + (-1)) σ) else (l_X9_safeOf_8 n a (b + 0) c (d + (-1)) σ)
def bl_X9_safeOf_8 : Nat → Int32 → Int32 → Int32 → Int32 → Mem → Prop
  | 0, _, _, _, _, _ => False
  | n + 1, a, b, c, d, σ => if d < 0 then if a = 0 then True else True else (b_X9_startOf σ (d / 10) (d - d / 10 * 10)) ∧ (if (f_X9_startOf σ (d / 10) (d - d / 10 * 10)) = 0 then (bl_X9_safeOf_8 n a (b + 1) d (d + (-1)) σ) else (bl_X9_safeOf_8 n a (b + 0) c (d + (-1)) σ))
theorem lt_X9_safeOf_8 (X : Amb) : ∀ (n : Nat) (a : Int32) (b : Int32) (c : Int32) (d : Int32) (σ : Mem), bl_X9_safeOf_8 n a b c d σ → WP X mX9_safeOf 8 [(0, .ref (adr X 0)), (1, .int a), (2, .int b), (3, .int c), (4, .int d)] [] σ (fun v σ' => v = some (.int (l_X9_safeOf_8 n a b c d σ)) ∧ σ' = σ) := by
  intro n
  induction n with
  | zero => intro a b c d σ hb; exact hb.elim
  | succ n ih =>
    intro a b c d σ hb
    rw [bl_X9_safeOf_8] at hb
    refine wp_iload dX9_safeOf_8 4 rfl ?_
    refine wp_if_lt 68 dX9_safeOf_10 (by decide) (fun c10_1 => ?_) (fun c10_1 => ?_)
    · rw [if_pos c10_1] at hb
      refine wp_iload_n dX9_safeOf_68 1 rfl ?_
      refine wp_if_ne 76 dX9_safeOf_69 (by decide) (fun c69_2 => ?_) (fun c69_2 => ?_)
      · rw [if_neg c69_2] at hb
        refine wp_iload_n dX9_safeOf_76 3 rfl ?_
        refine wp_ireturn dX9_safeOf_77 rfl ?_
        exact ⟨by rw [l_X9_safeOf_8, if_pos c10_1, if_neg c69_2], rfl⟩
      · rw [if_pos c69_2] at hb
        refine wp_iload_n dX9_safeOf_72 2 rfl ?_
        refine wp_goto 77 dX9_safeOf_73 (by decide) ?_
        refine wp_ireturn dX9_safeOf_77 rfl ?_
        exact ⟨by rw [l_X9_safeOf_8, if_pos c10_1, if_pos c69_2], rfl⟩
    · rw [if_neg c10_1] at hb
      refine wp_aload_n dX9_safeOf_13 0 rfl ?_
      refine wp_iload dX9_safeOf_14 4 rfl ?_
      refine wp_bipush dX9_safeOf_16 bp_10 ?_
      refine wp_idiv dX9_safeOf_18 (by decide) ?_
      refine wp_iload dX9_safeOf_19 4 rfl ?_
      refine wp_bipush dX9_safeOf_21 bp_10 ?_
      refine wp_irem dX9_safeOf_23 (by decide) ?_
      obtain ⟨x3, hb⟩ := hb
      refine wp_cV2w (N := mX9_startOf) dX9_safeOf_24 tmX9_212 okX9_startOf rfl rfl rfl rfl rfl rfl rfl rfl (s_X9_startOf X _ _ _ x3) ?_
      refine wp_if_ne 34 dX9_safeOf_27 (by decide) (fun c27_4 => ?_) (fun c27_4 => ?_)
      · rw [if_neg c27_4] at hb
        refine wp_iconst dX9_safeOf_34 ic_0 ?_
        refine wp_istore (L' := [(5, _), (0, _), (1, _), (2, _), (3, _), (4, _)]) dX9_safeOf_35 rfl rfl ?_
        refine wp_iload_n dX9_safeOf_37 3 rfl ?_
        refine wp_iload dX9_safeOf_38 0 rfl ?_
        refine wp_if_eq 47 dX9_safeOf_40 (by decide) (fun _ => ?_) (fun z9 => absurd (by decide) z9)
        refine wp_iconst dX9_safeOf_47 ic_0 ?_
        refine wp_iadd dX9_safeOf_48 ?_
        refine wp_istore_n (L' := [(2, _), (5, _), (0, _), (1, _), (3, _), (4, _)]) dX9_safeOf_49 rfl rfl ?_
        refine wp_iload dX9_safeOf_50 1 rfl ?_
        refine wp_if_eq 60 dX9_safeOf_52 (by decide) (fun _ => ?_) (fun z9 => absurd (by decide) z9)
        refine wp_iload_n dX9_safeOf_60 4 rfl ?_
        refine wp_istore_n (L' := [(3, _), (2, _), (5, _), (0, _), (1, _), (4, _)]) dX9_safeOf_61 rfl rfl ?_
        refine wp_iinc (L' := [(4, _), (3, _), (2, _), (5, _), (0, _), (1, _)]) dX9_safeOf_62 rfl 5 rfl (ii_m1 _) rfl ?_
        refine wp_goto 8 dX9_safeOf_65 (by decide) ?_
        refine wp_drop [4, 5, 2, 1, 0] rfl ?_
        rw [show l_X9_safeOf_8 (n + 1) a b c d σ = (l_X9_safeOf_8 n a (b + 0) c (d + (-1)) σ) from by rw [l_X9_safeOf_8, if_neg c10_1, if_neg c27_4]]
        exact ih _ _ _ _ _ hb
      · rw [if_pos c27_4] at hb
        refine wp_iconst dX9_safeOf_30 ic_1 ?_
        refine wp_goto 35 dX9_safeOf_31 (by decide) ?_
        refine wp_istore (L' := [(5, _), (0, _), (1, _), (2, _), (3, _), (4, _)]) dX9_safeOf_35 rfl rfl ?_
        refine wp_iload_n dX9_safeOf_37 3 rfl ?_
        refine wp_iload dX9_safeOf_38 0 rfl ?_
        refine wp_if_eq 47 dX9_safeOf_40 (by decide) (fun z9 => absurd z9 (by decide)) (fun _ => ?_)
        refine wp_iconst dX9_safeOf_43 ic_1 ?_
        refine wp_goto 48 dX9_safeOf_44 (by decide) ?_
        refine wp_iadd dX9_safeOf_48 ?_
        refine wp_istore_n (L' := [(2, _), (5, _), (0, _), (1, _), (3, _), (4, _)]) dX9_safeOf_49 rfl rfl ?_
        refine wp_iload dX9_safeOf_50 1 rfl ?_
        refine wp_if_eq 60 dX9_safeOf_52 (by decide) (fun z9 => absurd z9 (by decide)) (fun _ => ?_)
        refine wp_iload dX9_safeOf_55 5 rfl ?_
        refine wp_goto 61 dX9_safeOf_57 (by decide) ?_
        refine wp_istore_n (L' := [(3, _), (2, _), (5, _), (0, _), (1, _), (4, _)]) dX9_safeOf_61 rfl rfl ?_
        refine wp_iinc (L' := [(4, _), (3, _), (2, _), (5, _), (0, _), (1, _)]) dX9_safeOf_62 rfl 5 rfl (ii_m1 _) rfl ?_
        refine wp_goto 8 dX9_safeOf_65 (by decide) ?_
        refine wp_drop [4, 5, 2, 1, 0] rfl ?_
        rw [show l_X9_safeOf_8 (n + 1) a b c d σ = (l_X9_safeOf_8 n a (b + 1) d (d + (-1)) σ) from by rw [l_X9_safeOf_8, if_neg c10_1, if_pos c27_4]]
        exact ih _ _ _ _ _ hb
def f_X9_safeOf (σ : Mem) (a : Int32) : Int32 := (l_X9_safeOf_8 (fu 101) a 0 (-1) 99 σ)
def b_X9_safeOf (σ : Mem) (a : Int32) : Prop := (bl_X9_safeOf_8 (fu 101) a 0 (-1) 99 σ)
theorem s_X9_safeOf (X : Amb) (σ : Mem) (a : Int32) (hb : b_X9_safeOf σ a) : SpW X mX9_safeOf [.ref (adr X 0), .int a] σ (.int (f_X9_safeOf σ a)) σ := by
  unfold b_X9_safeOf at hb
  refine sp_of (by decide +kernel) rfl ?_
  show WP X mX9_safeOf 0 [(0, .ref (adr X 0)), (1, .int a)] [] σ _
  refine wp_iconst dX9_safeOf_0 ic_0 ?_
  refine wp_istore_n (L' := [(2, _), (0, _), (1, _)]) dX9_safeOf_1 rfl rfl ?_
  refine wp_iconst dX9_safeOf_2 ic_m1 ?_
  refine wp_istore_n (L' := [(3, _), (2, _), (0, _), (1, _)]) dX9_safeOf_3 rfl rfl ?_
  refine wp_bipush dX9_safeOf_4 bp_99 ?_
  refine wp_istore (L' := [(4, _), (3, _), (2, _), (0, _), (1, _)]) dX9_safeOf_6 rfl rfl ?_
  refine wp_drop [3, 4, 2, 1, 0] rfl ?_
  rw [show f_X9_safeOf σ a = (l_X9_safeOf_8 (fu 101) a 0 (-1) 99 σ) from rfl]
  exact lt_X9_safeOf_8 X (fu 101) a 0 (-1) 99 σ hb
def f_X9_safe (σ : Mem) (a : Int32) : Int32 × Mem := if (f_X9_isTwo (f_X9_reads σ) a) = 0 then ((-2), (f_X9_reads σ)) else ((f_X9_safeOf (f_X9_reads σ) a), (f_X9_reads σ))
def b_X9_safe (σ : Mem) (a : Int32) : Prop := (b_X9_reads σ) ∧ (if (f_X9_isTwo (f_X9_reads σ) a) = 0 then True else (b_X9_safeOf (f_X9_reads σ) a) ∧ (True))
theorem s_X9_safe (X : Amb) (σ : Mem) (a : Int32) (hb : b_X9_safe σ a) : SpW X mX9_safe [.ref (adr X 0), .int a] σ (.int (f_X9_safe σ a).1) (f_X9_safe σ a).2 := by
  unfold b_X9_safe at hb
  refine sp_of (by decide +kernel) rfl ?_
  show WP X mX9_safe 0 [(0, .ref (adr X 0)), (1, .int a)] [] σ _
  refine wp_aload_n dX9_safe_0 0 rfl ?_
  obtain ⟨x1, hb⟩ := hb
  refine wp_cV0v (N := mX9_reads) dX9_safe_1 tmX9_128 okX9_reads rfl rfl rfl rfl rfl rfl rfl rfl (s_X9_reads X _ x1) ?_
  refine wp_iload_n dX9_safe_4 1 rfl ?_
  refine wp_cS1w (N := mX9_isTwo) dX9_safe_5 tmX9_105 okX9_isTwo rfl rfl rfl rfl (s_X9_isTwo X _ _) ?_
  refine wp_if_eq 19 dX9_safe_8 (by decide) (fun c8_2 => ?_) (fun c8_2 => ?_)
  · rw [if_pos c8_2] at hb
    refine wp_bipush dX9_safe_19 bp_m2 ?_
    refine wp_ireturn dX9_safe_21 rfl ?_
    exact ⟨by unfold f_X9_safe; rw [if_pos c8_2], by unfold f_X9_safe; rw [if_pos c8_2]⟩
  · rw [if_neg c8_2] at hb
    refine wp_aload_n dX9_safe_11 0 rfl ?_
    refine wp_iload_n dX9_safe_12 1 rfl ?_
    obtain ⟨x3, hb⟩ := hb
    refine wp_cV1w (N := mX9_safeOf) dX9_safe_13 tmX9_215 okX9_safeOf rfl rfl rfl rfl rfl rfl rfl rfl (s_X9_safeOf X _ _ x3) ?_
    refine wp_goto 21 dX9_safe_16 (by decide) ?_
    refine wp_ireturn dX9_safe_21 rfl ?_
    exact ⟨by unfold f_X9_safe; rw [if_neg c8_2], by unfold f_X9_safe; rw [if_neg c8_2]⟩
end
