noncomputable section
def l_X9_unfolds_58 (K : Int32 → Mem → Mem) : Nat → Int32 → Int32 → Mem → Mem
  | 0, _, _, σ => σ
  | n + 1, a, b, σ => if (σ 0 7) ≤ b then (K (a + (-1)) σ) else if (σ 16 (b.toNatClampNeg)) < (σ 16 (a.toNatClampNeg)) then (l_X9_unfolds_58 K n a (b + 1) (mst σ 16 (b.toNatClampNeg) ((σ 16 (b.toNatClampNeg)) + 0))) else (l_X9_unfolds_58 K n a (b + 1) (mst σ 16 (b.toNatClampNeg) ((σ 16 (b.toNatClampNeg)) + 1)))
def bl_X9_unfolds_58 (bK : Int32 → Mem → Prop) : Nat → Int32 → Int32 → Mem → Prop
  | 0, _, _, _ => False
  | n + 1, a, b, σ => if (σ 0 7) ≤ b then (bK (a + (-1)) σ) else (vp_in b 6) ∧ ((vp_in b 6) ∧ ((vp_in a 6) ∧ (if (σ 16 (b.toNatClampNeg)) < (σ 16 (a.toNatClampNeg)) then (vp_in b 6) ∧ ((bl_X9_unfolds_58 bK n a (b + 1) (mst σ 16 (b.toNatClampNeg) ((σ 16 (b.toNatClampNeg)) + 0)))) else (vp_in b 6) ∧ ((bl_X9_unfolds_58 bK n a (b + 1) (mst σ 16 (b.toNatClampNeg) ((σ 16 (b.toNatClampNeg)) + 1)))))))
theorem lt_X9_unfolds_58 (X : Amb) (K : Int32 → Mem → Mem) (bK : Int32 → Mem → Prop) (hK : ∀ (a : Int32) (σ : Mem), bK a σ → WP X mX9_unfolds 49 [(0, .ref (adr X 0)), (3, .int a)] [] σ (fun v σ' => v = none ∧ σ' = K a σ)) : ∀ (n : Nat) (a : Int32) (b : Int32) (σ : Mem), bl_X9_unfolds_58 bK n a b σ → WP X mX9_unfolds 58 [(0, .ref (adr X 0)), (3, .int a), (4, .int b)] [] σ (fun v σ' => v = none ∧ σ' = l_X9_unfolds_58 K n a b σ) := by
  intro n
  induction n with
  | zero => intro a b σ hb; exact hb.elim
  | succ n ih =>
    intro a b σ hb
    rw [bl_X9_unfolds_58] at hb
    refine wp_iload dX9_unfolds_58 2 rfl ?_
    refine wp_aload_n dX9_unfolds_60 0 rfl ?_
    refine wp_getI dX9_unfolds_61 faX9_110 rfl rfl ?_
    refine wp_icmp_ge 104 dX9_unfolds_64 (by decide) (fun c64_1 => ?_) (fun c64_1 => ?_)
    · rw [if_pos c64_1] at hb
      refine wp_iinc (L' := [(3, _), (0, _), (4, _)]) dX9_unfolds_104 rfl 1 rfl (ii_m1 _) rfl ?_
      refine wp_goto 49 dX9_unfolds_107 (by decide) ?_
      refine wp_drop [1, 0] rfl ?_
      rw [show l_X9_unfolds_58 K (n + 1) a b σ = (K (a + (-1)) σ) from by rw [l_X9_unfolds_58, if_pos c64_1]]
      exact hK _ _ hb
    · rw [if_neg c64_1] at hb
      refine wp_aload_n dX9_unfolds_67 0 rfl ?_
      refine wp_getR dX9_unfolds_68 faX9_56 rfl rfl ?_
      refine wp_iload dX9_unfolds_71 2 rfl ?_
      refine wp_dup2 dX9_unfolds_73 rfl rfl ?_
      obtain ⟨x2, hb⟩ := hb
      refine wp_iald dX9_unfolds_74 rfl x2 ?_
      refine wp_aload_n dX9_unfolds_75 0 rfl ?_
      refine wp_getR dX9_unfolds_76 faX9_56 rfl rfl ?_
      refine wp_iload dX9_unfolds_79 2 rfl ?_
      obtain ⟨x3, hb⟩ := hb
      refine wp_iald dX9_unfolds_81 rfl x3 ?_
      refine wp_aload_n dX9_unfolds_82 0 rfl ?_
      refine wp_getR dX9_unfolds_83 faX9_56 rfl rfl ?_
      refine wp_iload_n dX9_unfolds_86 1 rfl ?_
      obtain ⟨x4, hb⟩ := hb
      refine wp_iald dX9_unfolds_87 rfl x4 ?_
      refine wp_icmp_lt 95 dX9_unfolds_88 (by decide) (fun c88_5 => ?_) (fun c88_5 => ?_)
      · rw [if_pos c88_5] at hb
        refine wp_iconst dX9_unfolds_95 ic_0 ?_
        refine wp_iadd dX9_unfolds_96 ?_
        obtain ⟨x6, hb⟩ := hb
        refine wp_iast dX9_unfolds_97 rfl x6 ?_
        refine wp_iinc (L' := [(4, _), (0, _), (3, _)]) dX9_unfolds_98 rfl 2 rfl (ii_1 _) rfl ?_
        refine wp_goto 58 dX9_unfolds_101 (by decide) ?_
        refine wp_drop [1, 2, 0] rfl ?_
        rw [show l_X9_unfolds_58 K (n + 1) a b σ = (l_X9_unfolds_58 K n a (b + 1) (mst σ 16 (b.toNatClampNeg) ((σ 16 (b.toNatClampNeg)) + 0))) from by rw [l_X9_unfolds_58, if_neg c64_1, if_pos c88_5]]
        exact ih _ _ _ hb
      · rw [if_neg c88_5] at hb
        refine wp_iconst dX9_unfolds_91 ic_1 ?_
        refine wp_goto 96 dX9_unfolds_92 (by decide) ?_
        refine wp_iadd dX9_unfolds_96 ?_
        obtain ⟨x7, hb⟩ := hb
        refine wp_iast dX9_unfolds_97 rfl x7 ?_
        refine wp_iinc (L' := [(4, _), (0, _), (3, _)]) dX9_unfolds_98 rfl 2 rfl (ii_1 _) rfl ?_
        refine wp_goto 58 dX9_unfolds_101 (by decide) ?_
        refine wp_drop [1, 2, 0] rfl ?_
        rw [show l_X9_unfolds_58 K (n + 1) a b σ = (l_X9_unfolds_58 K n a (b + 1) (mst σ 16 (b.toNatClampNeg) ((σ 16 (b.toNatClampNeg)) + 1))) from by rw [l_X9_unfolds_58, if_neg c64_1, if_neg c88_5]]
        exact ih _ _ _ hb
def l_X9_unfolds_49 : Nat → Int32 → Mem → Mem
  | 0, _, σ => σ
  | n + 1, a, σ => if a < 0 then σ else (l_X9_unfolds_58 (l_X9_unfolds_49 n) (fu 8) a (a + 1) σ)
def bl_X9_unfolds_49 : Nat → Int32 → Mem → Prop
  | 0, _, _ => False
  | n + 1, a, σ => if a < 0 then True else (bl_X9_unfolds_58 (bl_X9_unfolds_49 n) (fu 8) a (a + 1) σ)
theorem lt_X9_unfolds_49 (X : Amb) : ∀ (n : Nat) (a : Int32) (σ : Mem), bl_X9_unfolds_49 n a σ → WP X mX9_unfolds 49 [(0, .ref (adr X 0)), (3, .int a)] [] σ (fun v σ' => v = none ∧ σ' = l_X9_unfolds_49 n a σ) := by
  intro n
  induction n with
  | zero => intro a σ hb; exact hb.elim
  | succ n ih =>
    intro a σ hb
    rw [bl_X9_unfolds_49] at hb
    refine wp_iload_n dX9_unfolds_49 1 rfl ?_
    refine wp_if_lt 110 dX9_unfolds_50 (by decide) (fun c50_1 => ?_) (fun c50_1 => ?_)
    · rw [if_pos c50_1] at hb
      refine wp_return dX9_unfolds_110 rfl ?_
      exact ⟨rfl, by rw [l_X9_unfolds_49, if_pos c50_1]⟩
    · rw [if_neg c50_1] at hb
      refine wp_iload_n dX9_unfolds_53 1 rfl ?_
      refine wp_iconst dX9_unfolds_54 ic_1 ?_
      refine wp_iadd dX9_unfolds_55 ?_
      refine wp_istore (L' := [(4, _), (0, _), (3, _)]) dX9_unfolds_56 rfl rfl ?_
      refine wp_drop [1, 2, 0] rfl ?_
      rw [show l_X9_unfolds_49 (n + 1) a σ = (l_X9_unfolds_58 (l_X9_unfolds_49 n) (fu 8) a (a + 1) σ) from by rw [l_X9_unfolds_49]; rw [if_neg c50_1]]
      exact lt_X9_unfolds_58 X (l_X9_unfolds_49 n) (bl_X9_unfolds_49 n) ih (fu 8) a (a + 1) σ hb
def l_X9_unfolds_9 : Nat → Int32 → Int32 → Mem → Mem
  | 0, _, _, σ => σ
  | n + 1, b, c, σ => if c < 0 then (l_X9_unfolds_49 (fu 8) ((σ 0 7) - 1) σ) else (l_X9_unfolds_9 n (b / ((σ 0 7) - c)) (c + (-1)) (mst σ 16 (c.toNatClampNeg) (b - b / ((σ 0 7) - c) * ((σ 0 7) - c))))
def bl_X9_unfolds_9 : Nat → Int32 → Int32 → Mem → Prop
  | 0, _, _, _ => False
  | n + 1, b, c, σ => if c < 0 then (bl_X9_unfolds_49 (fu 8) ((σ 0 7) - 1) σ) else (¬ ((σ 0 7) - c) = 0) ∧ ((vp_in c 6) ∧ ((¬ ((σ 0 7) - c) = 0) ∧ ((bl_X9_unfolds_9 n (b / ((σ 0 7) - c)) (c + (-1)) (mst σ 16 (c.toNatClampNeg) (b - b / ((σ 0 7) - c) * ((σ 0 7) - c)))))))
theorem lt_X9_unfolds_9 (X : Amb) : ∀ (n : Nat) (b : Int32) (c : Int32) (σ : Mem), bl_X9_unfolds_9 n b c σ → WP X mX9_unfolds 9 [(0, .ref (adr X 0)), (2, .int b), (3, .int c)] [] σ (fun v σ' => v = none ∧ σ' = l_X9_unfolds_9 n b c σ) := by
  intro n
  induction n with
  | zero => intro b c σ hb; exact hb.elim
  | succ n ih =>
    intro b c σ hb
    rw [bl_X9_unfolds_9] at hb
    refine wp_iload_n dX9_unfolds_9 2 rfl ?_
    refine wp_if_lt 42 dX9_unfolds_10 (by decide) (fun c10_1 => ?_) (fun c10_1 => ?_)
    · rw [if_pos c10_1] at hb
      refine wp_aload_n dX9_unfolds_42 0 rfl ?_
      refine wp_getI dX9_unfolds_43 faX9_110 rfl rfl ?_
      refine wp_iconst dX9_unfolds_46 ic_1 ?_
      refine wp_isub dX9_unfolds_47 ?_
      refine wp_istore_n (L' := [(3, _), (0, _), (2, _)]) dX9_unfolds_48 rfl rfl ?_
      refine wp_drop [1, 0] rfl ?_
      rw [show l_X9_unfolds_9 (n + 1) b c σ = (l_X9_unfolds_49 (fu 8) ((σ 0 7) - 1) σ) from by rw [l_X9_unfolds_9]; rw [if_pos c10_1]]
      exact lt_X9_unfolds_49 X (fu 8) ((σ 0 7) - 1) σ hb
    · rw [if_neg c10_1] at hb
      refine wp_aload_n dX9_unfolds_13 0 rfl ?_
      refine wp_getR dX9_unfolds_14 faX9_56 rfl rfl ?_
      refine wp_iload_n dX9_unfolds_17 2 rfl ?_
      refine wp_iload_n dX9_unfolds_18 1 rfl ?_
      refine wp_aload_n dX9_unfolds_19 0 rfl ?_
      refine wp_getI dX9_unfolds_20 faX9_110 rfl rfl ?_
      refine wp_iload_n dX9_unfolds_23 2 rfl ?_
      refine wp_isub dX9_unfolds_24 ?_
      obtain ⟨x2, hb⟩ := hb
      refine wp_irem dX9_unfolds_25 x2 ?_
      obtain ⟨x3, hb⟩ := hb
      refine wp_iast dX9_unfolds_26 rfl x3 ?_
      refine wp_iload_n dX9_unfolds_27 1 rfl ?_
      refine wp_aload_n dX9_unfolds_28 0 rfl ?_
      refine wp_getI dX9_unfolds_29 faX9_110 rfl rfl ?_
      refine wp_topi (y := (σ 0 7)) rfl ?_
      refine wp_iload_n dX9_unfolds_32 2 rfl ?_
      refine wp_isub dX9_unfolds_33 ?_
      obtain ⟨x4, hb⟩ := hb
      refine wp_idiv dX9_unfolds_34 x4 ?_
      refine wp_istore_n (L' := [(2, _), (0, _), (3, _)]) dX9_unfolds_35 rfl rfl ?_
      refine wp_iinc (L' := [(3, _), (2, _), (0, _)]) dX9_unfolds_36 rfl 2 rfl (ii_m1 _) rfl ?_
      refine wp_goto 9 dX9_unfolds_39 (by decide) ?_
      refine wp_drop [2, 1, 0] rfl ?_
      rw [show l_X9_unfolds_9 (n + 1) b c σ = (l_X9_unfolds_9 n (b / ((σ 0 7) - c)) (c + (-1)) (mst σ 16 (c.toNatClampNeg) (b - b / ((σ 0 7) - c) * ((σ 0 7) - c)))) from by rw [l_X9_unfolds_9, if_neg c10_1]]
      exact ih _ _ _ hb
def f_X9_unfolds (σ : Mem) (a : Int32) : Mem := (l_X9_unfolds_9 (fu 8) a ((σ 0 7) - 1) σ)
def b_X9_unfolds (σ : Mem) (a : Int32) : Prop := (bl_X9_unfolds_9 (fu 8) a ((σ 0 7) - 1) σ)
theorem s_X9_unfolds (X : Amb) (σ : Mem) (a : Int32) (hb : b_X9_unfolds σ a) : SpV X mX9_unfolds [.ref (adr X 0), .int a] σ (f_X9_unfolds σ a) := by
  unfold b_X9_unfolds at hb
  refine sp_of (by decide +kernel) rfl ?_
  show WP X mX9_unfolds 0 [(0, .ref (adr X 0)), (1, .int a)] [] σ _
  refine wp_iload_n dX9_unfolds_0 1 rfl ?_
  refine wp_istore_n (L' := [(2, _), (0, _), (1, _)]) dX9_unfolds_1 rfl rfl ?_
  refine wp_aload_n dX9_unfolds_2 1 rfl ?_
  refine wp_getI dX9_unfolds_3 faX9_110 rfl rfl ?_
  refine wp_iconst dX9_unfolds_6 ic_1 ?_
  refine wp_isub dX9_unfolds_7 ?_
  refine wp_istore_n (L' := [(3, _), (2, _), (0, _), (1, _)]) dX9_unfolds_8 rfl rfl ?_
  refine wp_drop [2, 1, 0] rfl ?_
  rw [show f_X9_unfolds σ a = (l_X9_unfolds_9 (fu 8) a ((σ 0 7) - 1) σ) from rfl]
  exact lt_X9_unfolds_9 X (fu 8) a ((σ 0 7) - 1) σ hb
def l_X9_squeezes_14 : Nat → Int32 → Int32 → Mem → Mem
  | 0, _, _, σ => σ
  | n + 1, a, b, σ => if (σ 0 7) ≤ b then σ else if ((f_X9_greater σ ((((σ 10 ((0 : Int32).toNatClampNeg)) + (σ 10 ((3 : Int32).toNatClampNeg))) * a) - ((σ 10 ((0 : Int32).toNatClampNeg)) * (σ 0 9))) 0) * (σ 0 24)) ≤ ((σ 0 23) * (σ 7 ((σ 16 (b.toNatClampNeg)).toNatClampNeg))) then (l_X9_squeezes_14 n (a + (σ 7 ((σ 16 (b.toNatClampNeg)).toNatClampNeg))) (b + 1) (mst (mst σ 0 23 (σ 0 23)) 0 24 (σ 0 24))) else (l_X9_squeezes_14 n (a + (σ 7 ((σ 16 (b.toNatClampNeg)).toNatClampNeg))) (b + 1) (mst (mst σ 0 23 (f_X9_greater σ ((((σ 10 ((0 : Int32).toNatClampNeg)) + (σ 10 ((3 : Int32).toNatClampNeg))) * a) - ((σ 10 ((0 : Int32).toNatClampNeg)) * (σ 0 9))) 0)) 0 24 (σ 7 ((σ 16 (b.toNatClampNeg)).toNatClampNeg))))
def bl_X9_squeezes_14 : Nat → Int32 → Int32 → Mem → Prop
  | 0, _, _, _ => False
  | n + 1, a, b, σ => if (σ 0 7) ≤ b then True else (vp_in b 6) ∧ ((vp_in (σ 16 (b.toNatClampNeg)) 12) ∧ (if ((f_X9_greater σ ((((σ 10 ((0 : Int32).toNatClampNeg)) + (σ 10 ((3 : Int32).toNatClampNeg))) * a) - ((σ 10 ((0 : Int32).toNatClampNeg)) * (σ 0 9))) 0) * (σ 0 24)) ≤ ((σ 0 23) * (σ 7 ((σ 16 (b.toNatClampNeg)).toNatClampNeg))) then (bl_X9_squeezes_14 n (a + (σ 7 ((σ 16 (b.toNatClampNeg)).toNatClampNeg))) (b + 1) (mst (mst σ 0 23 (σ 0 23)) 0 24 (σ 0 24))) else (bl_X9_squeezes_14 n (a + (σ 7 ((σ 16 (b.toNatClampNeg)).toNatClampNeg))) (b + 1) (mst (mst σ 0 23 (f_X9_greater σ ((((σ 10 ((0 : Int32).toNatClampNeg)) + (σ 10 ((3 : Int32).toNatClampNeg))) * a) - ((σ 10 ((0 : Int32).toNatClampNeg)) * (σ 0 9))) 0)) 0 24 (σ 7 ((σ 16 (b.toNatClampNeg)).toNatClampNeg))))))
theorem lt_X9_squeezes_14 (X : Amb) : ∀ (n : Nat) (a : Int32) (b : Int32) (σ : Mem), bl_X9_squeezes_14 n a b σ → WP X mX9_squeezes 14 [(0, .ref (adr X 0)), (1, .int a), (2, .int b)] [] σ (fun v σ' => v = none ∧ σ' = l_X9_squeezes_14 n a b σ) := by
  intro n
  induction n with
  | zero => intro a b σ hb; exact hb.elim
  | succ n ih =>
    intro a b σ hb
    rw [bl_X9_squeezes_14] at hb
    refine wp_iload_n dX9_squeezes_14 2 rfl ?_
    refine wp_aload_n dX9_squeezes_15 0 rfl ?_
    refine wp_getI dX9_squeezes_16 faX9_110 rfl rfl ?_
    refine wp_icmp_ge 135 dX9_squeezes_19 (by decide) (fun c19_1 => ?_) (fun c19_1 => ?_)
    · rw [if_pos c19_1] at hb
      refine wp_return dX9_squeezes_135 rfl ?_
      exact ⟨rfl, by rw [l_X9_squeezes_14, if_pos c19_1]⟩
    · rw [if_neg c19_1] at hb
      refine wp_aload_n dX9_squeezes_22 0 rfl ?_
      refine wp_getR dX9_squeezes_23 faX9_28 rfl rfl ?_
      refine wp_aload_n dX9_squeezes_26 0 rfl ?_
      refine wp_getR dX9_squeezes_27 faX9_56 rfl rfl ?_
      refine wp_iload_n dX9_squeezes_30 2 rfl ?_
      obtain ⟨x2, hb⟩ := hb
      refine wp_iald dX9_squeezes_31 rfl x2 ?_
      obtain ⟨x3, hb⟩ := hb
      refine wp_iald dX9_squeezes_32 rfl x3 ?_
      refine wp_istore_n (L' := [(3, _), (0, _), (1, _), (2, _)]) dX9_squeezes_33 rfl rfl ?_
      refine wp_aload_n dX9_squeezes_34 1 rfl ?_
      refine wp_getR dX9_squeezes_35 faX9_38 rfl rfl ?_
      refine wp_iconst dX9_squeezes_38 ic_0 ?_
      refine wp_iald dX9_squeezes_39 rfl (vlit 0 6 (by decide)) ?_
      refine wp_aload_n dX9_squeezes_40 1 rfl ?_
      refine wp_getR dX9_squeezes_41 faX9_38 rfl rfl ?_
      refine wp_iconst dX9_squeezes_44 ic_3 ?_
      refine wp_iald dX9_squeezes_45 rfl (vlit 3 6 (by decide)) ?_
      refine wp_iadd dX9_squeezes_46 ?_
      refine wp_iload_n dX9_squeezes_47 2 rfl ?_
      refine wp_imul dX9_squeezes_48 ?_
      refine wp_aload_n dX9_squeezes_49 1 rfl ?_
      refine wp_getR dX9_squeezes_50 faX9_38 rfl rfl ?_
      refine wp_iconst dX9_squeezes_53 ic_0 ?_
      refine wp_iald dX9_squeezes_54 rfl (vlit 0 6 (by decide)) ?_
      refine wp_aload_n dX9_squeezes_55 1 rfl ?_
      refine wp_getI dX9_squeezes_56 faX9_113 rfl rfl ?_
      refine wp_imul dX9_squeezes_59 ?_
      refine wp_isub dX9_squeezes_60 ?_
      refine wp_iconst dX9_squeezes_61 ic_0 ?_
      refine wp_cS2w (N := mX9_greater) dX9_squeezes_62 tmX9_224 okX9_greater rfl rfl rfl rfl (s_X9_greater X _ _ _) ?_
      refine wp_istore (L' := [(4, _), (3, _), (0, _), (1, _), (2, _)]) dX9_squeezes_65 rfl rfl ?_
      refine wp_iload dX9_squeezes_67 0 rfl ?_
      refine wp_aload_n dX9_squeezes_69 2 rfl ?_
      refine wp_getI dX9_squeezes_70 faX9_221 rfl rfl ?_
      refine wp_imul dX9_squeezes_73 ?_
      refine wp_aload_n dX9_squeezes_74 2 rfl ?_
      refine wp_getI dX9_squeezes_75 faX9_218 rfl rfl ?_
      refine wp_iload_n dX9_squeezes_78 1 rfl ?_
      refine wp_imul dX9_squeezes_79 ?_
      refine wp_icmp_le 87 dX9_squeezes_80 (by decide) (fun c80_4 => ?_) (fun c80_4 => ?_)
      · rw [if_pos c80_4] at hb
        refine wp_iconst dX9_squeezes_87 ic_0 ?_
        refine wp_istore (L' := [(5, _), (4, _), (3, _), (0, _), (1, _), (2, _)]) dX9_squeezes_88 rfl rfl ?_
        refine wp_aload_n dX9_squeezes_90 3 rfl ?_
        refine wp_iload dX9_squeezes_91 0 rfl ?_
        refine wp_if_eq 101 dX9_squeezes_93 (by decide) (fun _ => ?_) (fun z9 => absurd (by decide) z9)
        refine wp_aload_n dX9_squeezes_101 3 rfl ?_
        refine wp_getI dX9_squeezes_102 faX9_218 rfl rfl ?_
        refine wp_putI dX9_squeezes_105 fwX9_218 rfl rfl ?_
        refine wp_aload_n dX9_squeezes_108 3 rfl ?_
        refine wp_iload dX9_squeezes_109 0 rfl ?_
        refine wp_if_eq 118 dX9_squeezes_111 (by decide) (fun _ => ?_) (fun z9 => absurd (by decide) z9)
        refine wp_aload_n dX9_squeezes_118 3 rfl ?_
        refine wp_getI dX9_squeezes_119 faX9_221 rfl rfl ?_
        refine wp_topi (y := (σ 0 24)) rfl ?_
        refine wp_putI dX9_squeezes_122 fwX9_221 rfl rfl ?_
        refine wp_iload_n dX9_squeezes_125 4 rfl ?_
        refine wp_iload_n dX9_squeezes_126 2 rfl ?_
        refine wp_iadd dX9_squeezes_127 ?_
        refine wp_istore_n (L' := [(1, _), (5, _), (4, _), (3, _), (0, _), (2, _)]) dX9_squeezes_128 rfl rfl ?_
        refine wp_iinc (L' := [(2, _), (1, _), (5, _), (4, _), (3, _), (0, _)]) dX9_squeezes_129 rfl 5 rfl (ii_1 _) rfl ?_
        refine wp_goto 14 dX9_squeezes_132 (by decide) ?_
        refine wp_drop [5, 1, 0] rfl ?_
        rw [show l_X9_squeezes_14 (n + 1) a b σ = (l_X9_squeezes_14 n (a + (σ 7 ((σ 16 (b.toNatClampNeg)).toNatClampNeg))) (b + 1) (mst (mst σ 0 23 (σ 0 23)) 0 24 (σ 0 24))) from by rw [l_X9_squeezes_14, if_neg c19_1, if_pos c80_4]]
        exact ih _ _ _ hb
      · rw [if_neg c80_4] at hb
        refine wp_iconst dX9_squeezes_83 ic_1 ?_
        refine wp_goto 88 dX9_squeezes_84 (by decide) ?_
        refine wp_istore (L' := [(5, _), (4, _), (3, _), (0, _), (1, _), (2, _)]) dX9_squeezes_88 rfl rfl ?_
        refine wp_aload_n dX9_squeezes_90 3 rfl ?_
        refine wp_iload dX9_squeezes_91 0 rfl ?_
        refine wp_if_eq 101 dX9_squeezes_93 (by decide) (fun z9 => absurd z9 (by decide)) (fun _ => ?_)
        refine wp_iload dX9_squeezes_96 1 rfl ?_
        refine wp_goto 105 dX9_squeezes_98 (by decide) ?_
        refine wp_putI dX9_squeezes_105 fwX9_218 rfl rfl ?_
        refine wp_aload_n dX9_squeezes_108 3 rfl ?_
        refine wp_iload dX9_squeezes_109 0 rfl ?_
        refine wp_if_eq 118 dX9_squeezes_111 (by decide) (fun z9 => absurd z9 (by decide)) (fun _ => ?_)
        refine wp_iload_n dX9_squeezes_114 2 rfl ?_
        refine wp_goto 122 dX9_squeezes_115 (by decide) ?_
        refine wp_putI dX9_squeezes_122 fwX9_221 rfl rfl ?_
        refine wp_iload_n dX9_squeezes_125 4 rfl ?_
        refine wp_iload_n dX9_squeezes_126 2 rfl ?_
        refine wp_iadd dX9_squeezes_127 ?_
        refine wp_istore_n (L' := [(1, _), (5, _), (4, _), (3, _), (0, _), (2, _)]) dX9_squeezes_128 rfl rfl ?_
        refine wp_iinc (L' := [(2, _), (1, _), (5, _), (4, _), (3, _), (0, _)]) dX9_squeezes_129 rfl 5 rfl (ii_1 _) rfl ?_
        refine wp_goto 14 dX9_squeezes_132 (by decide) ?_
        refine wp_drop [5, 1, 0] rfl ?_
        rw [show l_X9_squeezes_14 (n + 1) a b σ = (l_X9_squeezes_14 n (a + (σ 7 ((σ 16 (b.toNatClampNeg)).toNatClampNeg))) (b + 1) (mst (mst σ 0 23 (f_X9_greater σ ((((σ 10 ((0 : Int32).toNatClampNeg)) + (σ 10 ((3 : Int32).toNatClampNeg))) * a) - ((σ 10 ((0 : Int32).toNatClampNeg)) * (σ 0 9))) 0)) 0 24 (σ 7 ((σ 16 (b.toNatClampNeg)).toNatClampNeg)))) from by rw [l_X9_squeezes_14, if_neg c19_1, if_neg c80_4]]
        exact ih _ _ _ hb
def f_X9_squeezes (σ : Mem) : Mem := (l_X9_squeezes_14 (fu 8) 0 0 (mst (mst σ 0 23 0) 0 24 1))
def b_X9_squeezes (σ : Mem) : Prop := (bl_X9_squeezes_14 (fu 8) 0 0 (mst (mst σ 0 23 0) 0 24 1))
theorem s_X9_squeezes (X : Amb) (σ : Mem) (hb : b_X9_squeezes σ) : SpV X mX9_squeezes [.ref (adr X 0)] σ (f_X9_squeezes σ) := by
  unfold b_X9_squeezes at hb
  refine sp_of (by decide +kernel) rfl ?_
  show WP X mX9_squeezes 0 [(0, .ref (adr X 0))] [] σ _
  refine wp_aload_n dX9_squeezes_0 0 rfl ?_
  refine wp_iconst dX9_squeezes_1 ic_0 ?_
  refine wp_putI dX9_squeezes_2 fwX9_218 rfl rfl ?_
  refine wp_aload_n dX9_squeezes_5 0 rfl ?_
  refine wp_iconst dX9_squeezes_6 ic_1 ?_
  refine wp_putI dX9_squeezes_7 fwX9_221 rfl rfl ?_
  refine wp_iconst dX9_squeezes_10 ic_0 ?_
  refine wp_istore_n (L' := [(1, _), (0, _)]) dX9_squeezes_11 rfl rfl ?_
  refine wp_iconst dX9_squeezes_12 ic_0 ?_
  refine wp_istore_n (L' := [(2, _), (1, _), (0, _)]) dX9_squeezes_13 rfl rfl ?_
  refine wp_drop [2, 1, 0] rfl ?_
  rw [show f_X9_squeezes σ = (l_X9_squeezes_14 (fu 8) 0 0 (mst (mst σ 0 23 0) 0 24 1)) from rfl]
  exact lt_X9_squeezes_14 X (fu 8) 0 0 (mst (mst σ 0 23 0) 0 24 1) hb
def l_X9_findOrder_109 (K : Int32 → Int32 → Mem → Mem) : Nat → Int32 → Int32 → Int32 → Mem → Mem
  | 0, _, _, _, σ => σ
  | n + 1, a, b, c, σ => if (σ 0 7) ≤ c then (K a (b + 1) σ) else (l_X9_findOrder_109 K n a b (c + 1) (mst σ 17 (c.toNatClampNeg) (σ 16 (c.toNatClampNeg))))
def bl_X9_findOrder_109 (bK : Int32 → Int32 → Mem → Prop) : Nat → Int32 → Int32 → Int32 → Mem → Prop
  | 0, _, _, _, _ => False
  | n + 1, a, b, c, σ => if (σ 0 7) ≤ c then (bK a (b + 1) σ) else (vp_in c 6) ∧ ((vp_in c 6) ∧ ((bl_X9_findOrder_109 bK n a b (c + 1) (mst σ 17 (c.toNatClampNeg) (σ 16 (c.toNatClampNeg))))))
theorem lt_X9_findOrder_109 (X : Amb) (K : Int32 → Int32 → Mem → Mem) (bK : Int32 → Int32 → Mem → Prop) (hK : ∀ (a : Int32) (b : Int32) (σ : Mem), bK a b σ → WP X mX9_findOrder 49 [(0, .ref (adr X 0)), (1, .int a), (2, .int b)] [] σ (fun v σ' => v = none ∧ σ' = K a b σ)) : ∀ (n : Nat) (a : Int32) (b : Int32) (c : Int32) (σ : Mem), bl_X9_findOrder_109 bK n a b c σ → WP X mX9_findOrder 109 [(0, .ref (adr X 0)), (1, .int a), (2, .int b), (3, .int c)] [] σ (fun v σ' => v = none ∧ σ' = l_X9_findOrder_109 K n a b c σ) := by
  intro n
  induction n with
  | zero => intro a b c σ hb; exact hb.elim
  | succ n ih =>
    intro a b c σ hb
    rw [bl_X9_findOrder_109] at hb
    refine wp_iload_n dX9_findOrder_109 3 rfl ?_
    refine wp_aload_n dX9_findOrder_110 0 rfl ?_
    refine wp_getI dX9_findOrder_111 faX9_110 rfl rfl ?_
    refine wp_icmp_ge 135 dX9_findOrder_114 (by decide) (fun c114_1 => ?_) (fun c114_1 => ?_)
    · rw [if_pos c114_1] at hb
      refine wp_iinc (L' := [(2, _), (0, _), (1, _), (3, _)]) dX9_findOrder_135 rfl 2 rfl (ii_1 _) rfl ?_
      refine wp_goto 49 dX9_findOrder_138 (by decide) ?_
      refine wp_drop [1, 2, 0] rfl ?_
      rw [show l_X9_findOrder_109 K (n + 1) a b c σ = (K a (b + 1) σ) from by rw [l_X9_findOrder_109, if_pos c114_1]]
      exact hK _ _ _ hb
    · rw [if_neg c114_1] at hb
      refine wp_aload_n dX9_findOrder_117 0 rfl ?_
      refine wp_getR dX9_findOrder_118 faX9_59 rfl rfl ?_
      refine wp_iload_n dX9_findOrder_121 3 rfl ?_
      refine wp_aload_n dX9_findOrder_122 0 rfl ?_
      refine wp_getR dX9_findOrder_123 faX9_56 rfl rfl ?_
      refine wp_iload_n dX9_findOrder_126 3 rfl ?_
      obtain ⟨x2, hb⟩ := hb
      refine wp_iald dX9_findOrder_127 rfl x2 ?_
      obtain ⟨x3, hb⟩ := hb
      refine wp_iast dX9_findOrder_128 rfl x3 ?_
      refine wp_iinc (L' := [(3, _), (0, _), (1, _), (2, _)]) dX9_findOrder_129 rfl 3 rfl (ii_1 _) rfl ?_
      refine wp_goto 109 dX9_findOrder_132 (by decide) ?_
      refine wp_drop [1, 2, 3, 0] rfl ?_
      rw [show l_X9_findOrder_109 K (n + 1) a b c σ = (l_X9_findOrder_109 K n a b (c + 1) (mst σ 17 (c.toNatClampNeg) (σ 16 (c.toNatClampNeg)))) from by rw [l_X9_findOrder_109, if_neg c114_1]]
      exact ih _ _ _ _ hb
def l_X9_findOrder_49 : Nat → Int32 → Int32 → Mem → Mem
  | 0, _, _, σ => σ
  | n + 1, a, b, σ => if a ≤ b then σ else if ((f_X9_squeezes (f_X9_unfolds σ b)) 0 22) = 0 then (l_X9_findOrder_109 (l_X9_findOrder_49 n) (fu 8) a b 0 (mst (mst (f_X9_squeezes (f_X9_unfolds σ b)) 0 21 ((f_X9_squeezes (f_X9_unfolds σ b)) 0 23)) 0 22 ((f_X9_squeezes (f_X9_unfolds σ b)) 0 24))) else if (((f_X9_squeezes (f_X9_unfolds σ b)) 0 21) * ((f_X9_squeezes (f_X9_unfolds σ b)) 0 24)) ≤ (((f_X9_squeezes (f_X9_unfolds σ b)) 0 23) * ((f_X9_squeezes (f_X9_unfolds σ b)) 0 22)) then (l_X9_findOrder_49 n a (b + 1) (f_X9_squeezes (f_X9_unfolds σ b))) else (l_X9_findOrder_109 (l_X9_findOrder_49 n) (fu 8) a b 0 (mst (mst (f_X9_squeezes (f_X9_unfolds σ b)) 0 21 ((f_X9_squeezes (f_X9_unfolds σ b)) 0 23)) 0 22 ((f_X9_squeezes (f_X9_unfolds σ b)) 0 24)))
def bl_X9_findOrder_49 : Nat → Int32 → Int32 → Mem → Prop
  | 0, _, _, _ => False
  | n + 1, a, b, σ => if a ≤ b then True else (b_X9_unfolds σ b) ∧ ((b_X9_squeezes (f_X9_unfolds σ b)) ∧ (if ((f_X9_squeezes (f_X9_unfolds σ b)) 0 22) = 0 then (bl_X9_findOrder_109 (bl_X9_findOrder_49 n) (fu 8) a b 0 (mst (mst (f_X9_squeezes (f_X9_unfolds σ b)) 0 21 ((f_X9_squeezes (f_X9_unfolds σ b)) 0 23)) 0 22 ((f_X9_squeezes (f_X9_unfolds σ b)) 0 24))) else if (((f_X9_squeezes (f_X9_unfolds σ b)) 0 21) * ((f_X9_squeezes (f_X9_unfolds σ b)) 0 24)) ≤ (((f_X9_squeezes (f_X9_unfolds σ b)) 0 23) * ((f_X9_squeezes (f_X9_unfolds σ b)) 0 22)) then (bl_X9_findOrder_49 n a (b + 1) (f_X9_squeezes (f_X9_unfolds σ b))) else (bl_X9_findOrder_109 (bl_X9_findOrder_49 n) (fu 8) a b 0 (mst (mst (f_X9_squeezes (f_X9_unfolds σ b)) 0 21 ((f_X9_squeezes (f_X9_unfolds σ b)) 0 23)) 0 22 ((f_X9_squeezes (f_X9_unfolds σ b)) 0 24)))))
theorem lt_X9_findOrder_49 (X : Amb) : ∀ (n : Nat) (a : Int32) (b : Int32) (σ : Mem), bl_X9_findOrder_49 n a b σ → WP X mX9_findOrder 49 [(0, .ref (adr X 0)), (1, .int a), (2, .int b)] [] σ (fun v σ' => v = none ∧ σ' = l_X9_findOrder_49 n a b σ) := by
  intro n
  induction n with
  | zero => intro a b σ hb; exact hb.elim
  | succ n ih =>
    intro a b σ hb
    rw [bl_X9_findOrder_49] at hb
    refine wp_iload_n dX9_findOrder_49 2 rfl ?_
    refine wp_iload_n dX9_findOrder_50 1 rfl ?_
    refine wp_icmp_ge 141 dX9_findOrder_51 (by decide) (fun c51_1 => ?_) (fun c51_1 => ?_)
    · rw [if_pos c51_1] at hb
      refine wp_return dX9_findOrder_141 rfl ?_
      exact ⟨rfl, by rw [l_X9_findOrder_49, if_pos c51_1]⟩
    · rw [if_neg c51_1] at hb
      refine wp_aload_n dX9_findOrder_54 0 rfl ?_
      refine wp_iload_n dX9_findOrder_55 2 rfl ?_
      obtain ⟨x2, hb⟩ := hb
      refine wp_cV1v (N := mX9_unfolds) dX9_findOrder_56 tmX9_230 okX9_unfolds rfl rfl rfl rfl rfl rfl rfl rfl (s_X9_unfolds X _ _ x2) ?_
      refine wp_aload_n dX9_findOrder_59 0 rfl ?_
      obtain ⟨x3, hb⟩ := hb
      refine wp_cV0v (N := mX9_squeezes) dX9_findOrder_60 tmX9_234 okX9_squeezes rfl rfl rfl rfl rfl rfl rfl rfl (s_X9_squeezes X _ x3) ?_
      refine wp_aload_n dX9_findOrder_63 0 rfl ?_
      refine wp_getI dX9_findOrder_64 faX9_227 rfl rfl ?_
      refine wp_if_eq 91 dX9_findOrder_67 (by decide) (fun c67_4 => ?_) (fun c67_4 => ?_)
      · rw [if_pos c67_4] at hb
        refine wp_aload_n dX9_findOrder_91 0 rfl ?_
        refine wp_aload_n dX9_findOrder_92 0 rfl ?_
        refine wp_getI dX9_findOrder_93 faX9_218 rfl rfl ?_
        refine wp_putI dX9_findOrder_96 fwX9_237 rfl rfl ?_
        refine wp_aload_n dX9_findOrder_99 0 rfl ?_
        refine wp_aload_n dX9_findOrder_100 0 rfl ?_
        refine wp_getI dX9_findOrder_101 faX9_221 rfl rfl ?_
        refine wp_topi (y := ((f_X9_squeezes (f_X9_unfolds σ b)) 0 24)) rfl ?_
        refine wp_putI dX9_findOrder_104 fwX9_227 rfl rfl ?_
        refine wp_iconst dX9_findOrder_107 ic_0 ?_
        refine wp_istore_n (L' := [(3, _), (0, _), (1, _), (2, _)]) dX9_findOrder_108 rfl rfl ?_
        refine wp_drop [1, 2, 3, 0] rfl ?_
        rw [show l_X9_findOrder_49 (n + 1) a b σ = (l_X9_findOrder_109 (l_X9_findOrder_49 n) (fu 8) a b 0 (mst (mst (f_X9_squeezes (f_X9_unfolds σ b)) 0 21 ((f_X9_squeezes (f_X9_unfolds σ b)) 0 23)) 0 22 ((f_X9_squeezes (f_X9_unfolds σ b)) 0 24))) from by rw [l_X9_findOrder_49]; rw [if_neg c51_1, if_pos c67_4]]
        exact lt_X9_findOrder_109 X (l_X9_findOrder_49 n) (bl_X9_findOrder_49 n) ih (fu 8) a b 0 (mst (mst (f_X9_squeezes (f_X9_unfolds σ b)) 0 21 ((f_X9_squeezes (f_X9_unfolds σ b)) 0 23)) 0 22 ((f_X9_squeezes (f_X9_unfolds σ b)) 0 24)) hb
      · rw [if_neg c67_4] at hb
        refine wp_aload_n dX9_findOrder_70 0 rfl ?_
        refine wp_getI dX9_findOrder_71 faX9_218 rfl rfl ?_
        refine wp_aload_n dX9_findOrder_74 0 rfl ?_
        refine wp_getI dX9_findOrder_75 faX9_227 rfl rfl ?_
        refine wp_imul dX9_findOrder_78 ?_
        refine wp_aload_n dX9_findOrder_79 0 rfl ?_
        refine wp_getI dX9_findOrder_80 faX9_237 rfl rfl ?_
        refine wp_aload_n dX9_findOrder_83 0 rfl ?_
        refine wp_getI dX9_findOrder_84 faX9_221 rfl rfl ?_
        refine wp_imul dX9_findOrder_87 ?_
        refine wp_icmp_ge 135 dX9_findOrder_88 (by decide) (fun c88_5 => ?_) (fun c88_5 => ?_)
        · rw [if_pos c88_5] at hb
          refine wp_iinc (L' := [(2, _), (0, _), (1, _)]) dX9_findOrder_135 rfl 2 rfl (ii_1 _) rfl ?_
          refine wp_goto 49 dX9_findOrder_138 (by decide) ?_
          refine wp_drop [1, 2, 0] rfl ?_
          rw [show l_X9_findOrder_49 (n + 1) a b σ = (l_X9_findOrder_49 n a (b + 1) (f_X9_squeezes (f_X9_unfolds σ b))) from by rw [l_X9_findOrder_49, if_neg c51_1, if_neg c67_4, if_pos c88_5]]
          exact ih _ _ _ hb
        · rw [if_neg c88_5] at hb
          refine wp_aload_n dX9_findOrder_91 0 rfl ?_
          refine wp_aload_n dX9_findOrder_92 0 rfl ?_
          refine wp_getI dX9_findOrder_93 faX9_218 rfl rfl ?_
          refine wp_putI dX9_findOrder_96 fwX9_237 rfl rfl ?_
          refine wp_aload_n dX9_findOrder_99 0 rfl ?_
          refine wp_aload_n dX9_findOrder_100 0 rfl ?_
          refine wp_getI dX9_findOrder_101 faX9_221 rfl rfl ?_
          refine wp_topi (y := ((f_X9_squeezes (f_X9_unfolds σ b)) 0 24)) rfl ?_
          refine wp_putI dX9_findOrder_104 fwX9_227 rfl rfl ?_
          refine wp_iconst dX9_findOrder_107 ic_0 ?_
          refine wp_istore_n (L' := [(3, _), (0, _), (1, _), (2, _)]) dX9_findOrder_108 rfl rfl ?_
          refine wp_drop [1, 2, 3, 0] rfl ?_
          rw [show l_X9_findOrder_49 (n + 1) a b σ = (l_X9_findOrder_109 (l_X9_findOrder_49 n) (fu 8) a b 0 (mst (mst (f_X9_squeezes (f_X9_unfolds σ b)) 0 21 ((f_X9_squeezes (f_X9_unfolds σ b)) 0 23)) 0 22 ((f_X9_squeezes (f_X9_unfolds σ b)) 0 24))) from by rw [l_X9_findOrder_49]; rw [if_neg c51_1, if_neg c67_4, if_neg c88_5]]
          exact lt_X9_findOrder_109 X (l_X9_findOrder_49 n) (bl_X9_findOrder_49 n) ih (fu 8) a b 0 (mst (mst (f_X9_squeezes (f_X9_unfolds σ b)) 0 21 ((f_X9_squeezes (f_X9_unfolds σ b)) 0 23)) 0 22 ((f_X9_squeezes (f_X9_unfolds σ b)) 0 24)) hb
def l_X9_findOrder_24 : Nat → Int32 → Int32 → Mem → Mem
  | 0, _, _, σ => σ
  | n + 1, a, b, σ => if (σ 0 7) < b then (l_X9_findOrder_49 (fu 721) a 0 (mst σ 0 22 0)) else (l_X9_findOrder_24 n (a * b) (b + 1) σ)
def bl_X9_findOrder_24 : Nat → Int32 → Int32 → Mem → Prop
  | 0, _, _, _ => False
  | n + 1, a, b, σ => if (σ 0 7) < b then (bl_X9_findOrder_49 (fu 721) a 0 (mst σ 0 22 0)) else (bl_X9_findOrder_24 n (a * b) (b + 1) σ)
theorem lt_X9_findOrder_24 (X : Amb) : ∀ (n : Nat) (a : Int32) (b : Int32) (σ : Mem), bl_X9_findOrder_24 n a b σ → WP X mX9_findOrder 24 [(0, .ref (adr X 0)), (1, .int a), (2, .int b)] [] σ (fun v σ' => v = none ∧ σ' = l_X9_findOrder_24 n a b σ) := by
  intro n
  induction n with
  | zero => intro a b σ hb; exact hb.elim
  | succ n ih =>
    intro a b σ hb
    rw [bl_X9_findOrder_24] at hb
    refine wp_iload_n dX9_findOrder_24 2 rfl ?_
    refine wp_aload_n dX9_findOrder_25 0 rfl ?_
    refine wp_getI dX9_findOrder_26 faX9_110 rfl rfl ?_
    refine wp_icmp_gt 42 dX9_findOrder_29 (by decide) (fun c29_1 => ?_) (fun c29_1 => ?_)
    · rw [if_pos c29_1] at hb
      refine wp_aload_n dX9_findOrder_42 0 rfl ?_
      refine wp_iconst dX9_findOrder_43 ic_0 ?_
      refine wp_putI dX9_findOrder_44 fwX9_227 rfl rfl ?_
      refine wp_iconst dX9_findOrder_47 ic_0 ?_
      refine wp_istore_n (L' := [(2, _), (0, _), (1, _)]) dX9_findOrder_48 rfl rfl ?_
      refine wp_drop [1, 2, 0] rfl ?_
      rw [show l_X9_findOrder_24 (n + 1) a b σ = (l_X9_findOrder_49 (fu 721) a 0 (mst σ 0 22 0)) from by rw [l_X9_findOrder_24]; rw [if_pos c29_1]]
      exact lt_X9_findOrder_49 X (fu 721) a 0 (mst σ 0 22 0) hb
    · rw [if_neg c29_1] at hb
      refine wp_iload_n dX9_findOrder_32 1 rfl ?_
      refine wp_iload_n dX9_findOrder_33 2 rfl ?_
      refine wp_imul dX9_findOrder_34 ?_
      refine wp_istore_n (L' := [(1, _), (0, _), (2, _)]) dX9_findOrder_35 rfl rfl ?_
      refine wp_iinc (L' := [(2, _), (1, _), (0, _)]) dX9_findOrder_36 rfl 2 rfl (ii_1 _) rfl ?_
      refine wp_goto 24 dX9_findOrder_39 (by decide) ?_
      refine wp_drop [2, 1, 0] rfl ?_
      rw [show l_X9_findOrder_24 (n + 1) a b σ = (l_X9_findOrder_24 n (a * b) (b + 1) σ) from by rw [l_X9_findOrder_24, if_neg c29_1]]
      exact ih _ _ _ hb
def f_X9_findOrder (σ : Mem) : Mem := if (σ 0 7) = 0 then (l_X9_findOrder_24 (fu 14) 0 2 σ) else if (σ 0 7) ≤ 6 then (l_X9_findOrder_24 (fu 14) 1 2 σ) else (l_X9_findOrder_24 (fu 14) 0 2 σ)
def b_X9_findOrder (σ : Mem) : Prop := if (σ 0 7) = 0 then (bl_X9_findOrder_24 (fu 14) 0 2 σ) else if (σ 0 7) ≤ 6 then (bl_X9_findOrder_24 (fu 14) 1 2 σ) else (bl_X9_findOrder_24 (fu 14) 0 2 σ)
theorem s_X9_findOrder (X : Amb) (σ : Mem) (hb : b_X9_findOrder σ) : SpV X mX9_findOrder [.ref (adr X 0)] σ (f_X9_findOrder σ) := by
  unfold b_X9_findOrder at hb
  refine sp_of (by decide +kernel) rfl ?_
  show WP X mX9_findOrder 0 [(0, .ref (adr X 0))] [] σ _
  refine wp_aload_n dX9_findOrder_0 0 rfl ?_
  refine wp_getI dX9_findOrder_1 faX9_110 rfl rfl ?_
  refine wp_if_eq 16 dX9_findOrder_4 (by decide) (fun c4_1 => ?_) (fun c4_1 => ?_)
  · rw [if_pos c4_1] at hb
    refine wp_iconst dX9_findOrder_16 ic_0 ?_
    refine wp_goto 21 dX9_findOrder_17 (by decide) ?_
    refine wp_istore_n (L' := [(1, _), (0, _)]) dX9_findOrder_21 rfl rfl ?_
    refine wp_iconst dX9_findOrder_22 ic_2 ?_
    refine wp_istore_n (L' := [(2, _), (1, _), (0, _)]) dX9_findOrder_23 rfl rfl ?_
    refine wp_drop [2, 1, 0] rfl ?_
    rw [show f_X9_findOrder σ = (l_X9_findOrder_24 (fu 14) 0 2 σ) from by unfold f_X9_findOrder; rw [if_pos c4_1]]
    exact lt_X9_findOrder_24 X (fu 14) 0 2 σ hb
  · rw [if_neg c4_1] at hb
    refine wp_aload_n dX9_findOrder_7 0 rfl ?_
    refine wp_getI dX9_findOrder_8 faX9_110 rfl rfl ?_
    refine wp_bipush dX9_findOrder_11 bp_6 ?_
    refine wp_icmp_le 20 dX9_findOrder_13 (by decide) (fun c13_2 => ?_) (fun c13_2 => ?_)
    · rw [if_pos c13_2] at hb
      refine wp_iconst dX9_findOrder_20 ic_1 ?_
      refine wp_istore_n (L' := [(1, _), (0, _)]) dX9_findOrder_21 rfl rfl ?_
      refine wp_iconst dX9_findOrder_22 ic_2 ?_
      refine wp_istore_n (L' := [(2, _), (1, _), (0, _)]) dX9_findOrder_23 rfl rfl ?_
      refine wp_drop [2, 1, 0] rfl ?_
      rw [show f_X9_findOrder σ = (l_X9_findOrder_24 (fu 14) 1 2 σ) from by unfold f_X9_findOrder; rw [if_neg c4_1, if_pos c13_2]]
      exact lt_X9_findOrder_24 X (fu 14) 1 2 σ hb
    · rw [if_neg c13_2] at hb
      refine wp_iconst dX9_findOrder_16 ic_0 ?_
      refine wp_goto 21 dX9_findOrder_17 (by decide) ?_
      refine wp_istore_n (L' := [(1, _), (0, _)]) dX9_findOrder_21 rfl rfl ?_
      refine wp_iconst dX9_findOrder_22 ic_2 ?_
      refine wp_istore_n (L' := [(2, _), (1, _), (0, _)]) dX9_findOrder_23 rfl rfl ?_
      refine wp_drop [2, 1, 0] rfl ?_
      rw [show f_X9_findOrder σ = (l_X9_findOrder_24 (fu 14) 0 2 σ) from by unfold f_X9_findOrder; rw [if_neg c4_1, if_neg c13_2]]
      exact lt_X9_findOrder_24 X (fu 14) 0 2 σ hb
def f_X9_tellsOrder (σ : Mem) (a : Int32) : Int32 := if (σ 0 22) ≤ 0 then (-1) else if (σ 0 7) ≤ a then (-1) else (σ 17 (a.toNatClampNeg))
def b_X9_tellsOrder (σ : Mem) (a : Int32) : Prop := if (σ 0 22) ≤ 0 then True else if (σ 0 7) ≤ a then True else (vp_in a 6) ∧ (True)
theorem s_X9_tellsOrder (X : Amb) (σ : Mem) (a : Int32) (hb : b_X9_tellsOrder σ a) : SpW X mX9_tellsOrder [.ref (adr X 0), .int a] σ (.int (f_X9_tellsOrder σ a)) σ := by
  unfold b_X9_tellsOrder at hb
  refine sp_of (by decide +kernel) rfl ?_
  show WP X mX9_tellsOrder 0 [(0, .ref (adr X 0)), (1, .int a)] [] σ _
  refine wp_aload_n dX9_tellsOrder_0 0 rfl ?_
  refine wp_getI dX9_tellsOrder_1 faX9_227 rfl rfl ?_
  refine wp_if_le 24 dX9_tellsOrder_4 (by decide) (fun c4_1 => ?_) (fun c4_1 => ?_)
  · rw [if_pos c4_1] at hb
    refine wp_iconst dX9_tellsOrder_24 ic_m1 ?_
    refine wp_ireturn dX9_tellsOrder_25 rfl ?_
    exact ⟨by unfold f_X9_tellsOrder; rw [if_pos c4_1], rfl⟩
  · rw [if_neg c4_1] at hb
    refine wp_iload_n dX9_tellsOrder_7 1 rfl ?_
    refine wp_aload_n dX9_tellsOrder_8 0 rfl ?_
    refine wp_getI dX9_tellsOrder_9 faX9_110 rfl rfl ?_
    refine wp_icmp_ge 24 dX9_tellsOrder_12 (by decide) (fun c12_2 => ?_) (fun c12_2 => ?_)
    · rw [if_pos c12_2] at hb
      refine wp_iconst dX9_tellsOrder_24 ic_m1 ?_
      refine wp_ireturn dX9_tellsOrder_25 rfl ?_
      exact ⟨by unfold f_X9_tellsOrder; rw [if_neg c4_1, if_pos c12_2], rfl⟩
    · rw [if_neg c12_2] at hb
      refine wp_aload_n dX9_tellsOrder_15 0 rfl ?_
      refine wp_getR dX9_tellsOrder_16 faX9_59 rfl rfl ?_
      refine wp_iload_n dX9_tellsOrder_19 1 rfl ?_
      obtain ⟨x3, hb⟩ := hb
      refine wp_iald dX9_tellsOrder_20 rfl x3 ?_
      refine wp_goto 25 dX9_tellsOrder_21 (by decide) ?_
      refine wp_ireturn dX9_tellsOrder_25 rfl ?_
      exact ⟨by unfold f_X9_tellsOrder; rw [if_neg c4_1, if_neg c12_2], rfl⟩
def f_X9_tellsSqueeze (σ : Mem) (a : Int32) : Int32 := if (σ 0 22) = 0 then (f_X9_part σ 0 1 a).toInt32 else (f_X9_part σ ((σ 0 21).toInt64) ((σ 0 22).toInt64 * (σ 0 9).toInt64) a).toInt32
def b_X9_tellsSqueeze (σ : Mem) (a : Int32) : Prop := if (σ 0 22) = 0 then (b_X9_part σ 0 1 a) ∧ (True) else (b_X9_part σ ((σ 0 21).toInt64) ((σ 0 22).toInt64 * (σ 0 9).toInt64) a) ∧ (True)
theorem s_X9_tellsSqueeze (X : Amb) (σ : Mem) (a : Int32) (hb : b_X9_tellsSqueeze σ a) : SpW X mX9_tellsSqueeze [.ref (adr X 0), .int a] σ (.int (f_X9_tellsSqueeze σ a)) σ := by
  unfold b_X9_tellsSqueeze at hb
  refine sp_of (by decide +kernel) rfl ?_
  show WP X mX9_tellsSqueeze 0 [(0, .ref (adr X 0)), (1, .int a)] [] σ _
  refine wp_aload_n dX9_tellsSqueeze_0 0 rfl ?_
  refine wp_getI dX9_tellsSqueeze_1 faX9_227 rfl rfl ?_
  refine wp_if_ne 16 dX9_tellsSqueeze_4 (by decide) (fun c4_1 => ?_) (fun c4_1 => ?_)
  · rw [if_neg c4_1] at hb
    refine wp_aload_n dX9_tellsSqueeze_16 0 rfl ?_
    refine wp_getI dX9_tellsSqueeze_17 faX9_237 rfl rfl ?_
    refine wp_i2l dX9_tellsSqueeze_20 ?_
    refine wp_aload_n dX9_tellsSqueeze_21 0 rfl ?_
    refine wp_getI dX9_tellsSqueeze_22 faX9_227 rfl rfl ?_
    refine wp_i2l dX9_tellsSqueeze_25 ?_
    refine wp_aload_n dX9_tellsSqueeze_26 0 rfl ?_
    refine wp_getI dX9_tellsSqueeze_27 faX9_113 rfl rfl ?_
    refine wp_i2l dX9_tellsSqueeze_30 ?_
    refine wp_lmul dX9_tellsSqueeze_31 ?_
    refine wp_iload_n dX9_tellsSqueeze_32 1 rfl ?_
    obtain ⟨x2, hb⟩ := hb
    refine wp_cS3w (N := mX9_part) dX9_tellsSqueeze_33 tmX9_177 okX9_part rfl rfl rfl rfl (s_X9_part X _ _ _ _ x2) ?_
    refine wp_l2i dX9_tellsSqueeze_36 ?_
    refine wp_ireturn dX9_tellsSqueeze_37 rfl ?_
    exact ⟨by unfold f_X9_tellsSqueeze; rw [if_neg c4_1], rfl⟩
  · rw [if_pos c4_1] at hb
    refine wp_lconst dX9_tellsSqueeze_7 lc_0 ?_
    refine wp_lconst dX9_tellsSqueeze_8 lc_1 ?_
    refine wp_iload_n dX9_tellsSqueeze_9 1 rfl ?_
    obtain ⟨x3, hb⟩ := hb
    refine wp_cS3w (N := mX9_part) dX9_tellsSqueeze_10 tmX9_177 okX9_part rfl rfl rfl rfl (s_X9_part X _ _ _ _ x3) ?_
    refine wp_goto 36 dX9_tellsSqueeze_13 (by decide) ?_
    refine wp_l2i dX9_tellsSqueeze_36 ?_
    refine wp_ireturn dX9_tellsSqueeze_37 rfl ?_
    exact ⟨by unfold f_X9_tellsSqueeze; rw [if_pos c4_1], rfl⟩
def f_X9_order (σ : Mem) (a : Int32) : Int32 × Mem := if (f_X9_in (f_X9_reads σ) a.toInt64 0 5) = 0 then ((-2), (f_X9_reads σ)) else ((f_X9_tellsOrder (f_X9_findOrder (f_X9_reads σ)) a), (f_X9_findOrder (f_X9_reads σ)))
def b_X9_order (σ : Mem) (a : Int32) : Prop := (b_X9_reads σ) ∧ (if (f_X9_in (f_X9_reads σ) a.toInt64 0 5) = 0 then True else (b_X9_findOrder (f_X9_reads σ)) ∧ ((b_X9_tellsOrder (f_X9_findOrder (f_X9_reads σ)) a) ∧ (True)))
theorem s_X9_order (X : Amb) (σ : Mem) (a : Int32) (hb : b_X9_order σ a) : SpW X mX9_order [.ref (adr X 0), .int a] σ (.int (f_X9_order σ a).1) (f_X9_order σ a).2 := by
  unfold b_X9_order at hb
  refine sp_of (by decide +kernel) rfl ?_
  show WP X mX9_order 0 [(0, .ref (adr X 0)), (1, .int a)] [] σ _
  refine wp_aload_n dX9_order_0 0 rfl ?_
  obtain ⟨x1, hb⟩ := hb
  refine wp_cV0v (N := mX9_reads) dX9_order_1 tmX9_128 okX9_reads rfl rfl rfl rfl rfl rfl rfl rfl (s_X9_reads X _ x1) ?_
  refine wp_iload_n dX9_order_4 1 rfl ?_
  refine wp_i2l dX9_order_5 ?_
  refine wp_lconst dX9_order_6 lc_0 ?_
  refine wp_ldc2 dX9_order_7 tlX9_133 ?_
  refine wp_cS3w (N := mX9_in) dX9_order_10 tmX9_73 okX9_in rfl rfl rfl rfl (s_X9_in X _ _ _ _) ?_
  refine wp_if_ne 19 dX9_order_13 (by decide) (fun c13_2 => ?_) (fun c13_2 => ?_)
  · rw [if_neg c13_2] at hb
    refine wp_aload_n dX9_order_19 0 rfl ?_
    obtain ⟨x3, hb⟩ := hb
    refine wp_cV0v (N := mX9_findOrder) dX9_order_20 tmX9_240 okX9_findOrder rfl rfl rfl rfl rfl rfl rfl rfl (s_X9_findOrder X _ x3) ?_
    refine wp_aload_n dX9_order_23 0 rfl ?_
    refine wp_iload_n dX9_order_24 1 rfl ?_
    obtain ⟨x4, hb⟩ := hb
    refine wp_cV1w (N := mX9_tellsOrder) dX9_order_25 tmX9_243 okX9_tellsOrder rfl rfl rfl rfl rfl rfl rfl rfl (s_X9_tellsOrder X _ _ x4) ?_
    refine wp_ireturn dX9_order_28 rfl ?_
    exact ⟨by unfold f_X9_order; rw [if_neg c13_2], by unfold f_X9_order; rw [if_neg c13_2]⟩
  · rw [if_pos c13_2] at hb
    refine wp_bipush dX9_order_16 bp_m2 ?_
    refine wp_ireturn dX9_order_18 rfl ?_
    exact ⟨by unfold f_X9_order; rw [if_pos c13_2], by unfold f_X9_order; rw [if_pos c13_2]⟩
def f_X9_squeeze (σ : Mem) (a : Int32) : Int32 × Mem := if (f_X9_isTwo (f_X9_reads σ) a) = 0 then ((-2), (f_X9_reads σ)) else ((f_X9_tellsSqueeze (f_X9_findOrder (f_X9_reads σ)) a), (f_X9_findOrder (f_X9_reads σ)))
def b_X9_squeeze (σ : Mem) (a : Int32) : Prop := (b_X9_reads σ) ∧ (if (f_X9_isTwo (f_X9_reads σ) a) = 0 then True else (b_X9_findOrder (f_X9_reads σ)) ∧ ((b_X9_tellsSqueeze (f_X9_findOrder (f_X9_reads σ)) a) ∧ (True)))
theorem s_X9_squeeze (X : Amb) (σ : Mem) (a : Int32) (hb : b_X9_squeeze σ a) : SpW X mX9_squeeze [.ref (adr X 0), .int a] σ (.int (f_X9_squeeze σ a).1) (f_X9_squeeze σ a).2 := by
  unfold b_X9_squeeze at hb
  refine sp_of (by decide +kernel) rfl ?_
  show WP X mX9_squeeze 0 [(0, .ref (adr X 0)), (1, .int a)] [] σ _
  refine wp_aload_n dX9_squeeze_0 0 rfl ?_
  obtain ⟨x1, hb⟩ := hb
  refine wp_cV0v (N := mX9_reads) dX9_squeeze_1 tmX9_128 okX9_reads rfl rfl rfl rfl rfl rfl rfl rfl (s_X9_reads X _ x1) ?_
  refine wp_iload_n dX9_squeeze_4 1 rfl ?_
  refine wp_cS1w (N := mX9_isTwo) dX9_squeeze_5 tmX9_105 okX9_isTwo rfl rfl rfl rfl (s_X9_isTwo X _ _) ?_
  refine wp_if_ne 14 dX9_squeeze_8 (by decide) (fun c8_2 => ?_) (fun c8_2 => ?_)
  · rw [if_neg c8_2] at hb
    refine wp_aload_n dX9_squeeze_14 0 rfl ?_
    obtain ⟨x3, hb⟩ := hb
    refine wp_cV0v (N := mX9_findOrder) dX9_squeeze_15 tmX9_240 okX9_findOrder rfl rfl rfl rfl rfl rfl rfl rfl (s_X9_findOrder X _ x3) ?_
    refine wp_aload_n dX9_squeeze_18 0 rfl ?_
    refine wp_iload_n dX9_squeeze_19 1 rfl ?_
    obtain ⟨x4, hb⟩ := hb
    refine wp_cV1w (N := mX9_tellsSqueeze) dX9_squeeze_20 tmX9_246 okX9_tellsSqueeze rfl rfl rfl rfl rfl rfl rfl rfl (s_X9_tellsSqueeze X _ _ x4) ?_
    refine wp_ireturn dX9_squeeze_23 rfl ?_
    exact ⟨by unfold f_X9_squeeze; rw [if_neg c8_2], by unfold f_X9_squeeze; rw [if_neg c8_2]⟩
  · rw [if_pos c8_2] at hb
    refine wp_bipush dX9_squeeze_11 bp_m2 ?_
    refine wp_ireturn dX9_squeeze_13 rfl ?_
    exact ⟨by unfold f_X9_squeeze; rw [if_pos c8_2], by unfold f_X9_squeeze; rw [if_pos c8_2]⟩
end
