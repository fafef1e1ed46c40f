noncomputable section
def l_X9_lives_188 (K : Int32 → Mem → Mem) : Nat → Int32 → Mem → Mem
  | 0, _, σ => σ
  | n + 1, a, σ => (K (a + 1) (mst σ 12 (((2 * a) + 1).toNatClampNeg) (f_X9_givesOf σ a 1)))
def bl_X9_lives_188 (bK : Int32 → Mem → Prop) : Nat → Int32 → Mem → Prop
  | 0, _, _ => False
  | n + 1, a, σ => (b_X9_givesOf σ a 1) ∧ ((vp_in ((2 * a) + 1) 80) ∧ ((bK (a + 1) (mst σ 12 (((2 * a) + 1).toNatClampNeg) (f_X9_givesOf σ a 1)))))
theorem lt_X9_lives_188 (X : Amb) (K : Int32 → Mem → Mem) (bK : Int32 → Mem → Prop) (hK : ∀ (a : Int32) (σ : Mem), bK a σ → WP X mX9_lives 6 [(0, .ref (adr X 0)), (1, .int a)] [] σ (fun v σ' => v = none ∧ σ' = K a σ)) : ∀ (n : Nat) (a : Int32) (σ : Mem), bl_X9_lives_188 bK n a σ → WP X mX9_lives 188 [(0, .ref (adr X 0)), (1, .int a)] [] σ (fun v σ' => v = none ∧ σ' = l_X9_lives_188 K n a σ) := by
  intro n
  induction n with
  | zero => intro a σ hb; exact hb.elim
  | succ n ih =>
    intro a σ hb
    rw [bl_X9_lives_188] at hb
    refine wp_aload_n dX9_lives_188 0 rfl ?_
    refine wp_getR dX9_lives_189 faX9_44 rfl rfl ?_
    refine wp_iconst dX9_lives_192 ic_2 ?_
    refine wp_iload_n dX9_lives_193 1 rfl ?_
    refine wp_imul dX9_lives_194 ?_
    refine wp_iconst dX9_lives_195 ic_1 ?_
    refine wp_iadd dX9_lives_196 ?_
    refine wp_aload_n dX9_lives_197 0 rfl ?_
    refine wp_iload_n dX9_lives_198 1 rfl ?_
    refine wp_iconst dX9_lives_199 ic_1 ?_
    obtain ⟨x1, hb⟩ := hb
    refine wp_cV2w (N := mX9_givesOf) dX9_lives_200 tmX9_147 okX9_givesOf rfl rfl rfl rfl rfl rfl rfl rfl (s_X9_givesOf X _ _ _ x1) ?_
    obtain ⟨x2, hb⟩ := hb
    refine wp_iast dX9_lives_203 rfl x2 ?_
    refine wp_iinc (L' := [(1, _), (0, _)]) dX9_lives_204 rfl 1 rfl (ii_1 _) rfl ?_
    refine wp_goto 6 dX9_lives_207 (by decide) ?_
    refine wp_drop [1, 0] rfl ?_
    rw [show l_X9_lives_188 K (n + 1) a σ = (K (a + 1) (mst σ 12 (((2 * a) + 1).toNatClampNeg) (f_X9_givesOf σ a 1))) from rfl]
    exact hK _ _ hb
def l_X9_lives_174 (K : Int32 → Mem → Mem) : Nat → Int32 → Mem → Mem
  | 0, _, σ => σ
  | n + 1, a, σ => (l_X9_lives_188 K (fu 1) a (mst σ 12 ((2 * a).toNatClampNeg) (f_X9_givesOf σ a 0)))
def bl_X9_lives_174 (bK : Int32 → Mem → Prop) : Nat → Int32 → Mem → Prop
  | 0, _, _ => False
  | n + 1, a, σ => (b_X9_givesOf σ a 0) ∧ ((vp_in (2 * a) 80) ∧ ((bl_X9_lives_188 bK (fu 1) a (mst σ 12 ((2 * a).toNatClampNeg) (f_X9_givesOf σ a 0)))))
theorem lt_X9_lives_174 (X : Amb) (K : Int32 → Mem → Mem) (bK : Int32 → Mem → Prop) (hK : ∀ (a : Int32) (σ : Mem), bK a σ → WP X mX9_lives 6 [(0, .ref (adr X 0)), (1, .int a)] [] σ (fun v σ' => v = none ∧ σ' = K a σ)) : ∀ (n : Nat) (a : Int32) (σ : Mem), bl_X9_lives_174 bK n a σ → WP X mX9_lives 174 [(0, .ref (adr X 0)), (1, .int a)] [] σ (fun v σ' => v = none ∧ σ' = l_X9_lives_174 K n a σ) := by
  intro n
  induction n with
  | zero => intro a σ hb; exact hb.elim
  | succ n ih =>
    intro a σ hb
    rw [bl_X9_lives_174] at hb
    refine wp_aload_n dX9_lives_174 0 rfl ?_
    refine wp_getR dX9_lives_175 faX9_44 rfl rfl ?_
    refine wp_iconst dX9_lives_178 ic_2 ?_
    refine wp_iload_n dX9_lives_179 1 rfl ?_
    refine wp_imul dX9_lives_180 ?_
    refine wp_aload_n dX9_lives_181 0 rfl ?_
    refine wp_iload_n dX9_lives_182 1 rfl ?_
    refine wp_iconst dX9_lives_183 ic_0 ?_
    obtain ⟨x1, hb⟩ := hb
    refine wp_cV2w (N := mX9_givesOf) dX9_lives_184 tmX9_147 okX9_givesOf rfl rfl rfl rfl rfl rfl rfl rfl (s_X9_givesOf X _ _ _ x1) ?_
    obtain ⟨x2, hb⟩ := hb
    refine wp_iast dX9_lives_187 rfl x2 ?_
    refine wp_drop [0, 1] rfl ?_
    rw [show l_X9_lives_174 K (n + 1) a σ = (l_X9_lives_188 K (fu 1) a (mst σ 12 ((2 * a).toNatClampNeg) (f_X9_givesOf σ a 0))) from rfl]
    exact lt_X9_lives_188 X K bK hK (fu 1) a (mst σ 12 ((2 * a).toNatClampNeg) (f_X9_givesOf σ a 0)) hb
def l_X9_lives_129 (K : Int32 → Mem → Mem) : Nat → Int32 → Mem → Mem
  | 0, _, σ => σ
  | n + 1, a, σ => if (σ 0 10) = 0 then (l_X9_lives_174 K (fu 1) a (mst σ 15 (a.toNatClampNeg) 0)) else (l_X9_lives_174 K (fu 1) a (mst σ 15 (a.toNatClampNeg) ((σ 8 ((f_X9_lesser σ ((σ 14 (a.toNatClampNeg)) / 10) ((σ 0 10) - 1)).toNatClampNeg)) * (σ 0 9))))
def bl_X9_lives_129 (bK : Int32 → Mem → Prop) : Nat → Int32 → Mem → Prop
  | 0, _, _ => False
  | n + 1, a, σ => if (σ 0 10) = 0 then (vp_in a 40) ∧ ((bl_X9_lives_174 bK (fu 1) a (mst σ 15 (a.toNatClampNeg) 0))) else (vp_in a 40) ∧ ((vp_in (f_X9_lesser σ ((σ 14 (a.toNatClampNeg)) / 10) ((σ 0 10) - 1)) 16) ∧ ((vp_in a 40) ∧ ((bl_X9_lives_174 bK (fu 1) a (mst σ 15 (a.toNatClampNeg) ((σ 8 ((f_X9_lesser σ ((σ 14 (a.toNatClampNeg)) / 10) ((σ 0 10) - 1)).toNatClampNeg)) * (σ 0 9)))))))
theorem lt_X9_lives_129 (X : Amb) (K : Int32 → Mem → Mem) (bK : Int32 → Mem → Prop) (hK : ∀ (a : Int32) (σ : Mem), bK a σ → WP X mX9_lives 6 [(0, .ref (adr X 0)), (1, .int a)] [] σ (fun v σ' => v = none ∧ σ' = K a σ)) : ∀ (n : Nat) (a : Int32) (σ : Mem), bl_X9_lives_129 bK n a σ → WP X mX9_lives 129 [(0, .ref (adr X 0)), (1, .int a)] [] σ (fun v σ' => v = none ∧ σ' = l_X9_lives_129 K n a σ) := by
  intro n
  induction n with
  | zero => intro a σ hb; exact hb.elim
  | succ n ih =>
    intro a σ hb
    rw [bl_X9_lives_129] at hb
    refine wp_aload_n dX9_lives_129 0 rfl ?_
    refine wp_getR dX9_lives_130 faX9_53 rfl rfl ?_
    refine wp_iload_n dX9_lives_133 1 rfl ?_
    refine wp_aload_n dX9_lives_134 0 rfl ?_
    refine wp_getI dX9_lives_135 faX9_118 rfl rfl ?_
    refine wp_if_ne 145 dX9_lives_138 (by decide) (fun c138_1 => ?_) (fun c138_1 => ?_)
    · rw [if_neg c138_1] at hb
      refine wp_aload_n dX9_lives_145 0 rfl ?_
      refine wp_getR dX9_lives_146 faX9_31 rfl rfl ?_
      refine wp_aload_n dX9_lives_149 0 rfl ?_
      refine wp_getR dX9_lives_150 faX9_50 rfl rfl ?_
      refine wp_iload_n dX9_lives_153 1 rfl ?_
      obtain ⟨x2, hb⟩ := hb
      refine wp_iald dX9_lives_154 rfl x2 ?_
      refine wp_bipush dX9_lives_155 bp_10 ?_
      refine wp_idiv dX9_lives_157 (by decide) ?_
      refine wp_aload_n dX9_lives_158 0 rfl ?_
      refine wp_getI dX9_lives_159 faX9_118 rfl rfl ?_
      refine wp_iconst dX9_lives_162 ic_1 ?_
      refine wp_isub dX9_lives_163 ?_
      refine wp_cS2w (N := mX9_lesser) dX9_lives_164 tmX9_77 okX9_lesser rfl rfl rfl rfl (s_X9_lesser X _ _ _) ?_
      obtain ⟨x3, hb⟩ := hb
      refine wp_iald dX9_lives_167 rfl x3 ?_
      refine wp_aload_n dX9_lives_168 0 rfl ?_
      refine wp_getI dX9_lives_169 faX9_113 rfl rfl ?_
      refine wp_imul dX9_lives_172 ?_
      obtain ⟨x4, hb⟩ := hb
      refine wp_iast dX9_lives_173 rfl x4 ?_
      refine wp_drop [0, 1] rfl ?_
      rw [show l_X9_lives_129 K (n + 1) a σ = (l_X9_lives_174 K (fu 1) a (mst σ 15 (a.toNatClampNeg) ((σ 8 ((f_X9_lesser σ ((σ 14 (a.toNatClampNeg)) / 10) ((σ 0 10) - 1)).toNatClampNeg)) * (σ 0 9)))) from by rw [l_X9_lives_129]; rw [if_neg c138_1]]
      exact lt_X9_lives_174 X K bK hK (fu 1) a (mst σ 15 (a.toNatClampNeg) ((σ 8 ((f_X9_lesser σ ((σ 14 (a.toNatClampNeg)) / 10) ((σ 0 10) - 1)).toNatClampNeg)) * (σ 0 9))) hb
    · rw [if_pos c138_1] at hb
      refine wp_iconst dX9_lives_141 ic_0 ?_
      refine wp_goto 173 dX9_lives_142 (by decide) ?_
      obtain ⟨x5, hb⟩ := hb
      refine wp_iast dX9_lives_173 rfl x5 ?_
      refine wp_drop [0, 1] rfl ?_
      rw [show l_X9_lives_129 K (n + 1) a σ = (l_X9_lives_174 K (fu 1) a (mst σ 15 (a.toNatClampNeg) 0)) from by rw [l_X9_lives_129]; rw [if_pos c138_1]]
      exact lt_X9_lives_174 X K bK hK (fu 1) a (mst σ 15 (a.toNatClampNeg) 0) hb
def l_X9_lives_106 (K : Int32 → Mem → Mem) : Nat → Int32 → Mem → Mem
  | 0, _, σ => σ
  | n + 1, a, σ => (l_X9_lives_129 K (fu 1) a (mst σ 14 (a.toNatClampNeg) ((σ 14 ((a - 1).toNatClampNeg)) + (σ 13 ((a - 1).toNatClampNeg)))))
def bl_X9_lives_106 (bK : Int32 → Mem → Prop) : Nat → Int32 → Mem → Prop
  | 0, _, _ => False
  | n + 1, a, σ => (vp_in (a - 1) 40) ∧ ((vp_in (a - 1) 40) ∧ ((vp_in a 40) ∧ ((bl_X9_lives_129 bK (fu 1) a (mst σ 14 (a.toNatClampNeg) ((σ 14 ((a - 1).toNatClampNeg)) + (σ 13 ((a - 1).toNatClampNeg))))))))
theorem lt_X9_lives_106 (X : Amb) (K : Int32 → Mem → Mem) (bK : Int32 → Mem → Prop) (hK : ∀ (a : Int32) (σ : Mem), bK a σ → WP X mX9_lives 6 [(0, .ref (adr X 0)), (1, .int a)] [] σ (fun v σ' => v = none ∧ σ' = K a σ)) : ∀ (n : Nat) (a : Int32) (σ : Mem), bl_X9_lives_106 bK n a σ → WP X mX9_lives 106 [(0, .ref (adr X 0)), (1, .int a)] [] σ (fun v σ' => v = none ∧ σ' = l_X9_lives_106 K n a σ) := by
  intro n
  induction n with
  | zero => intro a σ hb; exact hb.elim
  | succ n ih =>
    intro a σ hb
    rw [bl_X9_lives_106] at hb
    refine wp_aload_n dX9_lives_106 0 rfl ?_
    refine wp_getR dX9_lives_107 faX9_50 rfl rfl ?_
    refine wp_iload_n dX9_lives_110 1 rfl ?_
    refine wp_aload_n dX9_lives_111 0 rfl ?_
    refine wp_getR dX9_lives_112 faX9_50 rfl rfl ?_
    refine wp_iload_n dX9_lives_115 1 rfl ?_
    refine wp_iconst dX9_lives_116 ic_1 ?_
    refine wp_isub dX9_lives_117 ?_
    obtain ⟨x1, hb⟩ := hb
    refine wp_iald dX9_lives_118 rfl x1 ?_
    refine wp_aload_n dX9_lives_119 0 rfl ?_
    refine wp_getR dX9_lives_120 faX9_47 rfl rfl ?_
    refine wp_iload_n dX9_lives_123 1 rfl ?_
    refine wp_iconst dX9_lives_124 ic_1 ?_
    refine wp_isub dX9_lives_125 ?_
    obtain ⟨x2, hb⟩ := hb
    refine wp_iald dX9_lives_126 rfl x2 ?_
    refine wp_iadd dX9_lives_127 ?_
    obtain ⟨x3, hb⟩ := hb
    refine wp_iast dX9_lives_128 rfl x3 ?_
    refine wp_drop [0, 1] rfl ?_
    rw [show l_X9_lives_106 K (n + 1) a σ = (l_X9_lives_129 K (fu 1) a (mst σ 14 (a.toNatClampNeg) ((σ 14 ((a - 1).toNatClampNeg)) + (σ 13 ((a - 1).toNatClampNeg))))) from rfl]
    exact lt_X9_lives_129 X K bK hK (fu 1) a (mst σ 14 (a.toNatClampNeg) ((σ 14 ((a - 1).toNatClampNeg)) + (σ 13 ((a - 1).toNatClampNeg)))) hb
def l_X9_lives_6 : Nat → Int32 → Mem → Mem
  | 0, _, σ => σ
  | n + 1, a, σ => if 40 ≤ a then σ else if a = 0 then (l_X9_lives_129 (l_X9_lives_6 n) (fu 1) a (mst (mst σ 13 ((0 : Int32).toNatClampNeg) (σ 11 ((4 : Int32).toNatClampNeg))) 14 ((0 : Int32).toNatClampNeg) 0)) else if (((σ 12 (((2 * a) - 2).toNatClampNeg)) + (σ 12 (((2 * a) - 1).toNatClampNeg))) - (σ 15 ((a - 1).toNatClampNeg))) ≤ 0 then if 0 ≤ (((σ 12 (((2 * a) - 2).toNatClampNeg)) + (σ 12 (((2 * a) - 1).toNatClampNeg))) - (σ 15 ((a - 1).toNatClampNeg))) then (l_X9_lives_106 (l_X9_lives_6 n) (fu 1) a (mst σ 13 (a.toNatClampNeg) (f_X9_within σ ((σ 13 ((a - 1).toNatClampNeg)) + 0) 20))) else (l_X9_lives_106 (l_X9_lives_6 n) (fu 1) a (mst σ 13 (a.toNatClampNeg) (f_X9_within σ ((σ 13 ((a - 1).toNatClampNeg)) + (-1)) 20))) else (l_X9_lives_106 (l_X9_lives_6 n) (fu 1) a (mst σ 13 (a.toNatClampNeg) (f_X9_within σ ((σ 13 ((a - 1).toNatClampNeg)) + 1) 20)))
def bl_X9_lives_6 : Nat → Int32 → Mem → Prop
  | 0, _, _ => False
  | n + 1, a, σ => if 40 ≤ a then True else if a = 0 then (bl_X9_lives_129 (bl_X9_lives_6 n) (fu 1) a (mst (mst σ 13 ((0 : Int32).toNatClampNeg) (σ 11 ((4 : Int32).toNatClampNeg))) 14 ((0 : Int32).toNatClampNeg) 0)) else (vp_in ((2 * a) - 2) 80) ∧ ((vp_in ((2 * a) - 1) 80) ∧ ((vp_in (a - 1) 40) ∧ ((vp_in (a - 1) 40) ∧ (if (((σ 12 (((2 * a) - 2).toNatClampNeg)) + (σ 12 (((2 * a) - 1).toNatClampNeg))) - (σ 15 ((a - 1).toNatClampNeg))) ≤ 0 then if 0 ≤ (((σ 12 (((2 * a) - 2).toNatClampNeg)) + (σ 12 (((2 * a) - 1).toNatClampNeg))) - (σ 15 ((a - 1).toNatClampNeg))) then (vp_in a 40) ∧ ((bl_X9_lives_106 (bl_X9_lives_6 n) (fu 1) a (mst σ 13 (a.toNatClampNeg) (f_X9_within σ ((σ 13 ((a - 1).toNatClampNeg)) + 0) 20)))) else (vp_in a 40) ∧ ((bl_X9_lives_106 (bl_X9_lives_6 n) (fu 1) a (mst σ 13 (a.toNatClampNeg) (f_X9_within σ ((σ 13 ((a - 1).toNatClampNeg)) + (-1)) 20)))) else (vp_in a 40) ∧ ((bl_X9_lives_106 (bl_X9_lives_6 n) (fu 1) a (mst σ 13 (a.toNatClampNeg) (f_X9_within σ ((σ 13 ((a - 1).toNatClampNeg)) + 1) 20))))))))
theorem lt_X9_lives_6 (X : Amb) : ∀ (n : Nat) (a : Int32) (σ : Mem), bl_X9_lives_6 n a σ → WP X mX9_lives 6 [(0, .ref (adr X 0)), (1, .int a)] [] σ (fun v σ' => v = none ∧ σ' = l_X9_lives_6 n a σ) := by
  intro n
  induction n with
  | zero => intro a σ hb; exact hb.elim
  | succ n ih =>
    intro a σ hb
    rw [bl_X9_lives_6] at hb
    refine wp_iload_n dX9_lives_6 1 rfl ?_
    refine wp_bipush dX9_lives_7 bp_40 ?_
    refine wp_icmp_ge 210 dX9_lives_9 (by decide) (fun c9_1 => ?_) (fun c9_1 => ?_)
    · rw [if_pos c9_1] at hb
      refine wp_return dX9_lives_210 rfl ?_
      exact ⟨rfl, by rw [l_X9_lives_6, if_pos c9_1]⟩
    · rw [if_neg c9_1] at hb
      refine wp_iload_n dX9_lives_12 1 rfl ?_
      refine wp_if_ne 38 dX9_lives_13 (by decide) (fun c13_2 => ?_) (fun c13_2 => ?_)
      · rw [if_neg c13_2] at hb
        refine wp_aload_n dX9_lives_38 0 rfl ?_
        refine wp_getR dX9_lives_39 faX9_44 rfl rfl ?_
        refine wp_iconst dX9_lives_42 ic_2 ?_
        refine wp_iload_n dX9_lives_43 1 rfl ?_
        refine wp_imul dX9_lives_44 ?_
        refine wp_iconst dX9_lives_45 ic_2 ?_
        refine wp_isub dX9_lives_46 ?_
        obtain ⟨x3, hb⟩ := hb
        refine wp_iald dX9_lives_47 rfl x3 ?_
        refine wp_aload_n dX9_lives_48 0 rfl ?_
        refine wp_getR dX9_lives_49 faX9_44 rfl rfl ?_
        refine wp_iconst dX9_lives_52 ic_2 ?_
        refine wp_iload_n dX9_lives_53 1 rfl ?_
        refine wp_imul dX9_lives_54 ?_
        refine wp_iconst dX9_lives_55 ic_1 ?_
        refine wp_isub dX9_lives_56 ?_
        obtain ⟨x4, hb⟩ := hb
        refine wp_iald dX9_lives_57 rfl x4 ?_
        refine wp_iadd dX9_lives_58 ?_
        refine wp_aload_n dX9_lives_59 0 rfl ?_
        refine wp_getR dX9_lives_60 faX9_53 rfl rfl ?_
        refine wp_iload_n dX9_lives_63 1 rfl ?_
        refine wp_iconst dX9_lives_64 ic_1 ?_
        refine wp_isub dX9_lives_65 ?_
        obtain ⟨x5, hb⟩ := hb
        refine wp_iald dX9_lives_66 rfl x5 ?_
        refine wp_isub dX9_lives_67 ?_
        refine wp_istore_n (L' := [(2, _), (0, _), (1, _)]) dX9_lives_68 rfl rfl ?_
        refine wp_aload_n dX9_lives_69 1 rfl ?_
        refine wp_getR dX9_lives_70 faX9_47 rfl rfl ?_
        refine wp_iload_n dX9_lives_73 2 rfl ?_
        refine wp_aload_n dX9_lives_74 1 rfl ?_
        refine wp_getR dX9_lives_75 faX9_47 rfl rfl ?_
        refine wp_iload_n dX9_lives_78 2 rfl ?_
        refine wp_iconst dX9_lives_79 ic_1 ?_
        refine wp_isub dX9_lives_80 ?_
        obtain ⟨x6, hb⟩ := hb
        refine wp_iald dX9_lives_81 rfl x6 ?_
        refine wp_iload_n dX9_lives_82 0 rfl ?_
        refine wp_if_le 90 dX9_lives_83 (by decide) (fun c83_7 => ?_) (fun c83_7 => ?_)
        · rw [if_pos c83_7] at hb
          refine wp_iload_n dX9_lives_90 0 rfl ?_
          refine wp_if_ge 98 dX9_lives_91 (by decide) (fun c91_8 => ?_) (fun c91_8 => ?_)
          · rw [if_pos c91_8] at hb
            refine wp_iconst dX9_lives_98 ic_0 ?_
            refine wp_iadd dX9_lives_99 ?_
            refine wp_bipush dX9_lives_100 bp_20 ?_
            refine wp_cS2w (N := mX9_within) dX9_lives_102 tmX9_141 okX9_within rfl rfl rfl rfl (s_X9_within X _ _ _) ?_
            obtain ⟨x9, hb⟩ := hb
            refine wp_iast dX9_lives_105 rfl x9 ?_
            refine wp_drop [1, 2] rfl ?_
            rw [show l_X9_lives_6 (n + 1) a σ = (l_X9_lives_106 (l_X9_lives_6 n) (fu 1) a (mst σ 13 (a.toNatClampNeg) (f_X9_within σ ((σ 13 ((a - 1).toNatClampNeg)) + 0) 20))) from by rw [l_X9_lives_6]; rw [if_neg c9_1, if_neg c13_2, if_pos c83_7, if_pos c91_8]]
            exact lt_X9_lives_106 X (l_X9_lives_6 n) (bl_X9_lives_6 n) ih (fu 1) a (mst σ 13 (a.toNatClampNeg) (f_X9_within σ ((σ 13 ((a - 1).toNatClampNeg)) + 0) 20)) hb
          · rw [if_neg c91_8] at hb
            refine wp_iconst dX9_lives_94 ic_m1 ?_
            refine wp_goto 99 dX9_lives_95 (by decide) ?_
            refine wp_iadd dX9_lives_99 ?_
            refine wp_bipush dX9_lives_100 bp_20 ?_
            refine wp_cS2w (N := mX9_within) dX9_lives_102 tmX9_141 okX9_within rfl rfl rfl rfl (s_X9_within X _ _ _) ?_
            obtain ⟨x10, hb⟩ := hb
            refine wp_iast dX9_lives_105 rfl x10 ?_
            refine wp_drop [1, 2] rfl ?_
            rw [show l_X9_lives_6 (n + 1) a σ = (l_X9_lives_106 (l_X9_lives_6 n) (fu 1) a (mst σ 13 (a.toNatClampNeg) (f_X9_within σ ((σ 13 ((a - 1).toNatClampNeg)) + (-1)) 20))) from by rw [l_X9_lives_6]; rw [if_neg c9_1, if_neg c13_2, if_pos c83_7, if_neg c91_8]]
            exact lt_X9_lives_106 X (l_X9_lives_6 n) (bl_X9_lives_6 n) ih (fu 1) a (mst σ 13 (a.toNatClampNeg) (f_X9_within σ ((σ 13 ((a - 1).toNatClampNeg)) + (-1)) 20)) hb
        · rw [if_neg c83_7] at hb
          refine wp_iconst dX9_lives_86 ic_1 ?_
          refine wp_goto 99 dX9_lives_87 (by decide) ?_
          refine wp_iadd dX9_lives_99 ?_
          refine wp_bipush dX9_lives_100 bp_20 ?_
          refine wp_cS2w (N := mX9_within) dX9_lives_102 tmX9_141 okX9_within rfl rfl rfl rfl (s_X9_within X _ _ _) ?_
          obtain ⟨x11, hb⟩ := hb
          refine wp_iast dX9_lives_105 rfl x11 ?_
          refine wp_drop [1, 2] rfl ?_
          rw [show l_X9_lives_6 (n + 1) a σ = (l_X9_lives_106 (l_X9_lives_6 n) (fu 1) a (mst σ 13 (a.toNatClampNeg) (f_X9_within σ ((σ 13 ((a - 1).toNatClampNeg)) + 1) 20))) from by rw [l_X9_lives_6]; rw [if_neg c9_1, if_neg c13_2, if_neg c83_7]]
          exact lt_X9_lives_106 X (l_X9_lives_6 n) (bl_X9_lives_6 n) ih (fu 1) a (mst σ 13 (a.toNatClampNeg) (f_X9_within σ ((σ 13 ((a - 1).toNatClampNeg)) + 1) 20)) hb
      · rw [if_pos c13_2] at hb
        refine wp_aload_n dX9_lives_16 0 rfl ?_
        refine wp_getR dX9_lives_17 faX9_47 rfl rfl ?_
        refine wp_iconst dX9_lives_20 ic_0 ?_
        refine wp_aload_n dX9_lives_21 0 rfl ?_
        refine wp_getR dX9_lives_22 faX9_41 rfl rfl ?_
        refine wp_iconst dX9_lives_25 ic_4 ?_
        refine wp_iald dX9_lives_26 rfl (vlit 4 5 (by decide)) ?_
        refine wp_iast dX9_lives_27 rfl (vlit 0 40 (by decide)) ?_
        refine wp_aload_n dX9_lives_28 0 rfl ?_
        refine wp_getR dX9_lives_29 faX9_50 rfl rfl ?_
        refine wp_iconst dX9_lives_32 ic_0 ?_
        refine wp_iconst dX9_lives_33 ic_0 ?_
        refine wp_iast dX9_lives_34 rfl (vlit 0 40 (by decide)) ?_
        refine wp_goto 129 dX9_lives_35 (by decide) ?_
        refine wp_drop [0, 1] rfl ?_
        rw [show l_X9_lives_6 (n + 1) a σ = (l_X9_lives_129 (l_X9_lives_6 n) (fu 1) a (mst (mst σ 13 ((0 : Int32).toNatClampNeg) (σ 11 ((4 : Int32).toNatClampNeg))) 14 ((0 : Int32).toNatClampNeg) 0)) from by rw [l_X9_lives_6]; rw [if_neg c9_1, if_pos c13_2]]
        exact lt_X9_lives_129 X (l_X9_lives_6 n) (bl_X9_lives_6 n) ih (fu 1) a (mst (mst σ 13 ((0 : Int32).toNatClampNeg) (σ 11 ((4 : Int32).toNatClampNeg))) 14 ((0 : Int32).toNatClampNeg) 0) hb
def f_X9_lives (σ : Mem) : Mem := (l_X9_lives_6 (fu 41) 0 (f_X9_reads σ))
def b_X9_lives (σ : Mem) : Prop := (b_X9_reads σ) ∧ ((bl_X9_lives_6 (fu 41) 0 (f_X9_reads σ)))
theorem s_X9_lives (X : Amb) (σ : Mem) (hb : b_X9_lives σ) : SpV X mX9_lives [.ref (adr X 0)] σ (f_X9_lives σ) := by
  unfold b_X9_lives at hb
  refine sp_of (by decide +kernel) rfl ?_
  show WP X mX9_lives 0 [(0, .ref (adr X 0))] [] σ _
  refine wp_aload_n dX9_lives_0 0 rfl ?_
  obtain ⟨x1, hb⟩ := hb
  refine wp_cV0v (N := mX9_reads) dX9_lives_1 tmX9_128 okX9_reads rfl rfl rfl rfl rfl rfl rfl rfl (s_X9_reads X _ x1) ?_
  refine wp_iconst dX9_lives_4 ic_0 ?_
  refine wp_istore_n (L' := [(1, _), (0, _)]) dX9_lives_5 rfl rfl ?_
  refine wp_drop [1, 0] rfl ?_
  rw [show f_X9_lives σ = (l_X9_lives_6 (fu 41) 0 (f_X9_reads σ)) from rfl]
  exact lt_X9_lives_6 X (fu 41) 0 (f_X9_reads σ) hb
end
