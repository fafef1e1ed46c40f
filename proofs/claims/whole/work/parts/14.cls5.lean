noncomputable section
theorem addT {x y : Int32} (h1 : -2147483648 ≤ x.toInt + y.toInt) (h2 : x.toInt + y.toInt < 2147483648) : (x + y).toInt = x.toInt + y.toInt := by
  rw [Int32.toInt_add]; rw [Int.bmod_eq_of_le] <;> omega
theorem subT {x y : Int32} (h1 : -2147483648 ≤ x.toInt - y.toInt) (h2 : x.toInt - y.toInt < 2147483648) : (x - y).toInt = x.toInt - y.toInt := by
  rw [Int32.toInt_sub]; rw [Int.bmod_eq_of_le] <;> omega
theorem mulT {x y : Int32} (h1 : -2147483648 ≤ x.toInt * y.toInt) (h2 : x.toInt * y.toInt < 2147483648) : (x * y).toInt = x.toInt * y.toInt := by
  rw [Int32.toInt_mul]; rw [Int.bmod_eq_of_le] <;> omega
theorem t1 : (1 : Int32).toInt = 1 := by decide
theorem t2 : (2 : Int32).toInt = 2 := by decide
theorem t4 : (4 : Int32).toInt = 4 := by decide
theorem t5 : (5 : Int32).toInt = 5 := by decide
theorem t6 : (6 : Int32).toInt = 6 := by decide
theorem tm1 : (-1 : Int32).toInt = -1 := by decide
theorem vle4 {i : Int32} (h0 : ¬ i < 0) (h : i ≤ 4) : vp_in i 6 := by
  rw [vp_in_iff]; rw [Int32.lt_iff_toInt_lt, Int32.toInt_zero] at h0; rw [Int32.le_iff_toInt_le, t4] at h; omega
theorem vle4s {i : Int32} (h0 : ¬ i < 0) (h : i ≤ 4) : vp_in (i + 1) 6 := by
  rw [Int32.lt_iff_toInt_lt, Int32.toInt_zero] at h0; rw [Int32.le_iff_toInt_le, t4] at h
  rw [vp_in_iff, addT (by rw [t1]; omega) (by rw [t1]; omega), t1]; omega
theorem vle5 {i j : Int32} (h0 : 0 ≤ i) (hij : ¬ j ≤ i) (h : j ≤ 5) : vp_in j 6 := by
  rw [vp_in_iff]; rw [Int32.le_iff_toInt_le] at *; rw [Int32.toInt_zero] at h0; rw [t5] at h; omega
theorem dec_le {i B : Int32} (h0 : ¬ i < 0) (h : i ≤ B) : i + (-1) ≤ B := by
  rw [Int32.lt_iff_toInt_lt, Int32.toInt_zero] at h0
  have := Int32.toInt_lt i
  rw [Int32.le_iff_toInt_le] at *; rw [addT (by rw [tm1]; omega) (by rw [tm1]; omega), tm1]; omega
theorem dec_le' {i j B : Int32} (h0 : 0 ≤ i) (hij : ¬ j ≤ i) (h : j ≤ B) : j + (-1) ≤ B := by
  refine dec_le (fun q => hij ?_) h
  rw [Int32.lt_iff_toInt_lt, Int32.toInt_zero] at q
  rw [Int32.le_iff_toInt_le] at *; rw [Int32.toInt_zero] at h0; omega
theorem cnt_2 {c d : Int32} {n : Nat} (hd : ¬ d ≤ c) (hm : (d.toInt - c.toInt).toNat < n + 1) (hc : -1000 ≤ c) : ((d + (-1)).toInt - (c + 1).toInt).toNat < n := by
  have h1 := Int32.toInt_lt d
  rw [Int32.le_iff_toInt_le] at hd hc
  rw [show (-1000 : Int32).toInt = -1000 by decide] at hc
  rw [addT (by rw [tm1]; omega) (by rw [tm1]; omega), tm1, addT (by rw [t1]; omega) (by rw [t1]; omega), t1]; omega
theorem inc_ge {c d : Int32} (hd : ¬ d ≤ c) (hc : -1000 ≤ c) : -1000 ≤ c + 1 := by
  have h1 := Int32.toInt_lt d
  rw [Int32.le_iff_toInt_le] at *
  rw [show (-1000 : Int32).toInt = -1000 by decide] at *
  rw [addT (by rw [t1]; omega) (by rw [t1]; omega), t1]; omega
def l_X0_begin_52 : Nat → Int32 → Mem → Mem
  | 0, _, σ => σ
  | n + 1, c, σ => if 6 ≤ c then σ else (l_X0_begin_52 n (c + 1) (mst σ 24 (c.toNatClampNeg) c))
theorem lt_X0_begin_52 (X : Amb) : ∀ (n : Nat) (c : Int32) (σ : Mem), ((6 : Int32).toInt - c.toInt).toNat < n → ¬ c < 0 → WP X mX0_begin 52 [(0, .ref (adr X 23)), (2, .int c)] [] σ (fun v σ' => v = none ∧ σ' = l_X0_begin_52 n c σ) := by
  intro n
  induction n with
  | zero => intro c σ hm; exact absurd hm (Nat.not_lt_zero _)
  | succ n ih =>
    intro c σ hm h0
    refine wp_iload_n dX0_begin_52 1 rfl ?_
    refine wp_bipush dX0_begin_53 bp_6 ?_
    refine wp_icmp_ge 71 dX0_begin_55 (by decide) (fun c55_1 => ?_) (fun c55_1 => ?_)
    · refine wp_return dX0_begin_71 rfl ?_
      exact ⟨rfl, by rw [l_X0_begin_52, if_pos c55_1]⟩
    · refine wp_aload_n dX0_begin_58 0 rfl ?_
      refine wp_getR dX0_begin_59 faX0_9 rfl rfl ?_
      refine wp_iload_n dX0_begin_62 1 rfl ?_
      refine wp_iload_n dX0_begin_63 1 rfl ?_
      refine wp_iast dX0_begin_64 rfl (vin 6 (by decide) rfl h0 c55_1) ?_
      refine wp_iinc (L' := [(2, _), (0, _)]) dX0_begin_65 rfl 1 rfl (ii_1 _) rfl ?_
      refine wp_goto 52 dX0_begin_68 (by decide) ?_
      refine wp_drop [1, 0] rfl ?_
      rw [show l_X0_begin_52 (n + 1) c σ = (l_X0_begin_52 n (c + 1) (mst σ 24 (c.toNatClampNeg) c)) from by rw [l_X0_begin_52, if_neg c55_1]]
      exact ih _ _ (cnt_up c55_1 hm) (nn_inc' h0 c55_1)
def f_X0_begin (σ : Mem) : Mem := if 6 < (f_X1_size σ) then (l_X0_begin_52 (fu 7) 0 (mst (mst (mst (mst σ 23 2 0) 23 7 1) 23 5 0) 23 6 1)) else if (f_X1_size σ) ≤ 0 then (l_X0_begin_52 (fu 7) 0 (mst (mst (mst (mst σ 23 2 (f_X1_size σ)) 23 7 1) 23 5 0) 23 6 1)) else (l_X0_begin_52 (fu 7) 0 (mst (mst (mst (mst σ 23 2 (f_X1_size σ)) 23 7 (f_X1_whole (mst σ 23 2 (f_X1_size σ)))) 23 5 0) 23 6 1))
theorem s_X0_begin (X : Amb) (σ : Mem) : SpV X mX0_begin [.ref (adr X 23), .ref (adr X 5)] σ (f_X0_begin σ) := by
  refine sp_of (by decide +kernel) rfl ?_
  show WP X mX0_begin 0 [(0, .ref (adr X 23)), (1, .ref (adr X 5))] [] σ _
  refine wp_aload_n dX0_begin_0 0 rfl ?_
  refine wp_aload_n dX0_begin_1 1 rfl ?_
  refine wp_cV0w (N := mX1_size) dX0_begin_2 tmX0_52 okX1_size rfl rfl rfl rfl rfl rfl rfl rfl (s_X1_size X _) ?_
  refine wp_bipush dX0_begin_5 bp_6 ?_
  refine wp_icmp_gt 17 dX0_begin_7 (by decide) (fun c7_1 => ?_) (fun c7_1 => ?_)
  · refine wp_iconst dX0_begin_17 ic_0 ?_
    refine wp_putI dX0_begin_18 fwX0_18 rfl rfl ?_
    refine wp_aload_n dX0_begin_21 0 rfl ?_
    refine wp_aload_n dX0_begin_22 0 rfl ?_
    refine wp_getI dX0_begin_23 faX0_18 rfl rfl ?_
    refine wp_topi (y := 0) rfl ?_
    refine wp_if_le 36 dX0_begin_26 (by decide) (fun _ => ?_) (fun z9 => absurd (by decide) z9)
    refine wp_iconst dX0_begin_36 ic_1 ?_
    refine wp_putI dX0_begin_37 fwX0_34 rfl rfl ?_
    refine wp_aload_n dX0_begin_40 0 rfl ?_
    refine wp_iconst dX0_begin_41 ic_0 ?_
    refine wp_putI dX0_begin_42 fwX0_28 rfl rfl ?_
    refine wp_aload_n dX0_begin_45 0 rfl ?_
    refine wp_iconst dX0_begin_46 ic_1 ?_
    refine wp_putI dX0_begin_47 fwX0_31 rfl rfl ?_
    refine wp_iconst dX0_begin_50 ic_0 ?_
    refine wp_istore_n (L' := [(2, _), (0, _), (1, _)]) dX0_begin_51 rfl rfl ?_
    refine wp_drop [1, 0] rfl ?_
    rw [show f_X0_begin σ = (l_X0_begin_52 (fu 7) 0 (mst (mst (mst (mst σ 23 2 0) 23 7 1) 23 5 0) 23 6 1)) from by unfold f_X0_begin; rw [if_pos c7_1]]
    exact lt_X0_begin_52 X  (fu 7) 0 (mst (mst (mst (mst σ 23 2 0) 23 7 1) 23 5 0) 23 6 1) (fu_lt (by decide)) nn0
  · refine wp_aload_n dX0_begin_10 1 rfl ?_
    refine wp_cV0w (N := mX1_size) dX0_begin_11 tmX0_52 okX1_size rfl rfl rfl rfl rfl rfl rfl rfl (s_X1_size X _) ?_
    refine wp_goto 18 dX0_begin_14 (by decide) ?_
    refine wp_putI dX0_begin_18 fwX0_18 rfl rfl ?_
    refine wp_aload_n dX0_begin_21 0 rfl ?_
    refine wp_aload_n dX0_begin_22 0 rfl ?_
    refine wp_getI dX0_begin_23 faX0_18 rfl rfl ?_
    refine wp_topi (y := (f_X1_size σ)) rfl ?_
    refine wp_if_le 36 dX0_begin_26 (by decide) (fun c26_3 => ?_) (fun c26_3 => ?_)
    · refine wp_iconst dX0_begin_36 ic_1 ?_
      refine wp_putI dX0_begin_37 fwX0_34 rfl rfl ?_
      refine wp_aload_n dX0_begin_40 0 rfl ?_
      refine wp_iconst dX0_begin_41 ic_0 ?_
      refine wp_putI dX0_begin_42 fwX0_28 rfl rfl ?_
      refine wp_aload_n dX0_begin_45 0 rfl ?_
      refine wp_iconst dX0_begin_46 ic_1 ?_
      refine wp_putI dX0_begin_47 fwX0_31 rfl rfl ?_
      refine wp_iconst dX0_begin_50 ic_0 ?_
      refine wp_istore_n (L' := [(2, _), (0, _), (1, _)]) dX0_begin_51 rfl rfl ?_
      refine wp_drop [1, 0] rfl ?_
      rw [show f_X0_begin σ = (l_X0_begin_52 (fu 7) 0 (mst (mst (mst (mst σ 23 2 (f_X1_size σ)) 23 7 1) 23 5 0) 23 6 1)) from by unfold f_X0_begin; rw [if_neg c7_1, if_pos c26_3]]
      exact lt_X0_begin_52 X  (fu 7) 0 (mst (mst (mst (mst σ 23 2 (f_X1_size σ)) 23 7 1) 23 5 0) 23 6 1) (fu_lt (by decide)) nn0
    · refine wp_aload_n dX0_begin_29 1 rfl ?_
      refine wp_cV0w (N := mX1_whole) dX0_begin_30 tmX0_57 okX1_whole rfl rfl rfl rfl rfl rfl rfl rfl (s_X1_whole X _) ?_
      refine wp_goto 37 dX0_begin_33 (by decide) ?_
      refine wp_putI dX0_begin_37 fwX0_34 rfl rfl ?_
      refine wp_aload_n dX0_begin_40 0 rfl ?_
      refine wp_iconst dX0_begin_41 ic_0 ?_
      refine wp_putI dX0_begin_42 fwX0_28 rfl rfl ?_
      refine wp_aload_n dX0_begin_45 0 rfl ?_
      refine wp_iconst dX0_begin_46 ic_1 ?_
      refine wp_putI dX0_begin_47 fwX0_31 rfl rfl ?_
      refine wp_iconst dX0_begin_50 ic_0 ?_
      refine wp_istore_n (L' := [(2, _), (0, _), (1, _)]) dX0_begin_51 rfl rfl ?_
      refine wp_drop [1, 0] rfl ?_
      rw [show f_X0_begin σ = (l_X0_begin_52 (fu 7) 0 (mst (mst (mst (mst σ 23 2 (f_X1_size σ)) 23 7 (f_X1_whole (mst σ 23 2 (f_X1_size σ)))) 23 5 0) 23 6 1)) from by unfold f_X0_begin; rw [if_neg c7_1, if_neg c26_3]]
      exact lt_X0_begin_52 X  (fu 7) 0 (mst (mst (mst (mst σ 23 2 (f_X1_size σ)) 23 7 (f_X1_whole (mst σ 23 2 (f_X1_size σ)))) 23 5 0) 23 6 1) (fu_lt (by decide)) nn0
def l_X0_weigh_16 : Nat → Int32 → Int32 → Int32 → Int32 → Mem → Mem
  | 0, _, _, _, _, σ => σ
  | n + 1, a, b, c, d, σ => if (σ 23 2) ≤ d then σ else if 6 ≤ d then σ else if ((((a + b) * c) - (a * (σ 23 7))) * (σ 23 4)) ≤ ((σ 23 3) * (f_X1_weightOf σ (σ 24 (d.toNatClampNeg)))) then (l_X0_weigh_16 n a b (c + (f_X1_weightOf σ (σ 24 (d.toNatClampNeg)))) (d + 1) σ) else (l_X0_weigh_16 n a b (c + (f_X1_weightOf σ (σ 24 (d.toNatClampNeg)))) (d + 1) (mst (mst σ 23 3 (((a + b) * c) - (a * (σ 23 7)))) 23 4 (f_X1_weightOf σ (σ 24 (d.toNatClampNeg)))))
theorem lt_X0_weigh_16 (X : Amb) : ∀ (n : Nat) (a : Int32) (b : Int32) (c : Int32) (d : Int32) (σ : Mem), ((6 : Int32).toInt - d.toInt).toNat < n → ¬ d < 0 → WP X mX0_weigh 16 [(0, .ref (adr X 23)), (1, .ref (adr X 5)), (2, .int a), (3, .int b), (4, .int c), (5, .int d)] [] σ (fun v σ' => v = none ∧ σ' = l_X0_weigh_16 n a b c d σ) := by
  intro n
  induction n with
  | zero => intro a b c d σ hm; exact absurd hm (Nat.not_lt_zero _)
  | succ n ih =>
    intro a b c d σ hm h0
    refine wp_iload dX0_weigh_16 5 rfl ?_
    refine wp_aload_n dX0_weigh_18 0 rfl ?_
    refine wp_getI dX0_weigh_19 faX0_18 rfl rfl ?_
    refine wp_icmp_ge 102 dX0_weigh_22 (by decide) (fun c22_1 => ?_) (fun c22_1 => ?_)
    · refine wp_return dX0_weigh_102 rfl ?_
      exact ⟨rfl, by rw [l_X0_weigh_16, if_pos c22_1]⟩
    · refine wp_iload dX0_weigh_25 5 rfl ?_
      refine wp_bipush dX0_weigh_27 bp_6 ?_
      refine wp_icmp_ge 102 dX0_weigh_29 (by decide) (fun c29_2 => ?_) (fun c29_2 => ?_)
      · refine wp_return dX0_weigh_102 rfl ?_
        exact ⟨rfl, by rw [l_X0_weigh_16, if_neg c22_1, if_pos c29_2]⟩
      · refine wp_aload_n dX0_weigh_32 1 rfl ?_
        refine wp_aload_n dX0_weigh_33 0 rfl ?_
        refine wp_getR dX0_weigh_34 faX0_9 rfl rfl ?_
        refine wp_iload dX0_weigh_37 5 rfl ?_
        refine wp_iald dX0_weigh_39 rfl (vin 6 (by decide) rfl h0 c29_2) ?_
        refine wp_cV1w (N := mX1_weightOf) dX0_weigh_40 tmX0_59 okX1_weightOf rfl rfl rfl rfl rfl rfl rfl rfl (s_X1_weightOf X _ _) ?_
        refine wp_istore (L' := [(6, _), (0, _), (1, _), (2, _), (3, _), (4, _), (5, _)]) dX0_weigh_43 rfl rfl ?_
        refine wp_iload_n dX0_weigh_45 3 rfl ?_
        refine wp_iload_n dX0_weigh_46 4 rfl ?_
        refine wp_iadd dX0_weigh_47 ?_
        refine wp_iload dX0_weigh_48 5 rfl ?_
        refine wp_imul dX0_weigh_50 ?_
        refine wp_iload_n dX0_weigh_51 3 rfl ?_
        refine wp_aload_n dX0_weigh_52 1 rfl ?_
        refine wp_getI dX0_weigh_53 faX0_34 rfl rfl ?_
        refine wp_imul dX0_weigh_56 ?_
        refine wp_isub dX0_weigh_57 ?_
        refine wp_istore (L' := [(7, _), (6, _), (0, _), (1, _), (2, _), (3, _), (4, _), (5, _)]) dX0_weigh_58 rfl rfl ?_
        refine wp_iload dX0_weigh_60 0 rfl ?_
        refine wp_aload_n dX0_weigh_62 2 rfl ?_
        refine wp_getI dX0_weigh_63 faX0_25 rfl rfl ?_
        refine wp_imul dX0_weigh_66 ?_
        refine wp_aload_n dX0_weigh_67 2 rfl ?_
        refine wp_getI dX0_weigh_68 faX0_22 rfl rfl ?_
        refine wp_iload dX0_weigh_71 1 rfl ?_
        refine wp_imul dX0_weigh_73 ?_
        refine wp_icmp_le 89 dX0_weigh_74 (by decide) (fun c74_3 => ?_) (fun c74_3 => ?_)
        · refine wp_iload dX0_weigh_89 6 rfl ?_
          refine wp_iload dX0_weigh_91 1 rfl ?_
          refine wp_iadd dX0_weigh_93 ?_
          refine wp_istore (L' := [(4, _), (7, _), (6, _), (0, _), (1, _), (2, _), (3, _), (5, _)]) dX0_weigh_94 rfl rfl ?_
          refine wp_iinc (L' := [(5, _), (4, _), (7, _), (6, _), (0, _), (1, _), (2, _), (3, _)]) dX0_weigh_96 rfl 7 rfl (ii_1 _) rfl ?_
          refine wp_goto 16 dX0_weigh_99 (by decide) ?_
          refine wp_drop [4, 5, 6, 7, 1, 0] rfl ?_
          rw [show l_X0_weigh_16 (n + 1) a b c d σ = (l_X0_weigh_16 n a b (c + (f_X1_weightOf σ (σ 24 (d.toNatClampNeg)))) (d + 1) σ) from by rw [l_X0_weigh_16, if_neg c22_1, if_neg c29_2, if_pos c74_3]]
          exact ih _ _ _ _ _ (cnt_up c29_2 hm) (nn_inc' h0 c29_2)
        · refine wp_aload_n dX0_weigh_77 2 rfl ?_
          refine wp_iload dX0_weigh_78 0 rfl ?_
          refine wp_putI dX0_weigh_80 fwX0_22 rfl rfl ?_
          refine wp_aload_n dX0_weigh_83 2 rfl ?_
          refine wp_iload dX0_weigh_84 1 rfl ?_
          refine wp_putI dX0_weigh_86 fwX0_25 rfl rfl ?_
          refine wp_iload dX0_weigh_89 6 rfl ?_
          refine wp_iload dX0_weigh_91 1 rfl ?_
          refine wp_iadd dX0_weigh_93 ?_
          refine wp_istore (L' := [(4, _), (7, _), (6, _), (0, _), (1, _), (2, _), (3, _), (5, _)]) dX0_weigh_94 rfl rfl ?_
          refine wp_iinc (L' := [(5, _), (4, _), (7, _), (6, _), (0, _), (1, _), (2, _), (3, _)]) dX0_weigh_96 rfl 7 rfl (ii_1 _) rfl ?_
          refine wp_goto 16 dX0_weigh_99 (by decide) ?_
          refine wp_drop [4, 5, 6, 7, 1, 0] rfl ?_
          rw [show l_X0_weigh_16 (n + 1) a b c d σ = (l_X0_weigh_16 n a b (c + (f_X1_weightOf σ (σ 24 (d.toNatClampNeg)))) (d + 1) (mst (mst σ 23 3 (((a + b) * c) - (a * (σ 23 7)))) 23 4 (f_X1_weightOf σ (σ 24 (d.toNatClampNeg))))) from by rw [l_X0_weigh_16, if_neg c22_1, if_neg c29_2, if_neg c74_3]]
          exact ih _ _ _ _ _ (cnt_up c29_2 hm) (nn_inc' h0 c29_2)
def f_X0_weigh (σ : Mem) (a : Int32) (b : Int32) : Mem := (l_X0_weigh_16 (fu 7) a b 0 0 (mst (mst σ 23 3 0) 23 4 1))
theorem s_X0_weigh (X : Amb) (σ : Mem) (a : Int32) (b : Int32) : SpV X mX0_weigh [.ref (adr X 23), .ref (adr X 5), .int a, .int b] σ (f_X0_weigh σ a b) := by
  refine sp_of (by decide +kernel) rfl ?_
  show WP X mX0_weigh 0 [(0, .ref (adr X 23)), (1, .ref (adr X 5)), (2, .int a), (3, .int b)] [] σ _
  refine wp_aload_n dX0_weigh_0 0 rfl ?_
  refine wp_iconst dX0_weigh_1 ic_0 ?_
  refine wp_putI dX0_weigh_2 fwX0_22 rfl rfl ?_
  refine wp_aload_n dX0_weigh_5 0 rfl ?_
  refine wp_iconst dX0_weigh_6 ic_1 ?_
  refine wp_putI dX0_weigh_7 fwX0_25 rfl rfl ?_
  refine wp_iconst dX0_weigh_10 ic_0 ?_
  refine wp_istore (L' := [(4, _), (0, _), (1, _), (2, _), (3, _)]) dX0_weigh_11 rfl rfl ?_
  refine wp_iconst dX0_weigh_13 ic_0 ?_
  refine wp_istore (L' := [(5, _), (4, _), (0, _), (1, _), (2, _), (3, _)]) dX0_weigh_14 rfl rfl ?_
  refine wp_drop [2, 3, 4, 5, 1, 0] rfl ?_
  rw [show f_X0_weigh σ a b = (l_X0_weigh_16 (fu 7) a b 0 0 (mst (mst σ 23 3 0) 23 4 1)) from rfl]
  exact lt_X0_weigh_16 X  (fu 7) a b 0 0 (mst (mst σ 23 3 0) 23 4 1) (fu_lt (by decide)) nn0
def f_X0_keep (σ : Mem) : Mem := (mst (mst (mcp σ 24 25 ((0 : Int32).toNatClampNeg) ((0 : Int32).toNatClampNeg) ((6 : Int32).toNatClampNeg)) 23 5 ((mcp σ 24 25 ((0 : Int32).toNatClampNeg) ((0 : Int32).toNatClampNeg) ((6 : Int32).toNatClampNeg)) 23 3)) 23 6 ((mcp σ 24 25 ((0 : Int32).toNatClampNeg) ((0 : Int32).toNatClampNeg) ((6 : Int32).toNatClampNeg)) 23 4))
theorem s_X0_keep (X : Amb) (σ : Mem) : SpV X mX0_keep [.ref (adr X 23)] σ (f_X0_keep σ) := by
  refine sp_of (by decide +kernel) rfl ?_
  show WP X mX0_keep 0 [(0, .ref (adr X 23))] [] σ _
  refine wp_aload_n dX0_keep_0 0 rfl ?_
  refine wp_getR dX0_keep_1 faX0_9 rfl rfl ?_
  refine wp_iconst dX0_keep_4 ic_0 ?_
  refine wp_aload_n dX0_keep_5 0 rfl ?_
  refine wp_getR dX0_keep_6 faX0_15 rfl rfl ?_
  refine wp_iconst dX0_keep_9 ic_0 ?_
  refine wp_bipush dX0_keep_10 bp_6 ?_
  refine wp_copy dX0_keep_12 tnX0_63 rfl rfl (by decide) (by decide) (by decide) (by decide) (by decide) rfl rfl ?_
  refine wp_aload_n dX0_keep_15 0 rfl ?_
  refine wp_aload_n dX0_keep_16 0 rfl ?_
  refine wp_getI dX0_keep_17 faX0_22 rfl rfl ?_
  refine wp_putI dX0_keep_20 fwX0_28 rfl rfl ?_
  refine wp_aload_n dX0_keep_23 0 rfl ?_
  refine wp_aload_n dX0_keep_24 0 rfl ?_
  refine wp_getI dX0_keep_25 faX0_25 rfl rfl ?_
  refine wp_topi (y := ((mcp σ 24 25 ((0 : Int32).toNatClampNeg) ((0 : Int32).toNatClampNeg) ((6 : Int32).toNatClampNeg)) 23 4)) rfl ?_
  refine wp_putI dX0_keep_28 fwX0_31 rfl rfl ?_
  refine wp_return dX0_keep_31 rfl ?_
  exact ⟨rfl, rfl⟩
def f_X0_swap (σ : Mem) (a : Int32) (b : Int32) : Mem := if a < 0 then σ else if 6 ≤ a then σ else if b < 0 then σ else if 6 ≤ b then σ else (mst (mst σ 24 (a.toNatClampNeg) (σ 24 (b.toNatClampNeg))) 24 (b.toNatClampNeg) (σ 24 (a.toNatClampNeg)))
theorem s_X0_swap (X : Amb) (σ : Mem) (a : Int32) (b : Int32) : SpV X mX0_swap [.ref (adr X 23), .int a, .int b] σ (f_X0_swap σ a b) := by
  refine sp_of (by decide +kernel) rfl ?_
  show WP X mX0_swap 0 [(0, .ref (adr X 23)), (1, .int a), (2, .int b)] [] σ _
  refine wp_iload_n dX0_swap_0 1 rfl ?_
  refine wp_if_lt 46 dX0_swap_1 (by decide) (fun c1_1 => ?_) (fun c1_1 => ?_)
  · refine wp_return dX0_swap_46 rfl ?_
    exact ⟨rfl, by unfold f_X0_swap; rw [if_pos c1_1]⟩
  · refine wp_iload_n dX0_swap_4 1 rfl ?_
    refine wp_bipush dX0_swap_5 bp_6 ?_
    refine wp_icmp_ge 46 dX0_swap_7 (by decide) (fun c7_2 => ?_) (fun c7_2 => ?_)
    · refine wp_return dX0_swap_46 rfl ?_
      exact ⟨rfl, by unfold f_X0_swap; rw [if_neg c1_1, if_pos c7_2]⟩
    · refine wp_iload_n dX0_swap_10 2 rfl ?_
      refine wp_if_lt 46 dX0_swap_11 (by decide) (fun c11_3 => ?_) (fun c11_3 => ?_)
      · refine wp_return dX0_swap_46 rfl ?_
        exact ⟨rfl, by unfold f_X0_swap; rw [if_neg c1_1, if_neg c7_2, if_pos c11_3]⟩
      · refine wp_iload_n dX0_swap_14 2 rfl ?_
        refine wp_bipush dX0_swap_15 bp_6 ?_
        refine wp_icmp_ge 46 dX0_swap_17 (by decide) (fun c17_4 => ?_) (fun c17_4 => ?_)
        · refine wp_return dX0_swap_46 rfl ?_
          exact ⟨rfl, by unfold f_X0_swap; rw [if_neg c1_1, if_neg c7_2, if_neg c11_3, if_pos c17_4]⟩
        · refine wp_aload_n dX0_swap_20 0 rfl ?_
          refine wp_getR dX0_swap_21 faX0_9 rfl rfl ?_
          refine wp_iload_n dX0_swap_24 1 rfl ?_
          refine wp_iald dX0_swap_25 rfl (vin 6 (by decide) rfl c1_1 c7_2) ?_
          refine wp_istore_n (L' := [(3, _), (0, _), (1, _), (2, _)]) dX0_swap_26 rfl rfl ?_
          refine wp_aload_n dX0_swap_27 1 rfl ?_
          refine wp_getR dX0_swap_28 faX0_9 rfl rfl ?_
          refine wp_iload_n dX0_swap_31 2 rfl ?_
          refine wp_aload_n dX0_swap_32 1 rfl ?_
          refine wp_getR dX0_swap_33 faX0_9 rfl rfl ?_
          refine wp_iload_n dX0_swap_36 3 rfl ?_
          refine wp_iald dX0_swap_37 rfl (vin 6 (by decide) rfl c11_3 c17_4) ?_
          refine wp_iast dX0_swap_38 rfl (vin 6 (by decide) rfl c1_1 c7_2) ?_
          refine wp_aload_n dX0_swap_39 1 rfl ?_
          refine wp_getR dX0_swap_40 faX0_9 rfl rfl ?_
          refine wp_iload_n dX0_swap_43 3 rfl ?_
          refine wp_iload_n dX0_swap_44 0 rfl ?_
          refine wp_iast dX0_swap_45 rfl (vin 6 (by decide) rfl c11_3 c17_4) ?_
          refine wp_return dX0_swap_46 rfl ?_
          exact ⟨rfl, by unfold f_X0_swap; rw [if_neg c1_1, if_neg c7_2, if_neg c11_3, if_neg c17_4]⟩
theorem fr_X0_swap (σ : Mem) (a : Int32) (b : Int32) {q : Nat} (h0 : q ≠ 24) : (f_X0_swap σ a b) q = σ q := by
  unfold f_X0_swap
  (repeat' split) <;> simp [mst, h0]
def l_X0_stepOn_104 : Nat → Int32 → Int32 → Mem → Int32 × Mem
  | 0, _, _, σ => (0, σ)
  | n + 1, c, d, σ => if d ≤ c then (1, σ) else (l_X0_stepOn_104 n (c + 1) (d + (-1)) (f_X0_swap σ c d))
theorem lt_X0_stepOn_104 (X : Amb) : ∀ (n : Nat) (c : Int32) (d : Int32) (σ : Mem), (d.toInt - c.toInt).toNat < n → -1000 ≤ c → WP X mX0_stepOn 104 [(0, .ref (adr X 23)), (3, .int c), (4, .int d)] [] σ (fun v σ' => v = some (.int (l_X0_stepOn_104 n c d σ).1) ∧ σ' = (l_X0_stepOn_104 n c d σ).2) := by
  intro n
  induction n with
  | zero => intro c d σ hm; exact absurd hm (Nat.not_lt_zero _)
  | succ n ih =>
    intro c d σ hm hc
    refine wp_iload_n dX0_stepOn_104 1 rfl ?_
    refine wp_iload dX0_stepOn_105 2 rfl ?_
    refine wp_icmp_ge 126 dX0_stepOn_107 (by decide) (fun c107_1 => ?_) (fun c107_1 => ?_)
    · refine wp_iconst dX0_stepOn_126 ic_1 ?_
      refine wp_zreturn dX0_stepOn_127 rfl (Or.inr rfl) ?_
      exact ⟨by rw [l_X0_stepOn_104, if_pos c107_1], by rw [l_X0_stepOn_104, if_pos c107_1]⟩
    · refine wp_aload_n dX0_stepOn_110 0 rfl ?_
      refine wp_iload_n dX0_stepOn_111 1 rfl ?_
      refine wp_iload dX0_stepOn_112 2 rfl ?_
      refine wp_cV2v (N := mX0_swap) dX0_stepOn_114 tmX0_75 okX0_swap rfl rfl rfl rfl rfl rfl rfl rfl (s_X0_swap X _ _ _) ?_
      refine wp_iinc (L' := [(3, _), (0, _), (4, _)]) dX0_stepOn_117 rfl 1 rfl (ii_1 _) rfl ?_
      refine wp_iinc (L' := [(4, _), (3, _), (0, _)]) dX0_stepOn_120 rfl 2 rfl (ii_m1 _) rfl ?_
      refine wp_goto 104 dX0_stepOn_123 (by decide) ?_
      refine wp_drop [2, 1, 0] rfl ?_
      rw [show l_X0_stepOn_104 (n + 1) c d σ = (l_X0_stepOn_104 n (c + 1) (d + (-1)) (f_X0_swap σ c d)) from by rw [l_X0_stepOn_104, if_neg c107_1]]
      exact ih _ _ _ (cnt_2 c107_1 hm hc) (inc_ge c107_1 hc)
theorem so_mu {σ : Mem} {a b : Int32} (h0 : 0 ≤ a) (ha : a ≤ 4) (hs : σ 23 2 ≤ 6) (hs0 : 0 ≤ σ 23 2) : (((f_X0_swap σ a b) 23 2 - 1).toInt - (a + 1).toInt).toNat < 8 := by
  rw [fr_X0_swap σ a b (by decide)]
  rw [Int32.le_iff_toInt_le] at *
  rw [Int32.toInt_zero] at h0 hs0; rw [t4] at ha; rw [t6] at hs
  rw [subT (by rw [t1]; omega) (by rw [t1]; omega), t1, addT (by rw [t1]; omega) (by rw [t1]; omega), t1]; omega
theorem so_c {a : Int32} (h0 : 0 ≤ a) (ha : a ≤ 4) : -1000 ≤ a + 1 := by
  rw [Int32.le_iff_toInt_le] at *
  rw [Int32.toInt_zero] at h0; rw [t4] at ha
  rw [show (-1000 : Int32).toInt = -1000 by decide, addT (by rw [t1]; omega) (by rw [t1]; omega), t1]; omega
theorem so_j {x : Int32} (h0 : 0 ≤ x) : (if 6 < x then 6 else x) - 1 ≤ 5 := by
  rw [Int32.le_iff_toInt_le, Int32.toInt_zero] at h0
  rw [Int32.le_iff_toInt_le, t5]
  split
  · decide
  · rename_i h
    rw [Int32.lt_iff_toInt_lt, t6] at h
    rw [subT (by rw [t1]; omega) (by rw [t1]; omega), t1]; omega
theorem so_mj {a j : Int32} (h0 : 0 ≤ a) (hj : j ≤ 5) : (j.toInt - a.toInt).toNat < 7 := by
  rw [Int32.le_iff_toInt_le] at *
  rw [Int32.toInt_zero] at h0; rw [t5] at hj; omega
def l_X0_stepOn_60 : Nat → Int32 → Int32 → Mem → Int32 × Mem
  | 0, _, _, σ => (0, σ)
  | n + 1, a, b, σ => if b ≤ a then (l_X0_stepOn_104 (fu 8) (a + 1) (((f_X0_swap σ a b) 23 2) - 1) (f_X0_swap σ a b)) else if (σ 24 (a.toNatClampNeg)) ≤ (σ 24 (b.toNatClampNeg)) then (l_X0_stepOn_104 (fu 8) (a + 1) (((f_X0_swap σ a b) 23 2) - 1) (f_X0_swap σ a b)) else (l_X0_stepOn_60 n a (b + (-1)) σ)
theorem lt_X0_stepOn_60 (X : Amb) : ∀ (n : Nat) (a : Int32) (b : Int32) (σ : Mem), (b.toInt - a.toInt).toNat < n → 0 ≤ a → a ≤ 4 → b ≤ 5 → σ 23 2 ≤ 6 → 0 ≤ σ 23 2 → WP X mX0_stepOn 60 [(0, .ref (adr X 23)), (1, .int a), (2, .int b)] [] σ (fun v σ' => v = some (.int (l_X0_stepOn_60 n a b σ).1) ∧ σ' = (l_X0_stepOn_60 n a b σ).2) := by
  intro n
  induction n with
  | zero => intro a b σ hm; exact absurd hm (Nat.not_lt_zero _)
  | succ n ih =>
    intro a b σ hm h0 ha hj hs hs0
    refine wp_iload_n dX0_stepOn_60 2 rfl ?_
    refine wp_iload_n dX0_stepOn_61 1 rfl ?_
    refine wp_icmp_le 86 dX0_stepOn_62 (by decide) (fun c62_1 => ?_) (fun c62_1 => ?_)
    · refine wp_aload_n dX0_stepOn_86 0 rfl ?_
      refine wp_iload_n dX0_stepOn_87 1 rfl ?_
      refine wp_iload_n dX0_stepOn_88 2 rfl ?_
      refine wp_cV2v (N := mX0_swap) dX0_stepOn_89 tmX0_75 okX0_swap rfl rfl rfl rfl rfl rfl rfl rfl (s_X0_swap X _ _ _) ?_
      refine wp_iload_n dX0_stepOn_92 1 rfl ?_
      refine wp_iconst dX0_stepOn_93 ic_1 ?_
      refine wp_iadd dX0_stepOn_94 ?_
      refine wp_istore_n (L' := [(3, _), (0, _), (1, _), (2, _)]) dX0_stepOn_95 rfl rfl ?_
      refine wp_aload_n dX0_stepOn_96 1 rfl ?_
      refine wp_getI dX0_stepOn_97 faX0_18 rfl rfl ?_
      refine wp_iconst dX0_stepOn_100 ic_1 ?_
      refine wp_isub dX0_stepOn_101 ?_
      refine wp_istore (L' := [(4, _), (3, _), (0, _), (1, _), (2, _)]) dX0_stepOn_102 rfl rfl ?_
      refine wp_drop [2, 1, 0] rfl ?_
      rw [show l_X0_stepOn_60 (n + 1) a b σ = (l_X0_stepOn_104 (fu 8) (a + 1) (((f_X0_swap σ a b) 23 2) - 1) (f_X0_swap σ a b)) from by rw [l_X0_stepOn_60]; rw [if_pos c62_1]]
      exact lt_X0_stepOn_104 X  (fu 8) (a + 1) (((f_X0_swap σ a b) 23 2) - 1) (f_X0_swap σ a b) (fu_lt (so_mu h0 ha hs hs0)) (so_c h0 ha)
    · refine wp_aload_n dX0_stepOn_65 0 rfl ?_
      refine wp_getR dX0_stepOn_66 faX0_9 rfl rfl ?_
      refine wp_iload_n dX0_stepOn_69 2 rfl ?_
      refine wp_iald dX0_stepOn_70 rfl (vle5 h0 c62_1 hj) ?_
      refine wp_aload_n dX0_stepOn_71 0 rfl ?_
      refine wp_getR dX0_stepOn_72 faX0_9 rfl rfl ?_
      refine wp_iload_n dX0_stepOn_75 1 rfl ?_
      refine wp_iald dX0_stepOn_76 rfl (vle4 (nlt_of_le h0) ha) ?_
      refine wp_icmp_ge 86 dX0_stepOn_77 (by decide) (fun c77_2 => ?_) (fun c77_2 => ?_)
      · refine wp_aload_n dX0_stepOn_86 0 rfl ?_
        refine wp_iload_n dX0_stepOn_87 1 rfl ?_
        refine wp_iload_n dX0_stepOn_88 2 rfl ?_
        refine wp_cV2v (N := mX0_swap) dX0_stepOn_89 tmX0_75 okX0_swap rfl rfl rfl rfl rfl rfl rfl rfl (s_X0_swap X _ _ _) ?_
        refine wp_iload_n dX0_stepOn_92 1 rfl ?_
        refine wp_iconst dX0_stepOn_93 ic_1 ?_
        refine wp_iadd dX0_stepOn_94 ?_
        refine wp_istore_n (L' := [(3, _), (0, _), (1, _), (2, _)]) dX0_stepOn_95 rfl rfl ?_
        refine wp_aload_n dX0_stepOn_96 1 rfl ?_
        refine wp_getI dX0_stepOn_97 faX0_18 rfl rfl ?_
        refine wp_iconst dX0_stepOn_100 ic_1 ?_
        refine wp_isub dX0_stepOn_101 ?_
        refine wp_istore (L' := [(4, _), (3, _), (0, _), (1, _), (2, _)]) dX0_stepOn_102 rfl rfl ?_
        refine wp_drop [2, 1, 0] rfl ?_
        rw [show l_X0_stepOn_60 (n + 1) a b σ = (l_X0_stepOn_104 (fu 8) (a + 1) (((f_X0_swap σ a b) 23 2) - 1) (f_X0_swap σ a b)) from by rw [l_X0_stepOn_60]; rw [if_neg c62_1, if_pos c77_2]]
        exact lt_X0_stepOn_104 X  (fu 8) (a + 1) (((f_X0_swap σ a b) 23 2) - 1) (f_X0_swap σ a b) (fu_lt (so_mu h0 ha hs hs0)) (so_c h0 ha)
      · refine wp_iinc (L' := [(2, _), (0, _), (1, _)]) dX0_stepOn_80 rfl 2 rfl (ii_m1 _) rfl ?_
        refine wp_goto 60 dX0_stepOn_83 (by decide) ?_
        refine wp_drop [1, 2, 0] rfl ?_
        rw [show l_X0_stepOn_60 (n + 1) a b σ = (l_X0_stepOn_60 n a (b + (-1)) σ) from by rw [l_X0_stepOn_60, if_neg c62_1, if_neg c77_2]]
        exact ih _ _ _ (cnt_dn (lt_of_nle c62_1) hm) h0 ha (dec_le' h0 c62_1 hj) hs hs0
def l_X0_stepOn_7 : Nat → Int32 → Mem → Int32 × Mem
  | 0, _, σ => (0, σ)
  | n + 1, a, σ => if a < 0 then if 0 ≤ a then (l_X0_stepOn_60 (fu 7) a ((if 6 < (σ 23 2) then 6 else (σ 23 2)) - 1) σ) else (0, σ) else if 6 ≤ (a + 1) then if 0 ≤ a then (l_X0_stepOn_60 (fu 7) a ((if 6 < (σ 23 2) then 6 else (σ 23 2)) - 1) σ) else (0, σ) else if (σ 24 (a.toNatClampNeg)) ≤ (σ 24 ((a + 1).toNatClampNeg)) then if 0 ≤ a then (l_X0_stepOn_60 (fu 7) a ((if 6 < (σ 23 2) then 6 else (σ 23 2)) - 1) σ) else (0, σ) else (l_X0_stepOn_7 n (a + (-1)) σ)
theorem lt_X0_stepOn_7 (X : Amb) : ∀ (n : Nat) (a : Int32) (σ : Mem), (a.toInt + 1).toNat < n → a ≤ 4 → σ 23 2 ≤ 6 → 0 ≤ σ 23 2 → WP X mX0_stepOn 7 [(0, .ref (adr X 23)), (1, .int a)] [] σ (fun v σ' => v = some (.int (l_X0_stepOn_7 n a σ).1) ∧ σ' = (l_X0_stepOn_7 n a σ).2) := by
  intro n
  induction n with
  | zero => intro a σ hm; exact absurd hm (Nat.not_lt_zero _)
  | succ n ih =>
    intro a σ hm ha hs hs0
    refine wp_iload_n dX0_stepOn_7 1 rfl ?_
    refine wp_if_lt 42 dX0_stepOn_8 (by decide) (fun c8_1 => ?_) (fun c8_1 => ?_)
    · refine wp_iload_n dX0_stepOn_42 1 rfl ?_
      refine wp_if_ge 48 dX0_stepOn_43 (by decide) (fun c43_2 => ?_) (fun c43_2 => ?_)
      · refine wp_aload_n dX0_stepOn_48 0 rfl ?_
        refine wp_getI dX0_stepOn_49 faX0_18 rfl rfl ?_
        refine wp_bipush dX0_stepOn_52 bp_6 ?_
        refine wp_mmin dX0_stepOn_54 tnX0_69 rfl rfl ?_
        refine wp_iconst dX0_stepOn_57 ic_1 ?_
        refine wp_isub dX0_stepOn_58 ?_
        refine wp_istore_n (L' := [(2, _), (0, _), (1, _)]) dX0_stepOn_59 rfl rfl ?_
        refine wp_drop [1, 2, 0] rfl ?_
        rw [show l_X0_stepOn_7 (n + 1) a σ = (l_X0_stepOn_60 (fu 7) a ((if 6 < (σ 23 2) then 6 else (σ 23 2)) - 1) σ) from by rw [l_X0_stepOn_7]; rw [if_pos c8_1, if_pos c43_2]]
        exact lt_X0_stepOn_60 X  (fu 7) a ((if 6 < (σ 23 2) then 6 else (σ 23 2)) - 1) σ (fu_lt (so_mj c43_2 (so_j hs0))) c43_2 ha (so_j hs0) hs hs0
      · refine wp_iconst dX0_stepOn_46 ic_0 ?_
        refine wp_zreturn dX0_stepOn_47 rfl (Or.inl rfl) ?_
        exact ⟨by rw [l_X0_stepOn_7, if_pos c8_1, if_neg c43_2], by rw [l_X0_stepOn_7, if_pos c8_1, if_neg c43_2]⟩
    · refine wp_iload_n dX0_stepOn_11 1 rfl ?_
      refine wp_iconst dX0_stepOn_12 ic_1 ?_
      refine wp_iadd dX0_stepOn_13 ?_
      refine wp_bipush dX0_stepOn_14 bp_6 ?_
      refine wp_icmp_ge 42 dX0_stepOn_16 (by decide) (fun c16_3 => ?_) (fun c16_3 => ?_)
      · refine wp_iload_n dX0_stepOn_42 1 rfl ?_
        refine wp_if_ge 48 dX0_stepOn_43 (by decide) (fun c43_4 => ?_) (fun c43_4 => ?_)
        · refine wp_aload_n dX0_stepOn_48 0 rfl ?_
          refine wp_getI dX0_stepOn_49 faX0_18 rfl rfl ?_
          refine wp_bipush dX0_stepOn_52 bp_6 ?_
          refine wp_mmin dX0_stepOn_54 tnX0_69 rfl rfl ?_
          refine wp_iconst dX0_stepOn_57 ic_1 ?_
          refine wp_isub dX0_stepOn_58 ?_
          refine wp_istore_n (L' := [(2, _), (0, _), (1, _)]) dX0_stepOn_59 rfl rfl ?_
          refine wp_drop [1, 2, 0] rfl ?_
          rw [show l_X0_stepOn_7 (n + 1) a σ = (l_X0_stepOn_60 (fu 7) a ((if 6 < (σ 23 2) then 6 else (σ 23 2)) - 1) σ) from by rw [l_X0_stepOn_7]; rw [if_neg c8_1, if_pos c16_3, if_pos c43_4]]
          exact lt_X0_stepOn_60 X  (fu 7) a ((if 6 < (σ 23 2) then 6 else (σ 23 2)) - 1) σ (fu_lt (so_mj c43_4 (so_j hs0))) c43_4 ha (so_j hs0) hs hs0
        · refine wp_iconst dX0_stepOn_46 ic_0 ?_
          refine wp_zreturn dX0_stepOn_47 rfl (Or.inl rfl) ?_
          exact ⟨by rw [l_X0_stepOn_7, if_neg c8_1, if_pos c16_3, if_neg c43_4], by rw [l_X0_stepOn_7, if_neg c8_1, if_pos c16_3, if_neg c43_4]⟩
      · refine wp_aload_n dX0_stepOn_19 0 rfl ?_
        refine wp_getR dX0_stepOn_20 faX0_9 rfl rfl ?_
        refine wp_iload_n dX0_stepOn_23 1 rfl ?_
        refine wp_iald dX0_stepOn_24 rfl (vle4 c8_1 ha) ?_
        refine wp_aload_n dX0_stepOn_25 0 rfl ?_
        refine wp_getR dX0_stepOn_26 faX0_9 rfl rfl ?_
        refine wp_iload_n dX0_stepOn_29 1 rfl ?_
        refine wp_iconst dX0_stepOn_30 ic_1 ?_
        refine wp_iadd dX0_stepOn_31 ?_
        refine wp_iald dX0_stepOn_32 rfl (vle4s c8_1 ha) ?_
        refine wp_icmp_le 42 dX0_stepOn_33 (by decide) (fun c33_5 => ?_) (fun c33_5 => ?_)
        · refine wp_iload_n dX0_stepOn_42 1 rfl ?_
          refine wp_if_ge 48 dX0_stepOn_43 (by decide) (fun c43_6 => ?_) (fun c43_6 => ?_)
          · refine wp_aload_n dX0_stepOn_48 0 rfl ?_
            refine wp_getI dX0_stepOn_49 faX0_18 rfl rfl ?_
            refine wp_bipush dX0_stepOn_52 bp_6 ?_
            refine wp_mmin dX0_stepOn_54 tnX0_69 rfl rfl ?_
            refine wp_iconst dX0_stepOn_57 ic_1 ?_
            refine wp_isub dX0_stepOn_58 ?_
            refine wp_istore_n (L' := [(2, _), (0, _), (1, _)]) dX0_stepOn_59 rfl rfl ?_
            refine wp_drop [1, 2, 0] rfl ?_
            rw [show l_X0_stepOn_7 (n + 1) a σ = (l_X0_stepOn_60 (fu 7) a ((if 6 < (σ 23 2) then 6 else (σ 23 2)) - 1) σ) from by rw [l_X0_stepOn_7]; rw [if_neg c8_1, if_neg c16_3, if_pos c33_5, if_pos c43_6]]
            exact lt_X0_stepOn_60 X  (fu 7) a ((if 6 < (σ 23 2) then 6 else (σ 23 2)) - 1) σ (fu_lt (so_mj c43_6 (so_j hs0))) c43_6 ha (so_j hs0) hs hs0
          · refine wp_iconst dX0_stepOn_46 ic_0 ?_
            refine wp_zreturn dX0_stepOn_47 rfl (Or.inl rfl) ?_
            exact ⟨by rw [l_X0_stepOn_7, if_neg c8_1, if_neg c16_3, if_pos c33_5, if_neg c43_6], by rw [l_X0_stepOn_7, if_neg c8_1, if_neg c16_3, if_pos c33_5, if_neg c43_6]⟩
        · refine wp_iinc (L' := [(1, _), (0, _)]) dX0_stepOn_36 rfl 1 rfl (ii_m1 _) rfl ?_
          refine wp_goto 7 dX0_stepOn_39 (by decide) ?_
          refine wp_drop [1, 0] rfl ?_
          rw [show l_X0_stepOn_7 (n + 1) a σ = (l_X0_stepOn_7 n (a + (-1)) σ) from by rw [l_X0_stepOn_7, if_neg c8_1, if_neg c16_3, if_neg c33_5]]
          exact ih _ _ (cnt_dn0 c8_1 hm) (dec_le c8_1 ha) hs hs0
theorem so_a {x : Int32} (h0 : 0 ≤ x) (h : x ≤ 6) : x - 2 ≤ 4 ∧ ((x - 2).toInt + 1).toNat < 6 := by
  rw [Int32.le_iff_toInt_le] at *
  rw [Int32.toInt_zero] at h0; rw [t6] at h
  rw [t4, subT (by rw [t2]; omega) (by rw [t2]; omega), t2]; omega
def f_X0_stepOn (σ : Mem) : Int32 × Mem := (l_X0_stepOn_7 (fu 6) ((σ 23 2) - 2) σ)
theorem s_X0_stepOn (X : Amb) (σ : Mem) (hs : σ 23 2 ≤ 6) (hs0 : 0 ≤ σ 23 2) : SpW X mX0_stepOn [.ref (adr X 23)] σ (.int (f_X0_stepOn σ).1) (f_X0_stepOn σ).2 := by
  refine sp_of (by decide +kernel) rfl ?_
  show WP X mX0_stepOn 0 [(0, .ref (adr X 23))] [] σ _
  refine wp_aload_n dX0_stepOn_0 0 rfl ?_
  refine wp_getI dX0_stepOn_1 faX0_18 rfl rfl ?_
  refine wp_iconst dX0_stepOn_4 ic_2 ?_
  refine wp_isub dX0_stepOn_5 ?_
  refine wp_istore_n (L' := [(1, _), (0, _)]) dX0_stepOn_6 rfl rfl ?_
  refine wp_drop [1, 0] rfl ?_
  rw [show f_X0_stepOn σ = (l_X0_stepOn_7 (fu 6) ((σ 23 2) - 2) σ) from rfl]
  exact lt_X0_stepOn_7 X  (fu 6) ((σ 23 2) - 2) σ (fu_lt (so_a hs0 hs).2) (so_a hs0 hs).1 hs hs0
def f_X0_wagonAt (σ : Mem) (a : Int32) : Int32 := if a < 0 then (-1) else if (σ 23 2) ≤ a then (-1) else if 6 ≤ a then (-1) else (σ 25 (a.toNatClampNeg))
theorem s_X0_wagonAt (X : Amb) (σ : Mem) (a : Int32) : SpW X mX0_wagonAt [.ref (adr X 23), .int a] σ (.int (f_X0_wagonAt σ a)) σ := by
  refine sp_of (by decide +kernel) rfl ?_
  show WP X mX0_wagonAt 0 [(0, .ref (adr X 23)), (1, .int a)] [] σ _
  refine wp_iload_n dX0_wagonAt_0 1 rfl ?_
  refine wp_if_lt 27 dX0_wagonAt_1 (by decide) (fun c1_1 => ?_) (fun c1_1 => ?_)
  · refine wp_iconst dX0_wagonAt_27 ic_m1 ?_
    refine wp_ireturn dX0_wagonAt_28 rfl ?_
    exact ⟨by unfold f_X0_wagonAt; rw [if_pos c1_1], rfl⟩
  · refine wp_iload_n dX0_wagonAt_4 1 rfl ?_
    refine wp_aload_n dX0_wagonAt_5 0 rfl ?_
    refine wp_getI dX0_wagonAt_6 faX0_18 rfl rfl ?_
    refine wp_icmp_ge 27 dX0_wagonAt_9 (by decide) (fun c9_2 => ?_) (fun c9_2 => ?_)
    · refine wp_iconst dX0_wagonAt_27 ic_m1 ?_
      refine wp_ireturn dX0_wagonAt_28 rfl ?_
      exact ⟨by unfold f_X0_wagonAt; rw [if_neg c1_1, if_pos c9_2], rfl⟩
    · refine wp_iload_n dX0_wagonAt_12 1 rfl ?_
      refine wp_bipush dX0_wagonAt_13 bp_6 ?_
      refine wp_icmp_ge 27 dX0_wagonAt_15 (by decide) (fun c15_3 => ?_) (fun c15_3 => ?_)
      · refine wp_iconst dX0_wagonAt_27 ic_m1 ?_
        refine wp_ireturn dX0_wagonAt_28 rfl ?_
        exact ⟨by unfold f_X0_wagonAt; rw [if_neg c1_1, if_neg c9_2, if_pos c15_3], rfl⟩
      · refine wp_aload_n dX0_wagonAt_18 0 rfl ?_
        refine wp_getR dX0_wagonAt_19 faX0_15 rfl rfl ?_
        refine wp_iload_n dX0_wagonAt_22 1 rfl ?_
        refine wp_iald dX0_wagonAt_23 rfl (vin 6 (by decide) rfl c1_1 c15_3) ?_
        refine wp_goto 28 dX0_wagonAt_24 (by decide) ?_
        refine wp_ireturn dX0_wagonAt_28 rfl ?_
        exact ⟨by unfold f_X0_wagonAt; rw [if_neg c1_1, if_neg c9_2, if_neg c15_3], rfl⟩
def f_X0_squeezeAbove (σ : Mem) : Int32 := (σ 23 5)
theorem s_X0_squeezeAbove (X : Amb) (σ : Mem) : SpW X mX0_squeezeAbove [.ref (adr X 23)] σ (.int (f_X0_squeezeAbove σ)) σ := by
  refine sp_of (by decide +kernel) rfl ?_
  show WP X mX0_squeezeAbove 0 [(0, .ref (adr X 23))] [] σ _
  refine wp_aload_n dX0_squeezeAbove_0 0 rfl ?_
  refine wp_getI dX0_squeezeAbove_1 faX0_28 rfl rfl ?_
  refine wp_ireturn dX0_squeezeAbove_4 rfl ?_
  exact ⟨rfl, rfl⟩
def f_X0_squeezeBelow (σ : Mem) : Int32 := ((σ 23 6) * (σ 23 7))
theorem s_X0_squeezeBelow (X : Amb) (σ : Mem) : SpW X mX0_squeezeBelow [.ref (adr X 23)] σ (.int (f_X0_squeezeBelow σ)) σ := by
  refine sp_of (by decide +kernel) rfl ?_
  show WP X mX0_squeezeBelow 0 [(0, .ref (adr X 23))] [] σ _
  refine wp_aload_n dX0_squeezeBelow_0 0 rfl ?_
  refine wp_getI dX0_squeezeBelow_1 faX0_31 rfl rfl ?_
  refine wp_aload_n dX0_squeezeBelow_4 0 rfl ?_
  refine wp_getI dX0_squeezeBelow_5 faX0_34 rfl rfl ?_
  refine wp_imul dX0_squeezeBelow_8 ?_
  refine wp_ireturn dX0_squeezeBelow_9 rfl ?_
  exact ⟨rfl, rfl⟩
end
