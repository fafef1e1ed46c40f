noncomputable section
theorem vin1 {i B : Int32} (n : Nat) (hn : n + 1 < 2 ^ 31) (hB : B = Int32.ofNat n) (h0 : ¬ i < 0) (h1 : ¬ B ≤ i) : vp_in (i + 1) (n + 1) := by
  have h2 := inc_toInt (lt_of_nle h1)
  rw [vp_in_iff, h2]
  rw [Int32.le_iff_toInt_le, hB, show (Int32.ofNat n).toInt = (n : Int) from nI_toInt (by omega)] at h1
  rw [Int32.lt_iff_toInt_lt, Int32.toInt_zero] at h0
  omega
theorem muc {x : Int32} (n : Nat) (h : (x.toInt - (0 : Int32).toInt).toNat < n) : (x.toInt - (0 : Int32).toInt).toNat < n := h
theorem nn0 : ¬ (0 : Int32) < 0 := by decide
def l_X1_faultOf_2 : Nat → Int32 → Mem → Int32
  | 0, _, σ => 0
  | n + 1, b, σ => if (f_X7_size σ 1) ≤ b then (-1) else if (f_X7_byteAt σ 1 b) < 49 then b else if (f_X7_byteAt σ 1 b) ≤ 57 then (l_X1_faultOf_2 n (b + 1) σ) else b
theorem lt_X1_faultOf_2 (X : Amb) : ∀ (n : Nat) (b : Int32) (σ : Mem), ((f_X7_size σ 1).toInt - b.toInt).toNat < n → WP X mX1_faultOf 2 [(0, .ref (adr X 1)), (1, .int b)] [] σ (fun v σ' => v = some (.int (l_X1_faultOf_2 n b σ)) ∧ σ' = σ) := by
  intro n
  induction n with
  | zero => intro b σ hm; exact absurd hm (Nat.not_lt_zero _)
  | succ n ih =>
    intro b σ hm 
    refine wp_iload_n dX1_faultOf_2 1 rfl ?_
    refine wp_aload_n dX1_faultOf_3 0 rfl ?_
    refine wp_cV0w (N := mX7_size) dX1_faultOf_4 tmX1_32 okX7_size rfl rfl rfl rfl rfl rfl rfl rfl (s_X7_size X _ 1 tx1) ?_
    refine wp_icmp_ge 38 dX1_faultOf_7 (by decide) (fun c7_1 => ?_) (fun c7_1 => ?_)
    · refine wp_iconst dX1_faultOf_38 ic_m1 ?_
      refine wp_ireturn dX1_faultOf_39 rfl ?_
      exact ⟨by rw [l_X1_faultOf_2, if_pos c7_1], rfl⟩
    · refine wp_aload_n dX1_faultOf_10 0 rfl ?_
      refine wp_iload_n dX1_faultOf_11 1 rfl ?_
      refine wp_cV1w (N := mX7_byteAt) dX1_faultOf_12 tmX1_43 okX7_byteAt rfl rfl rfl rfl rfl rfl rfl rfl (s_X7_byteAt X _ 1 _ tx1) ?_
      refine wp_bipush dX1_faultOf_15 bp_49 ?_
      refine wp_icmp_lt 30 dX1_faultOf_17 (by decide) (fun c17_2 => ?_) (fun c17_2 => ?_)
      · refine wp_iload_n dX1_faultOf_30 1 rfl ?_
        refine wp_ireturn dX1_faultOf_31 rfl ?_
        exact ⟨by rw [l_X1_faultOf_2, if_neg c7_1, if_pos c17_2], rfl⟩
      · refine wp_aload_n dX1_faultOf_20 0 rfl ?_
        refine wp_iload_n dX1_faultOf_21 1 rfl ?_
        refine wp_cV1w (N := mX7_byteAt) dX1_faultOf_22 tmX1_43 okX7_byteAt rfl rfl rfl rfl rfl rfl rfl rfl (s_X7_byteAt X _ 1 _ tx1) ?_
        refine wp_bipush dX1_faultOf_25 bp_57 ?_
        refine wp_icmp_le 32 dX1_faultOf_27 (by decide) (fun c27_3 => ?_) (fun c27_3 => ?_)
        · refine wp_iinc (L' := [(1, _), (0, _)]) dX1_faultOf_32 rfl 1 rfl (ii_1 _) rfl ?_
          refine wp_goto 2 dX1_faultOf_35 (by decide) ?_
          refine wp_drop [1, 0] rfl ?_
          rw [show l_X1_faultOf_2 (n + 1) b σ = (l_X1_faultOf_2 n (b + 1) σ) from by rw [l_X1_faultOf_2, if_neg c7_1, if_neg c17_2, if_pos c27_3]]
          exact ih _ _ (cnt_up c7_1 hm) 
        · refine wp_iload_n dX1_faultOf_30 1 rfl ?_
          refine wp_ireturn dX1_faultOf_31 rfl ?_
          exact ⟨by rw [l_X1_faultOf_2, if_neg c7_1, if_neg c17_2, if_neg c27_3], rfl⟩
def f_X1_faultOf (σ : Mem) : Int32 := (l_X1_faultOf_2 (fu ((f_X7_size σ 1).toInt.toNat + 1)) 0 σ)
theorem s_X1_faultOf (X : Amb) (σ : Mem) : SpW X mX1_faultOf [.ref (adr X 1)] σ (.int (f_X1_faultOf σ)) σ := by
  refine sp_of (by decide +kernel) rfl ?_
  show WP X mX1_faultOf 0 [(0, .ref (adr X 1))] [] σ _
  refine wp_iconst dX1_faultOf_0 ic_0 ?_
  refine wp_istore_n (L' := [(1, _), (0, _)]) dX1_faultOf_1 rfl rfl ?_
  refine wp_drop [1, 0] rfl ?_
  rw [show f_X1_faultOf σ = (l_X1_faultOf_2 (fu ((f_X7_size σ 1).toInt.toNat + 1)) 0 σ) from rfl]
  exact lt_X1_faultOf_2 X  (fu ((f_X7_size σ 1).toInt.toNat + 1)) 0 σ (fu_lt mu0) 
def l_X1_load_47 : Nat → Int32 → Mem → Mem
  | 0, _, σ => σ
  | n + 1, c, σ => if (σ 5 2) ≤ c then σ else if 12 ≤ c then σ else (l_X1_load_47 n (c + 1) (mst (mst (mst σ 6 (c.toNatClampNeg) ((f_X7_byteAt σ 1 c) - 48)) 5 3 ((σ 5 3) + ((f_X7_byteAt σ 1 c) - 48))) 7 ((c + 1).toNatClampNeg) ((σ 5 3) + ((f_X7_byteAt σ 1 c) - 48))))
theorem lt_X1_load_47 (X : Amb) : ∀ (n : Nat) (c : Int32) (σ : Mem), ((12 : Int32).toInt - c.toInt).toNat < n → ¬ c < 0 → WP X mX1_load 47 [(0, .ref (adr X 5)), (1, .ref (adr X 1)), (2, .int c)] [] σ (fun v σ' => v = none ∧ σ' = l_X1_load_47 n c σ) := by
  intro n
  induction n with
  | zero => intro c σ hm; exact absurd hm (Nat.not_lt_zero _)
  | succ n ih =>
    intro c σ hm h0
    refine wp_iload_n dX1_load_47 2 rfl ?_
    refine wp_aload_n dX1_load_48 0 rfl ?_
    refine wp_getI dX1_load_49 faX1_18 rfl rfl ?_
    refine wp_icmp_ge 108 dX1_load_52 (by decide) (fun c52_1 => ?_) (fun c52_1 => ?_)
    · refine wp_return dX1_load_108 rfl ?_
      exact ⟨rfl, by rw [l_X1_load_47, if_pos c52_1]⟩
    · refine wp_iload_n dX1_load_55 2 rfl ?_
      refine wp_bipush dX1_load_56 bp_12 ?_
      refine wp_icmp_ge 108 dX1_load_58 (by decide) (fun c58_2 => ?_) (fun c58_2 => ?_)
      · refine wp_return dX1_load_108 rfl ?_
        exact ⟨rfl, by rw [l_X1_load_47, if_neg c52_1, if_pos c58_2]⟩
      · refine wp_aload_n dX1_load_61 0 rfl ?_
        refine wp_getR dX1_load_62 faX1_9 rfl rfl ?_
        refine wp_iload_n dX1_load_65 2 rfl ?_
        refine wp_aload_n dX1_load_66 1 rfl ?_
        refine wp_iload_n dX1_load_67 2 rfl ?_
        refine wp_cV1w (N := mX7_byteAt) dX1_load_68 tmX1_43 okX7_byteAt rfl rfl rfl rfl rfl rfl rfl rfl (s_X7_byteAt X _ 1 _ tx1) ?_
        refine wp_bipush dX1_load_71 bp_48 ?_
        refine wp_isub dX1_load_73 ?_
        refine wp_iast dX1_load_74 rfl (vin 12 (by decide) rfl h0 c58_2) ?_
        refine wp_aload_n dX1_load_75 0 rfl ?_
        refine wp_dup dX1_load_76 rfl ?_
        refine wp_getI dX1_load_77 faX1_22 rfl rfl ?_
        refine wp_topi (y := (σ 5 3)) rfl ?_
        refine wp_aload_n dX1_load_80 0 rfl ?_
        refine wp_getR dX1_load_81 faX1_9 rfl rfl ?_
        refine wp_iload_n dX1_load_84 2 rfl ?_
        refine wp_iald dX1_load_85 rfl (vin 12 (by decide) rfl h0 c58_2) ?_
        refine wp_topi (y := ((f_X7_byteAt σ 1 c) - 48)) (by simp [mst, upd]) ?_
        refine wp_iadd dX1_load_86 ?_
        refine wp_putI dX1_load_87 fwX1_22 rfl rfl ?_
        refine wp_aload_n dX1_load_90 0 rfl ?_
        refine wp_getR dX1_load_91 faX1_15 rfl rfl ?_
        refine wp_iload_n dX1_load_94 2 rfl ?_
        refine wp_iconst dX1_load_95 ic_1 ?_
        refine wp_iadd dX1_load_96 ?_
        refine wp_aload_n dX1_load_97 0 rfl ?_
        refine wp_getI dX1_load_98 faX1_22 rfl rfl ?_
        refine wp_topi (y := ((σ 5 3) + ((f_X7_byteAt σ 1 c) - 48))) rfl ?_
        refine wp_iast dX1_load_101 rfl (vin1 12 (by decide) rfl h0 c58_2) ?_
        refine wp_iinc (L' := [(2, _), (0, _), (1, _)]) dX1_load_102 rfl 2 rfl (ii_1 _) rfl ?_
        refine wp_goto 47 dX1_load_105 (by decide) ?_
        refine wp_drop [1, 2, 0] rfl ?_
        rw [show l_X1_load_47 (n + 1) c σ = (l_X1_load_47 n (c + 1) (mst (mst (mst σ 6 (c.toNatClampNeg) ((f_X7_byteAt σ 1 c) - 48)) 5 3 ((σ 5 3) + ((f_X7_byteAt σ 1 c) - 48))) 7 ((c + 1).toNatClampNeg) ((σ 5 3) + ((f_X7_byteAt σ 1 c) - 48)))) from by rw [l_X1_load_47, if_neg c52_1, if_neg c58_2]]
        exact ih _ _ (cnt_up c58_2 hm) (nn_inc' h0 c58_2)
def f_X1_load (σ : Mem) : Mem := if (f_X1_faultOf σ) = (-1) then (l_X1_load_47 (fu 13) 0 (mst (mst (mst (mst σ 5 4 (f_X1_faultOf σ)) 5 2 (if 12 < (f_X7_size (mst σ 5 4 (f_X1_faultOf σ)) 1) then 12 else (f_X7_size (mst σ 5 4 (f_X1_faultOf σ)) 1))) 5 3 0) 7 ((0 : Int32).toNatClampNeg) 0)) else (l_X1_load_47 (fu 13) 0 (mst (mst (mst (mst σ 5 4 (f_X1_faultOf σ)) 5 2 0) 5 3 0) 7 ((0 : Int32).toNatClampNeg) 0))
theorem s_X1_load (X : Amb) (σ : Mem) : SpV X mX1_load [.ref (adr X 5), .ref (adr X 1)] σ (f_X1_load σ) := by
  refine sp_of (by decide +kernel) rfl ?_
  show WP X mX1_load 0 [(0, .ref (adr X 5)), (1, .ref (adr X 1))] [] σ _
  refine wp_aload_n dX1_load_0 0 rfl ?_
  refine wp_aload_n dX1_load_1 1 rfl ?_
  refine wp_cS1w (N := mX1_faultOf) dX1_load_2 tmX1_28 okX1_faultOf rfl rfl rfl rfl (s_X1_faultOf X _) ?_
  refine wp_putI dX1_load_5 fwX1_25 rfl rfl ?_
  refine wp_aload_n dX1_load_8 0 rfl ?_
  refine wp_aload_n dX1_load_9 0 rfl ?_
  refine wp_getI dX1_load_10 faX1_25 rfl rfl ?_
  refine wp_topi (y := (f_X1_faultOf σ)) rfl ?_
  refine wp_iconst dX1_load_13 ic_m1 ?_
  refine wp_icmp_ne 29 dX1_load_14 (by decide) (fun c14_1 => ?_) (fun c14_1 => ?_)
  · refine wp_iconst dX1_load_29 ic_0 ?_
    refine wp_putI dX1_load_30 fwX1_18 rfl rfl ?_
    refine wp_aload_n dX1_load_33 0 rfl ?_
    refine wp_iconst dX1_load_34 ic_0 ?_
    refine wp_putI dX1_load_35 fwX1_22 rfl rfl ?_
    refine wp_aload_n dX1_load_38 0 rfl ?_
    refine wp_getR dX1_load_39 faX1_15 rfl rfl ?_
    refine wp_iconst dX1_load_42 ic_0 ?_
    refine wp_iconst dX1_load_43 ic_0 ?_
    refine wp_iast dX1_load_44 rfl (vlit 0 13 (by decide)) ?_
    refine wp_iconst dX1_load_45 ic_0 ?_
    refine wp_istore_n (L' := [(2, _), (0, _), (1, _)]) dX1_load_46 rfl rfl ?_
    refine wp_drop [1, 2, 0] rfl ?_
    rw [show f_X1_load σ = (l_X1_load_47 (fu 13) 0 (mst (mst (mst (mst σ 5 4 (f_X1_faultOf σ)) 5 2 0) 5 3 0) 7 ((0 : Int32).toNatClampNeg) 0)) from by unfold f_X1_load; rw [if_neg c14_1]]
    exact lt_X1_load_47 X  (fu 13) 0 (mst (mst (mst (mst σ 5 4 (f_X1_faultOf σ)) 5 2 0) 5 3 0) 7 ((0 : Int32).toNatClampNeg) 0) (fu_lt (by decide)) nn0
  · refine wp_aload_n dX1_load_17 1 rfl ?_
    refine wp_cV0w (N := mX7_size) dX1_load_18 tmX1_32 okX7_size rfl rfl rfl rfl rfl rfl rfl rfl (s_X7_size X _ 1 tx1) ?_
    refine wp_bipush dX1_load_21 bp_12 ?_
    refine wp_mmin dX1_load_23 tnX1_37 rfl rfl ?_
    refine wp_goto 30 dX1_load_26 (by decide) ?_
    refine wp_putI dX1_load_30 fwX1_18 rfl rfl ?_
    refine wp_aload_n dX1_load_33 0 rfl ?_
    refine wp_iconst dX1_load_34 ic_0 ?_
    refine wp_putI dX1_load_35 fwX1_22 rfl rfl ?_
    refine wp_aload_n dX1_load_38 0 rfl ?_
    refine wp_getR dX1_load_39 faX1_15 rfl rfl ?_
    refine wp_iconst dX1_load_42 ic_0 ?_
    refine wp_iconst dX1_load_43 ic_0 ?_
    refine wp_iast dX1_load_44 rfl (vlit 0 13 (by decide)) ?_
    refine wp_iconst dX1_load_45 ic_0 ?_
    refine wp_istore_n (L' := [(2, _), (0, _), (1, _)]) dX1_load_46 rfl rfl ?_
    refine wp_drop [1, 2, 0] rfl ?_
    rw [show f_X1_load σ = (l_X1_load_47 (fu 13) 0 (mst (mst (mst (mst σ 5 4 (f_X1_faultOf σ)) 5 2 (if 12 < (f_X7_size (mst σ 5 4 (f_X1_faultOf σ)) 1) then 12 else (f_X7_size (mst σ 5 4 (f_X1_faultOf σ)) 1))) 5 3 0) 7 ((0 : Int32).toNatClampNeg) 0)) from by unfold f_X1_load; rw [if_pos c14_1]]
    exact lt_X1_load_47 X  (fu 13) 0 (mst (mst (mst (mst σ 5 4 (f_X1_faultOf σ)) 5 2 (if 12 < (f_X7_size (mst σ 5 4 (f_X1_faultOf σ)) 1) then 12 else (f_X7_size (mst σ 5 4 (f_X1_faultOf σ)) 1))) 5 3 0) 7 ((0 : Int32).toNatClampNeg) 0) (fu_lt (by decide)) nn0
def f_X6_firstFault (σ : Mem) : Int32 := (σ 8 4)
theorem s_X6_firstFault (X : Amb) (σ : Mem) : SpW X mX6_firstFault [.ref (adr X 8)] σ (.int (f_X6_firstFault σ)) σ := by
  refine sp_of (by decide +kernel) rfl ?_
  show WP X mX6_firstFault 0 [(0, .ref (adr X 8))] [] σ _
  refine wp_aload_n dX6_firstFault_0 0 rfl ?_
  refine wp_getI dX6_firstFault_1 faX6_26 rfl rfl ?_
  refine wp_ireturn dX6_firstFault_4 rfl ?_
  exact ⟨rfl, rfl⟩
def f_X6_size (σ : Mem) : Int32 := (σ 8 2)
theorem s_X6_size (X : Amb) (σ : Mem) : SpW X mX6_size [.ref (adr X 8)] σ (.int (f_X6_size σ)) σ := by
  refine sp_of (by decide +kernel) rfl ?_
  show WP X mX6_size 0 [(0, .ref (adr X 8))] [] σ _
  refine wp_aload_n dX6_size_0 0 rfl ?_
  refine wp_getI dX6_size_1 faX6_19 rfl rfl ?_
  refine wp_ireturn dX6_size_4 rfl ?_
  exact ⟨rfl, rfl⟩
def f_X6_bends (σ : Mem) : Int32 := (σ 8 3)
theorem s_X6_bends (X : Amb) (σ : Mem) : SpW X mX6_bends [.ref (adr X 8)] σ (.int (f_X6_bends σ)) σ := by
  refine sp_of (by decide +kernel) rfl ?_
  show WP X mX6_bends 0 [(0, .ref (adr X 8))] [] σ _
  refine wp_aload_n dX6_bends_0 0 rfl ?_
  refine wp_getI dX6_bends_1 faX6_23 rfl rfl ?_
  refine wp_ireturn dX6_bends_4 rfl ?_
  exact ⟨rfl, rfl⟩
def f_X6_steepAt (σ : Mem) (a : Int32) : Int32 := if (if ((σ 8 2) - 1) < a then ((σ 8 2) - 1) else a) < 0 then 0 else if 16 ≤ (if ((σ 8 2) - 1) < a then ((σ 8 2) - 1) else a) then 0 else (σ 9 ((if ((σ 8 2) - 1) < a then ((σ 8 2) - 1) else a).toNatClampNeg))
theorem s_X6_steepAt (X : Amb) (σ : Mem) (a : Int32) : SpW X mX6_steepAt [.ref (adr X 8), .int a] σ (.int (f_X6_steepAt σ a)) σ := by
  refine sp_of (by decide +kernel) rfl ?_
  show WP X mX6_steepAt 0 [(0, .ref (adr X 8)), (1, .int a)] [] σ _
  refine wp_iload_n dX6_steepAt_0 1 rfl ?_
  refine wp_aload_n dX6_steepAt_1 0 rfl ?_
  refine wp_getI dX6_steepAt_2 faX6_19 rfl rfl ?_
  refine wp_iconst dX6_steepAt_5 ic_1 ?_
  refine wp_isub dX6_steepAt_6 ?_
  refine wp_mmin dX6_steepAt_7 tnX6_46 rfl rfl ?_
  refine wp_istore_n (L' := [(2, _), (0, _), (1, _)]) dX6_steepAt_10 rfl rfl ?_
  refine wp_iload_n dX6_steepAt_11 0 rfl ?_
  refine wp_if_lt 33 dX6_steepAt_12 (by decide) (fun c12_1 => ?_) (fun c12_1 => ?_)
  · refine wp_iconst dX6_steepAt_33 ic_0 ?_
    refine wp_ireturn dX6_steepAt_34 rfl ?_
    exact ⟨by unfold f_X6_steepAt; rw [if_pos c12_1], rfl⟩
  · refine wp_iload_n dX6_steepAt_15 0 rfl ?_
    refine wp_aload_n dX6_steepAt_16 1 rfl ?_
    refine wp_getR dX6_steepAt_17 faX6_9 rfl rfl ?_
    refine wp_alen (v := 16) dX6_steepAt_20 rfl (Or.inl rfl) rfl ?_
    refine wp_icmp_ge 33 dX6_steepAt_21 (by decide) (fun c21_2 => ?_) (fun c21_2 => ?_)
    · refine wp_iconst dX6_steepAt_33 ic_0 ?_
      refine wp_ireturn dX6_steepAt_34 rfl ?_
      exact ⟨by unfold f_X6_steepAt; rw [if_neg c12_1, if_pos c21_2], rfl⟩
    · refine wp_aload_n dX6_steepAt_24 1 rfl ?_
      refine wp_getR dX6_steepAt_25 faX6_9 rfl rfl ?_
      refine wp_iload_n dX6_steepAt_28 0 rfl ?_
      refine wp_iald dX6_steepAt_29 rfl (vin 16 (by decide) rfl c12_1 c21_2) ?_
      refine wp_goto 34 dX6_steepAt_30 (by decide) ?_
      refine wp_ireturn dX6_steepAt_34 rfl ?_
      exact ⟨by unfold f_X6_steepAt; rw [if_neg c12_1, if_neg c21_2], rfl⟩
def f_X6_bendsAt (σ : Mem) (a : Int32) : Int32 := if a < 0 then 0 else if (σ 8 2) ≤ a then 0 else if 16 ≤ a then 0 else if (σ 10 (a.toNatClampNeg)) = 0 then 0 else 1
theorem s_X6_bendsAt (X : Amb) (σ : Mem) (a : Int32) : SpW X mX6_bendsAt [.ref (adr X 8), .int a] σ (.int (f_X6_bendsAt σ a)) σ := by
  refine sp_of (by decide +kernel) rfl ?_
  show WP X mX6_bendsAt 0 [(0, .ref (adr X 8)), (1, .int a)] [] σ _
  refine wp_iload_n dX6_bendsAt_0 1 rfl ?_
  refine wp_if_lt 34 dX6_bendsAt_1 (by decide) (fun c1_1 => ?_) (fun c1_1 => ?_)
  · refine wp_iconst dX6_bendsAt_34 ic_0 ?_
    refine wp_zreturn dX6_bendsAt_35 rfl (Or.inl rfl) ?_
    exact ⟨by unfold f_X6_bendsAt; rw [if_pos c1_1], rfl⟩
  · refine wp_iload_n dX6_bendsAt_4 1 rfl ?_
    refine wp_aload_n dX6_bendsAt_5 0 rfl ?_
    refine wp_getI dX6_bendsAt_6 faX6_19 rfl rfl ?_
    refine wp_icmp_ge 34 dX6_bendsAt_9 (by decide) (fun c9_2 => ?_) (fun c9_2 => ?_)
    · refine wp_iconst dX6_bendsAt_34 ic_0 ?_
      refine wp_zreturn dX6_bendsAt_35 rfl (Or.inl rfl) ?_
      exact ⟨by unfold f_X6_bendsAt; rw [if_neg c1_1, if_pos c9_2], rfl⟩
    · refine wp_iload_n dX6_bendsAt_12 1 rfl ?_
      refine wp_aload_n dX6_bendsAt_13 0 rfl ?_
      refine wp_getR dX6_bendsAt_14 faX6_15 rfl rfl ?_
      refine wp_alen (v := 16) dX6_bendsAt_17 rfl (Or.inr rfl) rfl ?_
      refine wp_icmp_ge 34 dX6_bendsAt_18 (by decide) (fun c18_3 => ?_) (fun c18_3 => ?_)
      · refine wp_iconst dX6_bendsAt_34 ic_0 ?_
        refine wp_zreturn dX6_bendsAt_35 rfl (Or.inl rfl) ?_
        exact ⟨by unfold f_X6_bendsAt; rw [if_neg c1_1, if_neg c9_2, if_pos c18_3], rfl⟩
      · refine wp_aload_n dX6_bendsAt_21 0 rfl ?_
        refine wp_getR dX6_bendsAt_22 faX6_15 rfl rfl ?_
        refine wp_iload_n dX6_bendsAt_25 1 rfl ?_
        refine wp_zald dX6_bendsAt_26 rfl (vin 16 (by decide) rfl c1_1 c18_3) ?_
        refine wp_if_eq 34 dX6_bendsAt_27 (by decide) (fun c27_4 => ?_) (fun c27_4 => ?_)
        · refine wp_iconst dX6_bendsAt_34 ic_0 ?_
          refine wp_zreturn dX6_bendsAt_35 rfl (Or.inl rfl) ?_
          exact ⟨by unfold f_X6_bendsAt; rw [if_neg c1_1, if_neg c9_2, if_neg c18_3, if_pos c27_4], rfl⟩
        · refine wp_iconst dX6_bendsAt_30 ic_1 ?_
          refine wp_goto 35 dX6_bendsAt_31 (by decide) ?_
          refine wp_zreturn dX6_bendsAt_35 rfl (Or.inr rfl) ?_
          exact ⟨by unfold f_X6_bendsAt; rw [if_neg c1_1, if_neg c9_2, if_neg c18_3, if_neg c27_4], rfl⟩
theorem z_X6_bendsAt (σ : Mem) (a : Int32) : (f_X6_bendsAt σ a) = 0 ∨ (f_X6_bendsAt σ a) = 1 := by
  unfold f_X6_bendsAt; (repeat' split) <;> first | exact Or.inl rfl | exact Or.inr rfl
def f_X6_bendsLast (σ : Mem) : Int32 × Mem := if ((σ 8 2) - 1) < 0 then (0, σ) else if 16 ≤ ((σ 8 2) - 1) then (0, σ) else if (σ 10 (((σ 8 2) - 1).toNatClampNeg)) = 0 then (1, (mst (mst σ 10 (((σ 8 2) - 1).toNatClampNeg) 1) 8 3 ((σ 8 3) + 1))) else (0, σ)
theorem s_X6_bendsLast (X : Amb) (σ : Mem) : SpW X mX6_bendsLast [.ref (adr X 8)] σ (.int (f_X6_bendsLast σ).1) (f_X6_bendsLast σ).2 := by
  refine sp_of (by decide +kernel) rfl ?_
  show WP X mX6_bendsLast 0 [(0, .ref (adr X 8))] [] σ _
  refine wp_aload_n dX6_bendsLast_0 0 rfl ?_
  refine wp_getI dX6_bendsLast_1 faX6_19 rfl rfl ?_
  refine wp_iconst dX6_bendsLast_4 ic_1 ?_
  refine wp_isub dX6_bendsLast_5 ?_
  refine wp_istore_n (L' := [(1, _), (0, _)]) dX6_bendsLast_6 rfl rfl ?_
  refine wp_iload_n dX6_bendsLast_7 0 rfl ?_
  refine wp_if_lt 26 dX6_bendsLast_8 (by decide) (fun c8_1 => ?_) (fun c8_1 => ?_)
  · refine wp_iconst dX6_bendsLast_26 ic_0 ?_
    refine wp_zreturn dX6_bendsLast_27 rfl (Or.inl rfl) ?_
    exact ⟨by unfold f_X6_bendsLast; rw [if_pos c8_1], by unfold f_X6_bendsLast; rw [if_pos c8_1]⟩
  · refine wp_iload_n dX6_bendsLast_11 0 rfl ?_
    refine wp_bipush dX6_bendsLast_12 bp_16 ?_
    refine wp_icmp_ge 26 dX6_bendsLast_14 (by decide) (fun c14_2 => ?_) (fun c14_2 => ?_)
    · refine wp_iconst dX6_bendsLast_26 ic_0 ?_
      refine wp_zreturn dX6_bendsLast_27 rfl (Or.inl rfl) ?_
      exact ⟨by unfold f_X6_bendsLast; rw [if_neg c8_1, if_pos c14_2], by unfold f_X6_bendsLast; rw [if_neg c8_1, if_pos c14_2]⟩
    · refine wp_aload_n dX6_bendsLast_17 1 rfl ?_
      refine wp_getR dX6_bendsLast_18 faX6_15 rfl rfl ?_
      refine wp_iload_n dX6_bendsLast_21 0 rfl ?_
      refine wp_zald dX6_bendsLast_22 rfl (vin 16 (by decide) rfl c8_1 c14_2) ?_
      refine wp_if_eq 28 dX6_bendsLast_23 (by decide) (fun c23_3 => ?_) (fun c23_3 => ?_)
      · refine wp_aload_n dX6_bendsLast_28 1 rfl ?_
        refine wp_getR dX6_bendsLast_29 faX6_15 rfl rfl ?_
        refine wp_iload_n dX6_bendsLast_32 0 rfl ?_
        refine wp_iconst dX6_bendsLast_33 ic_1 ?_
        refine wp_zast dX6_bendsLast_34 rfl (vin 16 (by decide) rfl c8_1 c14_2) (Or.inr rfl) ?_
        refine wp_aload_n dX6_bendsLast_35 1 rfl ?_
        refine wp_dup dX6_bendsLast_36 rfl ?_
        refine wp_getI dX6_bendsLast_37 faX6_23 rfl rfl ?_
        refine wp_topi (y := (σ 8 3)) rfl ?_
        refine wp_iconst dX6_bendsLast_40 ic_1 ?_
        refine wp_iadd dX6_bendsLast_41 ?_
        refine wp_putI dX6_bendsLast_42 fwX6_23 rfl rfl ?_
        refine wp_iconst dX6_bendsLast_45 ic_1 ?_
        refine wp_zreturn dX6_bendsLast_46 rfl (Or.inr rfl) ?_
        exact ⟨by unfold f_X6_bendsLast; rw [if_neg c8_1, if_neg c14_2, if_pos c23_3], by unfold f_X6_bendsLast; rw [if_neg c8_1, if_neg c14_2, if_pos c23_3]⟩
      · refine wp_iconst dX6_bendsLast_26 ic_0 ?_
        refine wp_zreturn dX6_bendsLast_27 rfl (Or.inl rfl) ?_
        exact ⟨by unfold f_X6_bendsLast; rw [if_neg c8_1, if_neg c14_2, if_neg c23_3], by unfold f_X6_bendsLast; rw [if_neg c8_1, if_neg c14_2, if_neg c23_3]⟩
theorem z_X6_bendsLast (σ : Mem) : (f_X6_bendsLast σ).1 = 0 ∨ (f_X6_bendsLast σ).1 = 1 := by
  unfold f_X6_bendsLast; (repeat' split) <;> first | exact Or.inl rfl | exact Or.inr rfl
def f_X6_takes (σ : Mem) (a : Int32) : Int32 × Mem := if a = 98 then ((f_X6_bendsLast σ).1, (f_X6_bendsLast σ).2) else if a < 48 then (0, σ) else if 57 < a then (0, σ) else if (σ 8 2) < 0 then (0, σ) else if (σ 8 2) < 16 then (1, (mst (mst (mst σ 9 ((σ 8 2).toNatClampNeg) (a - 48)) 10 ((σ 8 2).toNatClampNeg) 0) 8 2 ((σ 8 2) + 1))) else (0, σ)
theorem s_X6_takes (X : Amb) (σ : Mem) (a : Int32) : SpW X mX6_takes [.ref (adr X 8), .int a] σ (.int (f_X6_takes σ a).1) (f_X6_takes σ a).2 := by
  refine sp_of (by decide +kernel) rfl ?_
  show WP X mX6_takes 0 [(0, .ref (adr X 8)), (1, .int a)] [] σ _
  refine wp_iload_n dX6_takes_0 1 rfl ?_
  refine wp_bipush dX6_takes_1 bp_98 ?_
  refine wp_icmp_ne 11 dX6_takes_3 (by decide) (fun c3_1 => ?_) (fun c3_1 => ?_)
  · refine wp_iload_n dX6_takes_11 1 rfl ?_
    refine wp_bipush dX6_takes_12 bp_48 ?_
    refine wp_icmp_lt 39 dX6_takes_14 (by decide) (fun c14_2 => ?_) (fun c14_2 => ?_)
    · refine wp_iconst dX6_takes_39 ic_0 ?_
      refine wp_zreturn dX6_takes_40 rfl (Or.inl rfl) ?_
      exact ⟨by unfold f_X6_takes; rw [if_neg c3_1, if_pos c14_2], by unfold f_X6_takes; rw [if_neg c3_1, if_pos c14_2]⟩
    · refine wp_iload_n dX6_takes_17 1 rfl ?_
      refine wp_bipush dX6_takes_18 bp_57 ?_
      refine wp_icmp_gt 39 dX6_takes_20 (by decide) (fun c20_3 => ?_) (fun c20_3 => ?_)
      · refine wp_iconst dX6_takes_39 ic_0 ?_
        refine wp_zreturn dX6_takes_40 rfl (Or.inl rfl) ?_
        exact ⟨by unfold f_X6_takes; rw [if_neg c3_1, if_neg c14_2, if_pos c20_3], by unfold f_X6_takes; rw [if_neg c3_1, if_neg c14_2, if_pos c20_3]⟩
      · refine wp_aload_n dX6_takes_23 0 rfl ?_
        refine wp_getI dX6_takes_24 faX6_19 rfl rfl ?_
        refine wp_if_lt 39 dX6_takes_27 (by decide) (fun c27_4 => ?_) (fun c27_4 => ?_)
        · refine wp_iconst dX6_takes_39 ic_0 ?_
          refine wp_zreturn dX6_takes_40 rfl (Or.inl rfl) ?_
          exact ⟨by unfold f_X6_takes; rw [if_neg c3_1, if_neg c14_2, if_neg c20_3, if_pos c27_4], by unfold f_X6_takes; rw [if_neg c3_1, if_neg c14_2, if_neg c20_3, if_pos c27_4]⟩
        · refine wp_aload_n dX6_takes_30 0 rfl ?_
          refine wp_getI dX6_takes_31 faX6_19 rfl rfl ?_
          refine wp_bipush dX6_takes_34 bp_16 ?_
          refine wp_icmp_lt 41 dX6_takes_36 (by decide) (fun c36_5 => ?_) (fun c36_5 => ?_)
          · refine wp_aload_n dX6_takes_41 0 rfl ?_
            refine wp_getR dX6_takes_42 faX6_9 rfl rfl ?_
            refine wp_aload_n dX6_takes_45 0 rfl ?_
            refine wp_getI dX6_takes_46 faX6_19 rfl rfl ?_
            refine wp_iload_n dX6_takes_49 1 rfl ?_
            refine wp_bipush dX6_takes_50 bp_48 ?_
            refine wp_isub dX6_takes_52 ?_
            refine wp_iast dX6_takes_53 rfl (vin 16 (by decide) rfl c27_4 (nle_of_lt c36_5)) ?_
            refine wp_aload_n dX6_takes_54 0 rfl ?_
            refine wp_getR dX6_takes_55 faX6_15 rfl rfl ?_
            refine wp_aload_n dX6_takes_58 0 rfl ?_
            refine wp_getI dX6_takes_59 faX6_19 rfl rfl ?_
            refine wp_topi (y := (σ 8 2)) rfl ?_
            refine wp_iconst dX6_takes_62 ic_0 ?_
            refine wp_zast dX6_takes_63 rfl (vin 16 (by decide) rfl c27_4 (nle_of_lt c36_5)) (Or.inl rfl) ?_
            refine wp_aload_n dX6_takes_64 0 rfl ?_
            refine wp_dup dX6_takes_65 rfl ?_
            refine wp_getI dX6_takes_66 faX6_19 rfl rfl ?_
            refine wp_topi (y := (σ 8 2)) rfl ?_
            refine wp_iconst dX6_takes_69 ic_1 ?_
            refine wp_iadd dX6_takes_70 ?_
            refine wp_putI dX6_takes_71 fwX6_19 rfl rfl ?_
            refine wp_iconst dX6_takes_74 ic_1 ?_
            refine wp_zreturn dX6_takes_75 rfl (Or.inr rfl) ?_
            exact ⟨by unfold f_X6_takes; rw [if_neg c3_1, if_neg c14_2, if_neg c20_3, if_neg c27_4, if_pos c36_5], by unfold f_X6_takes; rw [if_neg c3_1, if_neg c14_2, if_neg c20_3, if_neg c27_4, if_pos c36_5]⟩
          · refine wp_iconst dX6_takes_39 ic_0 ?_
            refine wp_zreturn dX6_takes_40 rfl (Or.inl rfl) ?_
            exact ⟨by unfold f_X6_takes; rw [if_neg c3_1, if_neg c14_2, if_neg c20_3, if_neg c27_4, if_neg c36_5], by unfold f_X6_takes; rw [if_neg c3_1, if_neg c14_2, if_neg c20_3, if_neg c27_4, if_neg c36_5]⟩
  · refine wp_aload_n dX6_takes_6 0 rfl ?_
    refine wp_cV0w (N := mX6_bendsLast) dX6_takes_7 tmX6_42 okX6_bendsLast rfl rfl rfl rfl rfl rfl rfl rfl (s_X6_bendsLast X _) ?_
    refine wp_zreturn dX6_takes_10 rfl (z_X6_bendsLast ..) ?_
    exact ⟨by unfold f_X6_takes; rw [if_pos c3_1], by unfold f_X6_takes; rw [if_pos c3_1]⟩
theorem z_X6_takes (σ : Mem) (a : Int32) : (f_X6_takes σ a).1 = 0 ∨ (f_X6_takes σ a).1 = 1 := by
  unfold f_X6_takes; (repeat' split) <;> first | exact Or.inl rfl | exact Or.inr rfl | exact z_X6_bendsLast _
end
