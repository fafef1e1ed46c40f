noncomputable section
def f_X4_given (σ : Mem) (a : Int32) (b : Int32) : Int32 := if b < 0 then 0 else if b < 40 then if a = 0 then (σ 18 (b.toNatClampNeg)) else (σ 19 (b.toNatClampNeg)) else 0
theorem s_X4_given (X : Amb) (σ : Mem) (a : Int32) (b : Int32) : SpW X mX4_given [.ref (adr X 17), .int a, .int b] σ (.int (f_X4_given σ a b)) σ := by
  refine sp_of (by decide +kernel) rfl ?_
  show WP X mX4_given 0 [(0, .ref (adr X 17)), (1, .int a), (2, .int b)] [] σ _
  refine wp_iload_n dX4_given_0 2 rfl ?_
  refine wp_if_lt 10 dX4_given_1 (by decide) (fun c1_1 => ?_) (fun c1_1 => ?_)
  · refine wp_iconst dX4_given_10 ic_0 ?_
    refine wp_ireturn dX4_given_11 rfl ?_
    exact ⟨by unfold f_X4_given; rw [if_pos c1_1], rfl⟩
  · refine wp_iload_n dX4_given_4 2 rfl ?_
    refine wp_bipush dX4_given_5 bp_40 ?_
    refine wp_icmp_lt 12 dX4_given_7 (by decide) (fun c7_2 => ?_) (fun c7_2 => ?_)
    · refine wp_iload_n dX4_given_12 1 rfl ?_
      refine wp_if_ne 25 dX4_given_13 (by decide) (fun c13_3 => ?_) (fun c13_3 => ?_)
      · refine wp_aload_n dX4_given_25 0 rfl ?_
        refine wp_getR dX4_given_26 faX4_15 rfl rfl ?_
        refine wp_iload_n dX4_given_29 2 rfl ?_
        refine wp_iald dX4_given_30 rfl (vin 40 (by decide) rfl c1_1 (nle_of_lt c7_2)) ?_
        refine wp_ireturn dX4_given_31 rfl ?_
        exact ⟨by unfold f_X4_given; rw [if_neg c1_1, if_pos c7_2, if_neg c13_3], rfl⟩
      · refine wp_aload_n dX4_given_16 0 rfl ?_
        refine wp_getR dX4_given_17 faX4_9 rfl rfl ?_
        refine wp_iload_n dX4_given_20 2 rfl ?_
        refine wp_iald dX4_given_21 rfl (vin 40 (by decide) rfl c1_1 (nle_of_lt c7_2)) ?_
        refine wp_goto 31 dX4_given_22 (by decide) ?_
        refine wp_ireturn dX4_given_31 rfl ?_
        exact ⟨by unfold f_X4_given; rw [if_neg c1_1, if_pos c7_2, if_pos c13_3], rfl⟩
    · refine wp_iconst dX4_given_10 ic_0 ?_
      refine wp_ireturn dX4_given_11 rfl ?_
      exact ⟨by unfold f_X4_given; rw [if_neg c1_1, if_neg c7_2], rfl⟩
def f_X4_neededIn (σ : Mem) (a : Int32) : Int32 := if a < 0 then 0 else if 40 ≤ a then 0 else (σ 20 (a.toNatClampNeg))
theorem s_X4_neededIn (X : Amb) (σ : Mem) (a : Int32) : SpW X mX4_neededIn [.ref (adr X 17), .int a] σ (.int (f_X4_neededIn σ a)) σ := by
  refine sp_of (by decide +kernel) rfl ?_
  show WP X mX4_neededIn 0 [(0, .ref (adr X 17)), (1, .int a)] [] σ _
  refine wp_iload_n dX4_neededIn_0 1 rfl ?_
  refine wp_if_lt 19 dX4_neededIn_1 (by decide) (fun c1_1 => ?_) (fun c1_1 => ?_)
  · refine wp_iconst dX4_neededIn_19 ic_0 ?_
    refine wp_ireturn dX4_neededIn_20 rfl ?_
    exact ⟨by unfold f_X4_neededIn; rw [if_pos c1_1], rfl⟩
  · refine wp_iload_n dX4_neededIn_4 1 rfl ?_
    refine wp_bipush dX4_neededIn_5 bp_40 ?_
    refine wp_icmp_ge 19 dX4_neededIn_7 (by decide) (fun c7_2 => ?_) (fun c7_2 => ?_)
    · refine wp_iconst dX4_neededIn_19 ic_0 ?_
      refine wp_ireturn dX4_neededIn_20 rfl ?_
      exact ⟨by unfold f_X4_neededIn; rw [if_neg c1_1, if_pos c7_2], rfl⟩
    · refine wp_aload_n dX4_neededIn_10 0 rfl ?_
      refine wp_getR dX4_neededIn_11 faX4_18 rfl rfl ?_
      refine wp_iload_n dX4_neededIn_14 1 rfl ?_
      refine wp_iald dX4_neededIn_15 rfl (vin 40 (by decide) rfl c1_1 c7_2) ?_
      refine wp_goto 20 dX4_neededIn_16 (by decide) ?_
      refine wp_ireturn dX4_neededIn_20 rfl ?_
      exact ⟨by unfold f_X4_neededIn; rw [if_neg c1_1, if_neg c7_2], rfl⟩
def f_X4_speedIn (σ : Mem) (a : Int32) : Int32 := if a < 0 then 0 else if 40 ≤ a then 0 else (σ 21 (a.toNatClampNeg))
theorem s_X4_speedIn (X : Amb) (σ : Mem) (a : Int32) : SpW X mX4_speedIn [.ref (adr X 17), .int a] σ (.int (f_X4_speedIn σ a)) σ := by
  refine sp_of (by decide +kernel) rfl ?_
  show WP X mX4_speedIn 0 [(0, .ref (adr X 17)), (1, .int a)] [] σ _
  refine wp_iload_n dX4_speedIn_0 1 rfl ?_
  refine wp_if_lt 19 dX4_speedIn_1 (by decide) (fun c1_1 => ?_) (fun c1_1 => ?_)
  · refine wp_iconst dX4_speedIn_19 ic_0 ?_
    refine wp_ireturn dX4_speedIn_20 rfl ?_
    exact ⟨by unfold f_X4_speedIn; rw [if_pos c1_1], rfl⟩
  · refine wp_iload_n dX4_speedIn_4 1 rfl ?_
    refine wp_bipush dX4_speedIn_5 bp_40 ?_
    refine wp_icmp_ge 19 dX4_speedIn_7 (by decide) (fun c7_2 => ?_) (fun c7_2 => ?_)
    · refine wp_iconst dX4_speedIn_19 ic_0 ?_
      refine wp_ireturn dX4_speedIn_20 rfl ?_
      exact ⟨by unfold f_X4_speedIn; rw [if_neg c1_1, if_pos c7_2], rfl⟩
    · refine wp_aload_n dX4_speedIn_10 0 rfl ?_
      refine wp_getR dX4_speedIn_11 faX4_21 rfl rfl ?_
      refine wp_iload_n dX4_speedIn_14 1 rfl ?_
      refine wp_iald dX4_speedIn_15 rfl (vin 40 (by decide) rfl c1_1 c7_2) ?_
      refine wp_goto 20 dX4_speedIn_16 (by decide) ?_
      refine wp_ireturn dX4_speedIn_20 rfl ?_
      exact ⟨by unfold f_X4_speedIn; rw [if_neg c1_1, if_neg c7_2], rfl⟩
def f_X4_placeIn (σ : Mem) (a : Int32) : Int32 := if a < 0 then 0 else if 40 ≤ a then 0 else ((σ 22 (a.toNatClampNeg)) / 10)
theorem s_X4_placeIn (X : Amb) (σ : Mem) (a : Int32) : SpW X mX4_placeIn [.ref (adr X 17), .int a] σ (.int (f_X4_placeIn σ a)) σ := by
  refine sp_of (by decide +kernel) rfl ?_
  show WP X mX4_placeIn 0 [(0, .ref (adr X 17)), (1, .int a)] [] σ _
  refine wp_iload_n dX4_placeIn_0 1 rfl ?_
  refine wp_if_lt 22 dX4_placeIn_1 (by decide) (fun c1_1 => ?_) (fun c1_1 => ?_)
  · refine wp_iconst dX4_placeIn_22 ic_0 ?_
    refine wp_ireturn dX4_placeIn_23 rfl ?_
    exact ⟨by unfold f_X4_placeIn; rw [if_pos c1_1], rfl⟩
  · refine wp_iload_n dX4_placeIn_4 1 rfl ?_
    refine wp_bipush dX4_placeIn_5 bp_40 ?_
    refine wp_icmp_ge 22 dX4_placeIn_7 (by decide) (fun c7_2 => ?_) (fun c7_2 => ?_)
    · refine wp_iconst dX4_placeIn_22 ic_0 ?_
      refine wp_ireturn dX4_placeIn_23 rfl ?_
      exact ⟨by unfold f_X4_placeIn; rw [if_neg c1_1, if_pos c7_2], rfl⟩
    · refine wp_aload_n dX4_placeIn_10 0 rfl ?_
      refine wp_getR dX4_placeIn_11 faX4_24 rfl rfl ?_
      refine wp_iload_n dX4_placeIn_14 1 rfl ?_
      refine wp_iald dX4_placeIn_15 rfl (vin 40 (by decide) rfl c1_1 c7_2) ?_
      refine wp_bipush dX4_placeIn_16 bp_10 ?_
      refine wp_idiv dX4_placeIn_18 (by decide) ?_
      refine wp_goto 23 dX4_placeIn_19 (by decide) ?_
      refine wp_ireturn dX4_placeIn_23 rfl ?_
      exact ⟨by unfold f_X4_placeIn; rw [if_neg c1_1, if_neg c7_2], rfl⟩
def f_X4_nextSpeed (σ : Mem) (a : Int32) (b : Int32) : Int32 := if b ≤ 0 then if 0 ≤ b then a else (if (a - 1) < 0 then 0 else (a - 1)) else (if 20 < (a + 1) then 20 else (a + 1))
theorem s_X4_nextSpeed (X : Amb) (σ : Mem) (a : Int32) (b : Int32) : SpW X mX4_nextSpeed [.int a, .int b] σ (.int (f_X4_nextSpeed σ a b)) σ := by
  refine sp_of (by decide +kernel) rfl ?_
  show WP X mX4_nextSpeed 0 [(0, .int a), (1, .int b)] [] σ _
  refine wp_iload_n dX4_nextSpeed_0 1 rfl ?_
  refine wp_if_le 13 dX4_nextSpeed_1 (by decide) (fun c1_1 => ?_) (fun c1_1 => ?_)
  · refine wp_iload_n dX4_nextSpeed_13 1 rfl ?_
    refine wp_if_ge 27 dX4_nextSpeed_14 (by decide) (fun c14_2 => ?_) (fun c14_2 => ?_)
    · refine wp_iload_n dX4_nextSpeed_27 0 rfl ?_
      refine wp_ireturn dX4_nextSpeed_28 rfl ?_
      exact ⟨by unfold f_X4_nextSpeed; rw [if_pos c1_1, if_pos c14_2], rfl⟩
    · refine wp_iload_n dX4_nextSpeed_17 0 rfl ?_
      refine wp_iconst dX4_nextSpeed_18 ic_1 ?_
      refine wp_isub dX4_nextSpeed_19 ?_
      refine wp_iconst dX4_nextSpeed_20 ic_0 ?_
      refine wp_mmax dX4_nextSpeed_21 tnX4_46 rfl rfl ?_
      refine wp_goto 28 dX4_nextSpeed_24 (by decide) ?_
      refine wp_ireturn dX4_nextSpeed_28 rfl ?_
      exact ⟨by unfold f_X4_nextSpeed; rw [if_pos c1_1, if_neg c14_2], rfl⟩
  · refine wp_iload_n dX4_nextSpeed_4 0 rfl ?_
    refine wp_iconst dX4_nextSpeed_5 ic_1 ?_
    refine wp_iadd dX4_nextSpeed_6 ?_
    refine wp_bipush dX4_nextSpeed_7 bp_20 ?_
    refine wp_mmin dX4_nextSpeed_9 tnX4_41 rfl rfl ?_
    refine wp_ireturn dX4_nextSpeed_12 rfl ?_
    exact ⟨by unfold f_X4_nextSpeed; rw [if_neg c1_1], rfl⟩
def f_X4_givesAlike (σ : Mem) (a : Int32) (b : Int32) : Int32 := if (f_X4_given σ 0 a) = (f_X4_given σ 0 b) then if (f_X4_given σ 1 a) = (f_X4_given σ 1 b) then 1 else 0 else 0
theorem s_X4_givesAlike (X : Amb) (σ : Mem) (a : Int32) (b : Int32) : SpW X mX4_givesAlike [.ref (adr X 17), .int a, .int b] σ (.int (f_X4_givesAlike σ a b)) σ := by
  refine sp_of (by decide +kernel) rfl ?_
  show WP X mX4_givesAlike 0 [(0, .ref (adr X 17)), (1, .int a), (2, .int b)] [] σ _
  refine wp_aload_n dX4_givesAlike_0 0 rfl ?_
  refine wp_iconst dX4_givesAlike_1 ic_0 ?_
  refine wp_iload_n dX4_givesAlike_2 1 rfl ?_
  refine wp_cV2w (N := mX4_given) dX4_givesAlike_3 tmX4_54 okX4_given rfl rfl rfl rfl rfl rfl rfl rfl (s_X4_given X _ _ _) ?_
  refine wp_aload_n dX4_givesAlike_6 0 rfl ?_
  refine wp_iconst dX4_givesAlike_7 ic_0 ?_
  refine wp_iload_n dX4_givesAlike_8 2 rfl ?_
  refine wp_cV2w (N := mX4_given) dX4_givesAlike_9 tmX4_54 okX4_given rfl rfl rfl rfl rfl rfl rfl rfl (s_X4_given X _ _ _) ?_
  refine wp_icmp_ne 34 dX4_givesAlike_12 (by decide) (fun c12_1 => ?_) (fun c12_1 => ?_)
  · refine wp_iconst dX4_givesAlike_34 ic_0 ?_
    refine wp_zreturn dX4_givesAlike_35 rfl (Or.inl rfl) ?_
    exact ⟨by unfold f_X4_givesAlike; rw [if_neg c12_1], rfl⟩
  · refine wp_aload_n dX4_givesAlike_15 0 rfl ?_
    refine wp_iconst dX4_givesAlike_16 ic_1 ?_
    refine wp_iload_n dX4_givesAlike_17 1 rfl ?_
    refine wp_cV2w (N := mX4_given) dX4_givesAlike_18 tmX4_54 okX4_given rfl rfl rfl rfl rfl rfl rfl rfl (s_X4_given X _ _ _) ?_
    refine wp_aload_n dX4_givesAlike_21 0 rfl ?_
    refine wp_iconst dX4_givesAlike_22 ic_1 ?_
    refine wp_iload_n dX4_givesAlike_23 2 rfl ?_
    refine wp_cV2w (N := mX4_given) dX4_givesAlike_24 tmX4_54 okX4_given rfl rfl rfl rfl rfl rfl rfl rfl (s_X4_given X _ _ _) ?_
    refine wp_icmp_ne 34 dX4_givesAlike_27 (by decide) (fun c27_2 => ?_) (fun c27_2 => ?_)
    · refine wp_iconst dX4_givesAlike_34 ic_0 ?_
      refine wp_zreturn dX4_givesAlike_35 rfl (Or.inl rfl) ?_
      exact ⟨by unfold f_X4_givesAlike; rw [if_pos c12_1, if_neg c27_2], rfl⟩
    · refine wp_iconst dX4_givesAlike_30 ic_1 ?_
      refine wp_goto 35 dX4_givesAlike_31 (by decide) ?_
      refine wp_zreturn dX4_givesAlike_35 rfl (Or.inr rfl) ?_
      exact ⟨by unfold f_X4_givesAlike; rw [if_pos c12_1, if_pos c27_2], rfl⟩
theorem z_X4_givesAlike (σ : Mem) (a : Int32) (b : Int32) : (f_X4_givesAlike σ a b) = 0 ∨ (f_X4_givesAlike σ a b) = 1 := by
  unfold f_X4_givesAlike; (repeat' split) <;> first | exact Or.inl rfl | exact Or.inr rfl
def l_X4_allGiven_4 : Nat → Int32 → Int32 → Int32 → Mem → Int32
  | 0, _, _, _, σ => 0
  | n + 1, a, b, c, σ => if 40 ≤ c then b else (l_X4_allGiven_4 n a (b + (f_X4_given σ a c)) (c + 1) σ)
theorem lt_X4_allGiven_4 (X : Amb) : ∀ (n : Nat) (a : Int32) (b : Int32) (c : Int32) (σ : Mem), ((40 : Int32).toInt - c.toInt).toNat < n → WP X mX4_allGiven 4 [(0, .ref (adr X 17)), (1, .int a), (2, .int b), (3, .int c)] [] σ (fun v σ' => v = some (.int (l_X4_allGiven_4 n a b c σ)) ∧ σ' = σ) := by
  intro n
  induction n with
  | zero => intro a b c σ hm; exact absurd hm (Nat.not_lt_zero _)
  | succ n ih =>
    intro a b c σ hm 
    refine wp_iload_n dX4_allGiven_4 3 rfl ?_
    refine wp_bipush dX4_allGiven_5 bp_40 ?_
    refine wp_icmp_ge 25 dX4_allGiven_7 (by decide) (fun c7_1 => ?_) (fun c7_1 => ?_)
    · refine wp_iload_n dX4_allGiven_25 2 rfl ?_
      refine wp_ireturn dX4_allGiven_26 rfl ?_
      exact ⟨by rw [l_X4_allGiven_4, if_pos c7_1], rfl⟩
    · refine wp_iload_n dX4_allGiven_10 2 rfl ?_
      refine wp_aload_n dX4_allGiven_11 0 rfl ?_
      refine wp_iload_n dX4_allGiven_12 1 rfl ?_
      refine wp_iload_n dX4_allGiven_13 3 rfl ?_
      refine wp_cV2w (N := mX4_given) dX4_allGiven_14 tmX4_54 okX4_given rfl rfl rfl rfl rfl rfl rfl rfl (s_X4_given X _ _ _) ?_
      refine wp_iadd dX4_allGiven_17 ?_
      refine wp_istore_n (L' := [(2, _), (0, _), (1, _), (3, _)]) dX4_allGiven_18 rfl rfl ?_
      refine wp_iinc (L' := [(3, _), (2, _), (0, _), (1, _)]) dX4_allGiven_19 rfl 3 rfl (ii_1 _) rfl ?_
      refine wp_goto 4 dX4_allGiven_22 (by decide) ?_
      refine wp_drop [2, 3, 1, 0] rfl ?_
      rw [show l_X4_allGiven_4 (n + 1) a b c σ = (l_X4_allGiven_4 n a (b + (f_X4_given σ a c)) (c + 1) σ) from by rw [l_X4_allGiven_4, if_neg c7_1]]
      exact ih _ _ _ _ (cnt_up c7_1 hm) 
def f_X4_allGiven (σ : Mem) (a : Int32) : Int32 := (l_X4_allGiven_4 (fu 41) a 0 0 σ)
theorem s_X4_allGiven (X : Amb) (σ : Mem) (a : Int32) : SpW X mX4_allGiven [.ref (adr X 17), .int a] σ (.int (f_X4_allGiven σ a)) σ := by
  refine sp_of (by decide +kernel) rfl ?_
  show WP X mX4_allGiven 0 [(0, .ref (adr X 17)), (1, .int a)] [] σ _
  refine wp_iconst dX4_allGiven_0 ic_0 ?_
  refine wp_istore_n (L' := [(2, _), (0, _), (1, _)]) dX4_allGiven_1 rfl rfl ?_
  refine wp_iconst dX4_allGiven_2 ic_0 ?_
  refine wp_istore_n (L' := [(3, _), (2, _), (0, _), (1, _)]) dX4_allGiven_3 rfl rfl ?_
  refine wp_drop [2, 3, 1, 0] rfl ?_
  rw [show f_X4_allGiven σ a = (l_X4_allGiven_4 (fu 41) a 0 0 σ) from rfl]
  exact lt_X4_allGiven_4 X  (fu 41) a 0 0 σ (fu_lt (by decide)) 
theorem sub20 : (20 : Int32).toInt = 20 := by decide
/-- a loop whose test adds first: m + a < 40 -/
theorem cnt_pl {i a B : Int32} {n : Nat} (ha : 0 ≤ a) (hi : 0 ≤ i) (hs : a ≤ 1000) (hb : B ≤ 1000) (hi2 : i ≤ 1000) (h : ¬ B ≤ i + a) (hm : (B.toInt - i.toInt).toNat < n + 1) : (B.toInt - (i + 1).toInt).toNat < n ∧ 0 ≤ i + 1 ∧ i + 1 ≤ 1000 := by
  simp only [Int32.le_iff_toInt_le, show (1000 : Int32).toInt = 1000 by decide, Int32.toInt_zero] at *
  have e : (i + a).toInt = i.toInt + a.toInt := by rw [Int32.toInt_add]; apply Int.bmod_eq_of_le <;> omega
  have e1 : (i + 1).toInt = i.toInt + 1 := by rw [Int32.toInt_add, show (1 : Int32).toInt = 1 by decide]; apply Int.bmod_eq_of_le <;> omega
  rw [e] at h
  rw [e1]
  omega
def l_X4_comesAgain_3 : Nat → Int32 → Int32 → Mem → Int32
  | 0, _, _, σ => 0
  | n + 1, a, b, σ => if 40 ≤ (b + a) then 1 else if (f_X4_givesAlike σ b (b + a)) = 0 then 0 else (l_X4_comesAgain_3 n a (b + 1) σ)
theorem lt_X4_comesAgain_3 (X : Amb) : ∀ (n : Nat) (a : Int32) (b : Int32) (σ : Mem), ((40 : Int32).toInt - b.toInt).toNat < n → 0 ≤ a → a ≤ 1000 → 0 ≤ b → b ≤ 1000 → WP X mX4_comesAgain 3 [(0, .ref (adr X 17)), (1, .int a), (2, .int b)] [] σ (fun v σ' => v = some (.int (l_X4_comesAgain_3 n a b σ)) ∧ σ' = σ) := by
  intro n
  induction n with
  | zero => intro a b σ hm; exact absurd hm (Nat.not_lt_zero _)
  | succ n ih =>
    intro a b σ hm ha hs hi hi2
    refine wp_iload_n dX4_comesAgain_3 2 rfl ?_
    refine wp_iload_n dX4_comesAgain_4 1 rfl ?_
    refine wp_iadd dX4_comesAgain_5 ?_
    refine wp_bipush dX4_comesAgain_6 bp_40 ?_
    refine wp_icmp_ge 30 dX4_comesAgain_8 (by decide) (fun c8_1 => ?_) (fun c8_1 => ?_)
    · refine wp_iconst dX4_comesAgain_30 ic_1 ?_
      refine wp_zreturn dX4_comesAgain_31 rfl (Or.inr rfl) ?_
      exact ⟨by rw [l_X4_comesAgain_3, if_pos c8_1], rfl⟩
    · refine wp_aload_n dX4_comesAgain_11 0 rfl ?_
      refine wp_iload_n dX4_comesAgain_12 2 rfl ?_
      refine wp_iload_n dX4_comesAgain_13 2 rfl ?_
      refine wp_iload_n dX4_comesAgain_14 1 rfl ?_
      refine wp_iadd dX4_comesAgain_15 ?_
      refine wp_cV2w (N := mX4_givesAlike) dX4_comesAgain_16 tmX4_57 okX4_givesAlike rfl rfl rfl rfl rfl rfl rfl rfl (s_X4_givesAlike X _ _ _) ?_
      refine wp_if_ne 24 dX4_comesAgain_19 (by decide) (fun c19_2 => ?_) (fun c19_2 => ?_)
      · refine wp_iinc (L' := [(2, _), (0, _), (1, _)]) dX4_comesAgain_24 rfl 2 rfl (ii_1 _) rfl ?_
        refine wp_goto 3 dX4_comesAgain_27 (by decide) ?_
        refine wp_drop [1, 2, 0] rfl ?_
        rw [show l_X4_comesAgain_3 (n + 1) a b σ = (l_X4_comesAgain_3 n a (b + 1) σ) from by rw [l_X4_comesAgain_3, if_neg c8_1, if_neg c19_2]]
        exact ih _ _ _ (cnt_pl ha hi hs (by decide) hi2 c8_1 hm).1 ha hs (cnt_pl ha hi hs (by decide) hi2 c8_1 hm).2.1 (cnt_pl ha hi hs (by decide) hi2 c8_1 hm).2.2
      · refine wp_iconst dX4_comesAgain_22 ic_0 ?_
        refine wp_zreturn dX4_comesAgain_23 rfl (Or.inl rfl) ?_
        exact ⟨by rw [l_X4_comesAgain_3, if_neg c8_1, if_pos c19_2], rfl⟩
def f_X4_comesAgain (σ : Mem) (a : Int32) : Int32 := (l_X4_comesAgain_3 (fu 41) a 20 σ)
theorem s_X4_comesAgain (X : Amb) (σ : Mem) (a : Int32) (ha : 0 ≤ a) (hs : a ≤ 1000) : SpW X mX4_comesAgain [.ref (adr X 17), .int a] σ (.int (f_X4_comesAgain σ a)) σ := by
  refine sp_of (by decide +kernel) rfl ?_
  show WP X mX4_comesAgain 0 [(0, .ref (adr X 17)), (1, .int a)] [] σ _
  refine wp_bipush dX4_comesAgain_0 bp_20 ?_
  refine wp_istore_n (L' := [(2, _), (0, _), (1, _)]) dX4_comesAgain_2 rfl rfl ?_
  refine wp_drop [1, 2, 0] rfl ?_
  rw [show f_X4_comesAgain σ a = (l_X4_comesAgain_3 (fu 41) a 20 σ) from rfl]
  exact lt_X4_comesAgain_3 X  (fu 41) a 20 σ (fu_lt (by decide)) ha hs (by decide) (by decide)
theorem nn1 {m : Int32} (h : ¬ m < 1) : ¬ m < 0 := by
  rw [Int32.lt_iff_toInt_lt] at *; rw [Int32.toInt_zero]; rw [show (1 : Int32).toInt = 1 by decide] at h; omega
theorem vinm {m B : Int32} (n : Nat) (hn : n < 2 ^ 31) (hB : B = Int32.ofNat n) (h : ¬ m < 1) (h1 : ¬ B ≤ m) : vp_in (m - 1) n := by
  rw [Int32.le_iff_toInt_le, hB, show (Int32.ofNat n).toInt = (n : Int) from nI_toInt hn] at h1
  rw [Int32.lt_iff_toInt_lt, show (1 : Int32).toInt = 1 by decide] at h
  have e : (m - 1).toInt = m.toInt - 1 := by
    rw [Int32.toInt_sub, show (1 : Int32).toInt = 1 by decide]; rw [Int.bmod_eq_of_le] <;> omega
  rw [vp_in_iff, e]; omega
def f_X4_byRule (σ : Mem) (e ow ot : Nat) (a : Int32) : Int32 := if (a - (f_X3_at σ e 0 1 3 2)) < 0 then (f_X3_at σ e 0 1 3 0) else if 40 ≤ (a - (f_X3_at σ e 0 1 3 2)) then (f_X3_at σ e 0 1 3 0) else if a < 1 then (f_X3_at σ e 0 1 3 0) else if a < 40 then if (f_X3_at σ e 0 1 3 1) = 1 then (if 0 < (if 999 < ((σ 20 (a.toNatClampNeg)) - (σ ot ((a - (f_X3_at σ e 0 1 3 2)).toNatClampNeg))) then 999 else ((σ 20 (a.toNatClampNeg)) - (σ ot ((a - (f_X3_at σ e 0 1 3 2)).toNatClampNeg)))) then (if 999 < ((σ 20 (a.toNatClampNeg)) - (σ ot ((a - (f_X3_at σ e 0 1 3 2)).toNatClampNeg))) then 999 else ((σ 20 (a.toNatClampNeg)) - (σ ot ((a - (f_X3_at σ e 0 1 3 2)).toNatClampNeg)))) else 0) else if (f_X3_at σ e 0 1 3 1) = 2 then (σ ot ((a - (f_X3_at σ e 0 1 3 2)).toNatClampNeg)) else if (f_X3_at σ e 0 1 3 1) = 3 then (((σ ow ((a - 1).toNatClampNeg)) + (if 0 < (if 999 < ((σ 20 (a.toNatClampNeg)) - (σ ot ((a - (f_X3_at σ e 0 1 3 2)).toNatClampNeg))) then 999 else ((σ 20 (a.toNatClampNeg)) - (σ ot ((a - (f_X3_at σ e 0 1 3 2)).toNatClampNeg)))) then (if 999 < ((σ 20 (a.toNatClampNeg)) - (σ ot ((a - (f_X3_at σ e 0 1 3 2)).toNatClampNeg))) then 999 else ((σ 20 (a.toNatClampNeg)) - (σ ot ((a - (f_X3_at σ e 0 1 3 2)).toNatClampNeg)))) else 0)) / 2) else (f_X3_at σ e 0 1 3 0) else (f_X3_at σ e 0 1 3 0)
theorem s_X4_byRule (X : Amb) (σ : Mem) (e ow ot : Nat) (a : Int32) (he : Dl e 0 1 3) (ho : shC[ow]? = some (.inr (0, 40))) (ht : shC[ot]? = some (.inr (0, 40))) : SpW X mX4_byRule [.ref (adr X 17), .ref (adr X e), .int a, .ref (adr X ow), .ref (adr X ot)] σ (.int (f_X4_byRule σ e ow ot a)) σ := by
  refine sp_of (by decide +kernel) rfl ?_
  show WP X mX4_byRule 0 [(0, .ref (adr X 17)), (1, .ref (adr X e)), (2, .int a), (3, .ref (adr X ow)), (4, .ref (adr X ot))] [] σ _
  refine wp_iload_n dX4_byRule_0 2 rfl ?_
  refine wp_aload_n dX4_byRule_1 1 rfl ?_
  refine wp_iconst dX4_byRule_2 ic_2 ?_
  refine wp_cV1w (N := mX3_at) dX4_byRule_3 tmX4_49 okX3_at rfl he.s rfl rfl rfl rfl rfl rfl (s_X3_at X _ e 0 1 3 _ he) ?_
  refine wp_isub dX4_byRule_6 ?_
  refine wp_istore (L' := [(5, _), (0, _), (1, _), (2, _), (3, _), (4, _)]) dX4_byRule_7 rfl rfl ?_
  refine wp_iload dX4_byRule_9 0 rfl ?_
  refine wp_if_lt 33 dX4_byRule_11 (by decide) (fun c11_1 => ?_) (fun c11_1 => ?_)
  · refine wp_aload_n dX4_byRule_33 2 rfl ?_
    refine wp_iconst dX4_byRule_34 ic_0 ?_
    refine wp_cV1w (N := mX3_at) dX4_byRule_35 tmX4_49 okX3_at rfl he.s rfl rfl rfl rfl rfl rfl (s_X3_at X _ e 0 1 3 _ he) ?_
    refine wp_ireturn dX4_byRule_38 rfl ?_
    exact ⟨by unfold f_X4_byRule; rw [if_pos c11_1], rfl⟩
  · refine wp_iload dX4_byRule_14 0 rfl ?_
    refine wp_aload dX4_byRule_16 5 rfl ?_
    refine wp_alen (v := 40) dX4_byRule_18 ht (Or.inl rfl) rfl ?_
    refine wp_icmp_ge 33 dX4_byRule_19 (by decide) (fun c19_2 => ?_) (fun c19_2 => ?_)
    · refine wp_aload_n dX4_byRule_33 2 rfl ?_
      refine wp_iconst dX4_byRule_34 ic_0 ?_
      refine wp_cV1w (N := mX3_at) dX4_byRule_35 tmX4_49 okX3_at rfl he.s rfl rfl rfl rfl rfl rfl (s_X3_at X _ e 0 1 3 _ he) ?_
      refine wp_ireturn dX4_byRule_38 rfl ?_
      exact ⟨by unfold f_X4_byRule; rw [if_neg c11_1, if_pos c19_2], rfl⟩
    · refine wp_iload_n dX4_byRule_22 3 rfl ?_
      refine wp_iconst dX4_byRule_23 ic_1 ?_
      refine wp_icmp_lt 33 dX4_byRule_24 (by decide) (fun c24_3 => ?_) (fun c24_3 => ?_)
      · refine wp_aload_n dX4_byRule_33 2 rfl ?_
        refine wp_iconst dX4_byRule_34 ic_0 ?_
        refine wp_cV1w (N := mX3_at) dX4_byRule_35 tmX4_49 okX3_at rfl he.s rfl rfl rfl rfl rfl rfl (s_X3_at X _ e 0 1 3 _ he) ?_
        refine wp_ireturn dX4_byRule_38 rfl ?_
        exact ⟨by unfold f_X4_byRule; rw [if_neg c11_1, if_neg c19_2, if_pos c24_3], rfl⟩
      · refine wp_iload_n dX4_byRule_27 3 rfl ?_
        refine wp_aload_n dX4_byRule_28 4 rfl ?_
        refine wp_alen (v := 40) dX4_byRule_29 ho (Or.inl rfl) rfl ?_
        refine wp_icmp_lt 39 dX4_byRule_30 (by decide) (fun c30_4 => ?_) (fun c30_4 => ?_)
        · refine wp_iconst dX4_byRule_39 ic_0 ?_
          refine wp_aload_n dX4_byRule_40 1 rfl ?_
          refine wp_getR dX4_byRule_41 faX4_18 rfl rfl ?_
          refine wp_iload_n dX4_byRule_44 3 rfl ?_
          refine wp_iald dX4_byRule_45 rfl (vin 40 (by decide) rfl (nn1 c24_3) (nle_of_lt c30_4)) ?_
          refine wp_aload dX4_byRule_46 5 rfl ?_
          refine wp_iload dX4_byRule_48 0 rfl ?_
          refine wp_iald dX4_byRule_50 ht (vin 40 (by decide) rfl c11_1 c19_2) ?_
          refine wp_isub dX4_byRule_51 ?_
          refine wp_sipush dX4_byRule_52 sp_999 ?_
          refine wp_mmin dX4_byRule_55 tnX4_41 rfl rfl ?_
          refine wp_mmax dX4_byRule_58 tnX4_46 rfl rfl ?_
          refine wp_istore (L' := [(6, _), (5, _), (0, _), (1, _), (2, _), (3, _), (4, _)]) dX4_byRule_61 rfl rfl ?_
          refine wp_aload_n dX4_byRule_63 3 rfl ?_
          refine wp_iconst dX4_byRule_64 ic_1 ?_
          refine wp_cV1w (N := mX3_at) dX4_byRule_65 tmX4_49 okX3_at rfl he.s rfl rfl rfl rfl rfl rfl (s_X3_at X _ e 0 1 3 _ he) ?_
          by_cases t68_1 : (f_X3_at σ e 0 1 3 1) = 1
          · refine wp_tableIn 96 dX4_byRule_68 (by rw [t68_1]; decide) (by rw [t68_1]; decide) (by rw [t68_1]; rfl) (by decide) ?_
            refine wp_iload dX4_byRule_96 0 rfl ?_
            refine wp_ireturn dX4_byRule_98 rfl ?_
            exact ⟨by unfold f_X4_byRule; rw [if_neg c11_1, if_neg c19_2, if_neg c24_3, if_pos c30_4, if_pos t68_1], rfl⟩
          · by_cases t68_2 : (f_X3_at σ e 0 1 3 1) = 2
            · refine wp_tableIn 99 dX4_byRule_68 (by rw [t68_2]; decide) (by rw [t68_2]; decide) (by rw [t68_2]; rfl) (by decide) ?_
              refine wp_aload dX4_byRule_99 6 rfl ?_
              refine wp_iload dX4_byRule_101 1 rfl ?_
              refine wp_iald dX4_byRule_103 ht (vin 40 (by decide) rfl c11_1 c19_2) ?_
              refine wp_ireturn dX4_byRule_104 rfl ?_
              exact ⟨by unfold f_X4_byRule; rw [if_neg c11_1, if_neg c19_2, if_neg c24_3, if_pos c30_4, if_neg t68_1, if_pos t68_2], rfl⟩
            · by_cases t68_3 : (f_X3_at σ e 0 1 3 1) = 3
              · refine wp_tableIn 105 dX4_byRule_68 (by rw [t68_3]; decide) (by rw [t68_3]; decide) (by rw [t68_3]; rfl) (by decide) ?_
                refine wp_aload_n dX4_byRule_105 5 rfl ?_
                refine wp_iload_n dX4_byRule_106 4 rfl ?_
                refine wp_iconst dX4_byRule_107 ic_1 ?_
                refine wp_isub dX4_byRule_108 ?_
                refine wp_iald dX4_byRule_109 ho (vinm 40 (by decide) rfl c24_3 (nle_of_lt c30_4)) ?_
                refine wp_iload dX4_byRule_110 0 rfl ?_
                refine wp_iadd dX4_byRule_112 ?_
                refine wp_iconst dX4_byRule_113 ic_2 ?_
                refine wp_idiv dX4_byRule_114 (by decide) ?_
                refine wp_ireturn dX4_byRule_115 rfl ?_
                exact ⟨by unfold f_X4_byRule; rw [if_neg c11_1, if_neg c19_2, if_neg c24_3, if_pos c30_4, if_neg t68_1, if_neg t68_2, if_pos t68_3], rfl⟩
              · refine wp_tableOut 116 dX4_byRule_68 (by have e1 : ((f_X3_at σ e 0 1 3 1)).toInt ≠ 1 := fun q => t68_1 (Int32.toInt_inj.mp (by rw [q]; decide)); have e2 : ((f_X3_at σ e 0 1 3 1)).toInt ≠ 2 := fun q => t68_2 (Int32.toInt_inj.mp (by rw [q]; decide)); have e3 : ((f_X3_at σ e 0 1 3 1)).toInt ≠ 3 := fun q => t68_3 (Int32.toInt_inj.mp (by rw [q]; decide)); omega) (by decide) ?_
                refine wp_aload_n dX4_byRule_116 3 rfl ?_
                refine wp_iconst dX4_byRule_117 ic_0 ?_
                refine wp_cV1w (N := mX3_at) dX4_byRule_118 tmX4_49 okX3_at rfl he.s rfl rfl rfl rfl rfl rfl (s_X3_at X _ e 0 1 3 _ he) ?_
                refine wp_ireturn dX4_byRule_121 rfl ?_
                exact ⟨by unfold f_X4_byRule; rw [if_neg c11_1, if_neg c19_2, if_neg c24_3, if_pos c30_4, if_neg t68_1, if_neg t68_2, if_neg t68_3], rfl⟩
        · refine wp_aload_n dX4_byRule_33 2 rfl ?_
          refine wp_iconst dX4_byRule_34 ic_0 ?_
          refine wp_cV1w (N := mX3_at) dX4_byRule_35 tmX4_49 okX3_at rfl he.s rfl rfl rfl rfl rfl rfl (s_X3_at X _ e 0 1 3 _ he) ?_
          refine wp_ireturn dX4_byRule_38 rfl ?_
          exact ⟨by unfold f_X4_byRule; rw [if_neg c11_1, if_neg c19_2, if_neg c24_3, if_neg c30_4], rfl⟩
def l_X4_run_10 : Nat → Int32 → Int32 → Int32 → Int32 → Int32 → Mem → Mem
  | 0, _, _, _, _, _, σ => σ
  | n + 1, a, b, c, d, g, σ => if 40 ≤ g then σ else (l_X4_run_10 n a b (f_X4_nextSpeed (mst (mst (mst (mst (mst σ 21 (g.toNatClampNeg) c) 22 (g.toNatClampNeg) d) 20 (g.toNatClampNeg) ((f_X6_steepAt (mst (mst σ 21 (g.toNatClampNeg) c) 22 (g.toNatClampNeg) d) (d / 10)) * a)) 18 (g.toNatClampNeg) (f_X4_byRule (mst (mst (mst σ 21 (g.toNatClampNeg) c) 22 (g.toNatClampNeg) d) 20 (g.toNatClampNeg) ((f_X6_steepAt (mst (mst σ 21 (g.toNatClampNeg) c) 22 (g.toNatClampNeg) d) (d / 10)) * a)) 11 18 19 g)) 19 (g.toNatClampNeg) (f_X4_byRule (mst (mst (mst (mst σ 21 (g.toNatClampNeg) c) 22 (g.toNatClampNeg) d) 20 (g.toNatClampNeg) ((f_X6_steepAt (mst (mst σ 21 (g.toNatClampNeg) c) 22 (g.toNatClampNeg) d) (d / 10)) * a)) 18 (g.toNatClampNeg) (f_X4_byRule (mst (mst (mst σ 21 (g.toNatClampNeg) c) 22 (g.toNatClampNeg) d) 20 (g.toNatClampNeg) ((f_X6_steepAt (mst (mst σ 21 (g.toNatClampNeg) c) 22 (g.toNatClampNeg) d) (d / 10)) * a)) 11 18 19 g)) 13 19 18 g)) c (((f_X4_byRule (mst (mst (mst σ 21 (g.toNatClampNeg) c) 22 (g.toNatClampNeg) d) 20 (g.toNatClampNeg) ((f_X6_steepAt (mst (mst σ 21 (g.toNatClampNeg) c) 22 (g.toNatClampNeg) d) (d / 10)) * a)) 11 18 19 g) + (f_X4_byRule (mst (mst (mst (mst σ 21 (g.toNatClampNeg) c) 22 (g.toNatClampNeg) d) 20 (g.toNatClampNeg) ((f_X6_steepAt (mst (mst σ 21 (g.toNatClampNeg) c) 22 (g.toNatClampNeg) d) (d / 10)) * a)) 18 (g.toNatClampNeg) (f_X4_byRule (mst (mst (mst σ 21 (g.toNatClampNeg) c) 22 (g.toNatClampNeg) d) 20 (g.toNatClampNeg) ((f_X6_steepAt (mst (mst σ 21 (g.toNatClampNeg) c) 22 (g.toNatClampNeg) d) (d / 10)) * a)) 11 18 19 g)) 13 19 18 g)) - ((f_X6_steepAt (mst (mst σ 21 (g.toNatClampNeg) c) 22 (g.toNatClampNeg) d) (d / 10)) * a))) (d + c) (g + 1) (mst (mst (mst (mst (mst σ 21 (g.toNatClampNeg) c) 22 (g.toNatClampNeg) d) 20 (g.toNatClampNeg) ((f_X6_steepAt (mst (mst σ 21 (g.toNatClampNeg) c) 22 (g.toNatClampNeg) d) (d / 10)) * a)) 18 (g.toNatClampNeg) (f_X4_byRule (mst (mst (mst σ 21 (g.toNatClampNeg) c) 22 (g.toNatClampNeg) d) 20 (g.toNatClampNeg) ((f_X6_steepAt (mst (mst σ 21 (g.toNatClampNeg) c) 22 (g.toNatClampNeg) d) (d / 10)) * a)) 11 18 19 g)) 19 (g.toNatClampNeg) (f_X4_byRule (mst (mst (mst (mst σ 21 (g.toNatClampNeg) c) 22 (g.toNatClampNeg) d) 20 (g.toNatClampNeg) ((f_X6_steepAt (mst (mst σ 21 (g.toNatClampNeg) c) 22 (g.toNatClampNeg) d) (d / 10)) * a)) 18 (g.toNatClampNeg) (f_X4_byRule (mst (mst (mst σ 21 (g.toNatClampNeg) c) 22 (g.toNatClampNeg) d) 20 (g.toNatClampNeg) ((f_X6_steepAt (mst (mst σ 21 (g.toNatClampNeg) c) 22 (g.toNatClampNeg) d) (d / 10)) * a)) 11 18 19 g)) 13 19 18 g)))
theorem lt_X4_run_10 (X : Amb) : ∀ (n : Nat) (a : Int32) (b : Int32) (c : Int32) (d : Int32) (g : Int32) (σ : Mem), ((40 : Int32).toInt - g.toInt).toNat < n → ¬ g < 0 → WP X mX4_run 10 [(0, .ref (adr X 17)), (1, .int a), (2, .ref (adr X 8)), (3, .ref (adr X 11)), (4, .ref (adr X 13)), (5, .int b), (6, .int c), (7, .int d), (8, .int g)] [] σ (fun v σ' => v = none ∧ σ' = l_X4_run_10 n a b c d g σ) := by
  intro n
  induction n with
  | zero => intro a b c d g σ hm; exact absurd hm (Nat.not_lt_zero _)
  | succ n ih =>
    intro a b c d g σ hm h0
    refine wp_iload dX4_run_10 8 rfl ?_
    refine wp_bipush dX4_run_12 bp_40 ?_
    refine wp_icmp_ge 141 dX4_run_14 (by decide) (fun c14_1 => ?_) (fun c14_1 => ?_)
    · refine wp_return dX4_run_141 rfl ?_
      exact ⟨rfl, by rw [l_X4_run_10, if_pos c14_1]⟩
    · refine wp_aload_n dX4_run_17 0 rfl ?_
      refine wp_getR dX4_run_18 faX4_21 rfl rfl ?_
      refine wp_iload dX4_run_21 8 rfl ?_
      refine wp_iload dX4_run_23 6 rfl ?_
      refine wp_iast dX4_run_25 rfl (vin 40 (by decide) rfl h0 c14_1) ?_
      refine wp_aload_n dX4_run_26 0 rfl ?_
      refine wp_getR dX4_run_27 faX4_24 rfl rfl ?_
      refine wp_iload dX4_run_30 8 rfl ?_
      refine wp_iload dX4_run_32 7 rfl ?_
      refine wp_iast dX4_run_34 rfl (vin 40 (by decide) rfl h0 c14_1) ?_
      refine wp_aload_n dX4_run_35 0 rfl ?_
      refine wp_getR dX4_run_36 faX4_18 rfl rfl ?_
      refine wp_iload dX4_run_39 8 rfl ?_
      refine wp_aload_n dX4_run_41 2 rfl ?_
      refine wp_iload dX4_run_42 7 rfl ?_
      refine wp_bipush dX4_run_44 bp_10 ?_
      refine wp_idiv dX4_run_46 (by decide) ?_
      refine wp_cV1w (N := mX6_steepAt) dX4_run_47 tmX4_27 okX6_steepAt rfl rfl rfl rfl rfl rfl rfl rfl (s_X6_steepAt X _ _) ?_
      refine wp_iload_n dX4_run_50 1 rfl ?_
      refine wp_imul dX4_run_51 ?_
      refine wp_iast dX4_run_52 rfl (vin 40 (by decide) rfl h0 c14_1) ?_
      refine wp_aload_n dX4_run_53 0 rfl ?_
      refine wp_getR dX4_run_54 faX4_9 rfl rfl ?_
      refine wp_iload dX4_run_57 8 rfl ?_
      refine wp_aload_n dX4_run_59 0 rfl ?_
      refine wp_aload_n dX4_run_60 3 rfl ?_
      refine wp_iload dX4_run_61 8 rfl ?_
      refine wp_aload_n dX4_run_63 0 rfl ?_
      refine wp_getR dX4_run_64 faX4_9 rfl rfl ?_
      refine wp_aload_n dX4_run_67 0 rfl ?_
      refine wp_getR dX4_run_68 faX4_15 rfl rfl ?_
      refine wp_cV4w (N := mX4_byRule) dX4_run_71 tmX4_33 okX4_byRule rfl rfl rfl rfl rfl rfl rfl rfl (s_X4_byRule X _ 11 18 19 _ dl11 rfl rfl) ?_
      refine wp_iast dX4_run_74 rfl (vin 40 (by decide) rfl h0 c14_1) ?_
      refine wp_aload_n dX4_run_75 0 rfl ?_
      refine wp_getR dX4_run_76 faX4_15 rfl rfl ?_
      refine wp_iload dX4_run_79 8 rfl ?_
      refine wp_aload_n dX4_run_81 0 rfl ?_
      refine wp_aload dX4_run_82 4 rfl ?_
      refine wp_iload dX4_run_84 8 rfl ?_
      refine wp_aload_n dX4_run_86 0 rfl ?_
      refine wp_getR dX4_run_87 faX4_15 rfl rfl ?_
      refine wp_aload_n dX4_run_90 0 rfl ?_
      refine wp_getR dX4_run_91 faX4_9 rfl rfl ?_
      refine wp_cV4w (N := mX4_byRule) dX4_run_94 tmX4_33 okX4_byRule rfl rfl rfl rfl rfl rfl rfl rfl (s_X4_byRule X _ 13 19 18 _ dl13 rfl rfl) ?_
      refine wp_iast dX4_run_97 rfl (vin 40 (by decide) rfl h0 c14_1) ?_
      refine wp_iload dX4_run_98 7 rfl ?_
      refine wp_iload dX4_run_100 6 rfl ?_
      refine wp_iadd dX4_run_102 ?_
      refine wp_istore (L' := [(7, _), (0, _), (1, _), (2, _), (3, _), (4, _), (5, _), (6, _), (8, _)]) dX4_run_103 rfl rfl ?_
      refine wp_iload dX4_run_105 7 rfl ?_
      refine wp_aload_n dX4_run_107 1 rfl ?_
      refine wp_getR dX4_run_108 faX4_9 rfl rfl ?_
      refine wp_iload dX4_run_111 8 rfl ?_
      refine wp_iald dX4_run_113 rfl (vin 40 (by decide) rfl h0 c14_1) ?_
      refine wp_topi (y := (f_X4_byRule (mst (mst (mst σ 21 (g.toNatClampNeg) c) 22 (g.toNatClampNeg) d) 20 (g.toNatClampNeg) ((f_X6_steepAt (mst (mst σ 21 (g.toNatClampNeg) c) 22 (g.toNatClampNeg) d) (d / 10)) * a)) 11 18 19 g)) (by simp [mst, upd]) ?_
      refine wp_aload_n dX4_run_114 1 rfl ?_
      refine wp_getR dX4_run_115 faX4_15 rfl rfl ?_
      refine wp_iload dX4_run_118 8 rfl ?_
      refine wp_iald dX4_run_120 rfl (vin 40 (by decide) rfl h0 c14_1) ?_
      refine wp_topi (y := (f_X4_byRule (mst (mst (mst (mst σ 21 (g.toNatClampNeg) c) 22 (g.toNatClampNeg) d) 20 (g.toNatClampNeg) ((f_X6_steepAt (mst (mst σ 21 (g.toNatClampNeg) c) 22 (g.toNatClampNeg) d) (d / 10)) * a)) 18 (g.toNatClampNeg) (f_X4_byRule (mst (mst (mst σ 21 (g.toNatClampNeg) c) 22 (g.toNatClampNeg) d) 20 (g.toNatClampNeg) ((f_X6_steepAt (mst (mst σ 21 (g.toNatClampNeg) c) 22 (g.toNatClampNeg) d) (d / 10)) * a)) 11 18 19 g)) 13 19 18 g)) (by simp [mst, upd]) ?_
      refine wp_iadd dX4_run_121 ?_
      refine wp_aload_n dX4_run_122 1 rfl ?_
      refine wp_getR dX4_run_123 faX4_18 rfl rfl ?_
      refine wp_iload dX4_run_126 8 rfl ?_
      refine wp_iald dX4_run_128 rfl (vin 40 (by decide) rfl h0 c14_1) ?_
      refine wp_topi (y := ((f_X6_steepAt (mst (mst σ 21 (g.toNatClampNeg) c) 22 (g.toNatClampNeg) d) (d / 10)) * a)) (by simp [mst, upd]) ?_
      refine wp_isub dX4_run_129 ?_
      refine wp_cS2w (N := mX4_nextSpeed) dX4_run_130 tmX4_37 okX4_nextSpeed rfl rfl rfl rfl (s_X4_nextSpeed X _ _ _) ?_
      refine wp_istore (L' := [(6, _), (7, _), (0, _), (1, _), (2, _), (3, _), (4, _), (5, _), (8, _)]) dX4_run_133 rfl rfl ?_
      refine wp_iinc (L' := [(8, _), (6, _), (7, _), (0, _), (1, _), (2, _), (3, _), (4, _), (5, _)]) dX4_run_135 rfl 8 rfl (ii_1 _) rfl ?_
      refine wp_goto 10 dX4_run_138 (by decide) ?_
      refine wp_drop [3, 4, 5, 6, 7, 8, 1, 2, 0] rfl ?_
      rw [show l_X4_run_10 (n + 1) a b c d g σ = (l_X4_run_10 n a b (f_X4_nextSpeed (mst (mst (mst (mst (mst σ 21 (g.toNatClampNeg) c) 22 (g.toNatClampNeg) d) 20 (g.toNatClampNeg) ((f_X6_steepAt (mst (mst σ 21 (g.toNatClampNeg) c) 22 (g.toNatClampNeg) d) (d / 10)) * a)) 18 (g.toNatClampNeg) (f_X4_byRule (mst (mst (mst σ 21 (g.toNatClampNeg) c) 22 (g.toNatClampNeg) d) 20 (g.toNatClampNeg) ((f_X6_steepAt (mst (mst σ 21 (g.toNatClampNeg) c) 22 (g.toNatClampNeg) d) (d / 10)) * a)) 11 18 19 g)) 19 (g.toNatClampNeg) (f_X4_byRule (mst (mst (mst (mst σ 21 (g.toNatClampNeg) c) 22 (g.toNatClampNeg) d) 20 (g.toNatClampNeg) ((f_X6_steepAt (mst (mst σ 21 (g.toNatClampNeg) c) 22 (g.toNatClampNeg) d) (d / 10)) * a)) 18 (g.toNatClampNeg) (f_X4_byRule (mst (mst (mst σ 21 (g.toNatClampNeg) c) 22 (g.toNatClampNeg) d) 20 (g.toNatClampNeg) ((f_X6_steepAt (mst (mst σ 21 (g.toNatClampNeg) c) 22 (g.toNatClampNeg) d) (d / 10)) * a)) 11 18 19 g)) 13 19 18 g)) c (((f_X4_byRule (mst (mst (mst σ 21 (g.toNatClampNeg) c) 22 (g.toNatClampNeg) d) 20 (g.toNatClampNeg) ((f_X6_steepAt (mst (mst σ 21 (g.toNatClampNeg) c) 22 (g.toNatClampNeg) d) (d / 10)) * a)) 11 18 19 g) + (f_X4_byRule (mst (mst (mst (mst σ 21 (g.toNatClampNeg) c) 22 (g.toNatClampNeg) d) 20 (g.toNatClampNeg) ((f_X6_steepAt (mst (mst σ 21 (g.toNatClampNeg) c) 22 (g.toNatClampNeg) d) (d / 10)) * a)) 18 (g.toNatClampNeg) (f_X4_byRule (mst (mst (mst σ 21 (g.toNatClampNeg) c) 22 (g.toNatClampNeg) d) 20 (g.toNatClampNeg) ((f_X6_steepAt (mst (mst σ 21 (g.toNatClampNeg) c) 22 (g.toNatClampNeg) d) (d / 10)) * a)) 11 18 19 g)) 13 19 18 g)) - ((f_X6_steepAt (mst (mst σ 21 (g.toNatClampNeg) c) 22 (g.toNatClampNeg) d) (d / 10)) * a))) (d + c) (g + 1) (mst (mst (mst (mst (mst σ 21 (g.toNatClampNeg) c) 22 (g.toNatClampNeg) d) 20 (g.toNatClampNeg) ((f_X6_steepAt (mst (mst σ 21 (g.toNatClampNeg) c) 22 (g.toNatClampNeg) d) (d / 10)) * a)) 18 (g.toNatClampNeg) (f_X4_byRule (mst (mst (mst σ 21 (g.toNatClampNeg) c) 22 (g.toNatClampNeg) d) 20 (g.toNatClampNeg) ((f_X6_steepAt (mst (mst σ 21 (g.toNatClampNeg) c) 22 (g.toNatClampNeg) d) (d / 10)) * a)) 11 18 19 g)) 19 (g.toNatClampNeg) (f_X4_byRule (mst (mst (mst (mst σ 21 (g.toNatClampNeg) c) 22 (g.toNatClampNeg) d) 20 (g.toNatClampNeg) ((f_X6_steepAt (mst (mst σ 21 (g.toNatClampNeg) c) 22 (g.toNatClampNeg) d) (d / 10)) * a)) 18 (g.toNatClampNeg) (f_X4_byRule (mst (mst (mst σ 21 (g.toNatClampNeg) c) 22 (g.toNatClampNeg) d) 20 (g.toNatClampNeg) ((f_X6_steepAt (mst (mst σ 21 (g.toNatClampNeg) c) 22 (g.toNatClampNeg) d) (d / 10)) * a)) 11 18 19 g)) 13 19 18 g))) from by rw [l_X4_run_10, if_neg c14_1]]
      exact ih _ _ _ _ _ _ (cnt_up c14_1 hm) (nn_inc' h0 c14_1)
def f_X4_run (σ : Mem) (a : Int32) (b : Int32) : Mem := (l_X4_run_10 (fu 41) a b b 0 0 σ)
theorem s_X4_run (X : Amb) (σ : Mem) (a : Int32) (b : Int32) : SpV X mX4_run [.ref (adr X 17), .int a, .ref (adr X 8), .ref (adr X 11), .ref (adr X 13), .int b] σ (f_X4_run σ a b) := by
  refine sp_of (by decide +kernel) rfl ?_
  show WP X mX4_run 0 [(0, .ref (adr X 17)), (1, .int a), (2, .ref (adr X 8)), (3, .ref (adr X 11)), (4, .ref (adr X 13)), (5, .int b)] [] σ _
  refine wp_iload dX4_run_0 5 rfl ?_
  refine wp_istore (L' := [(6, _), (0, _), (1, _), (2, _), (3, _), (4, _), (5, _)]) dX4_run_2 rfl rfl ?_
  refine wp_iconst dX4_run_4 ic_0 ?_
  refine wp_istore (L' := [(7, _), (6, _), (0, _), (1, _), (2, _), (3, _), (4, _), (5, _)]) dX4_run_5 rfl rfl ?_
  refine wp_iconst dX4_run_7 ic_0 ?_
  refine wp_istore (L' := [(8, _), (7, _), (6, _), (0, _), (1, _), (2, _), (3, _), (4, _), (5, _)]) dX4_run_8 rfl rfl ?_
  refine wp_drop [3, 4, 5, 6, 7, 8, 2, 1, 0] rfl ?_
  rw [show f_X4_run σ a b = (l_X4_run_10 (fu 41) a b b 0 0 σ) from rfl]
  exact lt_X4_run_10 X  (fu 41) a b b 0 0 σ (fu_lt (by decide)) nn0
end
