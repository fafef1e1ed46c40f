noncomputable section
theorem k_l_X0_weigh_16_23_2 : ∀ (n : Nat) (a : Int32) (b : Int32) (c : Int32) (d : Int32) (σ : Mem), (l_X0_weigh_16 n a b c d σ) 23 2 = σ 23 2 := by
  intro n
  induction n with
  | zero => intros; rfl
  | succ n ih =>
    intro a b c d σ
    rw [l_X0_weigh_16]
    (repeat' split) <;> simp [ih, mst, upd]
theorem k_X0_weigh_23_2 (σ : Mem) (a : Int32) (b : Int32) : (f_X0_weigh σ a b) 23 2 = σ 23 2 := by
  unfold f_X0_weigh
  (repeat' split) <;> simp [mst, upd, k_l_X0_weigh_16_23_2]
theorem k_X0_keep_23_2 (σ : Mem) : (f_X0_keep σ) 23 2 = σ 23 2 := by simp [f_X0_keep, mst, upd, mcp]
theorem k_l_X0_stepOn_104_23_2 : ∀ (n : Nat) (c : Int32) (d : Int32) (σ : Mem), (l_X0_stepOn_104 n c d σ).2 23 2 = σ 23 2 := by
  intro n
  induction n with
  | zero => intros; rfl
  | succ n ih =>
    intro c d σ
    rw [l_X0_stepOn_104]
    (repeat' split) <;> simp [ih, mst, upd, fr_X0_swap]
theorem k_l_X0_stepOn_60_23_2 : ∀ (n : Nat) (a : Int32) (b : Int32) (σ : Mem), (l_X0_stepOn_60 n a b σ).2 23 2 = σ 23 2 := by
  intro n
  induction n with
  | zero => intros; rfl
  | succ n ih =>
    intro a b σ
    rw [l_X0_stepOn_60]
    (repeat' split) <;> simp [ih, mst, upd, k_l_X0_stepOn_104_23_2, fr_X0_swap]
theorem k_l_X0_stepOn_7_23_2 : ∀ (n : Nat) (a : Int32) (σ : Mem), (l_X0_stepOn_7 n a σ).2 23 2 = σ 23 2 := by
  intro n
  induction n with
  | zero => intros; rfl
  | succ n ih =>
    intro a σ
    rw [l_X0_stepOn_7]
    (repeat' split) <;> simp [ih, mst, upd, k_l_X0_stepOn_60_23_2]
theorem k_X0_stepOn_23_2 (σ : Mem) : (f_X0_stepOn σ).2 23 2 = σ 23 2 := by
  unfold f_X0_stepOn
  (repeat' split) <;> simp [mst, upd, k_l_X0_stepOn_7_23_2]
def l_X0_find_22 : Nat → Int32 → Int32 → Int32 → Int32 → Mem → Mem
  | 0, _, _, _, _, σ => σ
  | n + 1, a, b, c, d, σ => if 720 ≤ d then σ else if c = 0 then σ else if d = 0 then (l_X0_find_22 n a b ((f_X0_stepOn (f_X0_keep (f_X0_weigh σ a b))).1) (d + 1) (f_X0_stepOn (f_X0_keep (f_X0_weigh σ a b))).2) else if (((f_X0_weigh σ a b) 23 5) * ((f_X0_weigh σ a b) 23 4)) ≤ (((f_X0_weigh σ a b) 23 3) * ((f_X0_weigh σ a b) 23 6)) then (l_X0_find_22 n a b ((f_X0_stepOn (f_X0_weigh σ a b)).1) (d + 1) (f_X0_stepOn (f_X0_weigh σ a b)).2) else (l_X0_find_22 n a b ((f_X0_stepOn (f_X0_keep (f_X0_weigh σ a b))).1) (d + 1) (f_X0_stepOn (f_X0_keep (f_X0_weigh σ a b))).2)
theorem lt_X0_find_22 (X : Amb) : ∀ (n : Nat) (a : Int32) (b : Int32) (c : Int32) (d : Int32) (σ : Mem), ((720 : Int32).toInt - d.toInt).toNat < n → σ 23 2 ≤ 6 → 0 ≤ σ 23 2 → WP X mX0_find 22 [(0, .ref (adr X 23)), (1, .ref (adr X 5)), (2, .int a), (3, .int b), (4, .int c), (5, .int d)] [] σ (fun v σ' => v = none ∧ σ' = l_X0_find_22 n a b c d σ) := by
  intro n
  induction n with
  | zero => intro a b c d σ hm; exact absurd hm (Nat.not_lt_zero _)
  | succ n ih =>
    intro a b c d σ hm hs hs0
    refine wp_iload dX0_find_22 5 rfl ?_
    refine wp_sipush dX0_find_24 sp_720 ?_
    refine wp_icmp_ge 84 dX0_find_27 (by decide) (fun c27_1 => ?_) (fun c27_1 => ?_)
    · refine wp_return dX0_find_84 rfl ?_
      exact ⟨rfl, by rw [l_X0_find_22, if_pos c27_1]⟩
    · refine wp_iload dX0_find_30 4 rfl ?_
      refine wp_if_eq 84 dX0_find_32 (by decide) (fun c32_2 => ?_) (fun c32_2 => ?_)
      · refine wp_return dX0_find_84 rfl ?_
        exact ⟨rfl, by rw [l_X0_find_22, if_neg c27_1, if_pos c32_2]⟩
      · refine wp_aload_n dX0_find_35 0 rfl ?_
        refine wp_aload_n dX0_find_36 1 rfl ?_
        refine wp_iload_n dX0_find_37 2 rfl ?_
        refine wp_iload_n dX0_find_38 3 rfl ?_
        refine wp_cV3v (N := mX0_weigh) dX0_find_39 tmX0_41 okX0_weigh rfl rfl rfl rfl rfl rfl rfl rfl (s_X0_weigh X _ _ _) ?_
        refine wp_iload dX0_find_42 5 rfl ?_
        refine wp_if_eq 68 dX0_find_44 (by decide) (fun c44_3 => ?_) (fun c44_3 => ?_)
        · refine wp_aload_n dX0_find_68 0 rfl ?_
          refine wp_cV0v (N := mX0_keep) dX0_find_69 tmX0_45 okX0_keep rfl rfl rfl rfl rfl rfl rfl rfl (s_X0_keep X _) ?_
          refine wp_aload_n dX0_find_72 0 rfl ?_
          refine wp_cV0w (N := mX0_stepOn) dX0_find_73 tmX0_48 okX0_stepOn rfl rfl rfl rfl rfl rfl rfl rfl (s_X0_stepOn X _ (by simp only [k_X0_weigh_23_2, k_X0_keep_23_2, k_X0_stepOn_23_2]; exact hs) (by simp only [k_X0_weigh_23_2, k_X0_keep_23_2, k_X0_stepOn_23_2]; exact hs0)) ?_
          refine wp_istore (L' := [(4, _), (0, _), (1, _), (2, _), (3, _), (5, _)]) dX0_find_76 rfl rfl ?_
          refine wp_iinc (L' := [(5, _), (4, _), (0, _), (1, _), (2, _), (3, _)]) dX0_find_78 rfl 5 rfl (ii_1 _) rfl ?_
          refine wp_goto 22 dX0_find_81 (by decide) ?_
          refine wp_drop [2, 3, 4, 5, 1, 0] rfl ?_
          rw [show l_X0_find_22 (n + 1) a b c d σ = (l_X0_find_22 n a b ((f_X0_stepOn (f_X0_keep (f_X0_weigh σ a b))).1) (d + 1) (f_X0_stepOn (f_X0_keep (f_X0_weigh σ a b))).2) from by rw [l_X0_find_22, if_neg c27_1, if_neg c32_2, if_pos c44_3]]
          exact ih _ _ _ _ _ (cnt_up c27_1 hm) (by simp only [k_X0_weigh_23_2, k_X0_keep_23_2, k_X0_stepOn_23_2]; exact hs) (by simp only [k_X0_weigh_23_2, k_X0_keep_23_2, k_X0_stepOn_23_2]; exact hs0)
        · refine wp_aload_n dX0_find_47 0 rfl ?_
          refine wp_getI dX0_find_48 faX0_22 rfl rfl ?_
          refine wp_aload_n dX0_find_51 0 rfl ?_
          refine wp_getI dX0_find_52 faX0_31 rfl rfl ?_
          refine wp_imul dX0_find_55 ?_
          refine wp_aload_n dX0_find_56 0 rfl ?_
          refine wp_getI dX0_find_57 faX0_28 rfl rfl ?_
          refine wp_aload_n dX0_find_60 0 rfl ?_
          refine wp_getI dX0_find_61 faX0_25 rfl rfl ?_
          refine wp_imul dX0_find_64 ?_
          refine wp_icmp_ge 72 dX0_find_65 (by decide) (fun c65_4 => ?_) (fun c65_4 => ?_)
          · refine wp_aload_n dX0_find_72 0 rfl ?_
            refine wp_cV0w (N := mX0_stepOn) dX0_find_73 tmX0_48 okX0_stepOn rfl rfl rfl rfl rfl rfl rfl rfl (s_X0_stepOn X _ (by simp only [k_X0_weigh_23_2, k_X0_keep_23_2, k_X0_stepOn_23_2]; exact hs) (by simp only [k_X0_weigh_23_2, k_X0_keep_23_2, k_X0_stepOn_23_2]; exact hs0)) ?_
            refine wp_istore (L' := [(4, _), (0, _), (1, _), (2, _), (3, _), (5, _)]) dX0_find_76 rfl rfl ?_
            refine wp_iinc (L' := [(5, _), (4, _), (0, _), (1, _), (2, _), (3, _)]) dX0_find_78 rfl 5 rfl (ii_1 _) rfl ?_
            refine wp_goto 22 dX0_find_81 (by decide) ?_
            refine wp_drop [2, 3, 4, 5, 1, 0] rfl ?_
            rw [show l_X0_find_22 (n + 1) a b c d σ = (l_X0_find_22 n a b ((f_X0_stepOn (f_X0_weigh σ a b)).1) (d + 1) (f_X0_stepOn (f_X0_weigh σ a b)).2) from by rw [l_X0_find_22, if_neg c27_1, if_neg c32_2, if_neg c44_3, if_pos c65_4]]
            exact ih _ _ _ _ _ (cnt_up c27_1 hm) (by simp only [k_X0_weigh_23_2, k_X0_keep_23_2, k_X0_stepOn_23_2]; exact hs) (by simp only [k_X0_weigh_23_2, k_X0_keep_23_2, k_X0_stepOn_23_2]; exact hs0)
          · refine wp_aload_n dX0_find_68 0 rfl ?_
            refine wp_cV0v (N := mX0_keep) dX0_find_69 tmX0_45 okX0_keep rfl rfl rfl rfl rfl rfl rfl rfl (s_X0_keep X _) ?_
            refine wp_aload_n dX0_find_72 0 rfl ?_
            refine wp_cV0w (N := mX0_stepOn) dX0_find_73 tmX0_48 okX0_stepOn rfl rfl rfl rfl rfl rfl rfl rfl (s_X0_stepOn X _ (by simp only [k_X0_weigh_23_2, k_X0_keep_23_2, k_X0_stepOn_23_2]; exact hs) (by simp only [k_X0_weigh_23_2, k_X0_keep_23_2, k_X0_stepOn_23_2]; exact hs0)) ?_
            refine wp_istore (L' := [(4, _), (0, _), (1, _), (2, _), (3, _), (5, _)]) dX0_find_76 rfl rfl ?_
            refine wp_iinc (L' := [(5, _), (4, _), (0, _), (1, _), (2, _), (3, _)]) dX0_find_78 rfl 5 rfl (ii_1 _) rfl ?_
            refine wp_goto 22 dX0_find_81 (by decide) ?_
            refine wp_drop [2, 3, 4, 5, 1, 0] rfl ?_
            rw [show l_X0_find_22 (n + 1) a b c d σ = (l_X0_find_22 n a b ((f_X0_stepOn (f_X0_keep (f_X0_weigh σ a b))).1) (d + 1) (f_X0_stepOn (f_X0_keep (f_X0_weigh σ a b))).2) from by rw [l_X0_find_22, if_neg c27_1, if_neg c32_2, if_neg c44_3, if_neg c65_4]]
            exact ih _ _ _ _ _ (cnt_up c27_1 hm) (by simp only [k_X0_weigh_23_2, k_X0_keep_23_2, k_X0_stepOn_23_2]; exact hs) (by simp only [k_X0_weigh_23_2, k_X0_keep_23_2, k_X0_stepOn_23_2]; exact hs0)
theorem lbegin_23_2 : ∀ (n : Nat) (c : Int32) (σ : Mem), (l_X0_begin_52 n c σ) 23 2 = σ 23 2 := by
  intro n
  induction n with
  | zero => intros; rfl
  | succ n ih => intro c σ; rw [l_X0_begin_52]; (repeat' split) <;> simp [ih, mst, upd]
theorem begin_size {σ : Mem} (h : 0 ≤ σ 5 2) : (f_X0_begin σ) 23 2 ≤ 6 ∧ 0 ≤ (f_X0_begin σ) 23 2 := by
  unfold f_X0_begin
  (repeat' split) <;> simp only [lbegin_23_2] <;> simp [mst, upd, f_X1_size] <;> (try simp [f_X1_size] at *) <;> (try constructor) <;> first | assumption | decide | (apply le_of_nlt; assumption)
def f_X0_find (σ : Mem) (a : Int32) (b : Int32) : Mem := if ((f_X0_begin σ) 23 2) ≤ 0 then (l_X0_find_22 (fu 721) a b 0 0 (f_X0_begin σ)) else (l_X0_find_22 (fu 721) a b 1 0 (f_X0_begin σ))
theorem s_X0_find (X : Amb) (σ : Mem) (a : Int32) (b : Int32) (hc : 0 ≤ σ 5 2) : SpV X mX0_find [.ref (adr X 23), .ref (adr X 5), .int a, .int b] σ (f_X0_find σ a b) := by
  refine sp_of (by decide +kernel) rfl ?_
  show WP X mX0_find 0 [(0, .ref (adr X 23)), (1, .ref (adr X 5)), (2, .int a), (3, .int b)] [] σ _
  refine wp_aload_n dX0_find_0 0 rfl ?_
  refine wp_aload_n dX0_find_1 1 rfl ?_
  refine wp_cV1v (N := mX0_begin) dX0_find_2 tmX0_37 okX0_begin rfl rfl rfl rfl rfl rfl rfl rfl (s_X0_begin X _) ?_
  refine wp_aload_n dX0_find_5 0 rfl ?_
  refine wp_getI dX0_find_6 faX0_18 rfl rfl ?_
  refine wp_if_le 16 dX0_find_9 (by decide) (fun c9_1 => ?_) (fun c9_1 => ?_)
  · refine wp_iconst dX0_find_16 ic_0 ?_
    refine wp_istore (L' := [(4, _), (0, _), (1, _), (2, _), (3, _)]) dX0_find_17 rfl rfl ?_
    refine wp_iconst dX0_find_19 ic_0 ?_
    refine wp_istore (L' := [(5, _), (4, _), (0, _), (1, _), (2, _), (3, _)]) dX0_find_20 rfl rfl ?_
    refine wp_drop [2, 3, 4, 5, 1, 0] rfl ?_
    rw [show f_X0_find σ a b = (l_X0_find_22 (fu 721) a b 0 0 (f_X0_begin σ)) from by unfold f_X0_find; rw [if_pos c9_1]]
    exact lt_X0_find_22 X  (fu 721) a b 0 0 (f_X0_begin σ) (fu_lt (by decide)) (begin_size hc).1 (begin_size hc).2
  · refine wp_iconst dX0_find_12 ic_1 ?_
    refine wp_goto 17 dX0_find_13 (by decide) ?_
    refine wp_istore (L' := [(4, _), (0, _), (1, _), (2, _), (3, _)]) dX0_find_17 rfl rfl ?_
    refine wp_iconst dX0_find_19 ic_0 ?_
    refine wp_istore (L' := [(5, _), (4, _), (0, _), (1, _), (2, _), (3, _)]) dX0_find_20 rfl rfl ?_
    refine wp_drop [2, 3, 4, 5, 1, 0] rfl ?_
    rw [show f_X0_find σ a b = (l_X0_find_22 (fu 721) a b 1 0 (f_X0_begin σ)) from by unfold f_X0_find; rw [if_neg c9_1]]
    exact lt_X0_find_22 X  (fu 721) a b 1 0 (f_X0_begin σ) (fu_lt (by decide)) (begin_size hc).1 (begin_size hc).2
def f_X2_size (σ : Mem) : Int32 := (σ 26 3)
theorem s_X2_size (X : Amb) (σ : Mem) : SpW X mX2_size [.ref (adr X 26)] σ (.int (f_X2_size σ)) σ := by
  refine sp_of (by decide +kernel) rfl ?_
  show WP X mX2_size 0 [(0, .ref (adr X 26))] [] σ _
  refine wp_aload_n dX2_size_0 0 rfl ?_
  refine wp_getI dX2_size_1 faX2_21 rfl rfl ?_
  refine wp_ireturn dX2_size_4 rfl ?_
  exact ⟨rfl, rfl⟩
def f_X2_isFull (σ : Mem) : Int32 := if (σ 26 3) < 12 then 0 else 1
theorem s_X2_isFull (X : Amb) (σ : Mem) : SpW X mX2_isFull [.ref (adr X 26)] σ (.int (f_X2_isFull σ)) σ := by
  refine sp_of (by decide +kernel) rfl ?_
  show WP X mX2_isFull 0 [(0, .ref (adr X 26))] [] σ _
  refine wp_aload_n dX2_isFull_0 0 rfl ?_
  refine wp_getI dX2_isFull_1 faX2_21 rfl rfl ?_
  refine wp_bipush dX2_isFull_4 bp_12 ?_
  refine wp_icmp_lt 13 dX2_isFull_6 (by decide) (fun c6_1 => ?_) (fun c6_1 => ?_)
  · refine wp_iconst dX2_isFull_13 ic_0 ?_
    refine wp_zreturn dX2_isFull_14 rfl (Or.inl rfl) ?_
    exact ⟨by unfold f_X2_isFull; rw [if_pos c6_1], rfl⟩
  · refine wp_iconst dX2_isFull_9 ic_1 ?_
    refine wp_goto 14 dX2_isFull_10 (by decide) ?_
    refine wp_zreturn dX2_isFull_14 rfl (Or.inr rfl) ?_
    exact ⟨by unfold f_X2_isFull; rw [if_neg c6_1], rfl⟩
theorem z_X2_isFull (σ : Mem) : (f_X2_isFull σ) = 0 ∨ (f_X2_isFull σ) = 1 := by
  unfold f_X2_isFull; (repeat' split) <;> first | exact Or.inl rfl | exact Or.inr rfl
def f_X2_waitedTogether (σ : Mem) : Int32 := (σ 26 4)
theorem s_X2_waitedTogether (X : Amb) (σ : Mem) : SpW X mX2_waitedTogether [.ref (adr X 26)] σ (.int (f_X2_waitedTogether σ)) σ := by
  refine sp_of (by decide +kernel) rfl ?_
  show WP X mX2_waitedTogether 0 [(0, .ref (adr X 26))] [] σ _
  refine wp_aload_n dX2_waitedTogether_0 0 rfl ?_
  refine wp_getI dX2_waitedTogether_1 faX2_25 rfl rfl ?_
  refine wp_ireturn dX2_waitedTogether_4 rfl ?_
  exact ⟨rfl, rfl⟩
def f_X2_waitedMost (σ : Mem) : Int32 := (σ 26 5)
theorem s_X2_waitedMost (X : Amb) (σ : Mem) : SpW X mX2_waitedMost [.ref (adr X 26)] σ (.int (f_X2_waitedMost σ)) σ := by
  refine sp_of (by decide +kernel) rfl ?_
  show WP X mX2_waitedMost 0 [(0, .ref (adr X 26))] [] σ _
  refine wp_aload_n dX2_waitedMost_0 0 rfl ?_
  refine wp_getI dX2_waitedMost_1 faX2_28 rfl rfl ?_
  refine wp_ireturn dX2_waitedMost_4 rfl ?_
  exact ⟨rfl, rfl⟩
def f_X2_tell (σ : Mem) (a : Int32) : Mem := if (σ 26 3) < 0 then σ else if 12 ≤ (σ 26 3) then σ else (mst (mst σ 27 ((σ 26 3).toNatClampNeg) a) 26 3 ((σ 26 3) + 1))
theorem s_X2_tell (X : Amb) (σ : Mem) (a : Int32) : SpV X mX2_tell [.ref (adr X 26), .int a] σ (f_X2_tell σ a) := by
  refine sp_of (by decide +kernel) rfl ?_
  show WP X mX2_tell 0 [(0, .ref (adr X 26)), (1, .int a)] [] σ _
  refine wp_aload_n dX2_tell_0 0 rfl ?_
  refine wp_getI dX2_tell_1 faX2_21 rfl rfl ?_
  refine wp_if_lt 36 dX2_tell_4 (by decide) (fun c4_1 => ?_) (fun c4_1 => ?_)
  · refine wp_return dX2_tell_36 rfl ?_
    exact ⟨rfl, by unfold f_X2_tell; rw [if_pos c4_1]⟩
  · refine wp_aload_n dX2_tell_7 0 rfl ?_
    refine wp_getI dX2_tell_8 faX2_21 rfl rfl ?_
    refine wp_bipush dX2_tell_11 bp_12 ?_
    refine wp_icmp_ge 36 dX2_tell_13 (by decide) (fun c13_2 => ?_) (fun c13_2 => ?_)
    · refine wp_return dX2_tell_36 rfl ?_
      exact ⟨rfl, by unfold f_X2_tell; rw [if_neg c4_1, if_pos c13_2]⟩
    · refine wp_aload_n dX2_tell_16 0 rfl ?_
      refine wp_getR dX2_tell_17 faX2_9 rfl rfl ?_
      refine wp_aload_n dX2_tell_20 0 rfl ?_
      refine wp_getI dX2_tell_21 faX2_21 rfl rfl ?_
      refine wp_iload_n dX2_tell_24 1 rfl ?_
      refine wp_iast dX2_tell_25 rfl (vin 12 (by decide) rfl c4_1 c13_2) ?_
      refine wp_aload_n dX2_tell_26 0 rfl ?_
      refine wp_dup dX2_tell_27 rfl ?_
      refine wp_getI dX2_tell_28 faX2_21 rfl rfl ?_
      refine wp_topi (y := (σ 26 3)) rfl ?_
      refine wp_iconst dX2_tell_31 ic_1 ?_
      refine wp_iadd dX2_tell_32 ?_
      refine wp_putI dX2_tell_33 fwX2_21 rfl rfl ?_
      refine wp_return dX2_tell_36 rfl ?_
      exact ⟨rfl, by unfold f_X2_tell; rw [if_neg c4_1, if_neg c13_2]⟩
def f_X2_forgetLast (σ : Mem) : Mem := (mst σ 26 3 (if 0 < ((σ 26 3) - 1) then ((σ 26 3) - 1) else 0))
theorem s_X2_forgetLast (X : Amb) (σ : Mem) : SpV X mX2_forgetLast [.ref (adr X 26)] σ (f_X2_forgetLast σ) := by
  refine sp_of (by decide +kernel) rfl ?_
  show WP X mX2_forgetLast 0 [(0, .ref (adr X 26))] [] σ _
  refine wp_aload_n dX2_forgetLast_0 0 rfl ?_
  refine wp_iconst dX2_forgetLast_1 ic_0 ?_
  refine wp_aload_n dX2_forgetLast_2 0 rfl ?_
  refine wp_getI dX2_forgetLast_3 faX2_21 rfl rfl ?_
  refine wp_iconst dX2_forgetLast_6 ic_1 ?_
  refine wp_isub dX2_forgetLast_7 ?_
  refine wp_mmax dX2_forgetLast_8 tnX2_31 rfl rfl ?_
  refine wp_putI dX2_forgetLast_11 fwX2_21 rfl rfl ?_
  refine wp_return dX2_forgetLast_14 rfl ?_
  exact ⟨rfl, rfl⟩
def l_X2_firstFree_4 : Nat → Int32 → Int32 → Int32 → Mem → Int32
  | 0, _, _, _, σ => 0
  | n + 1, a, b, c, σ => if a ≤ c then b else if 6 ≤ c then b else if (σ 29 (b.toNatClampNeg)) ≤ (σ 29 (c.toNatClampNeg)) then (l_X2_firstFree_4 n a b (c + 1) σ) else (l_X2_firstFree_4 n a c (c + 1) σ)
theorem lt_X2_firstFree_4 (X : Amb) : ∀ (n : Nat) (a : Int32) (b : Int32) (c : Int32) (σ : Mem), ((6 : Int32).toInt - c.toInt).toNat < n → ¬ c < 0 → vp_in b 6 → WP X mX2_firstFree 4 [(0, .ref (adr X 26)), (1, .int a), (2, .int b), (3, .int c)] [] σ (fun v σ' => v = some (.int (l_X2_firstFree_4 n a b c σ)) ∧ σ' = σ) := by
  intro n
  induction n with
  | zero => intro a b c σ hm; exact absurd hm (Nat.not_lt_zero _)
  | succ n ih =>
    intro a b c σ hm h0 hb
    refine wp_iload_n dX2_firstFree_4 3 rfl ?_
    refine wp_iload_n dX2_firstFree_5 1 rfl ?_
    refine wp_icmp_ge 38 dX2_firstFree_6 (by decide) (fun c6_1 => ?_) (fun c6_1 => ?_)
    · refine wp_iload_n dX2_firstFree_38 2 rfl ?_
      refine wp_ireturn dX2_firstFree_39 rfl ?_
      exact ⟨by rw [l_X2_firstFree_4, if_pos c6_1], rfl⟩
    · refine wp_iload_n dX2_firstFree_9 3 rfl ?_
      refine wp_bipush dX2_firstFree_10 bp_6 ?_
      refine wp_icmp_ge 38 dX2_firstFree_12 (by decide) (fun c12_2 => ?_) (fun c12_2 => ?_)
      · refine wp_iload_n dX2_firstFree_38 2 rfl ?_
        refine wp_ireturn dX2_firstFree_39 rfl ?_
        exact ⟨by rw [l_X2_firstFree_4, if_neg c6_1, if_pos c12_2], rfl⟩
      · refine wp_aload_n dX2_firstFree_15 0 rfl ?_
        refine wp_getR dX2_firstFree_16 faX2_18 rfl rfl ?_
        refine wp_iload_n dX2_firstFree_19 3 rfl ?_
        refine wp_iald dX2_firstFree_20 rfl (vin 6 (by decide) rfl h0 c12_2) ?_
        refine wp_aload_n dX2_firstFree_21 0 rfl ?_
        refine wp_getR dX2_firstFree_22 faX2_18 rfl rfl ?_
        refine wp_iload_n dX2_firstFree_25 2 rfl ?_
        refine wp_iald dX2_firstFree_26 rfl hb ?_
        refine wp_icmp_ge 32 dX2_firstFree_27 (by decide) (fun c27_3 => ?_) (fun c27_3 => ?_)
        · refine wp_iinc (L' := [(3, _), (0, _), (1, _), (2, _)]) dX2_firstFree_32 rfl 3 rfl (ii_1 _) rfl ?_
          refine wp_goto 4 dX2_firstFree_35 (by decide) ?_
          refine wp_drop [1, 2, 3, 0] rfl ?_
          rw [show l_X2_firstFree_4 (n + 1) a b c σ = (l_X2_firstFree_4 n a b (c + 1) σ) from by rw [l_X2_firstFree_4, if_neg c6_1, if_neg c12_2, if_pos c27_3]]
          exact ih _ _ _ _ (cnt_up c12_2 hm) (nn_inc' h0 c12_2) hb
        · refine wp_iload_n dX2_firstFree_30 3 rfl ?_
          refine wp_istore_n (L' := [(2, _), (0, _), (1, _), (3, _)]) dX2_firstFree_31 rfl rfl ?_
          refine wp_iinc (L' := [(3, _), (2, _), (0, _), (1, _)]) dX2_firstFree_32 rfl 3 rfl (ii_1 _) rfl ?_
          refine wp_goto 4 dX2_firstFree_35 (by decide) ?_
          refine wp_drop [2, 3, 1, 0] rfl ?_
          rw [show l_X2_firstFree_4 (n + 1) a b c σ = (l_X2_firstFree_4 n a c (c + 1) σ) from by rw [l_X2_firstFree_4, if_neg c6_1, if_neg c12_2, if_neg c27_3]]
          exact ih _ _ _ _ (cnt_up c12_2 hm) (nn_inc' h0 c12_2) (vin 6 (by decide) rfl h0 c12_2)
def f_X2_firstFree (σ : Mem) (a : Int32) : Int32 := (l_X2_firstFree_4 (fu 6) a 0 1 σ)
theorem s_X2_firstFree (X : Amb) (σ : Mem) (a : Int32) : SpW X mX2_firstFree [.ref (adr X 26), .int a] σ (.int (f_X2_firstFree σ a)) σ := by
  refine sp_of (by decide +kernel) rfl ?_
  show WP X mX2_firstFree 0 [(0, .ref (adr X 26)), (1, .int a)] [] σ _
  refine wp_iconst dX2_firstFree_0 ic_0 ?_
  refine wp_istore_n (L' := [(2, _), (0, _), (1, _)]) dX2_firstFree_1 rfl rfl ?_
  refine wp_iconst dX2_firstFree_2 ic_1 ?_
  refine wp_istore_n (L' := [(3, _), (2, _), (0, _), (1, _)]) dX2_firstFree_3 rfl rfl ?_
  refine wp_drop [2, 3, 1, 0] rfl ?_
  rw [show f_X2_firstFree σ a = (l_X2_firstFree_4 (fu 6) a 0 1 σ) from rfl]
  exact lt_X2_firstFree_4 X  (fu 6) a 0 1 σ (fu_lt (by decide)) (by decide) (vlit 0 6 (by decide))
end
