noncomputable section
def f_X8_isEngine (σ : Mem) (a : Int32) : Int32 := if a = 0 then 1 else if a = 1 then 1 else 0
theorem s_X8_isEngine (X : Amb) (σ : Mem) (a : Int32) : SpW X mX8_isEngine [.int a] σ (.int (f_X8_isEngine σ a)) σ := by
  refine sp_of (by decide +kernel) rfl ?_
  show WP X mX8_isEngine 0 [(0, .int a)] [] σ _
  refine wp_iload_n dX8_isEngine_0 0 rfl ?_
  refine wp_if_eq 9 dX8_isEngine_1 (by decide) (fun c1_1 => ?_) (fun c1_1 => ?_)
  · refine wp_iconst dX8_isEngine_9 ic_1 ?_
    refine wp_goto 14 dX8_isEngine_10 (by decide) ?_
    refine wp_zreturn dX8_isEngine_14 rfl (Or.inr rfl) ?_
    exact ⟨by unfold f_X8_isEngine; rw [if_pos c1_1], rfl⟩
  · refine wp_iload_n dX8_isEngine_4 0 rfl ?_
    refine wp_iconst dX8_isEngine_5 ic_1 ?_
    refine wp_icmp_ne 13 dX8_isEngine_6 (by decide) (fun c6_2 => ?_) (fun c6_2 => ?_)
    · refine wp_iconst dX8_isEngine_13 ic_0 ?_
      refine wp_zreturn dX8_isEngine_14 rfl (Or.inl rfl) ?_
      exact ⟨by unfold f_X8_isEngine; rw [if_neg c1_1, if_neg c6_2], rfl⟩
    · refine wp_iconst dX8_isEngine_9 ic_1 ?_
      refine wp_goto 14 dX8_isEngine_10 (by decide) ?_
      refine wp_zreturn dX8_isEngine_14 rfl (Or.inr rfl) ?_
      exact ⟨by unfold f_X8_isEngine; rw [if_neg c1_1, if_pos c6_2], rfl⟩
theorem z_X8_isEngine (σ : Mem) (a : Int32) : (f_X8_isEngine σ a) = 0 ∨ (f_X8_isEngine σ a) = 1 := by
  unfold f_X8_isEngine; (repeat' split) <;> first | exact Or.inl rfl | exact Or.inr rfl
def f_X8_isMinute (σ : Mem) (a : Int32) : Int32 := if a < 0 then 0 else if 40 ≤ a then 0 else 1
theorem s_X8_isMinute (X : Amb) (σ : Mem) (a : Int32) : SpW X mX8_isMinute [.int a] σ (.int (f_X8_isMinute σ a)) σ := by
  refine sp_of (by decide +kernel) rfl ?_
  show WP X mX8_isMinute 0 [(0, .int a)] [] σ _
  refine wp_iload_n dX8_isMinute_0 0 rfl ?_
  refine wp_if_lt 14 dX8_isMinute_1 (by decide) (fun c1_1 => ?_) (fun c1_1 => ?_)
  · refine wp_iconst dX8_isMinute_14 ic_0 ?_
    refine wp_zreturn dX8_isMinute_15 rfl (Or.inl rfl) ?_
    exact ⟨by unfold f_X8_isMinute; rw [if_pos c1_1], rfl⟩
  · refine wp_iload_n dX8_isMinute_4 0 rfl ?_
    refine wp_bipush dX8_isMinute_5 bp_40 ?_
    refine wp_icmp_ge 14 dX8_isMinute_7 (by decide) (fun c7_2 => ?_) (fun c7_2 => ?_)
    · refine wp_iconst dX8_isMinute_14 ic_0 ?_
      refine wp_zreturn dX8_isMinute_15 rfl (Or.inl rfl) ?_
      exact ⟨by unfold f_X8_isMinute; rw [if_neg c1_1, if_pos c7_2], rfl⟩
    · refine wp_iconst dX8_isMinute_10 ic_1 ?_
      refine wp_goto 15 dX8_isMinute_11 (by decide) ?_
      refine wp_zreturn dX8_isMinute_15 rfl (Or.inr rfl) ?_
      exact ⟨by unfold f_X8_isMinute; rw [if_neg c1_1, if_neg c7_2], rfl⟩
theorem z_X8_isMinute (σ : Mem) (a : Int32) : (f_X8_isMinute σ a) = 0 ∨ (f_X8_isMinute σ a) = 1 := by
  unfold f_X8_isMinute; (repeat' split) <;> first | exact Or.inl rfl | exact Or.inr rfl
def f_X8_isZeroOrOne (σ : Mem) (a : Int32) : Int32 := if a = 0 then 1 else if a = 1 then 1 else 0
theorem s_X8_isZeroOrOne (X : Amb) (σ : Mem) (a : Int32) : SpW X mX8_isZeroOrOne [.int a] σ (.int (f_X8_isZeroOrOne σ a)) σ := by
  refine sp_of (by decide +kernel) rfl ?_
  show WP X mX8_isZeroOrOne 0 [(0, .int a)] [] σ _
  refine wp_iload_n dX8_isZeroOrOne_0 0 rfl ?_
  refine wp_if_eq 9 dX8_isZeroOrOne_1 (by decide) (fun c1_1 => ?_) (fun c1_1 => ?_)
  · refine wp_iconst dX8_isZeroOrOne_9 ic_1 ?_
    refine wp_goto 14 dX8_isZeroOrOne_10 (by decide) ?_
    refine wp_zreturn dX8_isZeroOrOne_14 rfl (Or.inr rfl) ?_
    exact ⟨by unfold f_X8_isZeroOrOne; rw [if_pos c1_1], rfl⟩
  · refine wp_iload_n dX8_isZeroOrOne_4 0 rfl ?_
    refine wp_iconst dX8_isZeroOrOne_5 ic_1 ?_
    refine wp_icmp_ne 13 dX8_isZeroOrOne_6 (by decide) (fun c6_2 => ?_) (fun c6_2 => ?_)
    · refine wp_iconst dX8_isZeroOrOne_13 ic_0 ?_
      refine wp_zreturn dX8_isZeroOrOne_14 rfl (Or.inl rfl) ?_
      exact ⟨by unfold f_X8_isZeroOrOne; rw [if_neg c1_1, if_neg c6_2], rfl⟩
    · refine wp_iconst dX8_isZeroOrOne_9 ic_1 ?_
      refine wp_goto 14 dX8_isZeroOrOne_10 (by decide) ?_
      refine wp_zreturn dX8_isZeroOrOne_14 rfl (Or.inr rfl) ?_
      exact ⟨by unfold f_X8_isZeroOrOne; rw [if_neg c1_1, if_pos c6_2], rfl⟩
theorem z_X8_isZeroOrOne (σ : Mem) (a : Int32) : (f_X8_isZeroOrOne σ a) = 0 ∨ (f_X8_isZeroOrOne σ a) = 1 := by
  unfold f_X8_isZeroOrOne; (repeat' split) <;> first | exact Or.inl rfl | exact Or.inr rfl
def f_X8_isForm (σ : Mem) (a : Int32) : Int32 := if a < 0 then 0 else if 3 ≤ a then 0 else 1
theorem s_X8_isForm (X : Amb) (σ : Mem) (a : Int32) : SpW X mX8_isForm [.int a] σ (.int (f_X8_isForm σ a)) σ := by
  refine sp_of (by decide +kernel) rfl ?_
  show WP X mX8_isForm 0 [(0, .int a)] [] σ _
  refine wp_iload_n dX8_isForm_0 0 rfl ?_
  refine wp_if_lt 13 dX8_isForm_1 (by decide) (fun c1_1 => ?_) (fun c1_1 => ?_)
  · refine wp_iconst dX8_isForm_13 ic_0 ?_
    refine wp_zreturn dX8_isForm_14 rfl (Or.inl rfl) ?_
    exact ⟨by unfold f_X8_isForm; rw [if_pos c1_1], rfl⟩
  · refine wp_iload_n dX8_isForm_4 0 rfl ?_
    refine wp_iconst dX8_isForm_5 ic_3 ?_
    refine wp_icmp_ge 13 dX8_isForm_6 (by decide) (fun c6_2 => ?_) (fun c6_2 => ?_)
    · refine wp_iconst dX8_isForm_13 ic_0 ?_
      refine wp_zreturn dX8_isForm_14 rfl (Or.inl rfl) ?_
      exact ⟨by unfold f_X8_isForm; rw [if_neg c1_1, if_pos c6_2], rfl⟩
    · refine wp_iconst dX8_isForm_9 ic_1 ?_
      refine wp_goto 14 dX8_isForm_10 (by decide) ?_
      refine wp_zreturn dX8_isForm_14 rfl (Or.inr rfl) ?_
      exact ⟨by unfold f_X8_isForm; rw [if_neg c1_1, if_neg c6_2], rfl⟩
theorem z_X8_isForm (σ : Mem) (a : Int32) : (f_X8_isForm σ a) = 0 ∨ (f_X8_isForm σ a) = 1 := by
  unfold f_X8_isForm; (repeat' split) <;> first | exact Or.inl rfl | exact Or.inr rfl
def f_X8_isSecond (σ : Mem) (a : Int32) : Int32 := if a < 0 then 0 else if 10 ≤ a then 0 else 1
theorem s_X8_isSecond (X : Amb) (σ : Mem) (a : Int32) : SpW X mX8_isSecond [.int a] σ (.int (f_X8_isSecond σ a)) σ := by
  refine sp_of (by decide +kernel) rfl ?_
  show WP X mX8_isSecond 0 [(0, .int a)] [] σ _
  refine wp_iload_n dX8_isSecond_0 0 rfl ?_
  refine wp_if_lt 14 dX8_isSecond_1 (by decide) (fun c1_1 => ?_) (fun c1_1 => ?_)
  · refine wp_iconst dX8_isSecond_14 ic_0 ?_
    refine wp_zreturn dX8_isSecond_15 rfl (Or.inl rfl) ?_
    exact ⟨by unfold f_X8_isSecond; rw [if_pos c1_1], rfl⟩
  · refine wp_iload_n dX8_isSecond_4 0 rfl ?_
    refine wp_bipush dX8_isSecond_5 bp_10 ?_
    refine wp_icmp_ge 14 dX8_isSecond_7 (by decide) (fun c7_2 => ?_) (fun c7_2 => ?_)
    · refine wp_iconst dX8_isSecond_14 ic_0 ?_
      refine wp_zreturn dX8_isSecond_15 rfl (Or.inl rfl) ?_
      exact ⟨by unfold f_X8_isSecond; rw [if_neg c1_1, if_pos c7_2], rfl⟩
    · refine wp_iconst dX8_isSecond_10 ic_1 ?_
      refine wp_goto 15 dX8_isSecond_11 (by decide) ?_
      refine wp_zreturn dX8_isSecond_15 rfl (Or.inr rfl) ?_
      exact ⟨by unfold f_X8_isSecond; rw [if_neg c1_1, if_neg c7_2], rfl⟩
theorem z_X8_isSecond (σ : Mem) (a : Int32) : (f_X8_isSecond σ a) = 0 ∨ (f_X8_isSecond σ a) = 1 := by
  unfold f_X8_isSecond; (repeat' split) <;> first | exact Or.inl rfl | exact Or.inr rfl
def f_X8_isFootMinute (σ : Mem) (a : Int32) : Int32 := if a < 0 then 0 else if 999 < a then 0 else 1
theorem s_X8_isFootMinute (X : Amb) (σ : Mem) (a : Int32) : SpW X mX8_isFootMinute [.int a] σ (.int (f_X8_isFootMinute σ a)) σ := by
  refine sp_of (by decide +kernel) rfl ?_
  show WP X mX8_isFootMinute 0 [(0, .int a)] [] σ _
  refine wp_iload_n dX8_isFootMinute_0 0 rfl ?_
  refine wp_if_lt 15 dX8_isFootMinute_1 (by decide) (fun c1_1 => ?_) (fun c1_1 => ?_)
  · refine wp_iconst dX8_isFootMinute_15 ic_0 ?_
    refine wp_zreturn dX8_isFootMinute_16 rfl (Or.inl rfl) ?_
    exact ⟨by unfold f_X8_isFootMinute; rw [if_pos c1_1], rfl⟩
  · refine wp_iload_n dX8_isFootMinute_4 0 rfl ?_
    refine wp_sipush dX8_isFootMinute_5 sp_999 ?_
    refine wp_icmp_gt 15 dX8_isFootMinute_8 (by decide) (fun c8_2 => ?_) (fun c8_2 => ?_)
    · refine wp_iconst dX8_isFootMinute_15 ic_0 ?_
      refine wp_zreturn dX8_isFootMinute_16 rfl (Or.inl rfl) ?_
      exact ⟨by unfold f_X8_isFootMinute; rw [if_neg c1_1, if_pos c8_2], rfl⟩
    · refine wp_iconst dX8_isFootMinute_11 ic_1 ?_
      refine wp_goto 16 dX8_isFootMinute_12 (by decide) ?_
      refine wp_zreturn dX8_isFootMinute_16 rfl (Or.inr rfl) ?_
      exact ⟨by unfold f_X8_isFootMinute; rw [if_neg c1_1, if_neg c8_2], rfl⟩
theorem z_X8_isFootMinute (σ : Mem) (a : Int32) : (f_X8_isFootMinute σ a) = 0 ∨ (f_X8_isFootMinute σ a) = 1 := by
  unfold f_X8_isFootMinute; (repeat' split) <;> first | exact Or.inl rfl | exact Or.inr rfl
def f_X8_refusedAsLong (σ : Mem) (a : Int32) : Int64 := ((-9223372036854775808) - a.toInt64)
theorem s_X8_refusedAsLong (X : Amb) (σ : Mem) (a : Int32) : SpW X mX8_refusedAsLong [.int a] σ (.long (f_X8_refusedAsLong σ a)) σ := by
  refine sp_of (by decide +kernel) rfl ?_
  show WP X mX8_refusedAsLong 0 [(0, .int a)] [] σ _
  refine wp_ldc2 dX8_refusedAsLong_0 tlX8_428 ?_
  refine wp_iload_n dX8_refusedAsLong_3 0 rfl ?_
  refine wp_i2l dX8_refusedAsLong_4 ?_
  refine wp_lsub dX8_refusedAsLong_5 ?_
  refine wp_lreturn dX8_refusedAsLong_6 rfl ?_
  exact ⟨rfl, rfl⟩
def f_X8_mixed (σ : Mem) (a : Int64) (b : Int64) : Int64 := ((31 * a) + b)
theorem s_X8_mixed (X : Amb) (σ : Mem) (a : Int64) (b : Int64) : SpW X mX8_mixed [.long a, .long b] σ (.long (f_X8_mixed σ a b)) σ := by
  refine sp_of (by decide +kernel) rfl ?_
  show WP X mX8_mixed 0 [(0, .long a), (2, .long b)] [] σ _
  refine wp_ldc2 dX8_mixed_0 tlX8_406 ?_
  refine wp_lload_n dX8_mixed_3 0 rfl ?_
  refine wp_lmul dX8_mixed_4 ?_
  refine wp_lload_n dX8_mixed_5 1 rfl ?_
  refine wp_ladd dX8_mixed_6 ?_
  refine wp_lreturn dX8_mixed_7 rfl ?_
  exact ⟨rfl, rfl⟩
def Tx (k : Nat) : Prop := shC[k]? = some (.inl (7, [some (k + 1), none, none])) ∧ shC[k + 1]? = some (.inr (0, 32))
theorem tx1 : Tx 1 := ⟨rfl, rfl⟩
theorem tx3 : Tx 3 := ⟨rfl, rfl⟩
def f_X7_size (σ : Mem) (k : Nat) : Int32 := (σ k 2)
theorem s_X7_size (X : Amb) (σ : Mem) (k : Nat) (hk : Tx k) : SpW X mX7_size [.ref (adr X k)] σ (.int (f_X7_size σ k)) σ := by
  refine sp_of (by decide +kernel) rfl ?_
  show WP X mX7_size 0 [(0, .ref (adr X k))] [] σ _
  refine wp_aload_n dX7_size_0 0 rfl ?_
  refine wp_getI dX7_size_1 faX7_15 hk.1 rfl ?_
  refine wp_ireturn dX7_size_4 rfl ?_
  exact ⟨rfl, rfl⟩
def f_X7_isFull (σ : Mem) (k : Nat) : Int32 := if (σ k 1) ≤ (σ k 2) then 1 else if (σ k 2) < 32 then 0 else 1
theorem s_X7_isFull (X : Amb) (σ : Mem) (k : Nat) (hk : Tx k) : SpW X mX7_isFull [.ref (adr X k)] σ (.int (f_X7_isFull σ k)) σ := by
  refine sp_of (by decide +kernel) rfl ?_
  show WP X mX7_isFull 0 [(0, .ref (adr X k))] [] σ _
  refine wp_aload_n dX7_isFull_0 0 rfl ?_
  refine wp_getI dX7_isFull_1 faX7_15 hk.1 rfl ?_
  refine wp_aload_n dX7_isFull_4 0 rfl ?_
  refine wp_getI dX7_isFull_5 faX7_19 hk.1 rfl ?_
  refine wp_icmp_ge 23 dX7_isFull_8 (by decide) (fun c8_1 => ?_) (fun c8_1 => ?_)
  · refine wp_iconst dX7_isFull_23 ic_1 ?_
    refine wp_goto 28 dX7_isFull_24 (by decide) ?_
    refine wp_zreturn dX7_isFull_28 rfl (Or.inr rfl) ?_
    exact ⟨by unfold f_X7_isFull; rw [if_pos c8_1], rfl⟩
  · refine wp_aload_n dX7_isFull_11 0 rfl ?_
    refine wp_getI dX7_isFull_12 faX7_15 hk.1 rfl ?_
    refine wp_aload_n dX7_isFull_15 0 rfl ?_
    refine wp_getR dX7_isFull_16 faX7_9 hk.1 rfl ?_
    refine wp_alen (v := 32) dX7_isFull_19 hk.2 (Or.inl rfl) rfl ?_
    refine wp_icmp_lt 27 dX7_isFull_20 (by decide) (fun c20_2 => ?_) (fun c20_2 => ?_)
    · refine wp_iconst dX7_isFull_27 ic_0 ?_
      refine wp_zreturn dX7_isFull_28 rfl (Or.inl rfl) ?_
      exact ⟨by unfold f_X7_isFull; rw [if_neg c8_1, if_pos c20_2], rfl⟩
    · refine wp_iconst dX7_isFull_23 ic_1 ?_
      refine wp_goto 28 dX7_isFull_24 (by decide) ?_
      refine wp_zreturn dX7_isFull_28 rfl (Or.inr rfl) ?_
      exact ⟨by unfold f_X7_isFull; rw [if_neg c8_1, if_neg c20_2], rfl⟩
theorem z_X7_isFull (σ : Mem) (k : Nat) : (f_X7_isFull σ k) = 0 ∨ (f_X7_isFull σ k) = 1 := by
  unfold f_X7_isFull; (repeat' split) <;> first | exact Or.inl rfl | exact Or.inr rfl
def f_X7_byteAt (σ : Mem) (k : Nat) (a : Int32) : Int32 := if a < 0 then 0 else if (σ k 2) ≤ a then 0 else if 32 ≤ a then 0 else (σ (k + 1) (a.toNatClampNeg))
theorem s_X7_byteAt (X : Amb) (σ : Mem) (k : Nat) (a : Int32) (hk : Tx k) : SpW X mX7_byteAt [.ref (adr X k), .int a] σ (.int (f_X7_byteAt σ k a)) σ := by
  refine sp_of (by decide +kernel) rfl ?_
  show WP X mX7_byteAt 0 [(0, .ref (adr X k)), (1, .int a)] [] σ _
  refine wp_iload_n dX7_byteAt_0 1 rfl ?_
  refine wp_if_lt 30 dX7_byteAt_1 (by decide) (fun c1_1 => ?_) (fun c1_1 => ?_)
  · refine wp_iconst dX7_byteAt_30 ic_0 ?_
    refine wp_ireturn dX7_byteAt_31 rfl ?_
    exact ⟨by unfold f_X7_byteAt; rw [if_pos c1_1], rfl⟩
  · refine wp_iload_n dX7_byteAt_4 1 rfl ?_
    refine wp_aload_n dX7_byteAt_5 0 rfl ?_
    refine wp_getI dX7_byteAt_6 faX7_15 hk.1 rfl ?_
    refine wp_icmp_ge 30 dX7_byteAt_9 (by decide) (fun c9_2 => ?_) (fun c9_2 => ?_)
    · refine wp_iconst dX7_byteAt_30 ic_0 ?_
      refine wp_ireturn dX7_byteAt_31 rfl ?_
      exact ⟨by unfold f_X7_byteAt; rw [if_neg c1_1, if_pos c9_2], rfl⟩
    · refine wp_iload_n dX7_byteAt_12 1 rfl ?_
      refine wp_aload_n dX7_byteAt_13 0 rfl ?_
      refine wp_getR dX7_byteAt_14 faX7_9 hk.1 rfl ?_
      refine wp_alen (v := 32) dX7_byteAt_17 hk.2 (Or.inl rfl) rfl ?_
      refine wp_icmp_ge 30 dX7_byteAt_18 (by decide) (fun c18_3 => ?_) (fun c18_3 => ?_)
      · refine wp_iconst dX7_byteAt_30 ic_0 ?_
        refine wp_ireturn dX7_byteAt_31 rfl ?_
        exact ⟨by unfold f_X7_byteAt; rw [if_neg c1_1, if_neg c9_2, if_pos c18_3], rfl⟩
      · refine wp_aload_n dX7_byteAt_21 0 rfl ?_
        refine wp_getR dX7_byteAt_22 faX7_9 hk.1 rfl ?_
        refine wp_iload_n dX7_byteAt_25 1 rfl ?_
        refine wp_iald dX7_byteAt_26 hk.2 (vin 32 (by decide) rfl c1_1 c18_3) ?_
        refine wp_goto 31 dX7_byteAt_27 (by decide) ?_
        refine wp_ireturn dX7_byteAt_31 rfl ?_
        exact ⟨by unfold f_X7_byteAt; rw [if_neg c1_1, if_neg c9_2, if_neg c18_3], rfl⟩
theorem notfull {σ : Mem} {k : Nat} (h : f_X7_isFull σ k = 0) : ¬ 32 ≤ σ k 2 := by
  intro h2
  unfold f_X7_isFull at h
  split at h
  · exact absurd h (by decide)
  · rw [if_neg (nlt_of_le h2)] at h; exact absurd h (by decide)
def f_X7_append (σ : Mem) (k : Nat) (a : Int32) : Mem := if (f_X7_isFull σ k) = 0 then if (σ k 2) < 0 then σ else (mst (mst σ (k + 1) ((σ k 2).toNatClampNeg) a) k 2 (((mst σ (k + 1) ((σ k 2).toNatClampNeg) a) k 2) + 1)) else σ
theorem s_X7_append (X : Amb) (σ : Mem) (k : Nat) (a : Int32) (hk : Tx k) : SpV X mX7_append [.ref (adr X k), .int a] σ (f_X7_append σ k a) := by
  refine sp_of (by decide +kernel) rfl ?_
  show WP X mX7_append 0 [(0, .ref (adr X k)), (1, .int a)] [] σ _
  refine wp_aload_n dX7_append_0 0 rfl ?_
  refine wp_cV0w (N := mX7_isFull) dX7_append_1 tmX7_22 okX7_isFull rfl hk.1 rfl rfl rfl rfl rfl rfl (s_X7_isFull X _ k hk) ?_
  refine wp_if_ne 34 dX7_append_4 (by decide) (fun c4_1 => ?_) (fun c4_1 => ?_)
  · refine wp_return dX7_append_34 rfl ?_
    exact ⟨rfl, by unfold f_X7_append; rw [if_neg c4_1]⟩
  · refine wp_aload_n dX7_append_7 0 rfl ?_
    refine wp_getI dX7_append_8 faX7_15 hk.1 rfl ?_
    refine wp_if_lt 34 dX7_append_11 (by decide) (fun c11_2 => ?_) (fun c11_2 => ?_)
    · refine wp_return dX7_append_34 rfl ?_
      exact ⟨rfl, by unfold f_X7_append; rw [if_pos c4_1, if_pos c11_2]⟩
    · refine wp_aload_n dX7_append_14 0 rfl ?_
      refine wp_getR dX7_append_15 faX7_9 hk.1 rfl ?_
      refine wp_aload_n dX7_append_18 0 rfl ?_
      refine wp_getI dX7_append_19 faX7_15 hk.1 rfl ?_
      refine wp_iload_n dX7_append_22 1 rfl ?_
      refine wp_iast dX7_append_23 hk.2 (vin 32 (by decide) rfl c11_2 (notfull c4_1)) ?_
      refine wp_aload_n dX7_append_24 0 rfl ?_
      refine wp_dup dX7_append_25 rfl ?_
      refine wp_getI dX7_append_26 faX7_15 hk.1 rfl ?_
      refine wp_iconst dX7_append_29 ic_1 ?_
      refine wp_iadd dX7_append_30 ?_
      refine wp_putI dX7_append_31 fwX7_15 hk.1 rfl ?_
      refine wp_return dX7_append_34 rfl ?_
      exact ⟨rfl, by unfold f_X7_append; rw [if_pos c4_1, if_neg c11_2]⟩
def f_X7_shorten (σ : Mem) (k : Nat) (a : Int32) : Mem := (mst σ k 2 (if 0 < ((σ k 2) - a) then ((σ k 2) - a) else 0))
theorem s_X7_shorten (X : Amb) (σ : Mem) (k : Nat) (a : Int32) (hk : Tx k) : SpV X mX7_shorten [.ref (adr X k), .int a] σ (f_X7_shorten σ k a) := by
  refine sp_of (by decide +kernel) rfl ?_
  show WP X mX7_shorten 0 [(0, .ref (adr X k)), (1, .int a)] [] σ _
  refine wp_aload_n dX7_shorten_0 0 rfl ?_
  refine wp_iconst dX7_shorten_1 ic_0 ?_
  refine wp_aload_n dX7_shorten_2 0 rfl ?_
  refine wp_getI dX7_shorten_3 faX7_15 hk.1 rfl ?_
  refine wp_iload_n dX7_shorten_6 1 rfl ?_
  refine wp_isub dX7_shorten_7 ?_
  refine wp_mmax dX7_shorten_8 tnX7_26 rfl rfl ?_
  refine wp_putI dX7_shorten_11 fwX7_15 hk.1 rfl ?_
  refine wp_return dX7_shorten_14 rfl ?_
  exact ⟨rfl, rfl⟩
def f_X1_size (σ : Mem) : Int32 := (σ 5 2)
theorem s_X1_size (X : Amb) (σ : Mem) : SpW X mX1_size [.ref (adr X 5)] σ (.int (f_X1_size σ)) σ := by
  refine sp_of (by decide +kernel) rfl ?_
  show WP X mX1_size 0 [(0, .ref (adr X 5))] [] σ _
  refine wp_aload_n dX1_size_0 0 rfl ?_
  refine wp_getI dX1_size_1 faX1_18 rfl rfl ?_
  refine wp_ireturn dX1_size_4 rfl ?_
  exact ⟨rfl, rfl⟩
def f_X1_whole (σ : Mem) : Int32 := (σ 5 3)
theorem s_X1_whole (X : Amb) (σ : Mem) : SpW X mX1_whole [.ref (adr X 5)] σ (.int (f_X1_whole σ)) σ := by
  refine sp_of (by decide +kernel) rfl ?_
  show WP X mX1_whole 0 [(0, .ref (adr X 5))] [] σ _
  refine wp_aload_n dX1_whole_0 0 rfl ?_
  refine wp_getI dX1_whole_1 faX1_22 rfl rfl ?_
  refine wp_ireturn dX1_whole_4 rfl ?_
  exact ⟨rfl, rfl⟩
def f_X1_firstFault (σ : Mem) : Int32 := (σ 5 4)
theorem s_X1_firstFault (X : Amb) (σ : Mem) : SpW X mX1_firstFault [.ref (adr X 5)] σ (.int (f_X1_firstFault σ)) σ := by
  refine sp_of (by decide +kernel) rfl ?_
  show WP X mX1_firstFault 0 [(0, .ref (adr X 5))] [] σ _
  refine wp_aload_n dX1_firstFault_0 0 rfl ?_
  refine wp_getI dX1_firstFault_1 faX1_25 rfl rfl ?_
  refine wp_ireturn dX1_firstFault_4 rfl ?_
  exact ⟨rfl, rfl⟩
def f_X1_weightOf (σ : Mem) (a : Int32) : Int32 := if a < 0 then 0 else if (σ 5 2) ≤ a then 0 else if 12 ≤ a then 0 else (σ 6 (a.toNatClampNeg))
theorem s_X1_weightOf (X : Amb) (σ : Mem) (a : Int32) : SpW X mX1_weightOf [.ref (adr X 5), .int a] σ (.int (f_X1_weightOf σ a)) σ := by
  refine sp_of (by decide +kernel) rfl ?_
  show WP X mX1_weightOf 0 [(0, .ref (adr X 5)), (1, .int a)] [] σ _
  refine wp_iload_n dX1_weightOf_0 1 rfl ?_
  refine wp_if_lt 30 dX1_weightOf_1 (by decide) (fun c1_1 => ?_) (fun c1_1 => ?_)
  · refine wp_iconst dX1_weightOf_30 ic_0 ?_
    refine wp_ireturn dX1_weightOf_31 rfl ?_
    exact ⟨by unfold f_X1_weightOf; rw [if_pos c1_1], rfl⟩
  · refine wp_iload_n dX1_weightOf_4 1 rfl ?_
    refine wp_aload_n dX1_weightOf_5 0 rfl ?_
    refine wp_getI dX1_weightOf_6 faX1_18 rfl rfl ?_
    refine wp_icmp_ge 30 dX1_weightOf_9 (by decide) (fun c9_2 => ?_) (fun c9_2 => ?_)
    · refine wp_iconst dX1_weightOf_30 ic_0 ?_
      refine wp_ireturn dX1_weightOf_31 rfl ?_
      exact ⟨by unfold f_X1_weightOf; rw [if_neg c1_1, if_pos c9_2], rfl⟩
    · refine wp_iload_n dX1_weightOf_12 1 rfl ?_
      refine wp_aload_n dX1_weightOf_13 0 rfl ?_
      refine wp_getR dX1_weightOf_14 faX1_9 rfl rfl ?_
      refine wp_alen (v := 12) dX1_weightOf_17 rfl (Or.inl rfl) rfl ?_
      refine wp_icmp_ge 30 dX1_weightOf_18 (by decide) (fun c18_3 => ?_) (fun c18_3 => ?_)
      · refine wp_iconst dX1_weightOf_30 ic_0 ?_
        refine wp_ireturn dX1_weightOf_31 rfl ?_
        exact ⟨by unfold f_X1_weightOf; rw [if_neg c1_1, if_neg c9_2, if_pos c18_3], rfl⟩
      · refine wp_aload_n dX1_weightOf_21 0 rfl ?_
        refine wp_getR dX1_weightOf_22 faX1_9 rfl rfl ?_
        refine wp_iload_n dX1_weightOf_25 1 rfl ?_
        refine wp_iald dX1_weightOf_26 rfl (vin 12 (by decide) rfl c1_1 c18_3) ?_
        refine wp_goto 31 dX1_weightOf_27 (by decide) ?_
        refine wp_ireturn dX1_weightOf_31 rfl ?_
        exact ⟨by unfold f_X1_weightOf; rw [if_neg c1_1, if_neg c9_2, if_neg c18_3], rfl⟩
def f_X1_strainTimesWhole (σ : Mem) (a : Int32) (b : Int32) (c : Int32) : Int32 := if a < 0 then ((b * (σ 5 3)) - ((b + c) * 0)) else if 13 ≤ a then ((b * (σ 5 3)) - ((b + c) * 0)) else ((b * (σ 5 3)) - ((b + c) * (σ 7 (a.toNatClampNeg))))
theorem s_X1_strainTimesWhole (X : Amb) (σ : Mem) (a : Int32) (b : Int32) (c : Int32) : SpW X mX1_strainTimesWhole [.ref (adr X 5), .int a, .int b, .int c] σ (.int (f_X1_strainTimesWhole σ a b c)) σ := by
  refine sp_of (by decide +kernel) rfl ?_
  show WP X mX1_strainTimesWhole 0 [(0, .ref (adr X 5)), (1, .int a), (2, .int b), (3, .int c)] [] σ _
  refine wp_iload_n dX1_strainTimesWhole_0 1 rfl ?_
  refine wp_if_lt 22 dX1_strainTimesWhole_1 (by decide) (fun c1_1 => ?_) (fun c1_1 => ?_)
  · refine wp_iconst dX1_strainTimesWhole_22 ic_0 ?_
    refine wp_istore (L' := [(4, _), (0, _), (1, _), (2, _), (3, _)]) dX1_strainTimesWhole_23 rfl rfl ?_
    refine wp_iload_n dX1_strainTimesWhole_25 3 rfl ?_
    refine wp_aload_n dX1_strainTimesWhole_26 1 rfl ?_
    refine wp_getI dX1_strainTimesWhole_27 faX1_22 rfl rfl ?_
    refine wp_imul dX1_strainTimesWhole_30 ?_
    refine wp_iload_n dX1_strainTimesWhole_31 3 rfl ?_
    refine wp_iload_n dX1_strainTimesWhole_32 4 rfl ?_
    refine wp_iadd dX1_strainTimesWhole_33 ?_
    refine wp_iload dX1_strainTimesWhole_34 0 rfl ?_
    refine wp_imul dX1_strainTimesWhole_36 ?_
    refine wp_isub dX1_strainTimesWhole_37 ?_
    refine wp_ireturn dX1_strainTimesWhole_38 rfl ?_
    exact ⟨by unfold f_X1_strainTimesWhole; rw [if_pos c1_1], rfl⟩
  · refine wp_iload_n dX1_strainTimesWhole_4 1 rfl ?_
    refine wp_aload_n dX1_strainTimesWhole_5 0 rfl ?_
    refine wp_getR dX1_strainTimesWhole_6 faX1_15 rfl rfl ?_
    refine wp_alen (v := 13) dX1_strainTimesWhole_9 rfl (Or.inl rfl) rfl ?_
    refine wp_icmp_ge 22 dX1_strainTimesWhole_10 (by decide) (fun c10_2 => ?_) (fun c10_2 => ?_)
    · refine wp_iconst dX1_strainTimesWhole_22 ic_0 ?_
      refine wp_istore (L' := [(4, _), (0, _), (1, _), (2, _), (3, _)]) dX1_strainTimesWhole_23 rfl rfl ?_
      refine wp_iload_n dX1_strainTimesWhole_25 3 rfl ?_
      refine wp_aload_n dX1_strainTimesWhole_26 1 rfl ?_
      refine wp_getI dX1_strainTimesWhole_27 faX1_22 rfl rfl ?_
      refine wp_imul dX1_strainTimesWhole_30 ?_
      refine wp_iload_n dX1_strainTimesWhole_31 3 rfl ?_
      refine wp_iload_n dX1_strainTimesWhole_32 4 rfl ?_
      refine wp_iadd dX1_strainTimesWhole_33 ?_
      refine wp_iload dX1_strainTimesWhole_34 0 rfl ?_
      refine wp_imul dX1_strainTimesWhole_36 ?_
      refine wp_isub dX1_strainTimesWhole_37 ?_
      refine wp_ireturn dX1_strainTimesWhole_38 rfl ?_
      exact ⟨by unfold f_X1_strainTimesWhole; rw [if_neg c1_1, if_pos c10_2], rfl⟩
    · refine wp_aload_n dX1_strainTimesWhole_13 0 rfl ?_
      refine wp_getR dX1_strainTimesWhole_14 faX1_15 rfl rfl ?_
      refine wp_iload_n dX1_strainTimesWhole_17 1 rfl ?_
      refine wp_iald dX1_strainTimesWhole_18 rfl (vin 13 (by decide) rfl c1_1 c10_2) ?_
      refine wp_goto 23 dX1_strainTimesWhole_19 (by decide) ?_
      refine wp_istore (L' := [(4, _), (0, _), (1, _), (2, _), (3, _)]) dX1_strainTimesWhole_23 rfl rfl ?_
      refine wp_iload_n dX1_strainTimesWhole_25 3 rfl ?_
      refine wp_aload_n dX1_strainTimesWhole_26 1 rfl ?_
      refine wp_getI dX1_strainTimesWhole_27 faX1_22 rfl rfl ?_
      refine wp_imul dX1_strainTimesWhole_30 ?_
      refine wp_iload_n dX1_strainTimesWhole_31 3 rfl ?_
      refine wp_iload_n dX1_strainTimesWhole_32 4 rfl ?_
      refine wp_iadd dX1_strainTimesWhole_33 ?_
      refine wp_iload dX1_strainTimesWhole_34 0 rfl ?_
      refine wp_imul dX1_strainTimesWhole_36 ?_
      refine wp_isub dX1_strainTimesWhole_37 ?_
      refine wp_ireturn dX1_strainTimesWhole_38 rfl ?_
      exact ⟨by unfold f_X1_strainTimesWhole; rw [if_neg c1_1, if_neg c10_2], rfl⟩
/-- the number of wagons is far below the greatest int -/
def Sz (σ : Mem) : Prop := σ 5 2 < 2147483647
def l_X1_firstSlack_2 : Nat → Int32 → Int32 → Int32 → Mem → Int32
  | 0, _, _, _, σ => 0
  | n + 1, a, b, d, σ => if (σ 5 2) < d then (-1) else if 0 < (f_X1_strainTimesWhole σ d a b) then (l_X1_firstSlack_2 n a b (d + 1) σ) else d
theorem lt_X1_firstSlack_2 (X : Amb) : ∀ (n : Nat) (a : Int32) (b : Int32) (d : Int32) (σ : Mem), ((σ 5 2).toInt + 1 - d.toInt).toNat < n → Sz σ → WP X mX1_firstSlack 2 [(0, .ref (adr X 5)), (1, .int a), (2, .int b), (3, .int d)] [] σ (fun v σ' => v = some (.int (l_X1_firstSlack_2 n a b d σ)) ∧ σ' = σ) := by
  intro n
  induction n with
  | zero => intro a b d σ hm; exact absurd hm (Nat.not_lt_zero _)
  | succ n ih =>
    intro a b d σ hm hz
    refine wp_iload_n dX1_firstSlack_2 3 rfl ?_
    refine wp_aload_n dX1_firstSlack_3 0 rfl ?_
    refine wp_getI dX1_firstSlack_4 faX1_18 rfl rfl ?_
    refine wp_icmp_gt 28 dX1_firstSlack_7 (by decide) (fun c7_1 => ?_) (fun c7_1 => ?_)
    · refine wp_iconst dX1_firstSlack_28 ic_m1 ?_
      refine wp_ireturn dX1_firstSlack_29 rfl ?_
      exact ⟨by rw [l_X1_firstSlack_2, if_pos c7_1], rfl⟩
    · refine wp_aload_n dX1_firstSlack_10 0 rfl ?_
      refine wp_iload_n dX1_firstSlack_11 3 rfl ?_
      refine wp_iload_n dX1_firstSlack_12 1 rfl ?_
      refine wp_iload_n dX1_firstSlack_13 2 rfl ?_
      refine wp_cV3w (N := mX1_strainTimesWhole) dX1_firstSlack_14 tmX1_47 okX1_strainTimesWhole rfl rfl rfl rfl rfl rfl rfl rfl (s_X1_strainTimesWhole X _ _ _ _) ?_
      refine wp_if_gt 22 dX1_firstSlack_17 (by decide) (fun c17_2 => ?_) (fun c17_2 => ?_)
      · refine wp_iinc (L' := [(3, _), (0, _), (1, _), (2, _)]) dX1_firstSlack_22 rfl 3 rfl (ii_1 _) rfl ?_
        refine wp_goto 2 dX1_firstSlack_25 (by decide) ?_
        refine wp_drop [1, 2, 3, 0] rfl ?_
        rw [show l_X1_firstSlack_2 (n + 1) a b d σ = (l_X1_firstSlack_2 n a b (d + 1) σ) from by rw [l_X1_firstSlack_2, if_neg c7_1, if_pos c17_2]]
        exact ih _ _ _ _ (cnt_le c7_1 hz hm) hz
      · refine wp_iload_n dX1_firstSlack_20 3 rfl ?_
        refine wp_ireturn dX1_firstSlack_21 rfl ?_
        exact ⟨by rw [l_X1_firstSlack_2, if_neg c7_1, if_neg c17_2], rfl⟩
theorem mu13 {x : Int32} : (x.toInt + 1 - (0 : Int32).toInt).toNat < x.toInt.toNat + 3 := by rw [Int32.toInt_zero]; omega
def f_X1_firstSlack (σ : Mem) (a : Int32) (b : Int32) : Int32 := (l_X1_firstSlack_2 (fu ((σ 5 2).toInt.toNat + 3)) a b 0 σ)
theorem s_X1_firstSlack (X : Amb) (σ : Mem) (a : Int32) (b : Int32) (hz : Sz σ) : SpW X mX1_firstSlack [.ref (adr X 5), .int a, .int b] σ (.int (f_X1_firstSlack σ a b)) σ := by
  refine sp_of (by decide +kernel) rfl ?_
  show WP X mX1_firstSlack 0 [(0, .ref (adr X 5)), (1, .int a), (2, .int b)] [] σ _
  refine wp_iconst dX1_firstSlack_0 ic_0 ?_
  refine wp_istore_n (L' := [(3, _), (0, _), (1, _), (2, _)]) dX1_firstSlack_1 rfl rfl ?_
  refine wp_drop [1, 2, 3, 0] rfl ?_
  rw [show f_X1_firstSlack σ a b = (l_X1_firstSlack_2 (fu ((σ 5 2).toInt.toNat + 3)) a b 0 σ) from rfl]
  exact lt_X1_firstSlack_2 X  (fu ((σ 5 2).toInt.toNat + 3)) a b 0 σ (fu_lt mu13) hz
def l_X1_tears_3 : Nat → Int32 → Int32 → Int32 → Int32 → Mem → Int32
  | 0, _, _, _, _, σ => 0
  | n + 1, a, b, c, d, σ => if (σ 5 2) < d then 0 else if (f_X1_strainTimesWhole σ d a b) ≤ (c * (σ 5 3)) then (l_X1_tears_3 n a b c (d + 1) σ) else 1
theorem lt_X1_tears_3 (X : Amb) : ∀ (n : Nat) (a : Int32) (b : Int32) (c : Int32) (d : Int32) (σ : Mem), ((σ 5 2).toInt + 1 - d.toInt).toNat < n → Sz σ → WP X mX1_tears 3 [(0, .ref (adr X 5)), (1, .int a), (2, .int b), (3, .int c), (4, .int d)] [] σ (fun v σ' => v = some (.int (l_X1_tears_3 n a b c d σ)) ∧ σ' = σ) := by
  intro n
  induction n with
  | zero => intro a b c d σ hm; exact absurd hm (Nat.not_lt_zero _)
  | succ n ih =>
    intro a b c d σ hm hz
    refine wp_iload dX1_tears_3 4 rfl ?_
    refine wp_aload_n dX1_tears_5 0 rfl ?_
    refine wp_getI dX1_tears_6 faX1_18 rfl rfl ?_
    refine wp_icmp_gt 37 dX1_tears_9 (by decide) (fun c9_1 => ?_) (fun c9_1 => ?_)
    · refine wp_iconst dX1_tears_37 ic_0 ?_
      refine wp_zreturn dX1_tears_38 rfl (Or.inl rfl) ?_
      exact ⟨by rw [l_X1_tears_3, if_pos c9_1], rfl⟩
    · refine wp_aload_n dX1_tears_12 0 rfl ?_
      refine wp_iload dX1_tears_13 4 rfl ?_
      refine wp_iload_n dX1_tears_15 1 rfl ?_
      refine wp_iload_n dX1_tears_16 2 rfl ?_
      refine wp_cV3w (N := mX1_strainTimesWhole) dX1_tears_17 tmX1_47 okX1_strainTimesWhole rfl rfl rfl rfl rfl rfl rfl rfl (s_X1_strainTimesWhole X _ _ _ _) ?_
      refine wp_iload_n dX1_tears_20 3 rfl ?_
      refine wp_aload_n dX1_tears_21 0 rfl ?_
      refine wp_getI dX1_tears_22 faX1_22 rfl rfl ?_
      refine wp_imul dX1_tears_25 ?_
      refine wp_icmp_le 31 dX1_tears_26 (by decide) (fun c26_2 => ?_) (fun c26_2 => ?_)
      · refine wp_iinc (L' := [(4, _), (0, _), (1, _), (2, _), (3, _)]) dX1_tears_31 rfl 4 rfl (ii_1 _) rfl ?_
        refine wp_goto 3 dX1_tears_34 (by decide) ?_
        refine wp_drop [1, 2, 3, 4, 0] rfl ?_
        rw [show l_X1_tears_3 (n + 1) a b c d σ = (l_X1_tears_3 n a b c (d + 1) σ) from by rw [l_X1_tears_3, if_neg c9_1, if_pos c26_2]]
        exact ih _ _ _ _ _ (cnt_le c9_1 hz hm) hz
      · refine wp_iconst dX1_tears_29 ic_1 ?_
        refine wp_zreturn dX1_tears_30 rfl (Or.inr rfl) ?_
        exact ⟨by rw [l_X1_tears_3, if_neg c9_1, if_neg c26_2], rfl⟩
def f_X1_tears (σ : Mem) (a : Int32) (b : Int32) (c : Int32) : Int32 := (l_X1_tears_3 (fu ((σ 5 2).toInt.toNat + 3)) a b c 0 σ)
theorem s_X1_tears (X : Amb) (σ : Mem) (a : Int32) (b : Int32) (c : Int32) (hz : Sz σ) : SpW X mX1_tears [.ref (adr X 5), .int a, .int b, .int c] σ (.int (f_X1_tears σ a b c)) σ := by
  refine sp_of (by decide +kernel) rfl ?_
  show WP X mX1_tears 0 [(0, .ref (adr X 5)), (1, .int a), (2, .int b), (3, .int c)] [] σ _
  refine wp_iconst dX1_tears_0 ic_0 ?_
  refine wp_istore (L' := [(4, _), (0, _), (1, _), (2, _), (3, _)]) dX1_tears_1 rfl rfl ?_
  refine wp_drop [1, 2, 3, 4, 0] rfl ?_
  rw [show f_X1_tears σ a b c = (l_X1_tears_3 (fu ((σ 5 2).toInt.toNat + 3)) a b c 0 σ) from rfl]
  exact lt_X1_tears_3 X  (fu ((σ 5 2).toInt.toNat + 3)) a b c 0 σ (fu_lt mu13) hz
def l_X1_firstSqueezed_3 : Nat → Int32 → Int32 → Int32 → Int32 → Mem → Int32
  | 0, _, _, _, _, σ => 0
  | n + 1, a, b, c, d, σ => if (σ 5 2) ≤ d then (-1) else if (-(f_X1_strainTimesWhole σ d a b)) ≤ ((c * (f_X1_weightOf σ d)) * (σ 5 3)) then if (-(f_X1_strainTimesWhole σ (d + 1) a b)) ≤ ((c * (f_X1_weightOf σ d)) * (σ 5 3)) then (l_X1_firstSqueezed_3 n a b c (d + 1) σ) else (l_X1_firstSqueezed_3 n a b c (d + 1) σ) else if (-(f_X1_strainTimesWhole σ (d + 1) a b)) ≤ ((c * (f_X1_weightOf σ d)) * (σ 5 3)) then (l_X1_firstSqueezed_3 n a b c (d + 1) σ) else d
theorem lt_X1_firstSqueezed_3 (X : Amb) : ∀ (n : Nat) (a : Int32) (b : Int32) (c : Int32) (d : Int32) (σ : Mem), ((σ 5 2).toInt - d.toInt).toNat < n → WP X mX1_firstSqueezed 3 [(0, .ref (adr X 5)), (1, .int a), (2, .int b), (3, .int c), (4, .int d)] [] σ (fun v σ' => v = some (.int (l_X1_firstSqueezed_3 n a b c d σ)) ∧ σ' = σ) := by
  intro n
  induction n with
  | zero => intro a b c d σ hm; exact absurd hm (Nat.not_lt_zero _)
  | succ n ih =>
    intro a b c d σ hm 
    refine wp_iload dX1_firstSqueezed_3 4 rfl ?_
    refine wp_aload_n dX1_firstSqueezed_5 0 rfl ?_
    refine wp_getI dX1_firstSqueezed_6 faX1_18 rfl rfl ?_
    refine wp_icmp_ge 90 dX1_firstSqueezed_9 (by decide) (fun c9_1 => ?_) (fun c9_1 => ?_)
    · refine wp_iconst dX1_firstSqueezed_90 ic_m1 ?_
      refine wp_ireturn dX1_firstSqueezed_91 rfl ?_
      exact ⟨by rw [l_X1_firstSqueezed_3, if_pos c9_1], rfl⟩
    · refine wp_iload_n dX1_firstSqueezed_12 3 rfl ?_
      refine wp_aload_n dX1_firstSqueezed_13 0 rfl ?_
      refine wp_iload dX1_firstSqueezed_14 4 rfl ?_
      refine wp_cV1w (N := mX1_weightOf) dX1_firstSqueezed_16 tmX1_51 okX1_weightOf rfl rfl rfl rfl rfl rfl rfl rfl (s_X1_weightOf X _ _) ?_
      refine wp_imul dX1_firstSqueezed_19 ?_
      refine wp_aload_n dX1_firstSqueezed_20 0 rfl ?_
      refine wp_getI dX1_firstSqueezed_21 faX1_22 rfl rfl ?_
      refine wp_imul dX1_firstSqueezed_24 ?_
      refine wp_istore (L' := [(5, _), (0, _), (1, _), (2, _), (3, _), (4, _)]) dX1_firstSqueezed_25 rfl rfl ?_
      refine wp_aload_n dX1_firstSqueezed_27 1 rfl ?_
      refine wp_iload dX1_firstSqueezed_28 5 rfl ?_
      refine wp_iload_n dX1_firstSqueezed_30 2 rfl ?_
      refine wp_iload_n dX1_firstSqueezed_31 3 rfl ?_
      refine wp_cV3w (N := mX1_strainTimesWhole) dX1_firstSqueezed_32 tmX1_47 okX1_strainTimesWhole rfl rfl rfl rfl rfl rfl rfl rfl (s_X1_strainTimesWhole X _ _ _ _) ?_
      refine wp_ineg dX1_firstSqueezed_35 ?_
      refine wp_iload dX1_firstSqueezed_36 0 rfl ?_
      refine wp_icmp_le 45 dX1_firstSqueezed_38 (by decide) (fun c38_2 => ?_) (fun c38_2 => ?_)
      · refine wp_iconst dX1_firstSqueezed_45 ic_0 ?_
        refine wp_istore (L' := [(6, _), (5, _), (0, _), (1, _), (2, _), (3, _), (4, _)]) dX1_firstSqueezed_46 rfl rfl ?_
        refine wp_aload_n dX1_firstSqueezed_48 2 rfl ?_
        refine wp_iload dX1_firstSqueezed_49 6 rfl ?_
        refine wp_iconst dX1_firstSqueezed_51 ic_1 ?_
        refine wp_iadd dX1_firstSqueezed_52 ?_
        refine wp_iload_n dX1_firstSqueezed_53 3 rfl ?_
        refine wp_iload_n dX1_firstSqueezed_54 4 rfl ?_
        refine wp_cV3w (N := mX1_strainTimesWhole) dX1_firstSqueezed_55 tmX1_47 okX1_strainTimesWhole rfl rfl rfl rfl rfl rfl rfl rfl (s_X1_strainTimesWhole X _ _ _ _) ?_
        refine wp_ineg dX1_firstSqueezed_58 ?_
        refine wp_iload dX1_firstSqueezed_59 1 rfl ?_
        refine wp_icmp_le 68 dX1_firstSqueezed_61 (by decide) (fun c61_3 => ?_) (fun c61_3 => ?_)
        · refine wp_iconst dX1_firstSqueezed_68 ic_0 ?_
          refine wp_istore (L' := [(7, _), (6, _), (5, _), (0, _), (1, _), (2, _), (3, _), (4, _)]) dX1_firstSqueezed_69 rfl rfl ?_
          refine wp_iload dX1_firstSqueezed_71 1 rfl ?_
          refine wp_if_eq 84 dX1_firstSqueezed_73 (by decide) (fun _ => ?_) (fun z9 => absurd (by decide) z9)
          refine wp_iinc (L' := [(4, _), (7, _), (6, _), (5, _), (0, _), (1, _), (2, _), (3, _)]) dX1_firstSqueezed_84 rfl 7 rfl (ii_1 _) rfl ?_
          refine wp_goto 3 dX1_firstSqueezed_87 (by decide) ?_
          refine wp_drop [4, 5, 6, 7, 0] rfl ?_
          rw [show l_X1_firstSqueezed_3 (n + 1) a b c d σ = (l_X1_firstSqueezed_3 n a b c (d + 1) σ) from by rw [l_X1_firstSqueezed_3, if_neg c9_1, if_pos c38_2, if_pos c61_3]]
          exact ih _ _ _ _ _ (cnt_up c9_1 hm) 
        · refine wp_iconst dX1_firstSqueezed_64 ic_1 ?_
          refine wp_goto 69 dX1_firstSqueezed_65 (by decide) ?_
          refine wp_istore (L' := [(7, _), (6, _), (5, _), (0, _), (1, _), (2, _), (3, _), (4, _)]) dX1_firstSqueezed_69 rfl rfl ?_
          refine wp_iload dX1_firstSqueezed_71 1 rfl ?_
          refine wp_if_eq 84 dX1_firstSqueezed_73 (by decide) (fun _ => ?_) (fun z9 => absurd (by decide) z9)
          refine wp_iinc (L' := [(4, _), (7, _), (6, _), (5, _), (0, _), (1, _), (2, _), (3, _)]) dX1_firstSqueezed_84 rfl 7 rfl (ii_1 _) rfl ?_
          refine wp_goto 3 dX1_firstSqueezed_87 (by decide) ?_
          refine wp_drop [4, 5, 6, 7, 0] rfl ?_
          rw [show l_X1_firstSqueezed_3 (n + 1) a b c d σ = (l_X1_firstSqueezed_3 n a b c (d + 1) σ) from by rw [l_X1_firstSqueezed_3, if_neg c9_1, if_pos c38_2, if_neg c61_3]]
          exact ih _ _ _ _ _ (cnt_up c9_1 hm) 
      · refine wp_iconst dX1_firstSqueezed_41 ic_1 ?_
        refine wp_goto 46 dX1_firstSqueezed_42 (by decide) ?_
        refine wp_istore (L' := [(6, _), (5, _), (0, _), (1, _), (2, _), (3, _), (4, _)]) dX1_firstSqueezed_46 rfl rfl ?_
        refine wp_aload_n dX1_firstSqueezed_48 2 rfl ?_
        refine wp_iload dX1_firstSqueezed_49 6 rfl ?_
        refine wp_iconst dX1_firstSqueezed_51 ic_1 ?_
        refine wp_iadd dX1_firstSqueezed_52 ?_
        refine wp_iload_n dX1_firstSqueezed_53 3 rfl ?_
        refine wp_iload_n dX1_firstSqueezed_54 4 rfl ?_
        refine wp_cV3w (N := mX1_strainTimesWhole) dX1_firstSqueezed_55 tmX1_47 okX1_strainTimesWhole rfl rfl rfl rfl rfl rfl rfl rfl (s_X1_strainTimesWhole X _ _ _ _) ?_
        refine wp_ineg dX1_firstSqueezed_58 ?_
        refine wp_iload dX1_firstSqueezed_59 1 rfl ?_
        refine wp_icmp_le 68 dX1_firstSqueezed_61 (by decide) (fun c61_6 => ?_) (fun c61_6 => ?_)
        · refine wp_iconst dX1_firstSqueezed_68 ic_0 ?_
          refine wp_istore (L' := [(7, _), (6, _), (5, _), (0, _), (1, _), (2, _), (3, _), (4, _)]) dX1_firstSqueezed_69 rfl rfl ?_
          refine wp_iload dX1_firstSqueezed_71 1 rfl ?_
          refine wp_if_eq 84 dX1_firstSqueezed_73 (by decide) (fun z9 => absurd z9 (by decide)) (fun _ => ?_)
          refine wp_iload dX1_firstSqueezed_76 0 rfl ?_
          refine wp_if_eq 84 dX1_firstSqueezed_78 (by decide) (fun _ => ?_) (fun z9 => absurd (by decide) z9)
          refine wp_iinc (L' := [(4, _), (7, _), (6, _), (5, _), (0, _), (1, _), (2, _), (3, _)]) dX1_firstSqueezed_84 rfl 7 rfl (ii_1 _) rfl ?_
          refine wp_goto 3 dX1_firstSqueezed_87 (by decide) ?_
          refine wp_drop [4, 5, 6, 7, 0] rfl ?_
          rw [show l_X1_firstSqueezed_3 (n + 1) a b c d σ = (l_X1_firstSqueezed_3 n a b c (d + 1) σ) from by rw [l_X1_firstSqueezed_3, if_neg c9_1, if_neg c38_2, if_pos c61_6]]
          exact ih _ _ _ _ _ (cnt_up c9_1 hm) 
        · refine wp_iconst dX1_firstSqueezed_64 ic_1 ?_
          refine wp_goto 69 dX1_firstSqueezed_65 (by decide) ?_
          refine wp_istore (L' := [(7, _), (6, _), (5, _), (0, _), (1, _), (2, _), (3, _), (4, _)]) dX1_firstSqueezed_69 rfl rfl ?_
          refine wp_iload dX1_firstSqueezed_71 1 rfl ?_
          refine wp_if_eq 84 dX1_firstSqueezed_73 (by decide) (fun z9 => absurd z9 (by decide)) (fun _ => ?_)
          refine wp_iload dX1_firstSqueezed_76 0 rfl ?_
          refine wp_if_eq 84 dX1_firstSqueezed_78 (by decide) (fun z9 => absurd z9 (by decide)) (fun _ => ?_)
          refine wp_iload dX1_firstSqueezed_81 7 rfl ?_
          refine wp_ireturn dX1_firstSqueezed_83 rfl ?_
          exact ⟨by rw [l_X1_firstSqueezed_3, if_neg c9_1, if_neg c38_2, if_neg c61_6], rfl⟩
theorem mu0 {x : Int32} : (x.toInt - (0 : Int32).toInt).toNat < x.toInt.toNat + 1 := by rw [Int32.toInt_zero]; omega
def f_X1_firstSqueezed (σ : Mem) (a : Int32) (b : Int32) (c : Int32) : Int32 := (l_X1_firstSqueezed_3 (fu ((σ 5 2).toInt.toNat + 1)) a b c 0 σ)
theorem s_X1_firstSqueezed (X : Amb) (σ : Mem) (a : Int32) (b : Int32) (c : Int32) : SpW X mX1_firstSqueezed [.ref (adr X 5), .int a, .int b, .int c] σ (.int (f_X1_firstSqueezed σ a b c)) σ := by
  refine sp_of (by decide +kernel) rfl ?_
  show WP X mX1_firstSqueezed 0 [(0, .ref (adr X 5)), (1, .int a), (2, .int b), (3, .int c)] [] σ _
  refine wp_iconst dX1_firstSqueezed_0 ic_0 ?_
  refine wp_istore (L' := [(4, _), (0, _), (1, _), (2, _), (3, _)]) dX1_firstSqueezed_1 rfl rfl ?_
  refine wp_drop [1, 2, 3, 4, 0] rfl ?_
  rw [show f_X1_firstSqueezed σ a b c = (l_X1_firstSqueezed_3 (fu ((σ 5 2).toInt.toNat + 1)) a b c 0 σ) from rfl]
  exact lt_X1_firstSqueezed_3 X  (fu ((σ 5 2).toInt.toNat + 1)) a b c 0 σ (fu_lt mu0) 
end
