noncomputable section
theorem ff_in : ∀ (n : Nat) (a b c : Int32) (σ : Mem), vp_in b 6 → ¬ c < 0 → vp_in (l_X2_firstFree_4 n a b c σ) 6 ∨ l_X2_firstFree_4 n a b c σ = 0 := by
  intro n
  induction n with
  | zero => intros; right; rfl
  | succ n ih =>
    intro a b c σ hb hc
    rw [l_X2_firstFree_4]
    split
    · exact Or.inl hb
    · split
      · exact Or.inl hb
      · rename_i h1 h2
        split
        · exact ih a b (c + 1) σ hb (nn_inc' hc h2)
        · exact ih a c (c + 1) σ (vin 6 (by decide) rfl hc h2) (nn_inc' hc h2)
theorem ff_in6 (σ : Mem) (a : Int32) : vp_in (f_X2_firstFree σ a) 6 := by
  rcases ff_in (fu 6) a 0 1 σ (vlit 0 6 (by decide)) (by decide) with h | h
  · exact h
  · rw [show f_X2_firstFree σ a = 0 from h]; exact vlit 0 6 (by decide)
def l_X2_pushAll_37 : Nat → Int32 → Int32 → Int32 → Mem → Mem
  | 0, _, _, _, σ => σ
  | n + 1, a, b, c, σ => if (σ 26 3) ≤ c then σ else if 12 ≤ c then σ else (l_X2_pushAll_37 n a b (c + 1) (mst (mst (mst σ 29 ((f_X2_firstFree σ a).toNatClampNeg) ((if (σ 28 (c.toNatClampNeg)) < (σ 29 ((f_X2_firstFree σ a).toNatClampNeg)) then (σ 29 ((f_X2_firstFree σ a).toNatClampNeg)) else (σ 28 (c.toNatClampNeg))) + b)) 26 4 ((σ 26 4) + ((if (σ 28 (c.toNatClampNeg)) < (σ 29 ((f_X2_firstFree σ a).toNatClampNeg)) then (σ 29 ((f_X2_firstFree σ a).toNatClampNeg)) else (σ 28 (c.toNatClampNeg))) - (σ 28 (c.toNatClampNeg))))) 26 5 (if (σ 26 5) < ((if (σ 28 (c.toNatClampNeg)) < (σ 29 ((f_X2_firstFree σ a).toNatClampNeg)) then (σ 29 ((f_X2_firstFree σ a).toNatClampNeg)) else (σ 28 (c.toNatClampNeg))) - (σ 28 (c.toNatClampNeg))) then ((if (σ 28 (c.toNatClampNeg)) < (σ 29 ((f_X2_firstFree σ a).toNatClampNeg)) then (σ 29 ((f_X2_firstFree σ a).toNatClampNeg)) else (σ 28 (c.toNatClampNeg))) - (σ 28 (c.toNatClampNeg))) else (σ 26 5))))
theorem lt_X2_pushAll_37 (X : Amb) : ∀ (n : Nat) (a : Int32) (b : Int32) (c : Int32) (σ : Mem), ((12 : Int32).toInt - c.toInt).toNat < n → ¬ c < 0 → WP X mX2_pushAll 37 [(0, .ref (adr X 26)), (1, .int a), (2, .int b), (3, .int c)] [] σ (fun v σ' => v = none ∧ σ' = l_X2_pushAll_37 n a b c σ) := by
  intro n
  induction n with
  | zero => intro a b c σ hm; exact absurd hm (Nat.not_lt_zero _)
  | succ n ih =>
    intro a b c σ hm h0
    refine wp_iload_n dX2_pushAll_37 3 rfl ?_
    refine wp_aload_n dX2_pushAll_38 0 rfl ?_
    refine wp_getI dX2_pushAll_39 faX2_21 rfl rfl ?_
    refine wp_icmp_ge 131 dX2_pushAll_42 (by decide) (fun c42_1 => ?_) (fun c42_1 => ?_)
    · refine wp_return dX2_pushAll_131 rfl ?_
      exact ⟨rfl, by rw [l_X2_pushAll_37, if_pos c42_1]⟩
    · refine wp_iload_n dX2_pushAll_45 3 rfl ?_
      refine wp_bipush dX2_pushAll_46 bp_12 ?_
      refine wp_icmp_ge 131 dX2_pushAll_48 (by decide) (fun c48_2 => ?_) (fun c48_2 => ?_)
      · refine wp_return dX2_pushAll_131 rfl ?_
        exact ⟨rfl, by rw [l_X2_pushAll_37, if_neg c42_1, if_pos c48_2]⟩
      · refine wp_aload_n dX2_pushAll_51 0 rfl ?_
        refine wp_iload_n dX2_pushAll_52 1 rfl ?_
        refine wp_cV1w (N := mX2_firstFree) dX2_pushAll_53 tmX2_40 okX2_firstFree rfl rfl rfl rfl rfl rfl rfl rfl (s_X2_firstFree X _ _) ?_
        refine wp_istore (L' := [(4, _), (0, _), (1, _), (2, _), (3, _)]) dX2_pushAll_56 rfl rfl ?_
        refine wp_aload_n dX2_pushAll_58 1 rfl ?_
        refine wp_getR dX2_pushAll_59 faX2_15 rfl rfl ?_
        refine wp_iload_n dX2_pushAll_62 4 rfl ?_
        refine wp_iald dX2_pushAll_63 rfl (vin 12 (by decide) rfl h0 c48_2) ?_
        refine wp_aload_n dX2_pushAll_64 1 rfl ?_
        refine wp_getR dX2_pushAll_65 faX2_18 rfl rfl ?_
        refine wp_iload dX2_pushAll_68 0 rfl ?_
        refine wp_iald dX2_pushAll_70 rfl (ff_in6 _ _) ?_
        refine wp_mmax dX2_pushAll_71 tnX2_31 rfl rfl ?_
        refine wp_istore (L' := [(5, _), (4, _), (0, _), (1, _), (2, _), (3, _)]) dX2_pushAll_74 rfl rfl ?_
        refine wp_aload_n dX2_pushAll_76 2 rfl ?_
        refine wp_getR dX2_pushAll_77 faX2_18 rfl rfl ?_
        refine wp_iload dX2_pushAll_80 1 rfl ?_
        refine wp_iload dX2_pushAll_82 0 rfl ?_
        refine wp_iload_n dX2_pushAll_84 4 rfl ?_
        refine wp_iadd dX2_pushAll_85 ?_
        refine wp_iast dX2_pushAll_86 rfl (ff_in6 _ _) ?_
        refine wp_aload_n dX2_pushAll_87 2 rfl ?_
        refine wp_dup dX2_pushAll_88 rfl ?_
        refine wp_getI dX2_pushAll_89 faX2_25 rfl rfl ?_
        refine wp_topi (y := (σ 26 4)) rfl ?_
        refine wp_iload dX2_pushAll_92 0 rfl ?_
        refine wp_aload_n dX2_pushAll_94 2 rfl ?_
        refine wp_getR dX2_pushAll_95 faX2_15 rfl rfl ?_
        refine wp_iload_n dX2_pushAll_98 5 rfl ?_
        refine wp_iald dX2_pushAll_99 rfl (vin 12 (by decide) rfl h0 c48_2) ?_
        refine wp_topi (y := (σ 28 (c.toNatClampNeg))) rfl ?_
        refine wp_isub dX2_pushAll_100 ?_
        refine wp_iadd dX2_pushAll_101 ?_
        refine wp_putI dX2_pushAll_102 fwX2_25 rfl rfl ?_
        refine wp_aload_n dX2_pushAll_105 2 rfl ?_
        refine wp_aload_n dX2_pushAll_106 2 rfl ?_
        refine wp_getI dX2_pushAll_107 faX2_28 rfl rfl ?_
        refine wp_topi (y := (σ 26 5)) rfl ?_
        refine wp_iload dX2_pushAll_110 0 rfl ?_
        refine wp_aload_n dX2_pushAll_112 2 rfl ?_
        refine wp_getR dX2_pushAll_113 faX2_15 rfl rfl ?_
        refine wp_iload_n dX2_pushAll_116 5 rfl ?_
        refine wp_iald dX2_pushAll_117 rfl (vin 12 (by decide) rfl h0 c48_2) ?_
        refine wp_topi (y := (σ 28 (c.toNatClampNeg))) rfl ?_
        refine wp_isub dX2_pushAll_118 ?_
        refine wp_mmax dX2_pushAll_119 tnX2_31 rfl rfl ?_
        refine wp_putI dX2_pushAll_122 fwX2_28 rfl rfl ?_
        refine wp_iinc (L' := [(3, _), (5, _), (4, _), (0, _), (1, _), (2, _)]) dX2_pushAll_125 rfl 5 rfl (ii_1 _) rfl ?_
        refine wp_goto 37 dX2_pushAll_128 (by decide) ?_
        refine wp_drop [3, 4, 5, 0] rfl ?_
        rw [show l_X2_pushAll_37 (n + 1) a b c σ = (l_X2_pushAll_37 n a b (c + 1) (mst (mst (mst σ 29 ((f_X2_firstFree σ a).toNatClampNeg) ((if (σ 28 (c.toNatClampNeg)) < (σ 29 ((f_X2_firstFree σ a).toNatClampNeg)) then (σ 29 ((f_X2_firstFree σ a).toNatClampNeg)) else (σ 28 (c.toNatClampNeg))) + b)) 26 4 ((σ 26 4) + ((if (σ 28 (c.toNatClampNeg)) < (σ 29 ((f_X2_firstFree σ a).toNatClampNeg)) then (σ 29 ((f_X2_firstFree σ a).toNatClampNeg)) else (σ 28 (c.toNatClampNeg))) - (σ 28 (c.toNatClampNeg))))) 26 5 (if (σ 26 5) < ((if (σ 28 (c.toNatClampNeg)) < (σ 29 ((f_X2_firstFree σ a).toNatClampNeg)) then (σ 29 ((f_X2_firstFree σ a).toNatClampNeg)) else (σ 28 (c.toNatClampNeg))) - (σ 28 (c.toNatClampNeg))) then ((if (σ 28 (c.toNatClampNeg)) < (σ 29 ((f_X2_firstFree σ a).toNatClampNeg)) then (σ 29 ((f_X2_firstFree σ a).toNatClampNeg)) else (σ 28 (c.toNatClampNeg))) - (σ 28 (c.toNatClampNeg))) else (σ 26 5)))) from by rw [l_X2_pushAll_37, if_neg c42_1, if_neg c48_2]]
        exact ih _ _ _ _ (cnt_up c48_2 hm) (nn_inc' h0 c48_2)
def l_X2_pushAll_16 : Nat → Int32 → Int32 → Int32 → Mem → Mem
  | 0, _, _, _, σ => σ
  | n + 1, a, b, c, σ => if 6 ≤ c then (l_X2_pushAll_37 (fu 13) a b 0 σ) else (l_X2_pushAll_16 n a b (c + 1) (mst σ 29 (c.toNatClampNeg) 0))
theorem lt_X2_pushAll_16 (X : Amb) : ∀ (n : Nat) (a : Int32) (b : Int32) (c : Int32) (σ : Mem), ((6 : Int32).toInt - c.toInt).toNat < n → ¬ c < 0 → WP X mX2_pushAll 16 [(0, .ref (adr X 26)), (1, .int a), (2, .int b), (3, .int c)] [] σ (fun v σ' => v = none ∧ σ' = l_X2_pushAll_16 n a b c σ) := by
  intro n
  induction n with
  | zero => intro a b c σ hm; exact absurd hm (Nat.not_lt_zero _)
  | succ n ih =>
    intro a b c σ hm h0
    refine wp_iload_n dX2_pushAll_16 3 rfl ?_
    refine wp_bipush dX2_pushAll_17 bp_6 ?_
    refine wp_icmp_ge 35 dX2_pushAll_19 (by decide) (fun c19_1 => ?_) (fun c19_1 => ?_)
    · refine wp_iconst dX2_pushAll_35 ic_0 ?_
      refine wp_istore_n (L' := [(3, _), (0, _), (1, _), (2, _)]) dX2_pushAll_36 rfl rfl ?_
      refine wp_drop [1, 2, 3, 0] rfl ?_
      rw [show l_X2_pushAll_16 (n + 1) a b c σ = (l_X2_pushAll_37 (fu 13) a b 0 σ) from by rw [l_X2_pushAll_16]; rw [if_pos c19_1]]
      exact lt_X2_pushAll_37 X  (fu 13) a b 0 σ (fu_lt (by decide)) nn0
    · refine wp_aload_n dX2_pushAll_22 0 rfl ?_
      refine wp_getR dX2_pushAll_23 faX2_18 rfl rfl ?_
      refine wp_iload_n dX2_pushAll_26 3 rfl ?_
      refine wp_iconst dX2_pushAll_27 ic_0 ?_
      refine wp_iast dX2_pushAll_28 rfl (vin 6 (by decide) rfl h0 c19_1) ?_
      refine wp_iinc (L' := [(3, _), (0, _), (1, _), (2, _)]) dX2_pushAll_29 rfl 3 rfl (ii_1 _) rfl ?_
      refine wp_goto 16 dX2_pushAll_32 (by decide) ?_
      refine wp_drop [1, 2, 3, 0] rfl ?_
      rw [show l_X2_pushAll_16 (n + 1) a b c σ = (l_X2_pushAll_16 n a b (c + 1) (mst σ 29 (c.toNatClampNeg) 0)) from by rw [l_X2_pushAll_16, if_neg c19_1]]
      exact ih _ _ _ _ (cnt_up c19_1 hm) (nn_inc' h0 c19_1)
def f_X2_pushAll (σ : Mem) (a : Int32) (b : Int32) : Mem := (l_X2_pushAll_16 (fu 7) a b 0 (f_X2_sort (mst (mst σ 26 4 0) 26 5 0)))
theorem s_X2_pushAll (X : Amb) (σ : Mem) (a : Int32) (b : Int32) : SpV X mX2_pushAll [.ref (adr X 26), .int a, .int b] σ (f_X2_pushAll σ a b) := by
  refine sp_of (by decide +kernel) rfl ?_
  show WP X mX2_pushAll 0 [(0, .ref (adr X 26)), (1, .int a), (2, .int b)] [] σ _
  refine wp_aload_n dX2_pushAll_0 0 rfl ?_
  refine wp_iconst dX2_pushAll_1 ic_0 ?_
  refine wp_putI dX2_pushAll_2 fwX2_25 rfl rfl ?_
  refine wp_aload_n dX2_pushAll_5 0 rfl ?_
  refine wp_iconst dX2_pushAll_6 ic_0 ?_
  refine wp_putI dX2_pushAll_7 fwX2_28 rfl rfl ?_
  refine wp_aload_n dX2_pushAll_10 0 rfl ?_
  refine wp_cV0v (N := mX2_sort) dX2_pushAll_11 tmX2_37 okX2_sort rfl rfl rfl rfl rfl rfl rfl rfl (s_X2_sort X _) ?_
  refine wp_iconst dX2_pushAll_14 ic_0 ?_
  refine wp_istore_n (L' := [(3, _), (0, _), (1, _), (2, _)]) dX2_pushAll_15 rfl rfl ?_
  refine wp_drop [1, 2, 3, 0] rfl ?_
  rw [show f_X2_pushAll σ a b = (l_X2_pushAll_16 (fu 7) a b 0 (f_X2_sort (mst (mst σ 26 4 0) 26 5 0))) from rfl]
  exact lt_X2_pushAll_16 X  (fu 7) a b 0 (f_X2_sort (mst (mst σ 26 4 0) 26 5 0)) (fu_lt (by decide)) nn0
def Sht (k : Nat) : Prop := k = 31 ∨ k = 33 ∨ k = 35 ∨ k = 37
theorem Sht.s {k : Nat} (h : Sht k) : shC[k]? = some (.inl (5, [some (k + 1), none, none])) := by rcases h with rfl | rfl | rfl | rfl <;> rfl
theorem Sht.v {k : Nat} (h : Sht k) : shC[k + 1]? = some (.inr (0, 60)) := by rcases h with rfl | rfl | rfl | rfl <;> rfl
def f_X5_isLost (σ : Mem) (k : Nat) : Int32 := if (σ k 1) = (-1) then 1 else 0
theorem s_X5_isLost (X : Amb) (σ : Mem) (k : Nat) (hk : Sht k) : SpW X mX5_isLost [.ref (adr X k)] σ (.int (f_X5_isLost σ k)) σ := by
  refine sp_of (by decide +kernel) rfl ?_
  show WP X mX5_isLost 0 [(0, .ref (adr X k))] [] σ _
  refine wp_aload_n dX5_isLost_0 0 rfl ?_
  refine wp_getI dX5_isLost_1 faX5_15 hk.s rfl ?_
  refine wp_iconst dX5_isLost_4 ic_m1 ?_
  refine wp_icmp_ne 12 dX5_isLost_5 (by decide) (fun c5_1 => ?_) (fun c5_1 => ?_)
  · refine wp_iconst dX5_isLost_12 ic_0 ?_
    refine wp_zreturn dX5_isLost_13 rfl (Or.inl rfl) ?_
    exact ⟨by unfold f_X5_isLost; rw [if_neg c5_1], rfl⟩
  · refine wp_iconst dX5_isLost_8 ic_1 ?_
    refine wp_goto 13 dX5_isLost_9 (by decide) ?_
    refine wp_zreturn dX5_isLost_13 rfl (Or.inr rfl) ?_
    exact ⟨by unfold f_X5_isLost; rw [if_pos c5_1], rfl⟩
theorem z_X5_isLost (σ : Mem) (k : Nat) : (f_X5_isLost σ k) = 0 ∨ (f_X5_isLost σ k) = 1 := by
  unfold f_X5_isLost; (repeat' split) <;> first | exact Or.inl rfl | exact Or.inr rfl
def f_X5_isOfForm (σ : Mem) (k : Nat) (a : Int32) : Int32 := if (σ k 1) = a then 1 else 0
theorem s_X5_isOfForm (X : Amb) (σ : Mem) (k : Nat) (a : Int32) (hk : Sht k) : SpW X mX5_isOfForm [.ref (adr X k), .int a] σ (.int (f_X5_isOfForm σ k a)) σ := by
  refine sp_of (by decide +kernel) rfl ?_
  show WP X mX5_isOfForm 0 [(0, .ref (adr X k)), (1, .int a)] [] σ _
  refine wp_aload_n dX5_isOfForm_0 0 rfl ?_
  refine wp_getI dX5_isOfForm_1 faX5_15 hk.s rfl ?_
  refine wp_iload_n dX5_isOfForm_4 1 rfl ?_
  refine wp_icmp_ne 12 dX5_isOfForm_5 (by decide) (fun c5_1 => ?_) (fun c5_1 => ?_)
  · refine wp_iconst dX5_isOfForm_12 ic_0 ?_
    refine wp_zreturn dX5_isOfForm_13 rfl (Or.inl rfl) ?_
    exact ⟨by unfold f_X5_isOfForm; rw [if_neg c5_1], rfl⟩
  · refine wp_iconst dX5_isOfForm_8 ic_1 ?_
    refine wp_goto 13 dX5_isOfForm_9 (by decide) ?_
    refine wp_zreturn dX5_isOfForm_13 rfl (Or.inr rfl) ?_
    exact ⟨by unfold f_X5_isOfForm; rw [if_pos c5_1], rfl⟩
theorem z_X5_isOfForm (σ : Mem) (k : Nat) (a : Int32) : (f_X5_isOfForm σ k a) = 0 ∨ (f_X5_isOfForm σ k a) = 1 := by
  unfold f_X5_isOfForm; (repeat' split) <;> first | exact Or.inl rfl | exact Or.inr rfl
def f_X5_formNumber (σ : Mem) (k : Nat) : Int32 := (σ k 1)
theorem s_X5_formNumber (X : Amb) (σ : Mem) (k : Nat) (hk : Sht k) : SpW X mX5_formNumber [.ref (adr X k)] σ (.int (f_X5_formNumber σ k)) σ := by
  refine sp_of (by decide +kernel) rfl ?_
  show WP X mX5_formNumber 0 [(0, .ref (adr X k))] [] σ _
  refine wp_aload_n dX5_formNumber_0 0 rfl ?_
  refine wp_getI dX5_formNumber_1 faX5_15 hk.s rfl ?_
  refine wp_ireturn dX5_formNumber_4 rfl ?_
  exact ⟨rfl, rfl⟩
def f_X5_size (σ : Mem) (k : Nat) : Int32 := (σ k 2)
theorem s_X5_size (X : Amb) (σ : Mem) (k : Nat) (hk : Sht k) : SpW X mX5_size [.ref (adr X k)] σ (.int (f_X5_size σ k)) σ := by
  refine sp_of (by decide +kernel) rfl ?_
  show WP X mX5_size 0 [(0, .ref (adr X k))] [] σ _
  refine wp_aload_n dX5_size_0 0 rfl ?_
  refine wp_getI dX5_size_1 faX5_19 hk.s rfl ?_
  refine wp_ireturn dX5_size_4 rfl ?_
  exact ⟨rfl, rfl⟩
def f_X5_hasItems (σ : Mem) (k : Nat) (a : Int32) (b : Int32) : Int32 := if a < 0 then 0 else if b < 0 then 0 else if ((σ k 2) - b) < a then 0 else 1
theorem s_X5_hasItems (X : Amb) (σ : Mem) (k : Nat) (a : Int32) (b : Int32) (hk : Sht k) : SpW X mX5_hasItems [.ref (adr X k), .int a, .int b] σ (.int (f_X5_hasItems σ k a b)) σ := by
  refine sp_of (by decide +kernel) rfl ?_
  show WP X mX5_hasItems 0 [(0, .ref (adr X k)), (1, .int a), (2, .int b)] [] σ _
  refine wp_iload_n dX5_hasItems_0 1 rfl ?_
  refine wp_if_lt 22 dX5_hasItems_1 (by decide) (fun c1_1 => ?_) (fun c1_1 => ?_)
  · refine wp_iconst dX5_hasItems_22 ic_0 ?_
    refine wp_zreturn dX5_hasItems_23 rfl (Or.inl rfl) ?_
    exact ⟨by unfold f_X5_hasItems; rw [if_pos c1_1], rfl⟩
  · refine wp_iload_n dX5_hasItems_4 2 rfl ?_
    refine wp_if_lt 22 dX5_hasItems_5 (by decide) (fun c5_2 => ?_) (fun c5_2 => ?_)
    · refine wp_iconst dX5_hasItems_22 ic_0 ?_
      refine wp_zreturn dX5_hasItems_23 rfl (Or.inl rfl) ?_
      exact ⟨by unfold f_X5_hasItems; rw [if_neg c1_1, if_pos c5_2], rfl⟩
    · refine wp_iload_n dX5_hasItems_8 1 rfl ?_
      refine wp_aload_n dX5_hasItems_9 0 rfl ?_
      refine wp_getI dX5_hasItems_10 faX5_19 hk.s rfl ?_
      refine wp_iload_n dX5_hasItems_13 2 rfl ?_
      refine wp_isub dX5_hasItems_14 ?_
      refine wp_icmp_gt 22 dX5_hasItems_15 (by decide) (fun c15_3 => ?_) (fun c15_3 => ?_)
      · refine wp_iconst dX5_hasItems_22 ic_0 ?_
        refine wp_zreturn dX5_hasItems_23 rfl (Or.inl rfl) ?_
        exact ⟨by unfold f_X5_hasItems; rw [if_neg c1_1, if_neg c5_2, if_pos c15_3], rfl⟩
      · refine wp_iconst dX5_hasItems_18 ic_1 ?_
        refine wp_goto 23 dX5_hasItems_19 (by decide) ?_
        refine wp_zreturn dX5_hasItems_23 rfl (Or.inr rfl) ?_
        exact ⟨by unfold f_X5_hasItems; rw [if_neg c1_1, if_neg c5_2, if_neg c15_3], rfl⟩
theorem z_X5_hasItems (σ : Mem) (k : Nat) (a : Int32) (b : Int32) : (f_X5_hasItems σ k a b) = 0 ∨ (f_X5_hasItems σ k a b) = 1 := by
  unfold f_X5_hasItems; (repeat' split) <;> first | exact Or.inl rfl | exact Or.inr rfl
def f_X5_itemAt (σ : Mem) (k : Nat) (a : Int32) : Int32 := if a < 0 then 0 else if (σ k 2) ≤ a then 0 else if 60 ≤ a then 0 else (σ (k + 1) (a.toNatClampNeg))
theorem s_X5_itemAt (X : Amb) (σ : Mem) (k : Nat) (a : Int32) (hk : Sht k) : SpW X mX5_itemAt [.ref (adr X k), .int a] σ (.int (f_X5_itemAt σ k a)) σ := by
  refine sp_of (by decide +kernel) rfl ?_
  show WP X mX5_itemAt 0 [(0, .ref (adr X k)), (1, .int a)] [] σ _
  refine wp_iload_n dX5_itemAt_0 1 rfl ?_
  refine wp_if_lt 30 dX5_itemAt_1 (by decide) (fun c1_1 => ?_) (fun c1_1 => ?_)
  · refine wp_iconst dX5_itemAt_30 ic_0 ?_
    refine wp_ireturn dX5_itemAt_31 rfl ?_
    exact ⟨by unfold f_X5_itemAt; rw [if_pos c1_1], rfl⟩
  · refine wp_iload_n dX5_itemAt_4 1 rfl ?_
    refine wp_aload_n dX5_itemAt_5 0 rfl ?_
    refine wp_getI dX5_itemAt_6 faX5_19 hk.s rfl ?_
    refine wp_icmp_ge 30 dX5_itemAt_9 (by decide) (fun c9_2 => ?_) (fun c9_2 => ?_)
    · refine wp_iconst dX5_itemAt_30 ic_0 ?_
      refine wp_ireturn dX5_itemAt_31 rfl ?_
      exact ⟨by unfold f_X5_itemAt; rw [if_neg c1_1, if_pos c9_2], rfl⟩
    · refine wp_iload_n dX5_itemAt_12 1 rfl ?_
      refine wp_aload_n dX5_itemAt_13 0 rfl ?_
      refine wp_getR dX5_itemAt_14 faX5_9 hk.s rfl ?_
      refine wp_alen (v := 60) dX5_itemAt_17 hk.v (Or.inl rfl) rfl ?_
      refine wp_icmp_ge 30 dX5_itemAt_18 (by decide) (fun c18_3 => ?_) (fun c18_3 => ?_)
      · refine wp_iconst dX5_itemAt_30 ic_0 ?_
        refine wp_ireturn dX5_itemAt_31 rfl ?_
        exact ⟨by unfold f_X5_itemAt; rw [if_neg c1_1, if_neg c9_2, if_pos c18_3], rfl⟩
      · refine wp_aload_n dX5_itemAt_21 0 rfl ?_
        refine wp_getR dX5_itemAt_22 faX5_9 hk.s rfl ?_
        refine wp_iload_n dX5_itemAt_25 1 rfl ?_
        refine wp_iald dX5_itemAt_26 hk.v (vin 60 (by decide) rfl c1_1 c18_3) ?_
        refine wp_goto 31 dX5_itemAt_27 (by decide) ?_
        refine wp_ireturn dX5_itemAt_31 rfl ?_
        exact ⟨by unfold f_X5_itemAt; rw [if_neg c1_1, if_neg c9_2, if_neg c18_3], rfl⟩
def f_X5_cut (σ : Mem) (k : Nat) (a : Int32) : Int32 := if (σ k 1) = 0 then a.toInt8.toInt32 else if (σ k 1) = 1 then a.toInt16.toInt32 else a
theorem s_X5_cut (X : Amb) (σ : Mem) (k : Nat) (a : Int32) (hk : Sht k) : SpW X mX5_cut [.ref (adr X k), .int a] σ (.int (f_X5_cut σ k a)) σ := by
  refine sp_of (by decide +kernel) rfl ?_
  show WP X mX5_cut 0 [(0, .ref (adr X k)), (1, .int a)] [] σ _
  refine wp_aload_n dX5_cut_0 0 rfl ?_
  refine wp_getI dX5_cut_1 faX5_15 hk.s rfl ?_
  refine wp_if_ne 10 dX5_cut_4 (by decide) (fun c4_1 => ?_) (fun c4_1 => ?_)
  · refine wp_aload_n dX5_cut_10 0 rfl ?_
    refine wp_getI dX5_cut_11 faX5_15 hk.s rfl ?_
    refine wp_iconst dX5_cut_14 ic_1 ?_
    refine wp_icmp_ne 23 dX5_cut_15 (by decide) (fun c15_2 => ?_) (fun c15_2 => ?_)
    · refine wp_iload_n dX5_cut_23 1 rfl ?_
      refine wp_ireturn dX5_cut_24 rfl ?_
      exact ⟨by unfold f_X5_cut; rw [if_neg c4_1, if_neg c15_2], rfl⟩
    · refine wp_iload_n dX5_cut_18 1 rfl ?_
      refine wp_i2s dX5_cut_19 ?_
      refine wp_goto 24 dX5_cut_20 (by decide) ?_
      refine wp_ireturn dX5_cut_24 rfl ?_
      exact ⟨by unfold f_X5_cut; rw [if_neg c4_1, if_pos c15_2], rfl⟩
  · refine wp_iload_n dX5_cut_7 1 rfl ?_
    refine wp_i2b dX5_cut_8 ?_
    refine wp_ireturn dX5_cut_9 rfl ?_
    exact ⟨by unfold f_X5_cut; rw [if_pos c4_1], rfl⟩
def f_X5_drop (σ : Mem) (k : Nat) : Mem := (mst (mst σ k 1 (-1)) k 2 0)
theorem s_X5_drop (X : Amb) (σ : Mem) (k : Nat) (hk : Sht k) : SpV X mX5_drop [.ref (adr X k)] σ (f_X5_drop σ k) := by
  refine sp_of (by decide +kernel) rfl ?_
  show WP X mX5_drop 0 [(0, .ref (adr X k))] [] σ _
  refine wp_aload_n dX5_drop_0 0 rfl ?_
  refine wp_iconst dX5_drop_1 ic_m1 ?_
  refine wp_putI dX5_drop_2 fwX5_15 hk.s rfl ?_
  refine wp_aload_n dX5_drop_5 0 rfl ?_
  refine wp_iconst dX5_drop_6 ic_0 ?_
  refine wp_putI dX5_drop_7 fwX5_19 hk.s rfl ?_
  refine wp_return dX5_drop_10 rfl ?_
  exact ⟨rfl, rfl⟩
def f_X5_put (σ : Mem) (k : Nat) (a : Int32) (b : Int32) : Mem := if a < 0 then σ else if (σ k 2) ≤ a then σ else if 60 ≤ a then σ else (mst σ (k + 1) (a.toNatClampNeg) (f_X5_cut σ k b))
theorem s_X5_put (X : Amb) (σ : Mem) (k : Nat) (a : Int32) (b : Int32) (hk : Sht k) : SpV X mX5_put [.ref (adr X k), .int a, .int b] σ (f_X5_put σ k a b) := by
  refine sp_of (by decide +kernel) rfl ?_
  show WP X mX5_put 0 [(0, .ref (adr X k)), (1, .int a), (2, .int b)] [] σ _
  refine wp_iload_n dX5_put_0 1 rfl ?_
  refine wp_if_lt 32 dX5_put_1 (by decide) (fun c1_1 => ?_) (fun c1_1 => ?_)
  · refine wp_return dX5_put_32 rfl ?_
    exact ⟨rfl, by unfold f_X5_put; rw [if_pos c1_1]⟩
  · refine wp_iload_n dX5_put_4 1 rfl ?_
    refine wp_aload_n dX5_put_5 0 rfl ?_
    refine wp_getI dX5_put_6 faX5_19 hk.s rfl ?_
    refine wp_icmp_ge 32 dX5_put_9 (by decide) (fun c9_2 => ?_) (fun c9_2 => ?_)
    · refine wp_return dX5_put_32 rfl ?_
      exact ⟨rfl, by unfold f_X5_put; rw [if_neg c1_1, if_pos c9_2]⟩
    · refine wp_iload_n dX5_put_12 1 rfl ?_
      refine wp_aload_n dX5_put_13 0 rfl ?_
      refine wp_getR dX5_put_14 faX5_9 hk.s rfl ?_
      refine wp_alen (v := 60) dX5_put_17 hk.v (Or.inl rfl) rfl ?_
      refine wp_icmp_ge 32 dX5_put_18 (by decide) (fun c18_3 => ?_) (fun c18_3 => ?_)
      · refine wp_return dX5_put_32 rfl ?_
        exact ⟨rfl, by unfold f_X5_put; rw [if_neg c1_1, if_neg c9_2, if_pos c18_3]⟩
      · refine wp_aload_n dX5_put_21 0 rfl ?_
        refine wp_getR dX5_put_22 faX5_9 hk.s rfl ?_
        refine wp_iload_n dX5_put_25 1 rfl ?_
        refine wp_aload_n dX5_put_26 0 rfl ?_
        refine wp_iload_n dX5_put_27 2 rfl ?_
        refine wp_cV1w (N := mX5_cut) dX5_put_28 tmX5_31 okX5_cut rfl hk.s rfl rfl rfl rfl rfl rfl (s_X5_cut X _ k _ hk) ?_
        refine wp_iast dX5_put_31 hk.v (vin 60 (by decide) rfl c1_1 c18_3) ?_
        refine wp_return dX5_put_32 rfl ?_
        exact ⟨rfl, by unfold f_X5_put; rw [if_neg c1_1, if_neg c9_2, if_neg c18_3]⟩
def l_X5_renew_21 (k : Nat) : Nat → Int32 → Mem → Mem
  | 0, _, σ => σ
  | n + 1, c, σ => if 60 ≤ c then σ else (l_X5_renew_21 k n (c + 1) (mst σ (k + 1) (c.toNatClampNeg) 0))
theorem lt_X5_renew_21 (X : Amb) (k : Nat) (hk : Sht k) : ∀ (n : Nat) (c : Int32) (σ : Mem), ((60 : Int32).toInt - c.toInt).toNat < n → ¬ c < 0 → WP X mX5_renew 21 [(0, .ref (adr X k)), (3, .int c)] [] σ (fun v σ' => v = none ∧ σ' = l_X5_renew_21 k n c σ) := by
  intro n
  induction n with
  | zero => intro c σ hm; exact absurd hm (Nat.not_lt_zero _)
  | succ n ih =>
    intro c σ hm h0
    refine wp_iload_n dX5_renew_21 1 rfl ?_
    refine wp_bipush dX5_renew_22 bp_60 ?_
    refine wp_icmp_ge 40 dX5_renew_24 (by decide) (fun c24_1 => ?_) (fun c24_1 => ?_)
    · refine wp_return dX5_renew_40 rfl ?_
      exact ⟨rfl, by rw [l_X5_renew_21, if_pos c24_1]⟩
    · refine wp_aload_n dX5_renew_27 0 rfl ?_
      refine wp_getR dX5_renew_28 faX5_9 hk.s rfl ?_
      refine wp_iload_n dX5_renew_31 1 rfl ?_
      refine wp_iconst dX5_renew_32 ic_0 ?_
      refine wp_iast dX5_renew_33 hk.v (vin 60 (by decide) rfl h0 c24_1) ?_
      refine wp_iinc (L' := [(3, _), (0, _)]) dX5_renew_34 rfl 1 rfl (ii_1 _) rfl ?_
      refine wp_goto 21 dX5_renew_37 (by decide) ?_
      refine wp_drop [1, 0] rfl ?_
      rw [show l_X5_renew_21 k (n + 1) c σ = (l_X5_renew_21 k n (c + 1) (mst σ (k + 1) (c.toNatClampNeg) 0)) from by rw [l_X5_renew_21, if_neg c24_1]]
      exact ih _ _ (cnt_up c24_1 hm) (nn_inc' h0 c24_1)
def f_X5_renew (σ : Mem) (k : Nat) (a : Int32) (b : Int32) : Mem := (l_X5_renew_21 k (fu 61) 0 (mst (mst σ k 1 a) k 2 (if 0 < (if 60 < b then 60 else b) then (if 60 < b then 60 else b) else 0)))
theorem s_X5_renew (X : Amb) (σ : Mem) (k : Nat) (a : Int32) (b : Int32) (hk : Sht k) : SpV X mX5_renew [.ref (adr X k), .int a, .int b] σ (f_X5_renew σ k a b) := by
  refine sp_of (by decide +kernel) rfl ?_
  show WP X mX5_renew 0 [(0, .ref (adr X k)), (1, .int a), (2, .int b)] [] σ _
  refine wp_aload_n dX5_renew_0 0 rfl ?_
  refine wp_iload_n dX5_renew_1 1 rfl ?_
  refine wp_putI dX5_renew_2 fwX5_15 hk.s rfl ?_
  refine wp_aload_n dX5_renew_5 0 rfl ?_
  refine wp_iconst dX5_renew_6 ic_0 ?_
  refine wp_iload_n dX5_renew_7 2 rfl ?_
  refine wp_bipush dX5_renew_8 bp_60 ?_
  refine wp_mmin dX5_renew_10 tnX5_22 rfl rfl ?_
  refine wp_mmax dX5_renew_13 tnX5_28 rfl rfl ?_
  refine wp_putI dX5_renew_16 fwX5_19 hk.s rfl ?_
  refine wp_iconst dX5_renew_19 ic_0 ?_
  refine wp_istore_n (L' := [(3, _), (0, _), (1, _), (2, _)]) dX5_renew_20 rfl rfl ?_
  refine wp_drop [1, 0] rfl ?_
  rw [show f_X5_renew σ k a b = (l_X5_renew_21 k (fu 61) 0 (mst (mst σ k 1 a) k 2 (if 0 < (if 60 < b then 60 else b) then (if 60 < b then 60 else b) else 0))) from rfl]
  exact lt_X5_renew_21 X k hk (fu 61) 0 (mst (mst σ k 1 a) k 2 (if 0 < (if 60 < b then 60 else b) then (if 60 < b then 60 else b) else 0)) (fu_lt (by decide)) nn0
theorem hi_b {σ : Mem} {k : Nat} {a b : Int32} (h : ¬ f_X5_hasItems σ k a b = 0) (h0 : 0 ≤ σ k 2) (h6 : σ k 2 ≤ 60) : ¬ a < 0 ∧ ¬ b < 0 ∧ a.toNatClampNeg + b.toNatClampNeg ≤ 60 := by
  unfold f_X5_hasItems at h
  split at h
  · exact absurd rfl h
  · rename_i h1
    split at h
    · exact absurd rfl h
    · rename_i h2
      split at h
      · exact absurd rfl h
      · rename_i h3
        refine ⟨h1, h2, ?_⟩
        rw [Int32.lt_iff_toInt_lt] at h1 h2 h3
        rw [Int32.le_iff_toInt_le] at h0 h6
        rw [Int32.toInt_zero] at h1 h2 h0
        rw [show (60 : Int32).toInt = 60 by decide] at h6
        have hb := Int32.toInt_lt b
        rw [subT (by omega) (by omega)] at h3
        have ea : a.toNatClampNeg = a.toInt.toNat := rfl
        have eb : b.toNatClampNeg = b.toInt.toNat := rfl
        omega
def f_X5_takeOver (σ : Mem) (k g : Nat) (a : Int32) (b : Int32) (c : Int32) : Mem := if (f_X5_hasItems σ g a c) = 0 then σ else if (f_X5_hasItems σ k b c) = 0 then σ else (mcp σ (g + 1) (k + 1) (a.toNatClampNeg) (b.toNatClampNeg) (c.toNatClampNeg))
theorem s_X5_takeOver (X : Amb) (σ : Mem) (k g : Nat) (a : Int32) (b : Int32) (c : Int32) (hk : Sht k) (hg : Sht g) (f0 : 0 ≤ σ g 2) (f6 : σ g 2 ≤ 60) (k0 : 0 ≤ σ k 2) (k6 : σ k 2 ≤ 60) : SpV X mX5_takeOver [.ref (adr X k), .ref (adr X g), .int a, .int b, .int c] σ (f_X5_takeOver σ k g a b c) := by
  refine sp_of (by decide +kernel) rfl ?_
  show WP X mX5_takeOver 0 [(0, .ref (adr X k)), (1, .ref (adr X g)), (2, .int a), (3, .int b), (4, .int c)] [] σ _
  refine wp_aload_n dX5_takeOver_0 1 rfl ?_
  refine wp_iload_n dX5_takeOver_1 2 rfl ?_
  refine wp_iload dX5_takeOver_2 4 rfl ?_
  refine wp_cV2w (N := mX5_hasItems) dX5_takeOver_4 tmX5_35 okX5_hasItems rfl hg.s rfl rfl rfl rfl rfl rfl (s_X5_hasItems X _ g _ _ hg) ?_
  refine wp_if_eq 35 dX5_takeOver_7 (by decide) (fun c7_1 => ?_) (fun c7_1 => ?_)
  · refine wp_return dX5_takeOver_35 rfl ?_
    exact ⟨rfl, by unfold f_X5_takeOver; rw [if_pos c7_1]⟩
  · refine wp_aload_n dX5_takeOver_10 0 rfl ?_
    refine wp_iload_n dX5_takeOver_11 3 rfl ?_
    refine wp_iload dX5_takeOver_12 4 rfl ?_
    refine wp_cV2w (N := mX5_hasItems) dX5_takeOver_14 tmX5_35 okX5_hasItems rfl hk.s rfl rfl rfl rfl rfl rfl (s_X5_hasItems X _ k _ _ hk) ?_
    refine wp_if_eq 35 dX5_takeOver_17 (by decide) (fun c17_2 => ?_) (fun c17_2 => ?_)
    · refine wp_return dX5_takeOver_35 rfl ?_
      exact ⟨rfl, by unfold f_X5_takeOver; rw [if_neg c7_1, if_pos c17_2]⟩
    · refine wp_aload_n dX5_takeOver_20 1 rfl ?_
      refine wp_getR dX5_takeOver_21 faX5_9 hg.s rfl ?_
      refine wp_iload_n dX5_takeOver_24 2 rfl ?_
      refine wp_aload_n dX5_takeOver_25 0 rfl ?_
      refine wp_getR dX5_takeOver_26 faX5_9 hk.s rfl ?_
      refine wp_iload_n dX5_takeOver_29 3 rfl ?_
      refine wp_iload dX5_takeOver_30 4 rfl ?_
      refine wp_copy dX5_takeOver_32 tnX5_39 hg.v hk.v (hi_b c7_1 f0 f6).1 (hi_b c17_2 k0 k6).1 (hi_b c7_1 f0 f6).2.1 (hi_b c7_1 f0 f6).2.2 (hi_b c17_2 k0 k6).2.2 rfl rfl ?_
      refine wp_return dX5_takeOver_35 rfl ?_
      exact ⟨rfl, by unfold f_X5_takeOver; rw [if_neg c7_1, if_neg c17_2]⟩
end
