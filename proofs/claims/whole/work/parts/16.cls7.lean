noncomputable section
theorem vcm {c b B : Int32} (n : Nat) (hn : n < 2 ^ 31) (hB : B = Int32.ofNat n) (h0 : ¬ c ≤ 0) (hc : c ≤ b) (hb : ¬ B ≤ b) : vp_in (c - 1) n := by
  rw [Int32.le_iff_toInt_le, hB, show (Int32.ofNat n).toInt = (n : Int) from nI_toInt hn] at hb
  rw [Int32.le_iff_toInt_le] at h0 hc
  rw [Int32.toInt_zero] at h0
  rw [vp_in_iff, subT (by rw [t1]; omega) (by rw [t1]; omega), t1]; omega
theorem vcc {c b B : Int32} (n : Nat) (hn : n < 2 ^ 31) (hB : B = Int32.ofNat n) (h0 : ¬ c < 0) (hc : c ≤ b) (hb : ¬ B ≤ b) : vp_in c n := by
  rw [Int32.le_iff_toInt_le, hB, show (Int32.ofNat n).toInt = (n : Int) from nI_toInt hn] at hb
  rw [Int32.le_iff_toInt_le] at hc
  rw [Int32.lt_iff_toInt_lt, Int32.toInt_zero] at h0
  rw [vp_in_iff]; omega
theorem dec_nn {c : Int32} (h : ¬ c ≤ 0) : ¬ c + (-1) < 0 := by
  rw [Int32.le_iff_toInt_le, Int32.toInt_zero] at h
  have := Int32.toInt_lt c
  rw [Int32.lt_iff_toInt_lt, Int32.toInt_zero, addT (by rw [tm1]; omega) (by rw [tm1]; omega), tm1]; omega
theorem nlt_of_nle {c : Int32} (h : ¬ c ≤ 0) : ¬ c < 0 := by
  rw [Int32.le_iff_toInt_le, Int32.toInt_zero] at h; rw [Int32.lt_iff_toInt_lt, Int32.toInt_zero]; omega
theorem leref (x : Int32) : x ≤ x := by rw [Int32.le_iff_toInt_le]; omega
def l_X2_sort_18 (K : Int32 → Mem → Mem) : Nat → Int32 → Int32 → Mem → Mem
  | 0, _, _, σ => σ
  | n + 1, b, c, σ => if c ≤ 0 then (K (b + 1) (mst σ 28 (c.toNatClampNeg) (σ 27 (b.toNatClampNeg)))) else if (σ 28 ((c - 1).toNatClampNeg)) ≤ (σ 27 (b.toNatClampNeg)) then (K (b + 1) (mst σ 28 (c.toNatClampNeg) (σ 27 (b.toNatClampNeg)))) else (l_X2_sort_18 K n b (c + (-1)) (mst σ 28 (c.toNatClampNeg) (σ 28 ((c - 1).toNatClampNeg))))
theorem lt_X2_sort_18 (X : Amb) (K : Int32 → Mem → Mem) (m : Nat) (hK : ∀ (b : Int32) (σ : Mem), ((12 : Int32).toInt - b.toInt).toNat < m → ¬ b < 0 → WP X mX2_sort 2 [(0, .ref (adr X 26)), (1, .int b)] [] σ (fun v σ' => v = none ∧ σ' = K b σ)) : ∀ (n : Nat) (b : Int32) (c : Int32) (σ : Mem), (c.toInt - (0 : Int32).toInt).toNat < n → ¬ b < 0 → ¬ 12 ≤ b → ((12 : Int32).toInt - b.toInt).toNat < m + 1 → c ≤ b → ¬ c < 0 → WP X mX2_sort 18 [(0, .ref (adr X 26)), (1, .int b), (2, .int c)] [] σ (fun v σ' => v = none ∧ σ' = l_X2_sort_18 K n b c σ) := by
  intro n
  induction n with
  | zero => intro b c σ hm; exact absurd hm (Nat.not_lt_zero _)
  | succ n ih =>
    intro b c σ hm hb0 hb ho hc hc0
    refine wp_iload_n dX2_sort_18 2 rfl ?_
    refine wp_if_le 59 dX2_sort_19 (by decide) (fun c19_1 => ?_) (fun c19_1 => ?_)
    · refine wp_aload_n dX2_sort_59 0 rfl ?_
      refine wp_getR dX2_sort_60 faX2_15 rfl rfl ?_
      refine wp_iload_n dX2_sort_63 2 rfl ?_
      refine wp_aload_n dX2_sort_64 0 rfl ?_
      refine wp_getR dX2_sort_65 faX2_9 rfl rfl ?_
      refine wp_iload_n dX2_sort_68 1 rfl ?_
      refine wp_iald dX2_sort_69 rfl (vin 12 (by decide) rfl hb0 hb) ?_
      refine wp_iast dX2_sort_70 rfl (vcc 12 (by decide) rfl hc0 hc hb) ?_
      refine wp_iinc (L' := [(1, _), (0, _), (2, _)]) dX2_sort_71 rfl 1 rfl (ii_1 _) rfl ?_
      refine wp_goto 2 dX2_sort_74 (by decide) ?_
      refine wp_drop [1, 0] rfl ?_
      rw [show l_X2_sort_18 K (n + 1) b c σ = (K (b + 1) (mst σ 28 (c.toNatClampNeg) (σ 27 (b.toNatClampNeg)))) from by rw [l_X2_sort_18, if_pos c19_1]]
      exact hK _ _ (cnt_up hb ho) (nn_inc' hb0 hb)
    · refine wp_aload_n dX2_sort_22 0 rfl ?_
      refine wp_getR dX2_sort_23 faX2_15 rfl rfl ?_
      refine wp_iload_n dX2_sort_26 2 rfl ?_
      refine wp_iconst dX2_sort_27 ic_1 ?_
      refine wp_isub dX2_sort_28 ?_
      refine wp_iald dX2_sort_29 rfl (vcm 12 (by decide) rfl c19_1 hc hb) ?_
      refine wp_aload_n dX2_sort_30 0 rfl ?_
      refine wp_getR dX2_sort_31 faX2_9 rfl rfl ?_
      refine wp_iload_n dX2_sort_34 1 rfl ?_
      refine wp_iald dX2_sort_35 rfl (vin 12 (by decide) rfl hb0 hb) ?_
      refine wp_icmp_le 59 dX2_sort_36 (by decide) (fun c36_2 => ?_) (fun c36_2 => ?_)
      · refine wp_aload_n dX2_sort_59 0 rfl ?_
        refine wp_getR dX2_sort_60 faX2_15 rfl rfl ?_
        refine wp_iload_n dX2_sort_63 2 rfl ?_
        refine wp_aload_n dX2_sort_64 0 rfl ?_
        refine wp_getR dX2_sort_65 faX2_9 rfl rfl ?_
        refine wp_iload_n dX2_sort_68 1 rfl ?_
        refine wp_iald dX2_sort_69 rfl (vin 12 (by decide) rfl hb0 hb) ?_
        refine wp_iast dX2_sort_70 rfl (vcc 12 (by decide) rfl hc0 hc hb) ?_
        refine wp_iinc (L' := [(1, _), (0, _), (2, _)]) dX2_sort_71 rfl 1 rfl (ii_1 _) rfl ?_
        refine wp_goto 2 dX2_sort_74 (by decide) ?_
        refine wp_drop [1, 0] rfl ?_
        rw [show l_X2_sort_18 K (n + 1) b c σ = (K (b + 1) (mst σ 28 (c.toNatClampNeg) (σ 27 (b.toNatClampNeg)))) from by rw [l_X2_sort_18, if_neg c19_1, if_pos c36_2]]
        exact hK _ _ (cnt_up hb ho) (nn_inc' hb0 hb)
      · refine wp_aload_n dX2_sort_39 0 rfl ?_
        refine wp_getR dX2_sort_40 faX2_15 rfl rfl ?_
        refine wp_iload_n dX2_sort_43 2 rfl ?_
        refine wp_aload_n dX2_sort_44 0 rfl ?_
        refine wp_getR dX2_sort_45 faX2_15 rfl rfl ?_
        refine wp_iload_n dX2_sort_48 2 rfl ?_
        refine wp_iconst dX2_sort_49 ic_1 ?_
        refine wp_isub dX2_sort_50 ?_
        refine wp_iald dX2_sort_51 rfl (vcm 12 (by decide) rfl c19_1 hc hb) ?_
        refine wp_iast dX2_sort_52 rfl (vcc 12 (by decide) rfl hc0 hc hb) ?_
        refine wp_iinc (L' := [(2, _), (0, _), (1, _)]) dX2_sort_53 rfl 2 rfl (ii_m1 _) rfl ?_
        refine wp_goto 18 dX2_sort_56 (by decide) ?_
        refine wp_drop [1, 2, 0] rfl ?_
        rw [show l_X2_sort_18 K (n + 1) b c σ = (l_X2_sort_18 K n b (c + (-1)) (mst σ 28 (c.toNatClampNeg) (σ 28 ((c - 1).toNatClampNeg)))) from by rw [l_X2_sort_18, if_neg c19_1, if_neg c36_2]]
        exact ih _ _ _ (cnt_dn (lt_of_nle c19_1) hm) hb0 hb ho (dec_le (nlt_of_nle c19_1) hc) (dec_nn c19_1)
theorem mub {b : Int32} (h0 : ¬ b < 0) (hb : ¬ 12 ≤ b) : (b.toInt - (0 : Int32).toInt).toNat < 13 := by
  rw [Int32.le_iff_toInt_le, show (12 : Int32).toInt = 12 by decide] at hb
  rw [Int32.lt_iff_toInt_lt, Int32.toInt_zero] at h0
  rw [Int32.toInt_zero]; omega
def l_X2_sort_2 : Nat → Int32 → Mem → Mem
  | 0, _, σ => σ
  | n + 1, b, σ => if (σ 26 3) ≤ b then σ else if 12 ≤ b then σ else (l_X2_sort_18 (l_X2_sort_2 n) (fu 13) b b σ)
theorem lt_X2_sort_2 (X : Amb) : ∀ (n : Nat) (b : Int32) (σ : Mem), ((12 : Int32).toInt - b.toInt).toNat < n → ¬ b < 0 → WP X mX2_sort 2 [(0, .ref (adr X 26)), (1, .int b)] [] σ (fun v σ' => v = none ∧ σ' = l_X2_sort_2 n b σ) := by
  intro n
  induction n with
  | zero => intro b σ hm; exact absurd hm (Nat.not_lt_zero _)
  | succ n ih =>
    intro b σ hm h0
    refine wp_iload_n dX2_sort_2 1 rfl ?_
    refine wp_aload_n dX2_sort_3 0 rfl ?_
    refine wp_getI dX2_sort_4 faX2_21 rfl rfl ?_
    refine wp_icmp_ge 77 dX2_sort_7 (by decide) (fun c7_1 => ?_) (fun c7_1 => ?_)
    · refine wp_return dX2_sort_77 rfl ?_
      exact ⟨rfl, by rw [l_X2_sort_2, if_pos c7_1]⟩
    · refine wp_iload_n dX2_sort_10 1 rfl ?_
      refine wp_bipush dX2_sort_11 bp_12 ?_
      refine wp_icmp_ge 77 dX2_sort_13 (by decide) (fun c13_2 => ?_) (fun c13_2 => ?_)
      · refine wp_return dX2_sort_77 rfl ?_
        exact ⟨rfl, by rw [l_X2_sort_2, if_neg c7_1, if_pos c13_2]⟩
      · refine wp_iload_n dX2_sort_16 1 rfl ?_
        refine wp_istore_n (L' := [(2, _), (0, _), (1, _)]) dX2_sort_17 rfl rfl ?_
        refine wp_drop [1, 2, 0] rfl ?_
        rw [show l_X2_sort_2 (n + 1) b σ = (l_X2_sort_18 (l_X2_sort_2 n) (fu 13) b b σ) from by rw [l_X2_sort_2]; rw [if_neg c7_1, if_neg c13_2]]
        exact lt_X2_sort_18 X (l_X2_sort_2 n) n ih  (fu 13) b b σ (fu_lt (mub h0 c13_2)) h0 c13_2 hm (leref _) h0
def f_X2_sort (σ : Mem) : Mem := (l_X2_sort_2 (fu 13) 0 σ)
theorem s_X2_sort (X : Amb) (σ : Mem) : SpV X mX2_sort [.ref (adr X 26)] σ (f_X2_sort σ) := by
  refine sp_of (by decide +kernel) rfl ?_
  show WP X mX2_sort 0 [(0, .ref (adr X 26))] [] σ _
  refine wp_iconst dX2_sort_0 ic_0 ?_
  refine wp_istore_n (L' := [(1, _), (0, _)]) dX2_sort_1 rfl rfl ?_
  refine wp_drop [1, 0] rfl ?_
  rw [show f_X2_sort σ = (l_X2_sort_2 (fu 13) 0 σ) from rfl]
  exact lt_X2_sort_2 X  (fu 13) 0 σ (fu_lt (by decide)) nn0
end
