noncomputable section
theorem fr_X2_tell (σ : Mem) (a : Int32) {q : Nat} (h0 : q ≠ 26) (h1 : q ≠ 27) : (f_X2_tell σ a) q = σ q := by
  unfold f_X2_tell
  (repeat' split) <;> simp [mst, h0, h1]
theorem shk_ge {a : Int32} : 31 ≤ shk a := by unfold shk; omega
theorem rd_tell (σ : Mem) (a v : Int32) : f_X5_size (f_X2_tell σ v) (shk a) = f_X5_size σ (shk a) := by
  unfold f_X5_size
  have := @shk_ge a
  rw [fr_X2_tell σ v (by omega) (by omega)]
def l_X8_read_28 : Nat → Int32 → Int32 → Mem → Int32 × Mem
  | 0, _, _, σ => (0, σ)
  | n + 1, a, b, σ => if (f_X5_size σ (shk a)) ≤ b then (b, σ) else if (f_X2_isFull σ) = 0 then if (f_X8_isFootMinute σ (f_X5_itemAt σ (shk a) b)) = 0 then (b, σ) else (l_X8_read_28 n a (b + 1) (f_X2_tell σ (f_X5_itemAt σ (shk a) b))) else (b, σ)
theorem lt_X8_read_28 (X : Amb) (B : Int32) : ∀ (n : Nat) (a : Int32) (b : Int32) (σ : Mem), (B.toInt - b.toInt).toNat < n → 0 ≤ a ∧ a < 4 → f_X5_size σ (shk a) = B → WP X mX8_read 28 [(0, .ref (adr X 0)), (1, .int a), (2, .ref (adr X (shk a))), (3, .int b)] [] σ (fun v σ' => v = some (.int (l_X8_read_28 n a b σ).1) ∧ σ' = (l_X8_read_28 n a b σ).2) := by
  intro n
  induction n with
  | zero => intro a b σ hm; exact absurd hm (Nat.not_lt_zero _)
  | succ n ih =>
    intro a b σ hm hq hB
    refine wp_iload_n dX8_read_28 3 rfl ?_
    refine wp_aload_n dX8_read_29 2 rfl ?_
    refine wp_cV0w (N := mX5_size) dX8_read_30 tmX8_248 okX5_size rfl (shk_ok hq).s rfl rfl rfl rfl rfl rfl (s_X5_size X _ (shk a) (shk_ok hq)) ?_
    refine wp_icmp_ge 75 dX8_read_33 (by decide) (fun c33_1 => ?_) (fun c33_1 => ?_)
    · refine wp_iload_n dX8_read_75 3 rfl ?_
      refine wp_ireturn dX8_read_76 rfl ?_
      exact ⟨by rw [l_X8_read_28, if_pos c33_1], by rw [l_X8_read_28, if_pos c33_1]⟩
    · refine wp_aload_n dX8_read_36 0 rfl ?_
      refine wp_getR dX8_read_37 faX8_86 rfl rfl ?_
      refine wp_cV0w (N := mX2_isFull) dX8_read_40 tmX8_230 okX2_isFull rfl rfl rfl rfl rfl rfl rfl rfl (s_X2_isFull X _) ?_
      refine wp_if_ne 75 dX8_read_43 (by decide) (fun c43_2 => ?_) (fun c43_2 => ?_)
      · refine wp_iload_n dX8_read_75 3 rfl ?_
        refine wp_ireturn dX8_read_76 rfl ?_
        exact ⟨by rw [l_X8_read_28, if_neg c33_1, if_neg c43_2], by rw [l_X8_read_28, if_neg c33_1, if_neg c43_2]⟩
      · refine wp_aload_n dX8_read_46 2 rfl ?_
        refine wp_iload_n dX8_read_47 3 rfl ?_
        refine wp_cV1w (N := mX5_itemAt) dX8_read_48 tmX8_249 okX5_itemAt rfl (shk_ok hq).s rfl rfl rfl rfl rfl rfl (s_X5_itemAt X _ (shk a) _ (shk_ok hq)) ?_
        refine wp_cS1w (N := mX8_isFootMinute) dX8_read_51 tmX8_227 okX8_isFootMinute rfl rfl rfl rfl (s_X8_isFootMinute X _ _) ?_
        refine wp_if_eq 75 dX8_read_54 (by decide) (fun c54_3 => ?_) (fun c54_3 => ?_)
        · refine wp_iload_n dX8_read_75 3 rfl ?_
          refine wp_ireturn dX8_read_76 rfl ?_
          exact ⟨by rw [l_X8_read_28, if_neg c33_1, if_pos c43_2, if_pos c54_3], by rw [l_X8_read_28, if_neg c33_1, if_pos c43_2, if_pos c54_3]⟩
        · refine wp_aload_n dX8_read_57 0 rfl ?_
          refine wp_getR dX8_read_58 faX8_86 rfl rfl ?_
          refine wp_aload_n dX8_read_61 2 rfl ?_
          refine wp_iload_n dX8_read_62 3 rfl ?_
          refine wp_cV1w (N := mX5_itemAt) dX8_read_63 tmX8_249 okX5_itemAt rfl (shk_ok hq).s rfl rfl rfl rfl rfl rfl (s_X5_itemAt X _ (shk a) _ (shk_ok hq)) ?_
          refine wp_cV1v (N := mX2_tell) dX8_read_66 tmX8_231 okX2_tell rfl rfl rfl rfl rfl rfl rfl rfl (s_X2_tell X _ _) ?_
          refine wp_iinc (L' := [(3, _), (0, _), (1, _), (2, _)]) dX8_read_69 rfl 3 rfl (ii_1 _) rfl ?_
          refine wp_goto 28 dX8_read_72 (by decide) ?_
          refine wp_drop [1, 2, 3, 0] rfl ?_
          rw [show l_X8_read_28 (n + 1) a b σ = (l_X8_read_28 n a (b + 1) (f_X2_tell σ (f_X5_itemAt σ (shk a) b))) from by rw [l_X8_read_28, if_neg c33_1, if_pos c43_2, if_neg c54_3]]
          exact ih _ _ _ (cnt_up (hB ▸ c33_1) hm) hq (by rw [rd_tell]; exact hB)
def f_X8_read (σ : Mem) (a : Int32) : Int32 × Mem := if 0 ≤ a ∧ a < 4 then if (f_X5_isLost σ (shk a)) = 0 then (l_X8_read_28 (fu ((f_X5_size σ (shk a)).toInt.toNat + 1)) a 0 σ) else ((f_X8_found σ 1).1, (f_X8_found σ 1).2) else ((-2), σ)
theorem s_X8_read (X : Amb) (σ : Mem) (a : Int32) : SpW X mX8_read [.ref (adr X 0), .int a] σ (.int (f_X8_read σ a).1) (f_X8_read σ a).2 := by
  refine sp_of (by decide +kernel) rfl ?_
  show WP X mX8_read 0 [(0, .ref (adr X 0)), (1, .int a)] [] σ _
  refine wp_aload_n dX8_read_0 0 rfl ?_
  refine wp_iload_n dX8_read_1 1 rfl ?_
  by_cases k2_0 : 0 ≤ a ∧ a < 4
  · refine wp_cV1w (N := mX8_sheetAt) dX8_read_2 tmX8_238 okX8_sheetAt rfl rfl rfl rfl rfl rfl rfl rfl (s_sheetAt X _ _ k2_0) ?_
    refine wp_astore_n (L' := [(2, _), (0, _), (1, _)]) dX8_read_5 rfl rfl ?_
    refine wp_aload_n dX8_read_6 0 rfl ?_
    refine wp_ifnonnull 13 dX8_read_7 (by decide) ?_
    refine wp_aload_n dX8_read_13 0 rfl ?_
    refine wp_cV0w (N := mX5_isLost) dX8_read_14 tmX8_242 okX5_isLost rfl (shk_ok k2_0).s rfl rfl rfl rfl rfl rfl (s_X5_isLost X _ (shk a) (shk_ok k2_0)) ?_
    refine wp_if_eq 26 dX8_read_17 (by decide) (fun c17_1 => ?_) (fun c17_1 => ?_)
    · refine wp_iconst dX8_read_26 ic_0 ?_
      refine wp_istore_n (L' := [(3, _), (2, _), (0, _), (1, _)]) dX8_read_27 rfl rfl ?_
      refine wp_drop [2, 3, 1, 0] rfl ?_
      rw [show f_X8_read σ a = (l_X8_read_28 (fu ((f_X5_size σ (shk a)).toInt.toNat + 1)) a 0 σ) from by unfold f_X8_read; rw [if_pos k2_0, if_pos c17_1]]
      exact lt_X8_read_28 X (f_X5_size σ (shk a)) (fu ((f_X5_size σ (shk a)).toInt.toNat + 1)) a 0 σ (fu_lt mu0) k2_0 rfl
    · refine wp_aload_n dX8_read_20 1 rfl ?_
      refine wp_iconst dX8_read_21 ic_1 ?_
      refine wp_cV1w (N := mX8_found) dX8_read_22 tmX8_245 okX8_found rfl rfl rfl rfl rfl rfl rfl rfl (s_X8_found X _ _) ?_
      refine wp_ireturn dX8_read_25 rfl ?_
      exact ⟨by unfold f_X8_read; rw [if_pos k2_0, if_neg c17_1], by unfold f_X8_read; rw [if_pos k2_0, if_neg c17_1]⟩
  · refine wp_cV1w (N := mX8_sheetAt) dX8_read_2 tmX8_238 okX8_sheetAt rfl rfl rfl rfl rfl rfl rfl rfl (s_sheetAtN X _ _ k2_0) ?_
    refine wp_astore_nN (L' := [(2, _), (0, _), (1, _)]) dX8_read_5 rfl rfl ?_
    refine wp_aload_nN dX8_read_6 0 rfl ?_
    refine wp_ifnonnullN dX8_read_7 ?_
    refine wp_bipush dX8_read_10 bp_m2 ?_
    refine wp_ireturn dX8_read_12 rfl ?_
    exact ⟨by unfold f_X8_read; rw [if_neg k2_0], by unfold f_X8_read; rw [if_neg k2_0]⟩
def l_X8_write_47 : Nat → Int32 → Int32 → Int32 → Int32 → Mem → Int32 × Mem
  | 0, _, _, _, _, σ => (0, σ)
  | n + 1, a, b, c, d, σ => if c ≤ d then (c, σ) else (l_X8_write_47 n a b c (d + 1) (f_X5_put σ (shk b) d (f_X4_given σ a d)))
theorem lt_X8_write_47 (X : Amb) : ∀ (n : Nat) (a : Int32) (b : Int32) (c : Int32) (d : Int32) (σ : Mem), (c.toInt - d.toInt).toNat < n → 0 ≤ b ∧ b < 4 → WP X mX8_write 47 [(0, .ref (adr X 0)), (1, .int a), (2, .int b), (3, .ref (adr X (shk b))), (4, .int c), (5, .int d)] [] σ (fun v σ' => v = some (.int (l_X8_write_47 n a b c d σ).1) ∧ σ' = (l_X8_write_47 n a b c d σ).2) := by
  intro n
  induction n with
  | zero => intro a b c d σ hm; exact absurd hm (Nat.not_lt_zero _)
  | succ n ih =>
    intro a b c d σ hm hq
    refine wp_iload dX8_write_47 5 rfl ?_
    refine wp_iload dX8_write_49 4 rfl ?_
    refine wp_icmp_ge 76 dX8_write_51 (by decide) (fun c51_1 => ?_) (fun c51_1 => ?_)
    · refine wp_iload dX8_write_76 4 rfl ?_
      refine wp_ireturn dX8_write_78 rfl ?_
      exact ⟨by rw [l_X8_write_47, if_pos c51_1], by rw [l_X8_write_47, if_pos c51_1]⟩
    · refine wp_aload_n dX8_write_54 3 rfl ?_
      refine wp_iload dX8_write_55 5 rfl ?_
      refine wp_aload_n dX8_write_57 0 rfl ?_
      refine wp_getR dX8_write_58 faX8_72 rfl rfl ?_
      refine wp_iload_n dX8_write_61 1 rfl ?_
      refine wp_iload dX8_write_62 5 rfl ?_
      refine wp_cV2w (N := mX4_given) dX8_write_64 tmX8_160 okX4_given rfl rfl rfl rfl rfl rfl rfl rfl (s_X4_given X _ _ _) ?_
      refine wp_cV2v (N := mX5_put) dX8_write_67 tmX8_285 okX5_put rfl (shk_ok hq).s rfl rfl rfl rfl rfl rfl (s_X5_put X _ (shk b) _ _ (shk_ok hq)) ?_
      refine wp_iinc (L' := [(5, _), (0, _), (1, _), (2, _), (3, _), (4, _)]) dX8_write_70 rfl 5 rfl (ii_1 _) rfl ?_
      refine wp_goto 47 dX8_write_73 (by decide) ?_
      refine wp_drop [1, 2, 3, 4, 5, 0] rfl ?_
      rw [show l_X8_write_47 (n + 1) a b c d σ = (l_X8_write_47 n a b c (d + 1) (f_X5_put σ (shk b) d (f_X4_given σ a d))) from by rw [l_X8_write_47, if_neg c51_1]]
      exact ih _ _ _ _ _ (cnt_up c51_1 hm) hq
def f_X8_write (σ : Mem) (a : Int32) (b : Int32) : Int32 × Mem := if 0 ≤ b ∧ b < 4 then if (f_X8_isEngine σ a) = 0 then ((-2), σ) else if (f_X5_isLost σ (shk b)) = 0 then (l_X8_write_47 (fu ((if 40 < (f_X5_size σ (shk b)) then 40 else (f_X5_size σ (shk b))).toInt.toNat + 1)) a b (if 40 < (f_X5_size σ (shk b)) then 40 else (f_X5_size σ (shk b))) 0 σ) else ((f_X8_found σ 1).1, (f_X8_found σ 1).2) else ((-2), σ)
theorem s_X8_write (X : Amb) (σ : Mem) (a : Int32) (b : Int32) : SpW X mX8_write [.ref (adr X 0), .int a, .int b] σ (.int (f_X8_write σ a b).1) (f_X8_write σ a b).2 := by
  refine sp_of (by decide +kernel) rfl ?_
  show WP X mX8_write 0 [(0, .ref (adr X 0)), (1, .int a), (2, .int b)] [] σ _
  refine wp_aload_n dX8_write_0 0 rfl ?_
  refine wp_iload_n dX8_write_1 2 rfl ?_
  by_cases k2_0 : 0 ≤ b ∧ b < 4
  · refine wp_cV1w (N := mX8_sheetAt) dX8_write_2 tmX8_238 okX8_sheetAt rfl rfl rfl rfl rfl rfl rfl rfl (s_sheetAt X _ _ k2_0) ?_
    refine wp_astore_n (L' := [(3, _), (0, _), (1, _), (2, _)]) dX8_write_5 rfl rfl ?_
    refine wp_aload_n dX8_write_6 0 rfl ?_
    refine wp_ifnull dX8_write_7 ?_
    refine wp_iload_n dX8_write_10 2 rfl ?_
    refine wp_cS1w (N := mX8_isEngine) dX8_write_11 tmX8_142 okX8_isEngine rfl rfl rfl rfl (s_X8_isEngine X _ _) ?_
    refine wp_if_ne 20 dX8_write_14 (by decide) (fun c14_1 => ?_) (fun c14_1 => ?_)
    · refine wp_aload_n dX8_write_20 0 rfl ?_
      refine wp_cV0w (N := mX5_isLost) dX8_write_21 tmX8_242 okX5_isLost rfl (shk_ok k2_0).s rfl rfl rfl rfl rfl rfl (s_X5_isLost X _ (shk b) (shk_ok k2_0)) ?_
      refine wp_if_eq 33 dX8_write_24 (by decide) (fun c24_2 => ?_) (fun c24_2 => ?_)
      · refine wp_aload_n dX8_write_33 0 rfl ?_
        refine wp_cV0w (N := mX5_size) dX8_write_34 tmX8_248 okX5_size rfl (shk_ok k2_0).s rfl rfl rfl rfl rfl rfl (s_X5_size X _ (shk b) (shk_ok k2_0)) ?_
        refine wp_bipush dX8_write_37 bp_40 ?_
        refine wp_mmin dX8_write_39 tnX8_302 rfl rfl ?_
        refine wp_istore (L' := [(4, _), (3, _), (0, _), (1, _), (2, _)]) dX8_write_42 rfl rfl ?_
        refine wp_iconst dX8_write_44 ic_0 ?_
        refine wp_istore (L' := [(5, _), (4, _), (3, _), (0, _), (1, _), (2, _)]) dX8_write_45 rfl rfl ?_
        refine wp_drop [3, 4, 5, 2, 1, 0] rfl ?_
        rw [show f_X8_write σ a b = (l_X8_write_47 (fu ((if 40 < (f_X5_size σ (shk b)) then 40 else (f_X5_size σ (shk b))).toInt.toNat + 1)) a b (if 40 < (f_X5_size σ (shk b)) then 40 else (f_X5_size σ (shk b))) 0 σ) from by unfold f_X8_write; rw [if_pos k2_0, if_neg c14_1, if_pos c24_2]]
        exact lt_X8_write_47 X  (fu ((if 40 < (f_X5_size σ (shk b)) then 40 else (f_X5_size σ (shk b))).toInt.toNat + 1)) a b (if 40 < (f_X5_size σ (shk b)) then 40 else (f_X5_size σ (shk b))) 0 σ (fu_lt mu0) k2_0
      · refine wp_aload_n dX8_write_27 1 rfl ?_
        refine wp_iconst dX8_write_28 ic_1 ?_
        refine wp_cV1w (N := mX8_found) dX8_write_29 tmX8_245 okX8_found rfl rfl rfl rfl rfl rfl rfl rfl (s_X8_found X _ _) ?_
        refine wp_ireturn dX8_write_32 rfl ?_
        exact ⟨by unfold f_X8_write; rw [if_pos k2_0, if_neg c14_1, if_neg c24_2], by unfold f_X8_write; rw [if_pos k2_0, if_neg c14_1, if_neg c24_2]⟩
    · refine wp_bipush dX8_write_17 bp_m2 ?_
      refine wp_ireturn dX8_write_19 rfl ?_
      exact ⟨by unfold f_X8_write; rw [if_pos k2_0, if_pos c14_1], by unfold f_X8_write; rw [if_pos k2_0, if_pos c14_1]⟩
  · refine wp_cV1w (N := mX8_sheetAt) dX8_write_2 tmX8_238 okX8_sheetAt rfl rfl rfl rfl rfl rfl rfl rfl (s_sheetAtN X _ _ k2_0) ?_
    refine wp_astore_nN (L' := [(3, _), (0, _), (1, _), (2, _)]) dX8_write_5 rfl rfl ?_
    refine wp_aload_nN dX8_write_6 0 rfl ?_
    refine wp_ifnullN 17 dX8_write_7 (by decide) ?_
    refine wp_bipush dX8_write_17 bp_m2 ?_
    refine wp_ireturn dX8_write_19 rfl ?_
    exact ⟨by unfold f_X8_write; rw [if_neg k2_0], by unfold f_X8_write; rw [if_neg k2_0]⟩
def f_X8_count (σ : Mem) (a : Int32) : Int32 := if a = 0 then (f_X1_size σ) else if a = 1 then (f_X6_size σ) else if a = 2 then (f_X7_size σ 1) else if a = 3 then (f_X7_size σ 3) else if a = 4 then (f_X2_size σ) else if a = 5 then (f_X1_whole σ) else if a = 6 then (f_X6_bends σ) else if a = 7 then (f_X3_at σ 15 3 4 5 4) else if a = 8 then (σ 0 12) else (-2)
theorem s_X8_count (X : Amb) (σ : Mem) (a : Int32) : SpW X mX8_count [.ref (adr X 0), .int a] σ (.int (f_X8_count σ a)) σ := by
  refine sp_of (by decide +kernel) rfl ?_
  show WP X mX8_count 0 [(0, .ref (adr X 0)), (1, .int a)] [] σ _
  refine wp_iload_n dX8_count_0 1 rfl ?_
  by_cases t1_0 : a = 0
  · refine wp_tableIn 52 dX8_count_1 (by rw [t1_0]; decide) (by rw [t1_0]; decide) (by rw [t1_0]; rfl) (by decide) ?_
    refine wp_aload_n dX8_count_52 0 rfl ?_
    refine wp_getR dX8_count_53 faX8_24 rfl rfl ?_
    refine wp_cV0w (N := mX1_size) dX8_count_56 tmX8_126 okX1_size rfl rfl rfl rfl rfl rfl rfl rfl (s_X1_size X _) ?_
    refine wp_ireturn dX8_count_59 rfl ?_
    exact ⟨by unfold f_X8_count; rw [if_pos t1_0], rfl⟩
  · by_cases t1_1 : a = 1
    · refine wp_tableIn 60 dX8_count_1 (by rw [t1_1]; decide) (by rw [t1_1]; decide) (by rw [t1_1]; rfl) (by decide) ?_
      refine wp_aload_n dX8_count_60 0 rfl ?_
      refine wp_getR dX8_count_61 faX8_31 rfl rfl ?_
      refine wp_cV0w (N := mX6_size) dX8_count_64 tmX8_131 okX6_size rfl rfl rfl rfl rfl rfl rfl rfl (s_X6_size X _) ?_
      refine wp_ireturn dX8_count_67 rfl ?_
      exact ⟨by unfold f_X8_count; rw [if_neg t1_0, if_pos t1_1], rfl⟩
    · by_cases t1_2 : a = 2
      · refine wp_tableIn 68 dX8_count_1 (by rw [t1_2]; decide) (by rw [t1_2]; decide) (by rw [t1_2]; rfl) (by decide) ?_
        refine wp_aload_n dX8_count_68 0 rfl ?_
        refine wp_getR dX8_count_69 faX8_14 rfl rfl ?_
        refine wp_cV0w (N := mX7_size) dX8_count_72 tmX8_115 okX7_size rfl rfl rfl rfl rfl rfl rfl rfl (s_X7_size X _ 1 tx1) ?_
        refine wp_ireturn dX8_count_75 rfl ?_
        exact ⟨by unfold f_X8_count; rw [if_neg t1_0, if_neg t1_1, if_pos t1_2], rfl⟩
      · by_cases t1_3 : a = 3
        · refine wp_tableIn 76 dX8_count_1 (by rw [t1_3]; decide) (by rw [t1_3]; decide) (by rw [t1_3]; rfl) (by decide) ?_
          refine wp_aload_n dX8_count_76 0 rfl ?_
          refine wp_getR dX8_count_77 faX8_18 rfl rfl ?_
          refine wp_cV0w (N := mX7_size) dX8_count_80 tmX8_115 okX7_size rfl rfl rfl rfl rfl rfl rfl rfl (s_X7_size X _ 3 tx3) ?_
          refine wp_ireturn dX8_count_83 rfl ?_
          exact ⟨by unfold f_X8_count; rw [if_neg t1_0, if_neg t1_1, if_neg t1_2, if_pos t1_3], rfl⟩
        · by_cases t1_4 : a = 4
          · refine wp_tableIn 84 dX8_count_1 (by rw [t1_4]; decide) (by rw [t1_4]; decide) (by rw [t1_4]; rfl) (by decide) ?_
            refine wp_aload_n dX8_count_84 0 rfl ?_
            refine wp_getR dX8_count_85 faX8_86 rfl rfl ?_
            refine wp_cV0w (N := mX2_size) dX8_count_88 tmX8_234 okX2_size rfl rfl rfl rfl rfl rfl rfl rfl (s_X2_size X _) ?_
            refine wp_ireturn dX8_count_91 rfl ?_
            exact ⟨by unfold f_X8_count; rw [if_neg t1_0, if_neg t1_1, if_neg t1_2, if_neg t1_3, if_pos t1_4], rfl⟩
          · by_cases t1_5 : a = 5
            · refine wp_tableIn 92 dX8_count_1 (by rw [t1_5]; decide) (by rw [t1_5]; decide) (by rw [t1_5]; rfl) (by decide) ?_
              refine wp_aload_n dX8_count_92 0 rfl ?_
              refine wp_getR dX8_count_93 faX8_24 rfl rfl ?_
              refine wp_cV0w (N := mX1_whole) dX8_count_96 tmX8_180 okX1_whole rfl rfl rfl rfl rfl rfl rfl rfl (s_X1_whole X _) ?_
              refine wp_ireturn dX8_count_99 rfl ?_
              exact ⟨by unfold f_X8_count; rw [if_neg t1_0, if_neg t1_1, if_neg t1_2, if_neg t1_3, if_neg t1_4, if_pos t1_5], rfl⟩
            · by_cases t1_6 : a = 6
              · refine wp_tableIn 100 dX8_count_1 (by rw [t1_6]; decide) (by rw [t1_6]; decide) (by rw [t1_6]; rfl) (by decide) ?_
                refine wp_aload_n dX8_count_100 0 rfl ?_
                refine wp_getR dX8_count_101 faX8_31 rfl rfl ?_
                refine wp_cV0w (N := mX6_bends) dX8_count_104 tmX8_307 okX6_bends rfl rfl rfl rfl rfl rfl rfl rfl (s_X6_bends X _) ?_
                refine wp_ireturn dX8_count_107 rfl ?_
                exact ⟨by unfold f_X8_count; rw [if_neg t1_0, if_neg t1_1, if_neg t1_2, if_neg t1_3, if_neg t1_4, if_neg t1_5, if_pos t1_6], rfl⟩
              · by_cases t1_7 : a = 7
                · refine wp_tableIn 108 dX8_count_1 (by rw [t1_7]; decide) (by rw [t1_7]; decide) (by rw [t1_7]; rfl) (by decide) ?_
                  refine wp_aload_n dX8_count_108 0 rfl ?_
                  refine wp_getR dX8_count_109 faX8_66 rfl rfl ?_
                  refine wp_iconst dX8_count_112 ic_4 ?_
                  refine wp_cV1w (N := mX3_at) dX8_count_113 tmX8_190 okX3_at rfl rfl rfl rfl rfl rfl rfl rfl (s_X3_at X _ 15 3 4 5 _ dl15) ?_
                  refine wp_ireturn dX8_count_116 rfl ?_
                  exact ⟨by unfold f_X8_count; rw [if_neg t1_0, if_neg t1_1, if_neg t1_2, if_neg t1_3, if_neg t1_4, if_neg t1_5, if_neg t1_6, if_pos t1_7], rfl⟩
                · by_cases t1_8 : a = 8
                  · refine wp_tableIn 117 dX8_count_1 (by rw [t1_8]; decide) (by rw [t1_8]; decide) (by rw [t1_8]; rfl) (by decide) ?_
                    refine wp_aload_n dX8_count_117 0 rfl ?_
                    refine wp_getI dX8_count_118 faX8_97 rfl rfl ?_
                    refine wp_ireturn dX8_count_121 rfl ?_
                    exact ⟨by unfold f_X8_count; rw [if_neg t1_0, if_neg t1_1, if_neg t1_2, if_neg t1_3, if_neg t1_4, if_neg t1_5, if_neg t1_6, if_neg t1_7, if_pos t1_8], rfl⟩
                  · refine wp_tableOut 122 dX8_count_1 (by have e0 : (a).toInt ≠ 0 := fun q => t1_0 (Int32.toInt_inj.mp (by rw [q]; decide)); have e1 : (a).toInt ≠ 1 := fun q => t1_1 (Int32.toInt_inj.mp (by rw [q]; decide)); have e2 : (a).toInt ≠ 2 := fun q => t1_2 (Int32.toInt_inj.mp (by rw [q]; decide)); have e3 : (a).toInt ≠ 3 := fun q => t1_3 (Int32.toInt_inj.mp (by rw [q]; decide)); have e4 : (a).toInt ≠ 4 := fun q => t1_4 (Int32.toInt_inj.mp (by rw [q]; decide)); have e5 : (a).toInt ≠ 5 := fun q => t1_5 (Int32.toInt_inj.mp (by rw [q]; decide)); have e6 : (a).toInt ≠ 6 := fun q => t1_6 (Int32.toInt_inj.mp (by rw [q]; decide)); have e7 : (a).toInt ≠ 7 := fun q => t1_7 (Int32.toInt_inj.mp (by rw [q]; decide)); have e8 : (a).toInt ≠ 8 := fun q => t1_8 (Int32.toInt_inj.mp (by rw [q]; decide)); omega) (by decide) ?_
                    refine wp_bipush dX8_count_122 bp_m2 ?_
                    refine wp_ireturn dX8_count_124 rfl ?_
                    exact ⟨by unfold f_X8_count; rw [if_neg t1_0, if_neg t1_1, if_neg t1_2, if_neg t1_3, if_neg t1_4, if_neg t1_5, if_neg t1_6, if_neg t1_7, if_neg t1_8], rfl⟩
def l_X8_mixedWagons_5 : Nat → Int64 → Int64 → Int32 → Mem → Int64
  | 0, _, _, _, σ => 0
  | n + 1, a, b, c, σ => if (f_X1_size σ) ≤ c then b else (l_X8_mixedWagons_5 n a (f_X8_mixed σ (f_X8_mixed σ (f_X8_mixed σ b ((f_X8_wagon σ c).toInt64)) (f_X8_strain σ 3 c 0)) (f_X8_strain σ 3 c 1)) (c + 1) σ)
theorem lt_X8_mixedWagons_5 (X : Amb) : ∀ (n : Nat) (a : Int64) (b : Int64) (c : Int32) (σ : Mem), ((f_X1_size σ).toInt - c.toInt).toNat < n → WP X mX8_mixedWagons 5 [(0, .ref (adr X 0)), (1, .long a), (3, .long b), (5, .int c)] [] σ (fun v σ' => v = some (.long (l_X8_mixedWagons_5 n a b c σ)) ∧ σ' = σ) := by
  intro n
  induction n with
  | zero => intro a b c σ hm; exact absurd hm (Nat.not_lt_zero _)
  | succ n ih =>
    intro a b c σ hm 
    refine wp_iload dX8_mixedWagons_5 3 rfl ?_
    refine wp_aload_n dX8_mixedWagons_7 0 rfl ?_
    refine wp_getR dX8_mixedWagons_8 faX8_24 rfl rfl ?_
    refine wp_cV0w (N := mX1_size) dX8_mixedWagons_11 tmX8_126 okX1_size rfl rfl rfl rfl rfl rfl rfl rfl (s_X1_size X _) ?_
    refine wp_icmp_ge 59 dX8_mixedWagons_14 (by decide) (fun c14_1 => ?_) (fun c14_1 => ?_)
    · refine wp_lload_n dX8_mixedWagons_59 2 rfl ?_
      refine wp_lreturn dX8_mixedWagons_60 rfl ?_
      exact ⟨by rw [l_X8_mixedWagons_5, if_pos c14_1], rfl⟩
    · refine wp_lload_n dX8_mixedWagons_17 2 rfl ?_
      refine wp_aload_n dX8_mixedWagons_18 0 rfl ?_
      refine wp_iload dX8_mixedWagons_19 3 rfl ?_
      refine wp_cV1w (N := mX8_wagon) dX8_mixedWagons_21 tmX8_341 okX8_wagon rfl rfl rfl rfl rfl rfl rfl rfl (s_X8_wagon X _ _) ?_
      refine wp_i2l dX8_mixedWagons_24 ?_
      refine wp_cS2w (N := mX8_mixed) dX8_mixedWagons_25 tmX8_315 okX8_mixed rfl rfl rfl rfl (s_X8_mixed X _ _ _) ?_
      refine wp_lstore_n (L' := [(3, _), (0, _), (1, _), (5, _)]) dX8_mixedWagons_28 rfl rfl ?_
      refine wp_lload_n dX8_mixedWagons_29 0 rfl ?_
      refine wp_aload_n dX8_mixedWagons_30 1 rfl ?_
      refine wp_iconst dX8_mixedWagons_31 ic_3 ?_
      refine wp_iload dX8_mixedWagons_32 3 rfl ?_
      refine wp_iconst dX8_mixedWagons_34 ic_0 ?_
      refine wp_cV3w (N := mX8_strain) dX8_mixedWagons_35 tmX8_344 okX8_strain rfl rfl rfl rfl rfl rfl rfl rfl (s_X8_strain X _ _ _ _) ?_
      refine wp_cS2w (N := mX8_mixed) dX8_mixedWagons_38 tmX8_315 okX8_mixed rfl rfl rfl rfl (s_X8_mixed X _ _ _) ?_
      refine wp_aload_n dX8_mixedWagons_41 1 rfl ?_
      refine wp_iconst dX8_mixedWagons_42 ic_3 ?_
      refine wp_iload dX8_mixedWagons_43 3 rfl ?_
      refine wp_iconst dX8_mixedWagons_45 ic_1 ?_
      refine wp_cV3w (N := mX8_strain) dX8_mixedWagons_46 tmX8_344 okX8_strain rfl rfl rfl rfl rfl rfl rfl rfl (s_X8_strain X _ _ _ _) ?_
      refine wp_cS2w (N := mX8_mixed) dX8_mixedWagons_49 tmX8_315 okX8_mixed rfl rfl rfl rfl (s_X8_mixed X _ _ _) ?_
      refine wp_lstore_n (L' := [(3, _), (0, _), (1, _), (5, _)]) dX8_mixedWagons_52 rfl rfl ?_
      refine wp_iinc (L' := [(5, _), (3, _), (0, _), (1, _)]) dX8_mixedWagons_53 rfl 3 rfl (ii_1 _) rfl ?_
      refine wp_goto 5 dX8_mixedWagons_56 (by decide) ?_
      refine wp_drop [2, 3, 1, 0] rfl ?_
      rw [show l_X8_mixedWagons_5 (n + 1) a b c σ = (l_X8_mixedWagons_5 n a (f_X8_mixed σ (f_X8_mixed σ (f_X8_mixed σ b ((f_X8_wagon σ c).toInt64)) (f_X8_strain σ 3 c 0)) (f_X8_strain σ 3 c 1)) (c + 1) σ) from by rw [l_X8_mixedWagons_5, if_neg c14_1]]
      exact ih _ _ _ _ (cnt_up c14_1 hm) 
def f_X8_mixedWagons (σ : Mem) (a : Int64) : Int64 := (l_X8_mixedWagons_5 (fu ((f_X1_size σ).toInt.toNat + 1)) a a 0 σ)
theorem s_X8_mixedWagons (X : Amb) (σ : Mem) (a : Int64) : SpW X mX8_mixedWagons [.ref (adr X 0), .long a] σ (.long (f_X8_mixedWagons σ a)) σ := by
  refine sp_of (by decide +kernel) rfl ?_
  show WP X mX8_mixedWagons 0 [(0, .ref (adr X 0)), (1, .long a)] [] σ _
  refine wp_lload_n dX8_mixedWagons_0 1 rfl ?_
  refine wp_lstore_n (L' := [(3, _), (0, _), (1, _)]) dX8_mixedWagons_1 rfl rfl ?_
  refine wp_iconst dX8_mixedWagons_2 ic_0 ?_
  refine wp_istore (L' := [(5, _), (3, _), (0, _), (1, _)]) dX8_mixedWagons_3 rfl rfl ?_
  refine wp_drop [2, 3, 1, 0] rfl ?_
  rw [show f_X8_mixedWagons σ a = (l_X8_mixedWagons_5 (fu ((f_X1_size σ).toInt.toNat + 1)) a a 0 σ) from rfl]
  exact lt_X8_mixedWagons_5 X  (fu ((f_X1_size σ).toInt.toNat + 1)) a a 0 σ (fu_lt mu0) 
def l_X8_mixedHill_5 : Nat → Int64 → Int64 → Int32 → Mem → Int64
  | 0, _, _, _, σ => 0
  | n + 1, a, b, c, σ => if (f_X6_size σ) ≤ c then b else (l_X8_mixedHill_5 n a (f_X8_mixed σ (f_X8_mixed σ b ((f_X8_hill σ c 0).toInt64)) ((f_X8_hill σ c 1).toInt64)) (c + 1) σ)
theorem lt_X8_mixedHill_5 (X : Amb) : ∀ (n : Nat) (a : Int64) (b : Int64) (c : Int32) (σ : Mem), ((f_X6_size σ).toInt - c.toInt).toNat < n → WP X mX8_mixedHill 5 [(0, .ref (adr X 0)), (1, .long a), (3, .long b), (5, .int c)] [] σ (fun v σ' => v = some (.long (l_X8_mixedHill_5 n a b c σ)) ∧ σ' = σ) := by
  intro n
  induction n with
  | zero => intro a b c σ hm; exact absurd hm (Nat.not_lt_zero _)
  | succ n ih =>
    intro a b c σ hm 
    refine wp_iload dX8_mixedHill_5 3 rfl ?_
    refine wp_aload_n dX8_mixedHill_7 0 rfl ?_
    refine wp_getR dX8_mixedHill_8 faX8_31 rfl rfl ?_
    refine wp_cV0w (N := mX6_size) dX8_mixedHill_11 tmX8_131 okX6_size rfl rfl rfl rfl rfl rfl rfl rfl (s_X6_size X _) ?_
    refine wp_icmp_ge 47 dX8_mixedHill_14 (by decide) (fun c14_1 => ?_) (fun c14_1 => ?_)
    · refine wp_lload_n dX8_mixedHill_47 2 rfl ?_
      refine wp_lreturn dX8_mixedHill_48 rfl ?_
      exact ⟨by rw [l_X8_mixedHill_5, if_pos c14_1], rfl⟩
    · refine wp_lload_n dX8_mixedHill_17 2 rfl ?_
      refine wp_aload_n dX8_mixedHill_18 0 rfl ?_
      refine wp_iload dX8_mixedHill_19 3 rfl ?_
      refine wp_iconst dX8_mixedHill_21 ic_0 ?_
      refine wp_cV2w (N := mX8_hill) dX8_mixedHill_22 tmX8_348 okX8_hill rfl rfl rfl rfl rfl rfl rfl rfl (s_X8_hill X _ _ _) ?_
      refine wp_i2l dX8_mixedHill_25 ?_
      refine wp_cS2w (N := mX8_mixed) dX8_mixedHill_26 tmX8_315 okX8_mixed rfl rfl rfl rfl (s_X8_mixed X _ _ _) ?_
      refine wp_aload_n dX8_mixedHill_29 0 rfl ?_
      refine wp_iload dX8_mixedHill_30 3 rfl ?_
      refine wp_iconst dX8_mixedHill_32 ic_1 ?_
      refine wp_cV2w (N := mX8_hill) dX8_mixedHill_33 tmX8_348 okX8_hill rfl rfl rfl rfl rfl rfl rfl rfl (s_X8_hill X _ _ _) ?_
      refine wp_i2l dX8_mixedHill_36 ?_
      refine wp_cS2w (N := mX8_mixed) dX8_mixedHill_37 tmX8_315 okX8_mixed rfl rfl rfl rfl (s_X8_mixed X _ _ _) ?_
      refine wp_lstore_n (L' := [(3, _), (0, _), (1, _), (5, _)]) dX8_mixedHill_40 rfl rfl ?_
      refine wp_iinc (L' := [(5, _), (3, _), (0, _), (1, _)]) dX8_mixedHill_41 rfl 3 rfl (ii_1 _) rfl ?_
      refine wp_goto 5 dX8_mixedHill_44 (by decide) ?_
      refine wp_drop [2, 3, 1, 0] rfl ?_
      rw [show l_X8_mixedHill_5 (n + 1) a b c σ = (l_X8_mixedHill_5 n a (f_X8_mixed σ (f_X8_mixed σ b ((f_X8_hill σ c 0).toInt64)) ((f_X8_hill σ c 1).toInt64)) (c + 1) σ) from by rw [l_X8_mixedHill_5, if_neg c14_1]]
      exact ih _ _ _ _ (cnt_up c14_1 hm) 
def f_X8_mixedHill (σ : Mem) (a : Int64) : Int64 := (l_X8_mixedHill_5 (fu ((f_X6_size σ).toInt.toNat + 1)) a a 0 σ)
theorem s_X8_mixedHill (X : Amb) (σ : Mem) (a : Int64) : SpW X mX8_mixedHill [.ref (adr X 0), .long a] σ (.long (f_X8_mixedHill σ a)) σ := by
  refine sp_of (by decide +kernel) rfl ?_
  show WP X mX8_mixedHill 0 [(0, .ref (adr X 0)), (1, .long a)] [] σ _
  refine wp_lload_n dX8_mixedHill_0 1 rfl ?_
  refine wp_lstore_n (L' := [(3, _), (0, _), (1, _)]) dX8_mixedHill_1 rfl rfl ?_
  refine wp_iconst dX8_mixedHill_2 ic_0 ?_
  refine wp_istore (L' := [(5, _), (3, _), (0, _), (1, _)]) dX8_mixedHill_3 rfl rfl ?_
  refine wp_drop [2, 3, 1, 0] rfl ?_
  rw [show f_X8_mixedHill σ a = (l_X8_mixedHill_5 (fu ((f_X6_size σ).toInt.toNat + 1)) a a 0 σ) from rfl]
  exact lt_X8_mixedHill_5 X  (fu ((f_X6_size σ).toInt.toNat + 1)) a a 0 σ (fu_lt mu0) 
def l_X8_mixedMinutes_15 : Nat → Int64 → Int64 → Int32 → Int32 → Mem → Int64
  | 0, _, _, _, _, σ => 0
  | n + 1, a, b, c, d, σ => if c ≤ d then b else (l_X8_mixedMinutes_15 n a (f_X8_mixed σ (f_X8_mixed σ (f_X8_mixed σ (f_X8_mixed σ (f_X8_mixed σ (f_X8_mixed σ b ((f_X8_gives σ ((stv 6).getD d.toNatClampNeg 0) 0).toInt64)) ((f_X8_gives σ ((stv 6).getD d.toNatClampNeg 0) 1).toInt64)) ((f_X8_minute σ ((stv 6).getD d.toNatClampNeg 0) 0).toInt64)) ((f_X8_minute σ ((stv 6).getD d.toNatClampNeg 0) 1).toInt64)) ((f_X8_minute σ ((stv 6).getD d.toNatClampNeg 0) 2).toInt64)) ((f_X8_slack σ ((stv 6).getD d.toNatClampNeg 0)).toInt64)) c (d + 1) σ)
theorem lt_X8_mixedMinutes_15 (X : Amb) : ∀ (n : Nat) (a : Int64) (b : Int64) (c : Int32) (d : Int32) (σ : Mem), (c.toInt - d.toInt).toNat < n → c = 4 → ¬ d < 0 → CI σ → WP X mX8_mixedMinutes 15 [(0, .ref (adr X 0)), (1, .long a), (3, .long b), (5, .ref (adr X 106)), (6, .int c), (7, .int d)] [] σ (fun v σ' => v = some (.long (l_X8_mixedMinutes_15 n a b c d σ)) ∧ σ' = σ) := by
  intro n
  induction n with
  | zero => intro a b c d σ hm; exact absurd hm (Nat.not_lt_zero _)
  | succ n ih =>
    intro a b c d σ hm hc h0 hI
    refine wp_iload dX8_mixedMinutes_15 5 rfl ?_
    refine wp_iload dX8_mixedMinutes_17 4 rfl ?_
    refine wp_icmp_ge 106 dX8_mixedMinutes_19 (by decide) (fun c19_1 => ?_) (fun c19_1 => ?_)
    · refine wp_lload_n dX8_mixedMinutes_106 2 rfl ?_
      refine wp_lreturn dX8_mixedMinutes_107 rfl ?_
      exact ⟨by rw [l_X8_mixedMinutes_15, if_pos c19_1], rfl⟩
    · refine wp_aload dX8_mixedMinutes_22 3 rfl ?_
      refine wp_iload dX8_mixedMinutes_24 5 rfl ?_
      refine wp_sald 6 dX8_mixedMinutes_26 rfl rfl (vin 4 (by decide) (hc.trans rfl) h0 c19_1) ?_
      refine wp_istore (L' := [(8, _), (0, _), (1, _), (3, _), (5, _), (6, _), (7, _)]) dX8_mixedMinutes_27 rfl rfl ?_
      refine wp_lload_n dX8_mixedMinutes_29 3 rfl ?_
      refine wp_aload_n dX8_mixedMinutes_30 1 rfl ?_
      refine wp_iload dX8_mixedMinutes_31 0 rfl ?_
      refine wp_iconst dX8_mixedMinutes_33 ic_0 ?_
      refine wp_cV2w (N := mX8_gives) dX8_mixedMinutes_34 tmX8_354 okX8_gives rfl rfl rfl rfl rfl rfl rfl rfl (s_X8_gives X _ _ _) ?_
      refine wp_i2l dX8_mixedMinutes_37 ?_
      refine wp_cS2w (N := mX8_mixed) dX8_mixedMinutes_38 tmX8_315 okX8_mixed rfl rfl rfl rfl (s_X8_mixed X _ _ _) ?_
      refine wp_aload_n dX8_mixedMinutes_41 1 rfl ?_
      refine wp_iload dX8_mixedMinutes_42 0 rfl ?_
      refine wp_iconst dX8_mixedMinutes_44 ic_1 ?_
      refine wp_cV2w (N := mX8_gives) dX8_mixedMinutes_45 tmX8_354 okX8_gives rfl rfl rfl rfl rfl rfl rfl rfl (s_X8_gives X _ _ _) ?_
      refine wp_i2l dX8_mixedMinutes_48 ?_
      refine wp_cS2w (N := mX8_mixed) dX8_mixedMinutes_49 tmX8_315 okX8_mixed rfl rfl rfl rfl (s_X8_mixed X _ _ _) ?_
      refine wp_lstore_n (L' := [(3, _), (8, _), (0, _), (1, _), (5, _), (6, _), (7, _)]) dX8_mixedMinutes_52 rfl rfl ?_
      refine wp_lload_n dX8_mixedMinutes_53 0 rfl ?_
      refine wp_aload_n dX8_mixedMinutes_54 2 rfl ?_
      refine wp_iload dX8_mixedMinutes_55 1 rfl ?_
      refine wp_iconst dX8_mixedMinutes_57 ic_0 ?_
      refine wp_cV2w (N := mX8_minute) dX8_mixedMinutes_58 tmX8_357 okX8_minute rfl rfl rfl rfl rfl rfl rfl rfl (s_X8_minute X _ _ _) ?_
      refine wp_i2l dX8_mixedMinutes_61 ?_
      refine wp_cS2w (N := mX8_mixed) dX8_mixedMinutes_62 tmX8_315 okX8_mixed rfl rfl rfl rfl (s_X8_mixed X _ _ _) ?_
      refine wp_aload_n dX8_mixedMinutes_65 2 rfl ?_
      refine wp_iload dX8_mixedMinutes_66 1 rfl ?_
      refine wp_iconst dX8_mixedMinutes_68 ic_1 ?_
      refine wp_cV2w (N := mX8_minute) dX8_mixedMinutes_69 tmX8_357 okX8_minute rfl rfl rfl rfl rfl rfl rfl rfl (s_X8_minute X _ _ _) ?_
      refine wp_i2l dX8_mixedMinutes_72 ?_
      refine wp_cS2w (N := mX8_mixed) dX8_mixedMinutes_73 tmX8_315 okX8_mixed rfl rfl rfl rfl (s_X8_mixed X _ _ _) ?_
      refine wp_aload_n dX8_mixedMinutes_76 2 rfl ?_
      refine wp_iload dX8_mixedMinutes_77 1 rfl ?_
      refine wp_iconst dX8_mixedMinutes_79 ic_2 ?_
      refine wp_cV2w (N := mX8_minute) dX8_mixedMinutes_80 tmX8_357 okX8_minute rfl rfl rfl rfl rfl rfl rfl rfl (s_X8_minute X _ _ _) ?_
      refine wp_i2l dX8_mixedMinutes_83 ?_
      refine wp_cS2w (N := mX8_mixed) dX8_mixedMinutes_84 tmX8_315 okX8_mixed rfl rfl rfl rfl (s_X8_mixed X _ _ _) ?_
      refine wp_lstore_n (L' := [(3, _), (8, _), (0, _), (1, _), (5, _), (6, _), (7, _)]) dX8_mixedMinutes_87 rfl rfl ?_
      refine wp_lload_n dX8_mixedMinutes_88 0 rfl ?_
      refine wp_aload_n dX8_mixedMinutes_89 2 rfl ?_
      refine wp_iload dX8_mixedMinutes_90 1 rfl ?_
      refine wp_cV1w (N := mX8_slack) dX8_mixedMinutes_92 tmX8_360 okX8_slack rfl rfl rfl rfl rfl rfl rfl rfl (s_X8_slack X _ _ hI) ?_
      refine wp_i2l dX8_mixedMinutes_95 ?_
      refine wp_cS2w (N := mX8_mixed) dX8_mixedMinutes_96 tmX8_315 okX8_mixed rfl rfl rfl rfl (s_X8_mixed X _ _ _) ?_
      refine wp_lstore_n (L' := [(3, _), (8, _), (0, _), (1, _), (5, _), (6, _), (7, _)]) dX8_mixedMinutes_99 rfl rfl ?_
      refine wp_iinc (L' := [(7, _), (3, _), (8, _), (0, _), (1, _), (5, _), (6, _)]) dX8_mixedMinutes_100 rfl 6 rfl (ii_1 _) rfl ?_
      refine wp_goto 15 dX8_mixedMinutes_103 (by decide) ?_
      refine wp_drop [3, 4, 1, 5, 6, 0] rfl ?_
      rw [show l_X8_mixedMinutes_15 (n + 1) a b c d σ = (l_X8_mixedMinutes_15 n a (f_X8_mixed σ (f_X8_mixed σ (f_X8_mixed σ (f_X8_mixed σ (f_X8_mixed σ (f_X8_mixed σ b ((f_X8_gives σ ((stv 6).getD d.toNatClampNeg 0) 0).toInt64)) ((f_X8_gives σ ((stv 6).getD d.toNatClampNeg 0) 1).toInt64)) ((f_X8_minute σ ((stv 6).getD d.toNatClampNeg 0) 0).toInt64)) ((f_X8_minute σ ((stv 6).getD d.toNatClampNeg 0) 1).toInt64)) ((f_X8_minute σ ((stv 6).getD d.toNatClampNeg 0) 2).toInt64)) ((f_X8_slack σ ((stv 6).getD d.toNatClampNeg 0)).toInt64)) c (d + 1) σ) from by rw [l_X8_mixedMinutes_15, if_neg c19_1]]
      exact ih _ _ _ _ _ (cnt_up c19_1 hm) hc (nn_inc' h0 c19_1) hI
def f_X8_mixedMinutes (σ : Mem) (a : Int64) : Int64 := (l_X8_mixedMinutes_15 (fu 5) a a 4 0 σ)
theorem s_X8_mixedMinutes (X : Amb) (σ : Mem) (a : Int64) (hI : CI σ) : SpW X mX8_mixedMinutes [.ref (adr X 0), .long a] σ (.long (f_X8_mixedMinutes σ a)) σ := by
  refine sp_of (by decide +kernel) rfl ?_
  show WP X mX8_mixedMinutes 0 [(0, .ref (adr X 0)), (1, .long a)] [] σ _
  refine wp_lload_n dX8_mixedMinutes_0 1 rfl ?_
  refine wp_lstore_n (L' := [(3, _), (0, _), (1, _)]) dX8_mixedMinutes_1 rfl rfl ?_
  refine wp_gets 6 dX8_mixedMinutes_2 rfl rfl tsX8_351 ?_
  refine wp_astore (L' := [(5, _), (3, _), (0, _), (1, _)]) dX8_mixedMinutes_5 rfl rfl ?_
  refine wp_aload dX8_mixedMinutes_7 0 rfl ?_
  refine wp_slen (v := 4) 6 dX8_mixedMinutes_9 rfl rfl rfl ?_
  refine wp_istore (L' := [(6, _), (5, _), (3, _), (0, _), (1, _)]) dX8_mixedMinutes_10 rfl rfl ?_
  refine wp_iconst dX8_mixedMinutes_12 ic_0 ?_
  refine wp_istore (L' := [(7, _), (6, _), (5, _), (3, _), (0, _), (1, _)]) dX8_mixedMinutes_13 rfl rfl ?_
  refine wp_drop [4, 5, 3, 2, 1, 0] rfl ?_
  rw [show f_X8_mixedMinutes σ a = (l_X8_mixedMinutes_15 (fu 5) a a 4 0 σ) from rfl]
  exact lt_X8_mixedMinutes_15 X  (fu 5) a a 4 0 σ (fu_lt (by decide)) rfl nn0 hI
def f_X8_mixedOutcomes (σ : Mem) (a : Int64) : Int64 := (f_X8_mixed σ (f_X8_mixed σ (f_X8_mixed σ (f_X8_mixed σ (f_X8_mixed σ (f_X8_mixed σ (f_X8_mixed σ (f_X8_mixed σ a ((f_X8_torn σ).toInt64)) ((f_X8_off σ 0).toInt64)) ((f_X8_off σ 1).toInt64)) ((f_X8_over σ).toInt64)) ((f_X8_settles σ).toInt64)) ((f_X8_swings σ).toInt64)) ((f_X8_does σ 0).toInt64)) ((f_X8_does σ 1).toInt64))
theorem s_X8_mixedOutcomes (X : Amb) (σ : Mem) (a : Int64) (hI : CI σ) : SpW X mX8_mixedOutcomes [.ref (adr X 0), .long a] σ (.long (f_X8_mixedOutcomes σ a)) σ := by
  refine sp_of (by decide +kernel) rfl ?_
  show WP X mX8_mixedOutcomes 0 [(0, .ref (adr X 0)), (1, .long a)] [] σ _
  refine wp_lload_n dX8_mixedOutcomes_0 1 rfl ?_
  refine wp_aload_n dX8_mixedOutcomes_1 0 rfl ?_
  refine wp_cV0w (N := mX8_torn) dX8_mixedOutcomes_2 tmX8_363 okX8_torn rfl rfl rfl rfl rfl rfl rfl rfl (s_X8_torn X _ hI) ?_
  refine wp_i2l dX8_mixedOutcomes_5 ?_
  refine wp_cS2w (N := mX8_mixed) dX8_mixedOutcomes_6 tmX8_315 okX8_mixed rfl rfl rfl rfl (s_X8_mixed X _ _ _) ?_
  refine wp_lstore_n (L' := [(3, _), (0, _), (1, _)]) dX8_mixedOutcomes_9 rfl rfl ?_
  refine wp_lload_n dX8_mixedOutcomes_10 0 rfl ?_
  refine wp_aload_n dX8_mixedOutcomes_11 1 rfl ?_
  refine wp_iconst dX8_mixedOutcomes_12 ic_0 ?_
  refine wp_cV1w (N := mX8_off) dX8_mixedOutcomes_13 tmX8_366 okX8_off rfl rfl rfl rfl rfl rfl rfl rfl (s_X8_off X _ _) ?_
  refine wp_i2l dX8_mixedOutcomes_16 ?_
  refine wp_cS2w (N := mX8_mixed) dX8_mixedOutcomes_17 tmX8_315 okX8_mixed rfl rfl rfl rfl (s_X8_mixed X _ _ _) ?_
  refine wp_aload_n dX8_mixedOutcomes_20 1 rfl ?_
  refine wp_iconst dX8_mixedOutcomes_21 ic_1 ?_
  refine wp_cV1w (N := mX8_off) dX8_mixedOutcomes_22 tmX8_366 okX8_off rfl rfl rfl rfl rfl rfl rfl rfl (s_X8_off X _ _) ?_
  refine wp_i2l dX8_mixedOutcomes_25 ?_
  refine wp_cS2w (N := mX8_mixed) dX8_mixedOutcomes_26 tmX8_315 okX8_mixed rfl rfl rfl rfl (s_X8_mixed X _ _ _) ?_
  refine wp_lstore_n (L' := [(3, _), (0, _), (1, _)]) dX8_mixedOutcomes_29 rfl rfl ?_
  refine wp_lload_n dX8_mixedOutcomes_30 0 rfl ?_
  refine wp_aload_n dX8_mixedOutcomes_31 1 rfl ?_
  refine wp_cV0w (N := mX8_over) dX8_mixedOutcomes_32 tmX8_369 okX8_over rfl rfl rfl rfl rfl rfl rfl rfl (s_X8_over X _) ?_
  refine wp_i2l dX8_mixedOutcomes_35 ?_
  refine wp_cS2w (N := mX8_mixed) dX8_mixedOutcomes_36 tmX8_315 okX8_mixed rfl rfl rfl rfl (s_X8_mixed X _ _ _) ?_
  refine wp_aload_n dX8_mixedOutcomes_39 1 rfl ?_
  refine wp_cV0w (N := mX8_settles) dX8_mixedOutcomes_40 tmX8_372 okX8_settles rfl rfl rfl rfl rfl rfl rfl rfl (s_X8_settles X _) ?_
  refine wp_i2l dX8_mixedOutcomes_43 ?_
  refine wp_cS2w (N := mX8_mixed) dX8_mixedOutcomes_44 tmX8_315 okX8_mixed rfl rfl rfl rfl (s_X8_mixed X _ _ _) ?_
  refine wp_aload_n dX8_mixedOutcomes_47 1 rfl ?_
  refine wp_cV0w (N := mX8_swings) dX8_mixedOutcomes_48 tmX8_375 okX8_swings rfl rfl rfl rfl rfl rfl rfl rfl (s_X8_swings X _) ?_
  refine wp_i2l dX8_mixedOutcomes_51 ?_
  refine wp_cS2w (N := mX8_mixed) dX8_mixedOutcomes_52 tmX8_315 okX8_mixed rfl rfl rfl rfl (s_X8_mixed X _ _ _) ?_
  refine wp_lstore_n (L' := [(3, _), (0, _), (1, _)]) dX8_mixedOutcomes_55 rfl rfl ?_
  refine wp_lload_n dX8_mixedOutcomes_56 0 rfl ?_
  refine wp_aload_n dX8_mixedOutcomes_57 1 rfl ?_
  refine wp_iconst dX8_mixedOutcomes_58 ic_0 ?_
  refine wp_cV1w (N := mX8_does) dX8_mixedOutcomes_59 tmX8_378 okX8_does rfl rfl rfl rfl rfl rfl rfl rfl (s_X8_does X _ _) ?_
  refine wp_i2l dX8_mixedOutcomes_62 ?_
  refine wp_cS2w (N := mX8_mixed) dX8_mixedOutcomes_63 tmX8_315 okX8_mixed rfl rfl rfl rfl (s_X8_mixed X _ _ _) ?_
  refine wp_aload_n dX8_mixedOutcomes_66 1 rfl ?_
  refine wp_iconst dX8_mixedOutcomes_67 ic_1 ?_
  refine wp_cV1w (N := mX8_does) dX8_mixedOutcomes_68 tmX8_378 okX8_does rfl rfl rfl rfl rfl rfl rfl rfl (s_X8_does X _ _) ?_
  refine wp_i2l dX8_mixedOutcomes_71 ?_
  refine wp_cS2w (N := mX8_mixed) dX8_mixedOutcomes_72 tmX8_315 okX8_mixed rfl rfl rfl rfl (s_X8_mixed X _ _ _) ?_
  refine wp_lreturn dX8_mixedOutcomes_75 rfl ?_
  exact ⟨rfl, rfl⟩
def f_X8_mixedStarts (σ : Mem) (a : Int64) : Int64 × Mem := ((f_X8_mixed (f_X8_squeeze (f_X8_squeeze (f_X8_order (f_X8_order σ 0).2 1).2 0).2 1).2 (f_X8_mixed (f_X8_squeeze (f_X8_order (f_X8_order σ 0).2 1).2 0).2 (f_X8_mixed (f_X8_order (f_X8_order σ 0).2 1).2 (f_X8_mixed (f_X8_order σ 0).2 (f_X8_mixed σ (f_X8_mixed σ (f_X8_mixed σ (f_X8_mixed σ a ((f_X8_start σ 0 3).toInt64)) ((f_X8_start σ 4 1).toInt64)) ((f_X8_safe σ 0).toInt64)) ((f_X8_safe σ 1).toInt64)) (((f_X8_order σ 0).1).toInt64)) (((f_X8_order (f_X8_order σ 0).2 1).1).toInt64)) (((f_X8_squeeze (f_X8_order (f_X8_order σ 0).2 1).2 0).1).toInt64)) (((f_X8_squeeze (f_X8_squeeze (f_X8_order (f_X8_order σ 0).2 1).2 0).2 1).1).toInt64)), (f_X8_squeeze (f_X8_squeeze (f_X8_order (f_X8_order σ 0).2 1).2 0).2 1).2)
theorem s_X8_mixedStarts (X : Amb) (σ : Mem) (a : Int64) (hI : CI σ) : SpW X mX8_mixedStarts [.ref (adr X 0), .long a] σ (.long (f_X8_mixedStarts σ a).1) (f_X8_mixedStarts σ a).2 := by
  refine sp_of (by decide +kernel) rfl ?_
  show WP X mX8_mixedStarts 0 [(0, .ref (adr X 0)), (1, .long a)] [] σ _
  refine wp_lload_n dX8_mixedStarts_0 1 rfl ?_
  refine wp_aload_n dX8_mixedStarts_1 0 rfl ?_
  refine wp_iconst dX8_mixedStarts_2 ic_0 ?_
  refine wp_iconst dX8_mixedStarts_3 ic_3 ?_
  refine wp_cV2w (N := mX8_start) dX8_mixedStarts_4 tmX8_381 okX8_start rfl rfl rfl rfl rfl rfl rfl rfl (s_X8_start X _ _ _ hI) ?_
  refine wp_i2l dX8_mixedStarts_7 ?_
  refine wp_cS2w (N := mX8_mixed) dX8_mixedStarts_8 tmX8_315 okX8_mixed rfl rfl rfl rfl (s_X8_mixed X _ _ _) ?_
  refine wp_aload_n dX8_mixedStarts_11 0 rfl ?_
  refine wp_iconst dX8_mixedStarts_12 ic_4 ?_
  refine wp_iconst dX8_mixedStarts_13 ic_1 ?_
  refine wp_cV2w (N := mX8_start) dX8_mixedStarts_14 tmX8_381 okX8_start rfl rfl rfl rfl rfl rfl rfl rfl (s_X8_start X _ _ _ hI) ?_
  refine wp_i2l dX8_mixedStarts_17 ?_
  refine wp_cS2w (N := mX8_mixed) dX8_mixedStarts_18 tmX8_315 okX8_mixed rfl rfl rfl rfl (s_X8_mixed X _ _ _) ?_
  refine wp_lstore_n (L' := [(3, _), (0, _), (1, _)]) dX8_mixedStarts_21 rfl rfl ?_
  refine wp_lload_n dX8_mixedStarts_22 0 rfl ?_
  refine wp_aload_n dX8_mixedStarts_23 1 rfl ?_
  refine wp_iconst dX8_mixedStarts_24 ic_0 ?_
  refine wp_cV1w (N := mX8_safe) dX8_mixedStarts_25 tmX8_384 okX8_safe rfl rfl rfl rfl rfl rfl rfl rfl (s_X8_safe X _ _ hI) ?_
  refine wp_i2l dX8_mixedStarts_28 ?_
  refine wp_cS2w (N := mX8_mixed) dX8_mixedStarts_29 tmX8_315 okX8_mixed rfl rfl rfl rfl (s_X8_mixed X _ _ _) ?_
  refine wp_aload_n dX8_mixedStarts_32 1 rfl ?_
  refine wp_iconst dX8_mixedStarts_33 ic_1 ?_
  refine wp_cV1w (N := mX8_safe) dX8_mixedStarts_34 tmX8_384 okX8_safe rfl rfl rfl rfl rfl rfl rfl rfl (s_X8_safe X _ _ hI) ?_
  refine wp_i2l dX8_mixedStarts_37 ?_
  refine wp_cS2w (N := mX8_mixed) dX8_mixedStarts_38 tmX8_315 okX8_mixed rfl rfl rfl rfl (s_X8_mixed X _ _ _) ?_
  refine wp_lstore_n (L' := [(3, _), (0, _), (1, _)]) dX8_mixedStarts_41 rfl rfl ?_
  refine wp_lload_n dX8_mixedStarts_42 0 rfl ?_
  refine wp_aload_n dX8_mixedStarts_43 1 rfl ?_
  refine wp_iconst dX8_mixedStarts_44 ic_0 ?_
  refine wp_cV1w (N := mX8_order) dX8_mixedStarts_45 tmX8_387 okX8_order rfl rfl rfl rfl rfl rfl rfl rfl (s_X8_order X _ _ hI) ?_
  refine wp_i2l dX8_mixedStarts_48 ?_
  refine wp_cS2w (N := mX8_mixed) dX8_mixedStarts_49 tmX8_315 okX8_mixed rfl rfl rfl rfl (s_X8_mixed X _ _ _) ?_
  refine wp_aload_n dX8_mixedStarts_52 1 rfl ?_
  refine wp_iconst dX8_mixedStarts_53 ic_1 ?_
  refine wp_cV1w (N := mX8_order) dX8_mixedStarts_54 tmX8_387 okX8_order rfl rfl rfl rfl rfl rfl rfl rfl (s_X8_order X _ _ (CI_X8_order hI)) ?_
  refine wp_i2l dX8_mixedStarts_57 ?_
  refine wp_cS2w (N := mX8_mixed) dX8_mixedStarts_58 tmX8_315 okX8_mixed rfl rfl rfl rfl (s_X8_mixed X _ _ _) ?_
  refine wp_lstore_n (L' := [(3, _), (0, _), (1, _)]) dX8_mixedStarts_61 rfl rfl ?_
  refine wp_lload_n dX8_mixedStarts_62 0 rfl ?_
  refine wp_aload_n dX8_mixedStarts_63 1 rfl ?_
  refine wp_iconst dX8_mixedStarts_64 ic_0 ?_
  refine wp_cV1w (N := mX8_squeeze) dX8_mixedStarts_65 tmX8_390 okX8_squeeze rfl rfl rfl rfl rfl rfl rfl rfl (s_X8_squeeze X _ _ (CI_X8_order (CI_X8_order hI))) ?_
  refine wp_i2l dX8_mixedStarts_68 ?_
  refine wp_cS2w (N := mX8_mixed) dX8_mixedStarts_69 tmX8_315 okX8_mixed rfl rfl rfl rfl (s_X8_mixed X _ _ _) ?_
  refine wp_aload_n dX8_mixedStarts_72 1 rfl ?_
  refine wp_iconst dX8_mixedStarts_73 ic_1 ?_
  refine wp_cV1w (N := mX8_squeeze) dX8_mixedStarts_74 tmX8_390 okX8_squeeze rfl rfl rfl rfl rfl rfl rfl rfl (s_X8_squeeze X _ _ (CI_X8_squeeze (CI_X8_order (CI_X8_order hI)))) ?_
  refine wp_i2l dX8_mixedStarts_77 ?_
  refine wp_cS2w (N := mX8_mixed) dX8_mixedStarts_78 tmX8_315 okX8_mixed rfl rfl rfl rfl (s_X8_mixed X _ _ _) ?_
  refine wp_lreturn dX8_mixedStarts_81 rfl ?_
  exact ⟨rfl, rfl⟩
def l_X8_mixedDay_5 : Nat → Int64 → Int64 → Int32 → Mem → Int64 × Mem
  | 0, _, _, _, σ => (0, σ)
  | n + 1, a, b, c, σ => if 6 < c then ((f_X8_mixed (f_X8_enough σ 9).2 (f_X8_mixed (f_X8_enough σ 9).2 (f_X8_mixed (f_X8_enough σ 9).2 (f_X8_mixed (f_X8_enough σ 9).2 b (((f_X8_enough σ 9).1).toInt64)) (f_X8_whistles (f_X8_enough σ 9).2 5 7 3 0)) (f_X8_whistles (f_X8_enough σ 9).2 5 7 3 1)) ((f_X8_words (f_X8_enough σ 9).2 1).toInt64)), (f_X8_enough σ 9).2) else (l_X8_mixedDay_5 n a (f_X8_mixed (f_X8_late (f_X8_late σ c 0).2 c 1).2 (f_X8_mixed (f_X8_late σ c 0).2 b (((f_X8_late σ c 0).1).toInt64)) (((f_X8_late (f_X8_late σ c 0).2 c 1).1).toInt64)) (c + 1) (f_X8_late (f_X8_late σ c 0).2 c 1).2)
theorem lt_X8_mixedDay_5 (X : Amb) : ∀ (n : Nat) (a : Int64) (b : Int64) (c : Int32) (σ : Mem), ((6 : Int32).toInt + 1 - c.toInt).toNat < n → WP X mX8_mixedDay 5 [(0, .ref (adr X 0)), (1, .long a), (3, .long b), (5, .int c)] [] σ (fun v σ' => v = some (.long (l_X8_mixedDay_5 n a b c σ).1) ∧ σ' = (l_X8_mixedDay_5 n a b c σ).2) := by
  intro n
  induction n with
  | zero => intro a b c σ hm; exact absurd hm (Nat.not_lt_zero _)
  | succ n ih =>
    intro a b c σ hm 
    refine wp_iload dX8_mixedDay_5 3 rfl ?_
    refine wp_bipush dX8_mixedDay_7 bp_6 ?_
    refine wp_icmp_gt 42 dX8_mixedDay_9 (by decide) (fun c9_1 => ?_) (fun c9_1 => ?_)
    · refine wp_lload_n dX8_mixedDay_42 2 rfl ?_
      refine wp_aload_n dX8_mixedDay_43 0 rfl ?_
      refine wp_bipush dX8_mixedDay_44 bp_9 ?_
      refine wp_cV1w (N := mX8_enough) dX8_mixedDay_46 tmX8_396 okX8_enough rfl rfl rfl rfl rfl rfl rfl rfl (s_X8_enough X _ _) ?_
      refine wp_i2l dX8_mixedDay_49 ?_
      refine wp_cS2w (N := mX8_mixed) dX8_mixedDay_50 tmX8_315 okX8_mixed rfl rfl rfl rfl (s_X8_mixed X _ _ _) ?_
      refine wp_lstore_n (L' := [(3, _), (0, _), (1, _), (5, _)]) dX8_mixedDay_53 rfl rfl ?_
      refine wp_lload_n dX8_mixedDay_54 0 rfl ?_
      refine wp_aload_n dX8_mixedDay_55 1 rfl ?_
      refine wp_iconst dX8_mixedDay_56 ic_5 ?_
      refine wp_bipush dX8_mixedDay_57 bp_7 ?_
      refine wp_iconst dX8_mixedDay_59 ic_3 ?_
      refine wp_iconst dX8_mixedDay_60 ic_0 ?_
      refine wp_cV4w (N := mX8_whistles) dX8_mixedDay_61 tmX8_399 okX8_whistles rfl rfl rfl rfl rfl rfl rfl rfl (s_X8_whistles X _ _ _ _ _) ?_
      refine wp_cS2w (N := mX8_mixed) dX8_mixedDay_64 tmX8_315 okX8_mixed rfl rfl rfl rfl (s_X8_mixed X _ _ _) ?_
      refine wp_aload_n dX8_mixedDay_67 1 rfl ?_
      refine wp_iconst dX8_mixedDay_68 ic_5 ?_
      refine wp_bipush dX8_mixedDay_69 bp_7 ?_
      refine wp_iconst dX8_mixedDay_71 ic_3 ?_
      refine wp_iconst dX8_mixedDay_72 ic_1 ?_
      refine wp_cV4w (N := mX8_whistles) dX8_mixedDay_73 tmX8_399 okX8_whistles rfl rfl rfl rfl rfl rfl rfl rfl (s_X8_whistles X _ _ _ _ _) ?_
      refine wp_cS2w (N := mX8_mixed) dX8_mixedDay_76 tmX8_315 okX8_mixed rfl rfl rfl rfl (s_X8_mixed X _ _ _) ?_
      refine wp_lstore_n (L' := [(3, _), (0, _), (1, _), (5, _)]) dX8_mixedDay_79 rfl rfl ?_
      refine wp_lload_n dX8_mixedDay_80 0 rfl ?_
      refine wp_aload_n dX8_mixedDay_81 1 rfl ?_
      refine wp_iconst dX8_mixedDay_82 ic_1 ?_
      refine wp_cV1w (N := mX8_words) dX8_mixedDay_83 tmX8_403 okX8_words rfl rfl rfl rfl rfl rfl rfl rfl (s_X8_words X _ _) ?_
      refine wp_i2l dX8_mixedDay_86 ?_
      refine wp_cS2w (N := mX8_mixed) dX8_mixedDay_87 tmX8_315 okX8_mixed rfl rfl rfl rfl (s_X8_mixed X _ _ _) ?_
      refine wp_lreturn dX8_mixedDay_90 rfl ?_
      exact ⟨by rw [l_X8_mixedDay_5, if_pos c9_1], by rw [l_X8_mixedDay_5, if_pos c9_1]⟩
    · refine wp_lload_n dX8_mixedDay_12 2 rfl ?_
      refine wp_aload_n dX8_mixedDay_13 0 rfl ?_
      refine wp_iload dX8_mixedDay_14 3 rfl ?_
      refine wp_iconst dX8_mixedDay_16 ic_0 ?_
      refine wp_cV2w (N := mX8_late) dX8_mixedDay_17 tmX8_393 okX8_late rfl rfl rfl rfl rfl rfl rfl rfl (s_X8_late X _ _ _) ?_
      refine wp_i2l dX8_mixedDay_20 ?_
      refine wp_cS2w (N := mX8_mixed) dX8_mixedDay_21 tmX8_315 okX8_mixed rfl rfl rfl rfl (s_X8_mixed X _ _ _) ?_
      refine wp_aload_n dX8_mixedDay_24 0 rfl ?_
      refine wp_iload dX8_mixedDay_25 3 rfl ?_
      refine wp_iconst dX8_mixedDay_27 ic_1 ?_
      refine wp_cV2w (N := mX8_late) dX8_mixedDay_28 tmX8_393 okX8_late rfl rfl rfl rfl rfl rfl rfl rfl (s_X8_late X _ _ _) ?_
      refine wp_i2l dX8_mixedDay_31 ?_
      refine wp_cS2w (N := mX8_mixed) dX8_mixedDay_32 tmX8_315 okX8_mixed rfl rfl rfl rfl (s_X8_mixed X _ _ _) ?_
      refine wp_lstore_n (L' := [(3, _), (0, _), (1, _), (5, _)]) dX8_mixedDay_35 rfl rfl ?_
      refine wp_iinc (L' := [(5, _), (3, _), (0, _), (1, _)]) dX8_mixedDay_36 rfl 3 rfl (ii_1 _) rfl ?_
      refine wp_goto 5 dX8_mixedDay_39 (by decide) ?_
      refine wp_drop [2, 3, 1, 0] rfl ?_
      rw [show l_X8_mixedDay_5 (n + 1) a b c σ = (l_X8_mixedDay_5 n a (f_X8_mixed (f_X8_late (f_X8_late σ c 0).2 c 1).2 (f_X8_mixed (f_X8_late σ c 0).2 b (((f_X8_late σ c 0).1).toInt64)) (((f_X8_late (f_X8_late σ c 0).2 c 1).1).toInt64)) (c + 1) (f_X8_late (f_X8_late σ c 0).2 c 1).2) from by rw [l_X8_mixedDay_5, if_neg c9_1]]
      exact ih _ _ _ _ (cnt_le c9_1 (by decide) hm) 
def f_X8_mixedDay (σ : Mem) (a : Int64) : Int64 × Mem := (l_X8_mixedDay_5 (fu 7) a a 1 σ)
theorem s_X8_mixedDay (X : Amb) (σ : Mem) (a : Int64) : SpW X mX8_mixedDay [.ref (adr X 0), .long a] σ (.long (f_X8_mixedDay σ a).1) (f_X8_mixedDay σ a).2 := by
  refine sp_of (by decide +kernel) rfl ?_
  show WP X mX8_mixedDay 0 [(0, .ref (adr X 0)), (1, .long a)] [] σ _
  refine wp_lload_n dX8_mixedDay_0 1 rfl ?_
  refine wp_lstore_n (L' := [(3, _), (0, _), (1, _)]) dX8_mixedDay_1 rfl rfl ?_
  refine wp_iconst dX8_mixedDay_2 ic_1 ?_
  refine wp_istore (L' := [(5, _), (3, _), (0, _), (1, _)]) dX8_mixedDay_3 rfl rfl ?_
  refine wp_drop [2, 3, 1, 0] rfl ?_
  rw [show f_X8_mixedDay σ a = (l_X8_mixedDay_5 (fu 7) a a 1 σ) from rfl]
  exact lt_X8_mixedDay_5 X  (fu 7) a a 1 σ (fu_lt (by decide)) 
def l_X8_digest_6 : Nat → Int64 → Int32 → Mem → Int64 × Mem
  | 0, _, _, σ => (0, σ)
  | n + 1, a, b, σ => if 7 < b then ((f_X8_mixedDay (f_X8_mixedStarts σ (f_X8_mixedOutcomes σ (f_X8_mixedMinutes σ (f_X8_mixedHill σ (f_X8_mixedWagons σ (f_X8_mixed σ (f_X8_mixed σ a ((f_X8_fault σ 0).toInt64)) ((f_X8_fault σ 1).toInt64))))))).2 ((f_X8_mixedStarts σ (f_X8_mixedOutcomes σ (f_X8_mixedMinutes σ (f_X8_mixedHill σ (f_X8_mixedWagons σ (f_X8_mixed σ (f_X8_mixed σ a ((f_X8_fault σ 0).toInt64)) ((f_X8_fault σ 1).toInt64))))))).1)).1, (f_X8_mixedDay (f_X8_mixedStarts σ (f_X8_mixedOutcomes σ (f_X8_mixedMinutes σ (f_X8_mixedHill σ (f_X8_mixedWagons σ (f_X8_mixed σ (f_X8_mixed σ a ((f_X8_fault σ 0).toInt64)) ((f_X8_fault σ 1).toInt64))))))).2 ((f_X8_mixedStarts σ (f_X8_mixedOutcomes σ (f_X8_mixedMinutes σ (f_X8_mixedHill σ (f_X8_mixedWagons σ (f_X8_mixed σ (f_X8_mixed σ a ((f_X8_fault σ 0).toInt64)) ((f_X8_fault σ 1).toInt64))))))).1)).2) else (l_X8_digest_6 n (f_X8_mixed σ a ((f_X8_count σ b).toInt64)) (b + 1) σ)
theorem lt_X8_digest_6 (X : Amb) : ∀ (n : Nat) (a : Int64) (b : Int32) (σ : Mem), ((7 : Int32).toInt + 1 - b.toInt).toNat < n → CI σ → WP X mX8_digest 6 [(0, .ref (adr X 0)), (1, .long a), (3, .int b)] [] σ (fun v σ' => v = some (.long (l_X8_digest_6 n a b σ).1) ∧ σ' = (l_X8_digest_6 n a b σ).2) := by
  intro n
  induction n with
  | zero => intro a b σ hm; exact absurd hm (Nat.not_lt_zero _)
  | succ n ih =>
    intro a b σ hm hI
    refine wp_iload_n dX8_digest_6 2 rfl ?_
    refine wp_bipush dX8_digest_7 bp_7 ?_
    refine wp_icmp_gt 29 dX8_digest_9 (by decide) (fun c9_1 => ?_) (fun c9_1 => ?_)
    · refine wp_lload_n dX8_digest_29 1 rfl ?_
      refine wp_aload_n dX8_digest_30 0 rfl ?_
      refine wp_iconst dX8_digest_31 ic_0 ?_
      refine wp_cV1w (N := mX8_fault) dX8_digest_32 tmX8_319 okX8_fault rfl rfl rfl rfl rfl rfl rfl rfl (s_X8_fault X _ _) ?_
      refine wp_i2l dX8_digest_35 ?_
      refine wp_cS2w (N := mX8_mixed) dX8_digest_36 tmX8_315 okX8_mixed rfl rfl rfl rfl (s_X8_mixed X _ _ _) ?_
      refine wp_aload_n dX8_digest_39 0 rfl ?_
      refine wp_iconst dX8_digest_40 ic_1 ?_
      refine wp_cV1w (N := mX8_fault) dX8_digest_41 tmX8_319 okX8_fault rfl rfl rfl rfl rfl rfl rfl rfl (s_X8_fault X _ _) ?_
      refine wp_i2l dX8_digest_44 ?_
      refine wp_cS2w (N := mX8_mixed) dX8_digest_45 tmX8_315 okX8_mixed rfl rfl rfl rfl (s_X8_mixed X _ _ _) ?_
      refine wp_lstore_n (L' := [(1, _), (0, _), (3, _)]) dX8_digest_48 rfl rfl ?_
      refine wp_aload_n dX8_digest_49 1 rfl ?_
      refine wp_aload_n dX8_digest_50 1 rfl ?_
      refine wp_aload_n dX8_digest_51 1 rfl ?_
      refine wp_lload_n dX8_digest_52 0 rfl ?_
      refine wp_cV1w (N := mX8_mixedWagons) dX8_digest_53 tmX8_322 okX8_mixedWagons rfl rfl rfl rfl rfl rfl rfl rfl (s_X8_mixedWagons X _ _) ?_
      refine wp_cV1w (N := mX8_mixedHill) dX8_digest_56 tmX8_326 okX8_mixedHill rfl rfl rfl rfl rfl rfl rfl rfl (s_X8_mixedHill X _ _) ?_
      refine wp_cV1w (N := mX8_mixedMinutes) dX8_digest_59 tmX8_329 okX8_mixedMinutes rfl rfl rfl rfl rfl rfl rfl rfl (s_X8_mixedMinutes X _ _ hI) ?_
      refine wp_lstore_n (L' := [(1, _), (0, _), (3, _)]) dX8_digest_62 rfl rfl ?_
      refine wp_aload_n dX8_digest_63 1 rfl ?_
      refine wp_aload_n dX8_digest_64 1 rfl ?_
      refine wp_aload_n dX8_digest_65 1 rfl ?_
      refine wp_lload_n dX8_digest_66 0 rfl ?_
      refine wp_cV1w (N := mX8_mixedOutcomes) dX8_digest_67 tmX8_332 okX8_mixedOutcomes rfl rfl rfl rfl rfl rfl rfl rfl (s_X8_mixedOutcomes X _ _ hI) ?_
      refine wp_cV1w (N := mX8_mixedStarts) dX8_digest_70 tmX8_335 okX8_mixedStarts rfl rfl rfl rfl rfl rfl rfl rfl (s_X8_mixedStarts X _ _ hI) ?_
      refine wp_cV1w (N := mX8_mixedDay) dX8_digest_73 tmX8_338 okX8_mixedDay rfl rfl rfl rfl rfl rfl rfl rfl (s_X8_mixedDay X _ _) ?_
      refine wp_lreturn dX8_digest_76 rfl ?_
      exact ⟨by rw [l_X8_digest_6, if_pos c9_1], by rw [l_X8_digest_6, if_pos c9_1]⟩
    · refine wp_lload_n dX8_digest_12 1 rfl ?_
      refine wp_aload_n dX8_digest_13 0 rfl ?_
      refine wp_iload_n dX8_digest_14 2 rfl ?_
      refine wp_cV1w (N := mX8_count) dX8_digest_15 tmX8_312 okX8_count rfl rfl rfl rfl rfl rfl rfl rfl (s_X8_count X _ _) ?_
      refine wp_i2l dX8_digest_18 ?_
      refine wp_cS2w (N := mX8_mixed) dX8_digest_19 tmX8_315 okX8_mixed rfl rfl rfl rfl (s_X8_mixed X _ _ _) ?_
      refine wp_lstore_n (L' := [(1, _), (0, _), (3, _)]) dX8_digest_22 rfl rfl ?_
      refine wp_iinc (L' := [(3, _), (1, _), (0, _)]) dX8_digest_23 rfl 2 rfl (ii_1 _) rfl ?_
      refine wp_goto 6 dX8_digest_26 (by decide) ?_
      refine wp_drop [2, 1, 0] rfl ?_
      rw [show l_X8_digest_6 (n + 1) a b σ = (l_X8_digest_6 n (f_X8_mixed σ a ((f_X8_count σ b).toInt64)) (b + 1) σ) from by rw [l_X8_digest_6, if_neg c9_1]]
      exact ih _ _ _ (cnt_le c9_1 (by decide) hm) hI
def f_X8_digest (σ : Mem) : Int64 × Mem := (l_X8_digest_6 (fu 9) 17 0 σ)
theorem s_X8_digest (X : Amb) (σ : Mem) (hI : CI σ) : SpW X mX8_digest [.ref (adr X 0)] σ (.long (f_X8_digest σ).1) (f_X8_digest σ).2 := by
  refine sp_of (by decide +kernel) rfl ?_
  show WP X mX8_digest 0 [(0, .ref (adr X 0))] [] σ _
  refine wp_ldc2 dX8_digest_0 tlX8_310 ?_
  refine wp_lstore_n (L' := [(1, _), (0, _)]) dX8_digest_3 rfl rfl ?_
  refine wp_iconst dX8_digest_4 ic_0 ?_
  refine wp_istore_n (L' := [(3, _), (1, _), (0, _)]) dX8_digest_5 rfl rfl ?_
  refine wp_drop [2, 1, 0] rfl ?_
  rw [show f_X8_digest σ = (l_X8_digest_6 (fu 9) 17 0 σ) from rfl]
  exact lt_X8_digest_6 X  (fu 9) 17 0 σ (fu_lt (by decide)) hI
end
