noncomputable section
def l_X9_count_87 : Nat → Int32 → Int32 → Mem → Int32 × Mem
  | 0, _, _, σ => (0, σ)
  | n + 1, b, c, σ => if (σ 0 10) ≤ c then (b, σ) else if (σ 9 (c.toNatClampNeg)) = 0 then (l_X9_count_87 n (b + 0) (c + 1) σ) else (l_X9_count_87 n (b + 1) (c + 1) σ)
def bl_X9_count_87 : Nat → Int32 → Int32 → Mem → Prop
  | 0, _, _, _ => False
  | n + 1, b, c, σ => if (σ 0 10) ≤ c then True else (vp_in c 16) ∧ (if (σ 9 (c.toNatClampNeg)) = 0 then (bl_X9_count_87 n (b + 0) (c + 1) σ) else (bl_X9_count_87 n (b + 1) (c + 1) σ))
theorem lt_X9_count_87 (X : Amb) : ∀ (n : Nat) (b : Int32) (c : Int32) (σ : Mem), bl_X9_count_87 n b c σ → WP X mX9_count 87 [(0, .ref (adr X 0)), (2, .int b), (3, .int c)] [] σ (fun v σ' => v = some (.int (l_X9_count_87 n b c σ).1) ∧ σ' = (l_X9_count_87 n b c σ).2) := by
  intro n
  induction n with
  | zero => intro b c σ hb; exact hb.elim
  | succ n ih =>
    intro b c σ hb
    rw [bl_X9_count_87] at hb
    refine wp_iload_n dX9_count_87 2 rfl ?_
    refine wp_aload_n dX9_count_88 0 rfl ?_
    refine wp_getI dX9_count_89 faX9_118 rfl rfl ?_
    refine wp_icmp_ge 118 dX9_count_92 (by decide) (fun c92_1 => ?_) (fun c92_1 => ?_)
    · rw [if_pos c92_1] at hb
      refine wp_iload_n dX9_count_118 1 rfl ?_
      refine wp_ireturn dX9_count_119 rfl ?_
      exact ⟨by rw [l_X9_count_87, if_pos c92_1], by rw [l_X9_count_87, if_pos c92_1]⟩
    · rw [if_neg c92_1] at hb
      refine wp_iload_n dX9_count_95 1 rfl ?_
      refine wp_aload_n dX9_count_96 0 rfl ?_
      refine wp_getR dX9_count_97 faX9_34 rfl rfl ?_
      refine wp_iload_n dX9_count_100 2 rfl ?_
      obtain ⟨x2, hb⟩ := hb
      refine wp_zald dX9_count_101 rfl x2 ?_
      refine wp_if_eq 109 dX9_count_102 (by decide) (fun c102_3 => ?_) (fun c102_3 => ?_)
      · rw [if_pos c102_3] at hb
        refine wp_iconst dX9_count_109 ic_0 ?_
        refine wp_iadd dX9_count_110 ?_
        refine wp_istore_n (L' := [(2, _), (0, _), (3, _)]) dX9_count_111 rfl rfl ?_
        refine wp_iinc (L' := [(3, _), (2, _), (0, _)]) dX9_count_112 rfl 2 rfl (ii_1 _) rfl ?_
        refine wp_goto 87 dX9_count_115 (by decide) ?_
        refine wp_drop [2, 1, 0] rfl ?_
        rw [show l_X9_count_87 (n + 1) b c σ = (l_X9_count_87 n (b + 0) (c + 1) σ) from by rw [l_X9_count_87, if_neg c92_1, if_pos c102_3]]
        exact ih _ _ _ hb
      · rw [if_neg c102_3] at hb
        refine wp_iconst dX9_count_105 ic_1 ?_
        refine wp_goto 110 dX9_count_106 (by decide) ?_
        refine wp_iadd dX9_count_110 ?_
        refine wp_istore_n (L' := [(2, _), (0, _), (3, _)]) dX9_count_111 rfl rfl ?_
        refine wp_iinc (L' := [(3, _), (2, _), (0, _)]) dX9_count_112 rfl 2 rfl (ii_1 _) rfl ?_
        refine wp_goto 87 dX9_count_115 (by decide) ?_
        refine wp_drop [2, 1, 0] rfl ?_
        rw [show l_X9_count_87 (n + 1) b c σ = (l_X9_count_87 n (b + 1) (c + 1) σ) from by rw [l_X9_count_87, if_neg c92_1, if_neg c102_3]]
        exact ih _ _ _ hb
def f_X9_count (σ : Mem) (a : Int32) : Int32 × Mem := if a = 0 then (((f_X9_reads σ) 0 7), (f_X9_reads σ)) else if a = 1 then (((f_X9_reads σ) 0 10), (f_X9_reads σ)) else if a = 2 then (((f_X9_reads σ) 6 ((a - 2).toNatClampNeg)), (f_X9_reads σ)) else if a = 3 then (((f_X9_reads σ) 6 ((a - 2).toNatClampNeg)), (f_X9_reads σ)) else if a = 4 then (((f_X9_reads σ) 0 25), (f_X9_reads σ)) else if a = 5 then (((f_X9_reads σ) 0 9), (f_X9_reads σ)) else if a = 6 then (l_X9_count_87 (fu 17) 0 0 (f_X9_reads σ)) else if a = 7 then (((f_X9_reads σ) 11 ((4 : Int32).toNatClampNeg)), (f_X9_reads σ)) else if a = 8 then (((f_X9_reads σ) 0 4), (f_X9_reads σ)) else ((-2), (f_X9_reads σ))
def b_X9_count (σ : Mem) (a : Int32) : Prop := (b_X9_reads σ) ∧ (if a = 0 then True else if a = 1 then True else if a = 2 then (vp_in (a - 2) 2) ∧ (True) else if a = 3 then (vp_in (a - 2) 2) ∧ (True) else if a = 4 then True else if a = 5 then True else if a = 6 then (bl_X9_count_87 (fu 17) 0 0 (f_X9_reads σ)) else if a = 7 then True else if a = 8 then True else True)
theorem s_X9_count (X : Amb) (σ : Mem) (a : Int32) (hb : b_X9_count σ a) : SpW X mX9_count [.ref (adr X 0), .int a] σ (.int (f_X9_count σ a).1) (f_X9_count σ a).2 := by
  unfold b_X9_count at hb
  refine sp_of (by decide +kernel) rfl ?_
  show WP X mX9_count 0 [(0, .ref (adr X 0)), (1, .int a)] [] σ _
  refine wp_iconst dX9_count_0 ic_0 ?_
  refine wp_istore_n (L' := [(2, _), (0, _), (1, _)]) dX9_count_1 rfl rfl ?_
  refine wp_aload_n dX9_count_2 1 rfl ?_
  obtain ⟨x1, hb⟩ := hb
  refine wp_cV0v (N := mX9_reads) dX9_count_3 tmX9_128 okX9_reads rfl rfl rfl rfl rfl rfl rfl rfl (s_X9_reads X _ x1) ?_
  refine wp_iload_n dX9_count_6 2 rfl ?_
  by_cases t7_0 : a = 0
  · rw [if_pos t7_0] at hb
    refine wp_tableIn 56 dX9_count_7 (by rw [t7_0]; decide) (by rw [t7_0]; decide) (by rw [t7_0]; rfl) (by decide) ?_
    refine wp_aload_n dX9_count_56 1 rfl ?_
    refine wp_getI dX9_count_57 faX9_110 rfl rfl ?_
    refine wp_ireturn dX9_count_60 rfl ?_
    exact ⟨by unfold f_X9_count; rw [if_pos t7_0], by unfold f_X9_count; rw [if_pos t7_0]⟩
  · rw [if_neg t7_0] at hb
    by_cases t7_1 : a = 1
    · rw [if_pos t7_1] at hb
      refine wp_tableIn 61 dX9_count_7 (by rw [t7_1]; decide) (by rw [t7_1]; decide) (by rw [t7_1]; rfl) (by decide) ?_
      refine wp_aload_n dX9_count_61 1 rfl ?_
      refine wp_getI dX9_count_62 faX9_118 rfl rfl ?_
      refine wp_ireturn dX9_count_65 rfl ?_
      exact ⟨by unfold f_X9_count; rw [if_neg t7_0, if_pos t7_1], by unfold f_X9_count; rw [if_neg t7_0, if_pos t7_1]⟩
    · rw [if_neg t7_1] at hb
      by_cases t7_2 : a = 2
      · rw [if_pos t7_2] at hb
        refine wp_tableIn 66 dX9_count_7 (by rw [t7_2]; decide) (by rw [t7_2]; decide) (by rw [t7_2]; rfl) (by decide) ?_
        refine wp_aload_n dX9_count_66 1 rfl ?_
        refine wp_getR dX9_count_67 faX9_25 rfl rfl ?_
        refine wp_iload_n dX9_count_70 2 rfl ?_
        refine wp_iconst dX9_count_71 ic_2 ?_
        refine wp_isub dX9_count_72 ?_
        obtain ⟨x2, hb⟩ := hb
        refine wp_iald dX9_count_73 rfl x2 ?_
        refine wp_ireturn dX9_count_74 rfl ?_
        exact ⟨by unfold f_X9_count; rw [if_neg t7_0, if_neg t7_1, if_pos t7_2], by unfold f_X9_count; rw [if_neg t7_0, if_neg t7_1, if_pos t7_2]⟩
      · rw [if_neg t7_2] at hb
        by_cases t7_3 : a = 3
        · rw [if_pos t7_3] at hb
          refine wp_tableIn 66 dX9_count_7 (by rw [t7_3]; decide) (by rw [t7_3]; decide) (by rw [t7_3]; rfl) (by decide) ?_
          refine wp_aload_n dX9_count_66 1 rfl ?_
          refine wp_getR dX9_count_67 faX9_25 rfl rfl ?_
          refine wp_iload_n dX9_count_70 2 rfl ?_
          refine wp_iconst dX9_count_71 ic_2 ?_
          refine wp_isub dX9_count_72 ?_
          obtain ⟨x3, hb⟩ := hb
          refine wp_iald dX9_count_73 rfl x3 ?_
          refine wp_ireturn dX9_count_74 rfl ?_
          exact ⟨by unfold f_X9_count; rw [if_neg t7_0, if_neg t7_1, if_neg t7_2, if_pos t7_3], by unfold f_X9_count; rw [if_neg t7_0, if_neg t7_1, if_neg t7_2, if_pos t7_3]⟩
        · rw [if_neg t7_3] at hb
          by_cases t7_4 : a = 4
          · rw [if_pos t7_4] at hb
            refine wp_tableIn 75 dX9_count_7 (by rw [t7_4]; decide) (by rw [t7_4]; decide) (by rw [t7_4]; rfl) (by decide) ?_
            refine wp_aload_n dX9_count_75 1 rfl ?_
            refine wp_getI dX9_count_76 faX9_249 rfl rfl ?_
            refine wp_ireturn dX9_count_79 rfl ?_
            exact ⟨by unfold f_X9_count; rw [if_neg t7_0, if_neg t7_1, if_neg t7_2, if_neg t7_3, if_pos t7_4], by unfold f_X9_count; rw [if_neg t7_0, if_neg t7_1, if_neg t7_2, if_neg t7_3, if_pos t7_4]⟩
          · rw [if_neg t7_4] at hb
            by_cases t7_5 : a = 5
            · rw [if_pos t7_5] at hb
              refine wp_tableIn 80 dX9_count_7 (by rw [t7_5]; decide) (by rw [t7_5]; decide) (by rw [t7_5]; rfl) (by decide) ?_
              refine wp_aload_n dX9_count_80 1 rfl ?_
              refine wp_getI dX9_count_81 faX9_113 rfl rfl ?_
              refine wp_ireturn dX9_count_84 rfl ?_
              exact ⟨by unfold f_X9_count; rw [if_neg t7_0, if_neg t7_1, if_neg t7_2, if_neg t7_3, if_neg t7_4, if_pos t7_5], by unfold f_X9_count; rw [if_neg t7_0, if_neg t7_1, if_neg t7_2, if_neg t7_3, if_neg t7_4, if_pos t7_5]⟩
            · rw [if_neg t7_5] at hb
              by_cases t7_6 : a = 6
              · rw [if_pos t7_6] at hb
                refine wp_tableIn 85 dX9_count_7 (by rw [t7_6]; decide) (by rw [t7_6]; decide) (by rw [t7_6]; rfl) (by decide) ?_
                refine wp_iconst dX9_count_85 ic_0 ?_
                refine wp_istore_n (L' := [(3, _), (2, _), (0, _), (1, _)]) dX9_count_86 rfl rfl ?_
                refine wp_drop [2, 1, 0] rfl ?_
                rw [show f_X9_count σ a = (l_X9_count_87 (fu 17) 0 0 (f_X9_reads σ)) from by unfold f_X9_count; rw [if_neg t7_0, if_neg t7_1, if_neg t7_2, if_neg t7_3, if_neg t7_4, if_neg t7_5, if_pos t7_6]]
                exact lt_X9_count_87 X (fu 17) 0 0 (f_X9_reads σ) hb
              · rw [if_neg t7_6] at hb
                by_cases t7_7 : a = 7
                · rw [if_pos t7_7] at hb
                  refine wp_tableIn 120 dX9_count_7 (by rw [t7_7]; decide) (by rw [t7_7]; decide) (by rw [t7_7]; rfl) (by decide) ?_
                  refine wp_aload_n dX9_count_120 1 rfl ?_
                  refine wp_getR dX9_count_121 faX9_41 rfl rfl ?_
                  refine wp_iconst dX9_count_124 ic_4 ?_
                  refine wp_iald dX9_count_125 rfl (vlit 4 5 (by decide)) ?_
                  refine wp_ireturn dX9_count_126 rfl ?_
                  exact ⟨by unfold f_X9_count; rw [if_neg t7_0, if_neg t7_1, if_neg t7_2, if_neg t7_3, if_neg t7_4, if_neg t7_5, if_neg t7_6, if_pos t7_7], by unfold f_X9_count; rw [if_neg t7_0, if_neg t7_1, if_neg t7_2, if_neg t7_3, if_neg t7_4, if_neg t7_5, if_neg t7_6, if_pos t7_7]⟩
                · rw [if_neg t7_7] at hb
                  by_cases t7_8 : a = 8
                  · rw [if_pos t7_8] at hb
                    refine wp_tableIn 127 dX9_count_7 (by rw [t7_8]; decide) (by rw [t7_8]; decide) (by rw [t7_8]; rfl) (by decide) ?_
                    refine wp_aload_n dX9_count_127 1 rfl ?_
                    refine wp_getI dX9_count_128 faX9_81 rfl rfl ?_
                    refine wp_ireturn dX9_count_131 rfl ?_
                    exact ⟨by unfold f_X9_count; rw [if_neg t7_0, if_neg t7_1, if_neg t7_2, if_neg t7_3, if_neg t7_4, if_neg t7_5, if_neg t7_6, if_neg t7_7, if_pos t7_8], by unfold f_X9_count; rw [if_neg t7_0, if_neg t7_1, if_neg t7_2, if_neg t7_3, if_neg t7_4, if_neg t7_5, if_neg t7_6, if_neg t7_7, if_pos t7_8]⟩
                  · rw [if_neg t7_8] at hb
                    refine wp_tableOut 132 dX9_count_7 (by have e0 : (a).toInt ≠ 0 := fun q => t7_0 (Int32.toInt_inj.mp (by rw [q]; decide)); have e1 : (a).toInt ≠ 1 := fun q => t7_1 (Int32.toInt_inj.mp (by rw [q]; decide)); have e2 : (a).toInt ≠ 2 := fun q => t7_2 (Int32.toInt_inj.mp (by rw [q]; decide)); have e3 : (a).toInt ≠ 3 := fun q => t7_3 (Int32.toInt_inj.mp (by rw [q]; decide)); have e4 : (a).toInt ≠ 4 := fun q => t7_4 (Int32.toInt_inj.mp (by rw [q]; decide)); have e5 : (a).toInt ≠ 5 := fun q => t7_5 (Int32.toInt_inj.mp (by rw [q]; decide)); have e6 : (a).toInt ≠ 6 := fun q => t7_6 (Int32.toInt_inj.mp (by rw [q]; decide)); have e7 : (a).toInt ≠ 7 := fun q => t7_7 (Int32.toInt_inj.mp (by rw [q]; decide)); have e8 : (a).toInt ≠ 8 := fun q => t7_8 (Int32.toInt_inj.mp (by rw [q]; decide)); omega) (by decide) ?_
                    refine wp_bipush dX9_count_132 bp_m2 ?_
                    refine wp_ireturn dX9_count_134 rfl ?_
                    exact ⟨by unfold f_X9_count; rw [if_neg t7_0, if_neg t7_1, if_neg t7_2, if_neg t7_3, if_neg t7_4, if_neg t7_5, if_neg t7_6, if_neg t7_7, if_neg t7_8], by unfold f_X9_count; rw [if_neg t7_0, if_neg t7_1, if_neg t7_2, if_neg t7_3, if_neg t7_4, if_neg t7_5, if_neg t7_6, if_neg t7_7, if_neg t7_8]⟩
def l_X9_digest_516 : Nat → Int64 → Int32 → Mem → Int64 × Mem
  | 0, _, _, σ => (0, σ)
  | n + 1, a, b, σ => if 7 ≤ b then (((31 * ((31 * ((31 * ((31 * a) + ((f_X9_enoughOf σ 9).1).toInt64)) + (f_X9_whistlesOf (f_X9_enoughOf σ 9).2 5 7 3 0))) + (f_X9_whistlesOf (f_X9_enoughOf σ 9).2 5 7 3 1))) + (f_X9_words (f_X9_enoughOf σ 9).2 1).toInt64), (f_X9_enoughOf σ 9).2) else (l_X9_digest_516 n ((31 * ((31 * a) + ((f_X9_lateOf σ b 0).1).toInt64)) + ((f_X9_lateOf (f_X9_lateOf σ b 0).2 b 1).1).toInt64) (b + 1) (f_X9_lateOf (f_X9_lateOf σ b 0).2 b 1).2)
def bl_X9_digest_516 : Nat → Int64 → Int32 → Mem → Prop
  | 0, _, _, _ => False
  | n + 1, a, b, σ => if 7 ≤ b then (b_X9_enoughOf σ 9) ∧ ((b_X9_whistlesOf (f_X9_enoughOf σ 9).2 5 7 3 0) ∧ ((b_X9_whistlesOf (f_X9_enoughOf σ 9).2 5 7 3 1) ∧ ((b_X9_words (f_X9_enoughOf σ 9).2 1) ∧ (True)))) else (b_X9_lateOf σ b 0) ∧ ((b_X9_lateOf (f_X9_lateOf σ b 0).2 b 1) ∧ ((bl_X9_digest_516 n ((31 * ((31 * a) + ((f_X9_lateOf σ b 0).1).toInt64)) + ((f_X9_lateOf (f_X9_lateOf σ b 0).2 b 1).1).toInt64) (b + 1) (f_X9_lateOf (f_X9_lateOf σ b 0).2 b 1).2)))
theorem lt_X9_digest_516 (X : Amb) : ∀ (n : Nat) (a : Int64) (b : Int32) (σ : Mem), bl_X9_digest_516 n a b σ → WP X mX9_digest 516 [(0, .ref (adr X 0)), (1, .long a), (3, .int b)] [] σ (fun v σ' => v = some (.long (l_X9_digest_516 n a b σ).1) ∧ σ' = (l_X9_digest_516 n a b σ).2) := by
  intro n
  induction n with
  | zero => intro a b σ hb; exact hb.elim
  | succ n ih =>
    intro a b σ hb
    rw [bl_X9_digest_516] at hb
    refine wp_iload_n dX9_digest_516 2 rfl ?_
    refine wp_bipush dX9_digest_517 bp_7 ?_
    refine wp_icmp_ge 556 dX9_digest_519 (by decide) (fun c519_1 => ?_) (fun c519_1 => ?_)
    · rw [if_pos c519_1] at hb
      refine wp_ldc2 dX9_digest_556 tlX9_274 ?_
      refine wp_lload_n dX9_digest_559 1 rfl ?_
      refine wp_lmul dX9_digest_560 ?_
      refine wp_aload_n dX9_digest_561 0 rfl ?_
      refine wp_bipush dX9_digest_562 bp_9 ?_
      obtain ⟨x2, hb⟩ := hb
      refine wp_cV1w (N := mX9_enoughOf) dX9_digest_564 tmX9_263 okX9_enoughOf rfl rfl rfl rfl rfl rfl rfl rfl (s_X9_enoughOf X _ _ x2) ?_
      refine wp_i2l dX9_digest_567 ?_
      refine wp_ladd dX9_digest_568 ?_
      refine wp_lstore_n (L' := [(1, _), (0, _), (3, _)]) dX9_digest_569 rfl rfl ?_
      refine wp_ldc2 dX9_digest_570 tlX9_274 ?_
      refine wp_lload_n dX9_digest_573 0 rfl ?_
      refine wp_lmul dX9_digest_574 ?_
      refine wp_iconst dX9_digest_575 ic_5 ?_
      refine wp_bipush dX9_digest_576 bp_7 ?_
      refine wp_iconst dX9_digest_578 ic_3 ?_
      refine wp_iconst dX9_digest_579 ic_0 ?_
      obtain ⟨x3, hb⟩ := hb
      refine wp_cS4w (N := mX9_whistlesOf) dX9_digest_580 tmX9_268 okX9_whistlesOf rfl rfl rfl rfl (s_X9_whistlesOf X _ _ _ _ _ x3) ?_
      refine wp_ladd dX9_digest_583 ?_
      refine wp_lstore_n (L' := [(1, _), (0, _), (3, _)]) dX9_digest_584 rfl rfl ?_
      refine wp_ldc2 dX9_digest_585 tlX9_274 ?_
      refine wp_lload_n dX9_digest_588 0 rfl ?_
      refine wp_lmul dX9_digest_589 ?_
      refine wp_iconst dX9_digest_590 ic_5 ?_
      refine wp_bipush dX9_digest_591 bp_7 ?_
      refine wp_iconst dX9_digest_593 ic_3 ?_
      refine wp_iconst dX9_digest_594 ic_1 ?_
      obtain ⟨x4, hb⟩ := hb
      refine wp_cS4w (N := mX9_whistlesOf) dX9_digest_595 tmX9_268 okX9_whistlesOf rfl rfl rfl rfl (s_X9_whistlesOf X _ _ _ _ _ x4) ?_
      refine wp_ladd dX9_digest_598 ?_
      refine wp_lstore_n (L' := [(1, _), (0, _), (3, _)]) dX9_digest_599 rfl rfl ?_
      refine wp_ldc2 dX9_digest_600 tlX9_274 ?_
      refine wp_lload_n dX9_digest_603 0 rfl ?_
      refine wp_lmul dX9_digest_604 ?_
      refine wp_aload_n dX9_digest_605 1 rfl ?_
      refine wp_iconst dX9_digest_606 ic_1 ?_
      obtain ⟨x5, hb⟩ := hb
      refine wp_cV1w (N := mX9_words) dX9_digest_607 tmX9_279 okX9_words rfl rfl rfl rfl rfl rfl rfl rfl (s_X9_words X _ _ x5) ?_
      refine wp_i2l dX9_digest_610 ?_
      refine wp_ladd dX9_digest_611 ?_
      refine wp_lreturn dX9_digest_612 rfl ?_
      exact ⟨by rw [l_X9_digest_516, if_pos c519_1], by rw [l_X9_digest_516, if_pos c519_1]⟩
    · rw [if_neg c519_1] at hb
      refine wp_ldc2 dX9_digest_522 tlX9_274 ?_
      refine wp_lload_n dX9_digest_525 1 rfl ?_
      refine wp_lmul dX9_digest_526 ?_
      refine wp_aload_n dX9_digest_527 0 rfl ?_
      refine wp_iload_n dX9_digest_528 2 rfl ?_
      refine wp_iconst dX9_digest_529 ic_0 ?_
      obtain ⟨x6, hb⟩ := hb
      refine wp_cV2w (N := mX9_lateOf) dX9_digest_530 tmX9_260 okX9_lateOf rfl rfl rfl rfl rfl rfl rfl rfl (s_X9_lateOf X _ _ _ x6) ?_
      refine wp_i2l dX9_digest_533 ?_
      refine wp_ladd dX9_digest_534 ?_
      refine wp_lstore_n (L' := [(1, _), (0, _), (3, _)]) dX9_digest_535 rfl rfl ?_
      refine wp_ldc2 dX9_digest_536 tlX9_274 ?_
      refine wp_lload_n dX9_digest_539 0 rfl ?_
      refine wp_lmul dX9_digest_540 ?_
      refine wp_aload_n dX9_digest_541 1 rfl ?_
      refine wp_iload_n dX9_digest_542 2 rfl ?_
      refine wp_iconst dX9_digest_543 ic_1 ?_
      obtain ⟨x7, hb⟩ := hb
      refine wp_cV2w (N := mX9_lateOf) dX9_digest_544 tmX9_260 okX9_lateOf rfl rfl rfl rfl rfl rfl rfl rfl (s_X9_lateOf X _ _ _ x7) ?_
      refine wp_i2l dX9_digest_547 ?_
      refine wp_ladd dX9_digest_548 ?_
      refine wp_lstore_n (L' := [(1, _), (0, _), (3, _)]) dX9_digest_549 rfl rfl ?_
      refine wp_iinc (L' := [(3, _), (1, _), (0, _)]) dX9_digest_550 rfl 2 rfl (ii_1 _) rfl ?_
      refine wp_goto 516 dX9_digest_553 (by decide) ?_
      refine wp_drop [2, 1, 0] rfl ?_
      rw [show l_X9_digest_516 (n + 1) a b σ = (l_X9_digest_516 n ((31 * ((31 * a) + ((f_X9_lateOf σ b 0).1).toInt64)) + ((f_X9_lateOf (f_X9_lateOf σ b 0).2 b 1).1).toInt64) (b + 1) (f_X9_lateOf (f_X9_lateOf σ b 0).2 b 1).2) from by rw [l_X9_digest_516, if_neg c519_1]]
      exact ih _ _ _ hb
def l_X9_digest_256 (K : Int64 → Int32 → Mem → Int64 × Mem) : Nat → Int64 → Int32 → Int32 → Int32 → Mem → Int64 × Mem
  | 0, _, _, _, _, σ => (0, σ)
  | n + 1, a, b, c, d, σ => if 3 ≤ d then (K ((31 * a) + (f_X9_slackAt σ c).toInt64) (b + 1) σ) else (l_X9_digest_256 K n ((31 * a) + (f_X9_minuteOf σ c d).toInt64) b c (d + 1) σ)
def bl_X9_digest_256 (bK : Int64 → Int32 → Mem → Prop) : Nat → Int64 → Int32 → Int32 → Int32 → Mem → Prop
  | 0, _, _, _, _, _ => False
  | n + 1, a, b, c, d, σ => if 3 ≤ d then (b_X9_slackAt σ c) ∧ ((bK ((31 * a) + (f_X9_slackAt σ c).toInt64) (b + 1) σ)) else (b_X9_minuteOf σ c d) ∧ ((bl_X9_digest_256 bK n ((31 * a) + (f_X9_minuteOf σ c d).toInt64) b c (d + 1) σ))
theorem lt_X9_digest_256 (X : Amb) (K : Int64 → Int32 → Mem → Int64 × Mem) (bK : Int64 → Int32 → Mem → Prop) (hK : ∀ (a : Int64) (b : Int32) (σ : Mem), bK a b σ → WP X mX9_digest 189 [(0, .ref (adr X 0)), (1, .long a), (3, .int b)] [] σ (fun v σ' => v = some (.long (K a b σ).1) ∧ σ' = (K a b σ).2)) : ∀ (n : Nat) (a : Int64) (b : Int32) (c : Int32) (d : Int32) (σ : Mem), bl_X9_digest_256 bK n a b c d σ → WP X mX9_digest 256 [(0, .ref (adr X 0)), (1, .long a), (3, .int b), (4, .int c), (5, .int d)] [] σ (fun v σ' => v = some (.long (l_X9_digest_256 K n a b c d σ).1) ∧ σ' = (l_X9_digest_256 K n a b c d σ).2) := by
  intro n
  induction n with
  | zero => intro a b c d σ hb; exact hb.elim
  | succ n ih =>
    intro a b c d σ hb
    rw [bl_X9_digest_256] at hb
    refine wp_iload dX9_digest_256 4 rfl ?_
    refine wp_iconst dX9_digest_258 ic_3 ?_
    refine wp_icmp_ge 284 dX9_digest_259 (by decide) (fun c259_1 => ?_) (fun c259_1 => ?_)
    · rw [if_pos c259_1] at hb
      refine wp_ldc2 dX9_digest_284 tlX9_274 ?_
      refine wp_lload_n dX9_digest_287 1 rfl ?_
      refine wp_lmul dX9_digest_288 ?_
      refine wp_aload_n dX9_digest_289 0 rfl ?_
      refine wp_iload dX9_digest_290 3 rfl ?_
      obtain ⟨x2, hb⟩ := hb
      refine wp_cV1w (N := mX9_slackAt) dX9_digest_292 tmX9_181 okX9_slackAt rfl rfl rfl rfl rfl rfl rfl rfl (s_X9_slackAt X _ _ x2) ?_
      refine wp_i2l dX9_digest_295 ?_
      refine wp_ladd dX9_digest_296 ?_
      refine wp_lstore_n (L' := [(1, _), (0, _), (3, _), (4, _), (5, _)]) dX9_digest_297 rfl rfl ?_
      refine wp_iinc (L' := [(3, _), (1, _), (0, _), (4, _), (5, _)]) dX9_digest_298 rfl 2 rfl (ii_1 _) rfl ?_
      refine wp_goto 189 dX9_digest_301 (by decide) ?_
      refine wp_drop [2, 1, 0] rfl ?_
      rw [show l_X9_digest_256 K (n + 1) a b c d σ = (K ((31 * a) + (f_X9_slackAt σ c).toInt64) (b + 1) σ) from by rw [l_X9_digest_256, if_pos c259_1]]
      exact hK _ _ _ hb
    · rw [if_neg c259_1] at hb
      refine wp_ldc2 dX9_digest_262 tlX9_274 ?_
      refine wp_lload_n dX9_digest_265 1 rfl ?_
      refine wp_lmul dX9_digest_266 ?_
      refine wp_aload_n dX9_digest_267 0 rfl ?_
      refine wp_iload dX9_digest_268 3 rfl ?_
      refine wp_iload dX9_digest_270 4 rfl ?_
      obtain ⟨x3, hb⟩ := hb
      refine wp_cV2w (N := mX9_minuteOf) dX9_digest_272 tmX9_161 okX9_minuteOf rfl rfl rfl rfl rfl rfl rfl rfl (s_X9_minuteOf X _ _ _ x3) ?_
      refine wp_i2l dX9_digest_275 ?_
      refine wp_ladd dX9_digest_276 ?_
      refine wp_lstore_n (L' := [(1, _), (0, _), (3, _), (4, _), (5, _)]) dX9_digest_277 rfl rfl ?_
      refine wp_iinc (L' := [(5, _), (1, _), (0, _), (3, _), (4, _)]) dX9_digest_278 rfl 4 rfl (ii_1 _) rfl ?_
      refine wp_goto 256 dX9_digest_281 (by decide) ?_
      refine wp_drop [2, 1, 3, 4, 0] rfl ?_
      rw [show l_X9_digest_256 K (n + 1) a b c d σ = (l_X9_digest_256 K n ((31 * a) + (f_X9_minuteOf σ c d).toInt64) b c (d + 1) σ) from by rw [l_X9_digest_256, if_neg c259_1]]
      exact ih _ _ _ _ _ hb
def l_X9_digest_189 : Nat → Int64 → Int32 → Mem → Int64 × Mem
  | 0, _, _, σ => (0, σ)
  | n + 1, a, b, σ => if 4 ≤ b then (l_X9_digest_516 (fu 7) ((31 * ((31 * ((31 * ((31 * ((31 * ((31 * ((31 * ((31 * ((31 * ((31 * ((31 * ((31 * ((31 * ((31 * ((31 * ((31 * a) + (f_X9_tornNow σ).toInt64)) + (f_X9_offOf σ 0).toInt64)) + (f_X9_offOf σ 1).toInt64)) + (f_X9_overNow σ).toInt64)) + (f_X9_settlesNow σ).toInt64)) + (f_X9_swingsNow σ).toInt64)) + (f_X9_doesOf σ 0).toInt64)) + (f_X9_doesOf σ 1).toInt64)) + (f_X9_startOf σ 0 3).toInt64)) + (f_X9_startOf σ 4 1).toInt64)) + (f_X9_safeOf σ 0).toInt64)) + (f_X9_safeOf σ 1).toInt64)) + (f_X9_tellsOrder (f_X9_findOrder σ) 0).toInt64)) + (f_X9_tellsOrder (f_X9_findOrder σ) 1).toInt64)) + (f_X9_tellsSqueeze (f_X9_findOrder σ) 0).toInt64)) + (f_X9_tellsSqueeze (f_X9_findOrder σ) 1).toInt64) 1 (f_X9_findOrder σ)) else if 2 ≤ b then if b = 2 then (l_X9_digest_256 (l_X9_digest_189 n) (fu 4) ((31 * ((31 * a) + (σ 12 (((2 * 7) : Int32).toNatClampNeg)).toInt64)) + (σ 12 ((((2 * 7) + 1) : Int32).toNatClampNeg)).toInt64) b 7 0 σ) else (l_X9_digest_256 (l_X9_digest_189 n) (fu 4) ((31 * ((31 * a) + (σ 12 (((2 * 39) : Int32).toNatClampNeg)).toInt64)) + (σ 12 ((((2 * 39) + 1) : Int32).toNatClampNeg)).toInt64) b 39 0 σ) else (l_X9_digest_256 (l_X9_digest_189 n) (fu 4) ((31 * ((31 * a) + (σ 12 ((2 * b).toNatClampNeg)).toInt64)) + (σ 12 (((2 * b) + 1).toNatClampNeg)).toInt64) b b 0 σ)
def bl_X9_digest_189 : Nat → Int64 → Int32 → Mem → Prop
  | 0, _, _, _ => False
  | n + 1, a, b, σ => if 4 ≤ b then (b_X9_tornNow σ) ∧ ((b_X9_offOf σ 0) ∧ ((b_X9_offOf σ 1) ∧ ((b_X9_overNow σ) ∧ ((b_X9_settlesNow σ) ∧ ((b_X9_swingsNow σ) ∧ ((b_X9_doesOf σ 0) ∧ ((b_X9_doesOf σ 1) ∧ ((b_X9_startOf σ 0 3) ∧ ((b_X9_startOf σ 4 1) ∧ ((b_X9_safeOf σ 0) ∧ ((b_X9_safeOf σ 1) ∧ ((b_X9_findOrder σ) ∧ ((b_X9_tellsOrder (f_X9_findOrder σ) 0) ∧ ((b_X9_tellsOrder (f_X9_findOrder σ) 1) ∧ ((b_X9_tellsSqueeze (f_X9_findOrder σ) 0) ∧ ((b_X9_tellsSqueeze (f_X9_findOrder σ) 1) ∧ ((bl_X9_digest_516 (fu 7) ((31 * ((31 * ((31 * ((31 * ((31 * ((31 * ((31 * ((31 * ((31 * ((31 * ((31 * ((31 * ((31 * ((31 * ((31 * ((31 * a) + (f_X9_tornNow σ).toInt64)) + (f_X9_offOf σ 0).toInt64)) + (f_X9_offOf σ 1).toInt64)) + (f_X9_overNow σ).toInt64)) + (f_X9_settlesNow σ).toInt64)) + (f_X9_swingsNow σ).toInt64)) + (f_X9_doesOf σ 0).toInt64)) + (f_X9_doesOf σ 1).toInt64)) + (f_X9_startOf σ 0 3).toInt64)) + (f_X9_startOf σ 4 1).toInt64)) + (f_X9_safeOf σ 0).toInt64)) + (f_X9_safeOf σ 1).toInt64)) + (f_X9_tellsOrder (f_X9_findOrder σ) 0).toInt64)) + (f_X9_tellsOrder (f_X9_findOrder σ) 1).toInt64)) + (f_X9_tellsSqueeze (f_X9_findOrder σ) 0).toInt64)) + (f_X9_tellsSqueeze (f_X9_findOrder σ) 1).toInt64) 1 (f_X9_findOrder σ))))))))))))))))))) else if 2 ≤ b then if b = 2 then (vp_in (2 * 7) 80) ∧ ((vp_in ((2 * 7) + 1) 80) ∧ ((bl_X9_digest_256 (bl_X9_digest_189 n) (fu 4) ((31 * ((31 * a) + (σ 12 (((2 * 7) : Int32).toNatClampNeg)).toInt64)) + (σ 12 ((((2 * 7) + 1) : Int32).toNatClampNeg)).toInt64) b 7 0 σ))) else (vp_in (2 * 39) 80) ∧ ((vp_in ((2 * 39) + 1) 80) ∧ ((bl_X9_digest_256 (bl_X9_digest_189 n) (fu 4) ((31 * ((31 * a) + (σ 12 (((2 * 39) : Int32).toNatClampNeg)).toInt64)) + (σ 12 ((((2 * 39) + 1) : Int32).toNatClampNeg)).toInt64) b 39 0 σ))) else (vp_in (2 * b) 80) ∧ ((vp_in ((2 * b) + 1) 80) ∧ ((bl_X9_digest_256 (bl_X9_digest_189 n) (fu 4) ((31 * ((31 * a) + (σ 12 ((2 * b).toNatClampNeg)).toInt64)) + (σ 12 (((2 * b) + 1).toNatClampNeg)).toInt64) b b 0 σ)))
theorem lt_X9_digest_189 (X : Amb) : ∀ (n : Nat) (a : Int64) (b : Int32) (σ : Mem), bl_X9_digest_189 n a b σ → WP X mX9_digest 189 [(0, .ref (adr X 0)), (1, .long a), (3, .int b)] [] σ (fun v σ' => v = some (.long (l_X9_digest_189 n a b σ).1) ∧ σ' = (l_X9_digest_189 n a b σ).2) := by
  intro n
  induction n with
  | zero => intro a b σ hb; exact hb.elim
  | succ n ih =>
    intro a b σ hb
    rw [bl_X9_digest_189] at hb
    refine wp_iload_n dX9_digest_189 2 rfl ?_
    refine wp_iconst dX9_digest_190 ic_4 ?_
    refine wp_icmp_ge 304 dX9_digest_191 (by decide) (fun c191_1 => ?_) (fun c191_1 => ?_)
    · rw [if_pos c191_1] at hb
      refine wp_ldc2 dX9_digest_304 tlX9_274 ?_
      refine wp_lload_n dX9_digest_307 1 rfl ?_
      refine wp_lmul dX9_digest_308 ?_
      refine wp_aload_n dX9_digest_309 0 rfl ?_
      obtain ⟨x2, hb⟩ := hb
      refine wp_cV0w (N := mX9_tornNow) dX9_digest_310 tmX9_188 okX9_tornNow rfl rfl rfl rfl rfl rfl rfl rfl (s_X9_tornNow X _ x2) ?_
      refine wp_i2l dX9_digest_313 ?_
      refine wp_ladd dX9_digest_314 ?_
      refine wp_lstore_n (L' := [(1, _), (0, _), (3, _)]) dX9_digest_315 rfl rfl ?_
      refine wp_ldc2 dX9_digest_316 tlX9_274 ?_
      refine wp_lload_n dX9_digest_319 0 rfl ?_
      refine wp_lmul dX9_digest_320 ?_
      refine wp_aload_n dX9_digest_321 1 rfl ?_
      refine wp_iconst dX9_digest_322 ic_0 ?_
      obtain ⟨x3, hb⟩ := hb
      refine wp_cV1w (N := mX9_offOf) dX9_digest_323 tmX9_194 okX9_offOf rfl rfl rfl rfl rfl rfl rfl rfl (s_X9_offOf X _ _ x3) ?_
      refine wp_i2l dX9_digest_326 ?_
      refine wp_ladd dX9_digest_327 ?_
      refine wp_lstore_n (L' := [(1, _), (0, _), (3, _)]) dX9_digest_328 rfl rfl ?_
      refine wp_ldc2 dX9_digest_329 tlX9_274 ?_
      refine wp_lload_n dX9_digest_332 0 rfl ?_
      refine wp_lmul dX9_digest_333 ?_
      refine wp_aload_n dX9_digest_334 1 rfl ?_
      refine wp_iconst dX9_digest_335 ic_1 ?_
      obtain ⟨x4, hb⟩ := hb
      refine wp_cV1w (N := mX9_offOf) dX9_digest_336 tmX9_194 okX9_offOf rfl rfl rfl rfl rfl rfl rfl rfl (s_X9_offOf X _ _ x4) ?_
      refine wp_i2l dX9_digest_339 ?_
      refine wp_ladd dX9_digest_340 ?_
      refine wp_lstore_n (L' := [(1, _), (0, _), (3, _)]) dX9_digest_341 rfl rfl ?_
      refine wp_ldc2 dX9_digest_342 tlX9_274 ?_
      refine wp_lload_n dX9_digest_345 0 rfl ?_
      refine wp_lmul dX9_digest_346 ?_
      refine wp_aload_n dX9_digest_347 1 rfl ?_
      obtain ⟨x5, hb⟩ := hb
      refine wp_cV0w (N := mX9_overNow) dX9_digest_348 tmX9_197 okX9_overNow rfl rfl rfl rfl rfl rfl rfl rfl (s_X9_overNow X _ x5) ?_
      refine wp_i2l dX9_digest_351 ?_
      refine wp_ladd dX9_digest_352 ?_
      refine wp_lstore_n (L' := [(1, _), (0, _), (3, _)]) dX9_digest_353 rfl rfl ?_
      refine wp_ldc2 dX9_digest_354 tlX9_274 ?_
      refine wp_lload_n dX9_digest_357 0 rfl ?_
      refine wp_lmul dX9_digest_358 ?_
      refine wp_aload_n dX9_digest_359 1 rfl ?_
      obtain ⟨x6, hb⟩ := hb
      refine wp_cV0w (N := mX9_settlesNow) dX9_digest_360 tmX9_203 okX9_settlesNow rfl rfl rfl rfl rfl rfl rfl rfl (s_X9_settlesNow X _ x6) ?_
      refine wp_i2l dX9_digest_363 ?_
      refine wp_ladd dX9_digest_364 ?_
      refine wp_lstore_n (L' := [(1, _), (0, _), (3, _)]) dX9_digest_365 rfl rfl ?_
      refine wp_ldc2 dX9_digest_366 tlX9_274 ?_
      refine wp_lload_n dX9_digest_369 0 rfl ?_
      refine wp_lmul dX9_digest_370 ?_
      refine wp_aload_n dX9_digest_371 1 rfl ?_
      obtain ⟨x7, hb⟩ := hb
      refine wp_cV0w (N := mX9_swingsNow) dX9_digest_372 tmX9_206 okX9_swingsNow rfl rfl rfl rfl rfl rfl rfl rfl (s_X9_swingsNow X _ x7) ?_
      refine wp_i2l dX9_digest_375 ?_
      refine wp_ladd dX9_digest_376 ?_
      refine wp_lstore_n (L' := [(1, _), (0, _), (3, _)]) dX9_digest_377 rfl rfl ?_
      refine wp_ldc2 dX9_digest_378 tlX9_274 ?_
      refine wp_lload_n dX9_digest_381 0 rfl ?_
      refine wp_lmul dX9_digest_382 ?_
      refine wp_aload_n dX9_digest_383 1 rfl ?_
      refine wp_iconst dX9_digest_384 ic_0 ?_
      obtain ⟨x8, hb⟩ := hb
      refine wp_cV1w (N := mX9_doesOf) dX9_digest_385 tmX9_209 okX9_doesOf rfl rfl rfl rfl rfl rfl rfl rfl (s_X9_doesOf X _ _ x8) ?_
      refine wp_i2l dX9_digest_388 ?_
      refine wp_ladd dX9_digest_389 ?_
      refine wp_lstore_n (L' := [(1, _), (0, _), (3, _)]) dX9_digest_390 rfl rfl ?_
      refine wp_ldc2 dX9_digest_391 tlX9_274 ?_
      refine wp_lload_n dX9_digest_394 0 rfl ?_
      refine wp_lmul dX9_digest_395 ?_
      refine wp_aload_n dX9_digest_396 1 rfl ?_
      refine wp_iconst dX9_digest_397 ic_1 ?_
      obtain ⟨x9, hb⟩ := hb
      refine wp_cV1w (N := mX9_doesOf) dX9_digest_398 tmX9_209 okX9_doesOf rfl rfl rfl rfl rfl rfl rfl rfl (s_X9_doesOf X _ _ x9) ?_
      refine wp_i2l dX9_digest_401 ?_
      refine wp_ladd dX9_digest_402 ?_
      refine wp_lstore_n (L' := [(1, _), (0, _), (3, _)]) dX9_digest_403 rfl rfl ?_
      refine wp_ldc2 dX9_digest_404 tlX9_274 ?_
      refine wp_lload_n dX9_digest_407 0 rfl ?_
      refine wp_lmul dX9_digest_408 ?_
      refine wp_aload_n dX9_digest_409 1 rfl ?_
      refine wp_iconst dX9_digest_410 ic_0 ?_
      refine wp_iconst dX9_digest_411 ic_3 ?_
      obtain ⟨x10, hb⟩ := hb
      refine wp_cV2w (N := mX9_startOf) dX9_digest_412 tmX9_212 okX9_startOf rfl rfl rfl rfl rfl rfl rfl rfl (s_X9_startOf X _ _ _ x10) ?_
      refine wp_i2l dX9_digest_415 ?_
      refine wp_ladd dX9_digest_416 ?_
      refine wp_lstore_n (L' := [(1, _), (0, _), (3, _)]) dX9_digest_417 rfl rfl ?_
      refine wp_ldc2 dX9_digest_418 tlX9_274 ?_
      refine wp_lload_n dX9_digest_421 0 rfl ?_
      refine wp_lmul dX9_digest_422 ?_
      refine wp_aload_n dX9_digest_423 1 rfl ?_
      refine wp_iconst dX9_digest_424 ic_4 ?_
      refine wp_iconst dX9_digest_425 ic_1 ?_
      obtain ⟨x11, hb⟩ := hb
      refine wp_cV2w (N := mX9_startOf) dX9_digest_426 tmX9_212 okX9_startOf rfl rfl rfl rfl rfl rfl rfl rfl (s_X9_startOf X _ _ _ x11) ?_
      refine wp_i2l dX9_digest_429 ?_
      refine wp_ladd dX9_digest_430 ?_
      refine wp_lstore_n (L' := [(1, _), (0, _), (3, _)]) dX9_digest_431 rfl rfl ?_
      refine wp_ldc2 dX9_digest_432 tlX9_274 ?_
      refine wp_lload_n dX9_digest_435 0 rfl ?_
      refine wp_lmul dX9_digest_436 ?_
      refine wp_aload_n dX9_digest_437 1 rfl ?_
      refine wp_iconst dX9_digest_438 ic_0 ?_
      obtain ⟨x12, hb⟩ := hb
      refine wp_cV1w (N := mX9_safeOf) dX9_digest_439 tmX9_215 okX9_safeOf rfl rfl rfl rfl rfl rfl rfl rfl (s_X9_safeOf X _ _ x12) ?_
      refine wp_i2l dX9_digest_442 ?_
      refine wp_ladd dX9_digest_443 ?_
      refine wp_lstore_n (L' := [(1, _), (0, _), (3, _)]) dX9_digest_444 rfl rfl ?_
      refine wp_ldc2 dX9_digest_445 tlX9_274 ?_
      refine wp_lload_n dX9_digest_448 0 rfl ?_
      refine wp_lmul dX9_digest_449 ?_
      refine wp_aload_n dX9_digest_450 1 rfl ?_
      refine wp_iconst dX9_digest_451 ic_1 ?_
      obtain ⟨x13, hb⟩ := hb
      refine wp_cV1w (N := mX9_safeOf) dX9_digest_452 tmX9_215 okX9_safeOf rfl rfl rfl rfl rfl rfl rfl rfl (s_X9_safeOf X _ _ x13) ?_
      refine wp_i2l dX9_digest_455 ?_
      refine wp_ladd dX9_digest_456 ?_
      refine wp_lstore_n (L' := [(1, _), (0, _), (3, _)]) dX9_digest_457 rfl rfl ?_
      refine wp_aload_n dX9_digest_458 1 rfl ?_
      obtain ⟨x14, hb⟩ := hb
      refine wp_cV0v (N := mX9_findOrder) dX9_digest_459 tmX9_240 okX9_findOrder rfl rfl rfl rfl rfl rfl rfl rfl (s_X9_findOrder X _ x14) ?_
      refine wp_ldc2 dX9_digest_462 tlX9_274 ?_
      refine wp_lload_n dX9_digest_465 0 rfl ?_
      refine wp_lmul dX9_digest_466 ?_
      refine wp_aload_n dX9_digest_467 1 rfl ?_
      refine wp_iconst dX9_digest_468 ic_0 ?_
      obtain ⟨x15, hb⟩ := hb
      refine wp_cV1w (N := mX9_tellsOrder) dX9_digest_469 tmX9_243 okX9_tellsOrder rfl rfl rfl rfl rfl rfl rfl rfl (s_X9_tellsOrder X _ _ x15) ?_
      refine wp_i2l dX9_digest_472 ?_
      refine wp_ladd dX9_digest_473 ?_
      refine wp_lstore_n (L' := [(1, _), (0, _), (3, _)]) dX9_digest_474 rfl rfl ?_
      refine wp_ldc2 dX9_digest_475 tlX9_274 ?_
      refine wp_lload_n dX9_digest_478 0 rfl ?_
      refine wp_lmul dX9_digest_479 ?_
      refine wp_aload_n dX9_digest_480 1 rfl ?_
      refine wp_iconst dX9_digest_481 ic_1 ?_
      obtain ⟨x16, hb⟩ := hb
      refine wp_cV1w (N := mX9_tellsOrder) dX9_digest_482 tmX9_243 okX9_tellsOrder rfl rfl rfl rfl rfl rfl rfl rfl (s_X9_tellsOrder X _ _ x16) ?_
      refine wp_i2l dX9_digest_485 ?_
      refine wp_ladd dX9_digest_486 ?_
      refine wp_lstore_n (L' := [(1, _), (0, _), (3, _)]) dX9_digest_487 rfl rfl ?_
      refine wp_ldc2 dX9_digest_488 tlX9_274 ?_
      refine wp_lload_n dX9_digest_491 0 rfl ?_
      refine wp_lmul dX9_digest_492 ?_
      refine wp_aload_n dX9_digest_493 1 rfl ?_
      refine wp_iconst dX9_digest_494 ic_0 ?_
      obtain ⟨x17, hb⟩ := hb
      refine wp_cV1w (N := mX9_tellsSqueeze) dX9_digest_495 tmX9_246 okX9_tellsSqueeze rfl rfl rfl rfl rfl rfl rfl rfl (s_X9_tellsSqueeze X _ _ x17) ?_
      refine wp_i2l dX9_digest_498 ?_
      refine wp_ladd dX9_digest_499 ?_
      refine wp_lstore_n (L' := [(1, _), (0, _), (3, _)]) dX9_digest_500 rfl rfl ?_
      refine wp_ldc2 dX9_digest_501 tlX9_274 ?_
      refine wp_lload_n dX9_digest_504 0 rfl ?_
      refine wp_lmul dX9_digest_505 ?_
      refine wp_aload_n dX9_digest_506 1 rfl ?_
      refine wp_iconst dX9_digest_507 ic_1 ?_
      obtain ⟨x18, hb⟩ := hb
      refine wp_cV1w (N := mX9_tellsSqueeze) dX9_digest_508 tmX9_246 okX9_tellsSqueeze rfl rfl rfl rfl rfl rfl rfl rfl (s_X9_tellsSqueeze X _ _ x18) ?_
      refine wp_i2l dX9_digest_511 ?_
      refine wp_ladd dX9_digest_512 ?_
      refine wp_lstore_n (L' := [(1, _), (0, _), (3, _)]) dX9_digest_513 rfl rfl ?_
      refine wp_iconst dX9_digest_514 ic_1 ?_
      refine wp_istore_n (L' := [(3, _), (1, _), (0, _)]) dX9_digest_515 rfl rfl ?_
      refine wp_drop [2, 1, 0] rfl ?_
      rw [show l_X9_digest_189 (n + 1) a b σ = (l_X9_digest_516 (fu 7) ((31 * ((31 * ((31 * ((31 * ((31 * ((31 * ((31 * ((31 * ((31 * ((31 * ((31 * ((31 * ((31 * ((31 * ((31 * ((31 * a) + (f_X9_tornNow σ).toInt64)) + (f_X9_offOf σ 0).toInt64)) + (f_X9_offOf σ 1).toInt64)) + (f_X9_overNow σ).toInt64)) + (f_X9_settlesNow σ).toInt64)) + (f_X9_swingsNow σ).toInt64)) + (f_X9_doesOf σ 0).toInt64)) + (f_X9_doesOf σ 1).toInt64)) + (f_X9_startOf σ 0 3).toInt64)) + (f_X9_startOf σ 4 1).toInt64)) + (f_X9_safeOf σ 0).toInt64)) + (f_X9_safeOf σ 1).toInt64)) + (f_X9_tellsOrder (f_X9_findOrder σ) 0).toInt64)) + (f_X9_tellsOrder (f_X9_findOrder σ) 1).toInt64)) + (f_X9_tellsSqueeze (f_X9_findOrder σ) 0).toInt64)) + (f_X9_tellsSqueeze (f_X9_findOrder σ) 1).toInt64) 1 (f_X9_findOrder σ)) from by rw [l_X9_digest_189]; rw [if_pos c191_1]]
      exact lt_X9_digest_516 X (fu 7) ((31 * ((31 * ((31 * ((31 * ((31 * ((31 * ((31 * ((31 * ((31 * ((31 * ((31 * ((31 * ((31 * ((31 * ((31 * ((31 * a) + (f_X9_tornNow σ).toInt64)) + (f_X9_offOf σ 0).toInt64)) + (f_X9_offOf σ 1).toInt64)) + (f_X9_overNow σ).toInt64)) + (f_X9_settlesNow σ).toInt64)) + (f_X9_swingsNow σ).toInt64)) + (f_X9_doesOf σ 0).toInt64)) + (f_X9_doesOf σ 1).toInt64)) + (f_X9_startOf σ 0 3).toInt64)) + (f_X9_startOf σ 4 1).toInt64)) + (f_X9_safeOf σ 0).toInt64)) + (f_X9_safeOf σ 1).toInt64)) + (f_X9_tellsOrder (f_X9_findOrder σ) 0).toInt64)) + (f_X9_tellsOrder (f_X9_findOrder σ) 1).toInt64)) + (f_X9_tellsSqueeze (f_X9_findOrder σ) 0).toInt64)) + (f_X9_tellsSqueeze (f_X9_findOrder σ) 1).toInt64) 1 (f_X9_findOrder σ) hb
    · rw [if_neg c191_1] at hb
      refine wp_iload_n dX9_digest_194 2 rfl ?_
      refine wp_iconst dX9_digest_195 ic_2 ?_
      refine wp_icmp_ge 203 dX9_digest_196 (by decide) (fun c196_19 => ?_) (fun c196_19 => ?_)
      · rw [if_pos c196_19] at hb
        refine wp_iload_n dX9_digest_203 2 rfl ?_
        refine wp_iconst dX9_digest_204 ic_2 ?_
        refine wp_icmp_ne 213 dX9_digest_205 (by decide) (fun c205_20 => ?_) (fun c205_20 => ?_)
        · rw [if_neg c205_20] at hb
          refine wp_bipush dX9_digest_213 bp_39 ?_
          refine wp_istore (L' := [(4, _), (0, _), (1, _), (3, _)]) dX9_digest_215 rfl rfl ?_
          refine wp_ldc2 dX9_digest_217 tlX9_274 ?_
          refine wp_lload_n dX9_digest_220 2 rfl ?_
          refine wp_lmul dX9_digest_221 ?_
          refine wp_aload_n dX9_digest_222 1 rfl ?_
          refine wp_getR dX9_digest_223 faX9_44 rfl rfl ?_
          refine wp_iconst dX9_digest_226 ic_2 ?_
          refine wp_iload dX9_digest_227 0 rfl ?_
          refine wp_imul dX9_digest_229 ?_
          obtain ⟨x21, hb⟩ := hb
          refine wp_iald dX9_digest_230 rfl x21 ?_
          refine wp_i2l dX9_digest_231 ?_
          refine wp_ladd dX9_digest_232 ?_
          refine wp_lstore_n (L' := [(1, _), (4, _), (0, _), (3, _)]) dX9_digest_233 rfl rfl ?_
          refine wp_ldc2 dX9_digest_234 tlX9_274 ?_
          refine wp_lload_n dX9_digest_237 0 rfl ?_
          refine wp_lmul dX9_digest_238 ?_
          refine wp_aload_n dX9_digest_239 2 rfl ?_
          refine wp_getR dX9_digest_240 faX9_44 rfl rfl ?_
          refine wp_iconst dX9_digest_243 ic_2 ?_
          refine wp_iload dX9_digest_244 1 rfl ?_
          refine wp_imul dX9_digest_246 ?_
          refine wp_iconst dX9_digest_247 ic_1 ?_
          refine wp_iadd dX9_digest_248 ?_
          obtain ⟨x22, hb⟩ := hb
          refine wp_iald dX9_digest_249 rfl x22 ?_
          refine wp_i2l dX9_digest_250 ?_
          refine wp_ladd dX9_digest_251 ?_
          refine wp_lstore_n (L' := [(1, _), (4, _), (0, _), (3, _)]) dX9_digest_252 rfl rfl ?_
          refine wp_iconst dX9_digest_253 ic_0 ?_
          refine wp_istore (L' := [(5, _), (1, _), (4, _), (0, _), (3, _)]) dX9_digest_254 rfl rfl ?_
          refine wp_drop [3, 1, 4, 2, 0] rfl ?_
          rw [show l_X9_digest_189 (n + 1) a b σ = (l_X9_digest_256 (l_X9_digest_189 n) (fu 4) ((31 * ((31 * a) + (σ 12 (((2 * 39) : Int32).toNatClampNeg)).toInt64)) + (σ 12 ((((2 * 39) + 1) : Int32).toNatClampNeg)).toInt64) b 39 0 σ) from by rw [l_X9_digest_189]; rw [if_neg c191_1, if_pos c196_19, if_neg c205_20]]
          exact lt_X9_digest_256 X (l_X9_digest_189 n) (bl_X9_digest_189 n) ih (fu 4) ((31 * ((31 * a) + (σ 12 (((2 * 39) : Int32).toNatClampNeg)).toInt64)) + (σ 12 ((((2 * 39) + 1) : Int32).toNatClampNeg)).toInt64) b 39 0 σ hb
        · rw [if_pos c205_20] at hb
          refine wp_bipush dX9_digest_208 bp_7 ?_
          refine wp_goto 215 dX9_digest_210 (by decide) ?_
          refine wp_istore (L' := [(4, _), (0, _), (1, _), (3, _)]) dX9_digest_215 rfl rfl ?_
          refine wp_ldc2 dX9_digest_217 tlX9_274 ?_
          refine wp_lload_n dX9_digest_220 2 rfl ?_
          refine wp_lmul dX9_digest_221 ?_
          refine wp_aload_n dX9_digest_222 1 rfl ?_
          refine wp_getR dX9_digest_223 faX9_44 rfl rfl ?_
          refine wp_iconst dX9_digest_226 ic_2 ?_
          refine wp_iload dX9_digest_227 0 rfl ?_
          refine wp_imul dX9_digest_229 ?_
          obtain ⟨x23, hb⟩ := hb
          refine wp_iald dX9_digest_230 rfl x23 ?_
          refine wp_i2l dX9_digest_231 ?_
          refine wp_ladd dX9_digest_232 ?_
          refine wp_lstore_n (L' := [(1, _), (4, _), (0, _), (3, _)]) dX9_digest_233 rfl rfl ?_
          refine wp_ldc2 dX9_digest_234 tlX9_274 ?_
          refine wp_lload_n dX9_digest_237 0 rfl ?_
          refine wp_lmul dX9_digest_238 ?_
          refine wp_aload_n dX9_digest_239 2 rfl ?_
          refine wp_getR dX9_digest_240 faX9_44 rfl rfl ?_
          refine wp_iconst dX9_digest_243 ic_2 ?_
          refine wp_iload dX9_digest_244 1 rfl ?_
          refine wp_imul dX9_digest_246 ?_
          refine wp_iconst dX9_digest_247 ic_1 ?_
          refine wp_iadd dX9_digest_248 ?_
          obtain ⟨x24, hb⟩ := hb
          refine wp_iald dX9_digest_249 rfl x24 ?_
          refine wp_i2l dX9_digest_250 ?_
          refine wp_ladd dX9_digest_251 ?_
          refine wp_lstore_n (L' := [(1, _), (4, _), (0, _), (3, _)]) dX9_digest_252 rfl rfl ?_
          refine wp_iconst dX9_digest_253 ic_0 ?_
          refine wp_istore (L' := [(5, _), (1, _), (4, _), (0, _), (3, _)]) dX9_digest_254 rfl rfl ?_
          refine wp_drop [3, 1, 4, 2, 0] rfl ?_
          rw [show l_X9_digest_189 (n + 1) a b σ = (l_X9_digest_256 (l_X9_digest_189 n) (fu 4) ((31 * ((31 * a) + (σ 12 (((2 * 7) : Int32).toNatClampNeg)).toInt64)) + (σ 12 ((((2 * 7) + 1) : Int32).toNatClampNeg)).toInt64) b 7 0 σ) from by rw [l_X9_digest_189]; rw [if_neg c191_1, if_pos c196_19, if_pos c205_20]]
          exact lt_X9_digest_256 X (l_X9_digest_189 n) (bl_X9_digest_189 n) ih (fu 4) ((31 * ((31 * a) + (σ 12 (((2 * 7) : Int32).toNatClampNeg)).toInt64)) + (σ 12 ((((2 * 7) + 1) : Int32).toNatClampNeg)).toInt64) b 7 0 σ hb
      · rw [if_neg c196_19] at hb
        refine wp_iload_n dX9_digest_199 2 rfl ?_
        refine wp_goto 215 dX9_digest_200 (by decide) ?_
        refine wp_istore (L' := [(4, _), (0, _), (1, _), (3, _)]) dX9_digest_215 rfl rfl ?_
        refine wp_ldc2 dX9_digest_217 tlX9_274 ?_
        refine wp_lload_n dX9_digest_220 2 rfl ?_
        refine wp_lmul dX9_digest_221 ?_
        refine wp_aload_n dX9_digest_222 1 rfl ?_
        refine wp_getR dX9_digest_223 faX9_44 rfl rfl ?_
        refine wp_iconst dX9_digest_226 ic_2 ?_
        refine wp_iload dX9_digest_227 0 rfl ?_
        refine wp_imul dX9_digest_229 ?_
        obtain ⟨x25, hb⟩ := hb
        refine wp_iald dX9_digest_230 rfl x25 ?_
        refine wp_i2l dX9_digest_231 ?_
        refine wp_ladd dX9_digest_232 ?_
        refine wp_lstore_n (L' := [(1, _), (4, _), (0, _), (3, _)]) dX9_digest_233 rfl rfl ?_
        refine wp_ldc2 dX9_digest_234 tlX9_274 ?_
        refine wp_lload_n dX9_digest_237 0 rfl ?_
        refine wp_lmul dX9_digest_238 ?_
        refine wp_aload_n dX9_digest_239 2 rfl ?_
        refine wp_getR dX9_digest_240 faX9_44 rfl rfl ?_
        refine wp_iconst dX9_digest_243 ic_2 ?_
        refine wp_iload dX9_digest_244 1 rfl ?_
        refine wp_imul dX9_digest_246 ?_
        refine wp_iconst dX9_digest_247 ic_1 ?_
        refine wp_iadd dX9_digest_248 ?_
        obtain ⟨x26, hb⟩ := hb
        refine wp_iald dX9_digest_249 rfl x26 ?_
        refine wp_i2l dX9_digest_250 ?_
        refine wp_ladd dX9_digest_251 ?_
        refine wp_lstore_n (L' := [(1, _), (4, _), (0, _), (3, _)]) dX9_digest_252 rfl rfl ?_
        refine wp_iconst dX9_digest_253 ic_0 ?_
        refine wp_istore (L' := [(5, _), (1, _), (4, _), (0, _), (3, _)]) dX9_digest_254 rfl rfl ?_
        refine wp_drop [3, 1, 4, 2, 0] rfl ?_
        rw [show l_X9_digest_189 (n + 1) a b σ = (l_X9_digest_256 (l_X9_digest_189 n) (fu 4) ((31 * ((31 * a) + (σ 12 ((2 * b).toNatClampNeg)).toInt64)) + (σ 12 (((2 * b) + 1).toNatClampNeg)).toInt64) b b 0 σ) from by rw [l_X9_digest_189]; rw [if_neg c191_1, if_neg c196_19]]
        exact lt_X9_digest_256 X (l_X9_digest_189 n) (bl_X9_digest_189 n) ih (fu 4) ((31 * ((31 * a) + (σ 12 ((2 * b).toNatClampNeg)).toInt64)) + (σ 12 (((2 * b) + 1).toNatClampNeg)).toInt64) b b 0 σ hb
def l_X9_digest_137 : Nat → Int64 → Int32 → Mem → Int64 × Mem
  | 0, _, _, σ => (0, σ)
  | n + 1, a, b, σ => if (σ 0 10) ≤ b then (l_X9_digest_189 (fu 5) a 0 σ) else if (σ 9 (b.toNatClampNeg)) = 0 then (l_X9_digest_137 n ((31 * ((31 * a) + (σ 8 (b.toNatClampNeg)).toInt64)) + (0 : Int32).toInt64) (b + 1) σ) else (l_X9_digest_137 n ((31 * ((31 * a) + (σ 8 (b.toNatClampNeg)).toInt64)) + (1 : Int32).toInt64) (b + 1) σ)
def bl_X9_digest_137 : Nat → Int64 → Int32 → Mem → Prop
  | 0, _, _, _ => False
  | n + 1, a, b, σ => if (σ 0 10) ≤ b then (bl_X9_digest_189 (fu 5) a 0 σ) else (vp_in b 16) ∧ ((vp_in b 16) ∧ (if (σ 9 (b.toNatClampNeg)) = 0 then (bl_X9_digest_137 n ((31 * ((31 * a) + (σ 8 (b.toNatClampNeg)).toInt64)) + (0 : Int32).toInt64) (b + 1) σ) else (bl_X9_digest_137 n ((31 * ((31 * a) + (σ 8 (b.toNatClampNeg)).toInt64)) + (1 : Int32).toInt64) (b + 1) σ)))
theorem lt_X9_digest_137 (X : Amb) : ∀ (n : Nat) (a : Int64) (b : Int32) (σ : Mem), bl_X9_digest_137 n a b σ → WP X mX9_digest 137 [(0, .ref (adr X 0)), (1, .long a), (3, .int b)] [] σ (fun v σ' => v = some (.long (l_X9_digest_137 n a b σ).1) ∧ σ' = (l_X9_digest_137 n a b σ).2) := by
  intro n
  induction n with
  | zero => intro a b σ hb; exact hb.elim
  | succ n ih =>
    intro a b σ hb
    rw [bl_X9_digest_137] at hb
    refine wp_iload_n dX9_digest_137 2 rfl ?_
    refine wp_aload_n dX9_digest_138 0 rfl ?_
    refine wp_getI dX9_digest_139 faX9_118 rfl rfl ?_
    refine wp_icmp_ge 187 dX9_digest_142 (by decide) (fun c142_1 => ?_) (fun c142_1 => ?_)
    · rw [if_pos c142_1] at hb
      refine wp_iconst dX9_digest_187 ic_0 ?_
      refine wp_istore_n (L' := [(3, _), (0, _), (1, _)]) dX9_digest_188 rfl rfl ?_
      refine wp_drop [1, 2, 0] rfl ?_
      rw [show l_X9_digest_137 (n + 1) a b σ = (l_X9_digest_189 (fu 5) a 0 σ) from by rw [l_X9_digest_137]; rw [if_pos c142_1]]
      exact lt_X9_digest_189 X (fu 5) a 0 σ hb
    · rw [if_neg c142_1] at hb
      refine wp_ldc2 dX9_digest_145 tlX9_274 ?_
      refine wp_lload_n dX9_digest_148 1 rfl ?_
      refine wp_lmul dX9_digest_149 ?_
      refine wp_aload_n dX9_digest_150 0 rfl ?_
      refine wp_getR dX9_digest_151 faX9_31 rfl rfl ?_
      refine wp_iload_n dX9_digest_154 2 rfl ?_
      obtain ⟨x2, hb⟩ := hb
      refine wp_iald dX9_digest_155 rfl x2 ?_
      refine wp_i2l dX9_digest_156 ?_
      refine wp_ladd dX9_digest_157 ?_
      refine wp_lstore_n (L' := [(1, _), (0, _), (3, _)]) dX9_digest_158 rfl rfl ?_
      refine wp_ldc2 dX9_digest_159 tlX9_274 ?_
      refine wp_lload_n dX9_digest_162 0 rfl ?_
      refine wp_lmul dX9_digest_163 ?_
      refine wp_aload_n dX9_digest_164 1 rfl ?_
      refine wp_getR dX9_digest_165 faX9_34 rfl rfl ?_
      refine wp_iload_n dX9_digest_168 2 rfl ?_
      obtain ⟨x3, hb⟩ := hb
      refine wp_zald dX9_digest_169 rfl x3 ?_
      refine wp_if_eq 177 dX9_digest_170 (by decide) (fun c170_4 => ?_) (fun c170_4 => ?_)
      · rw [if_pos c170_4] at hb
        refine wp_iconst dX9_digest_177 ic_0 ?_
        refine wp_i2l dX9_digest_178 ?_
        refine wp_ladd dX9_digest_179 ?_
        refine wp_lstore_n (L' := [(1, _), (0, _), (3, _)]) dX9_digest_180 rfl rfl ?_
        refine wp_iinc (L' := [(3, _), (1, _), (0, _)]) dX9_digest_181 rfl 2 rfl (ii_1 _) rfl ?_
        refine wp_goto 137 dX9_digest_184 (by decide) ?_
        refine wp_drop [2, 1, 0] rfl ?_
        rw [show l_X9_digest_137 (n + 1) a b σ = (l_X9_digest_137 n ((31 * ((31 * a) + (σ 8 (b.toNatClampNeg)).toInt64)) + (0 : Int32).toInt64) (b + 1) σ) from by rw [l_X9_digest_137, if_neg c142_1, if_pos c170_4]]
        exact ih _ _ _ hb
      · rw [if_neg c170_4] at hb
        refine wp_iconst dX9_digest_173 ic_1 ?_
        refine wp_goto 178 dX9_digest_174 (by decide) ?_
        refine wp_i2l dX9_digest_178 ?_
        refine wp_ladd dX9_digest_179 ?_
        refine wp_lstore_n (L' := [(1, _), (0, _), (3, _)]) dX9_digest_180 rfl rfl ?_
        refine wp_iinc (L' := [(3, _), (1, _), (0, _)]) dX9_digest_181 rfl 2 rfl (ii_1 _) rfl ?_
        refine wp_goto 137 dX9_digest_184 (by decide) ?_
        refine wp_drop [2, 1, 0] rfl ?_
        rw [show l_X9_digest_137 (n + 1) a b σ = (l_X9_digest_137 n ((31 * ((31 * a) + (σ 8 (b.toNatClampNeg)).toInt64)) + (1 : Int32).toInt64) (b + 1) σ) from by rw [l_X9_digest_137, if_neg c142_1, if_neg c170_4]]
        exact ih _ _ _ hb
def l_X9_digest_61 : Nat → Int64 → Int32 → Mem → Int64 × Mem
  | 0, _, _, σ => (0, σ)
  | n + 1, a, b, σ => if (σ 0 7) ≤ b then (l_X9_digest_137 (fu 17) a 0 σ) else (l_X9_digest_61 n ((31 * ((31 * ((31 * a) + (σ 7 (b.toNatClampNeg)).toInt64)) + (f_X9_part σ ((f_X9_strainAt σ 3 b).toInt64) ((σ 0 9).toInt64) 0))) + (f_X9_part σ ((f_X9_strainAt σ 3 b).toInt64) ((σ 0 9).toInt64) 1)) (b + 1) σ)
def bl_X9_digest_61 : Nat → Int64 → Int32 → Mem → Prop
  | 0, _, _, _ => False
  | n + 1, a, b, σ => if (σ 0 7) ≤ b then (bl_X9_digest_137 (fu 17) a 0 σ) else (vp_in b 12) ∧ ((b_X9_strainAt σ 3 b) ∧ ((b_X9_part σ ((f_X9_strainAt σ 3 b).toInt64) ((σ 0 9).toInt64) 0) ∧ ((b_X9_strainAt σ 3 b) ∧ ((b_X9_part σ ((f_X9_strainAt σ 3 b).toInt64) ((σ 0 9).toInt64) 1) ∧ ((bl_X9_digest_61 n ((31 * ((31 * ((31 * a) + (σ 7 (b.toNatClampNeg)).toInt64)) + (f_X9_part σ ((f_X9_strainAt σ 3 b).toInt64) ((σ 0 9).toInt64) 0))) + (f_X9_part σ ((f_X9_strainAt σ 3 b).toInt64) ((σ 0 9).toInt64) 1)) (b + 1) σ))))))
theorem lt_X9_digest_61 (X : Amb) : ∀ (n : Nat) (a : Int64) (b : Int32) (σ : Mem), bl_X9_digest_61 n a b σ → WP X mX9_digest 61 [(0, .ref (adr X 0)), (1, .long a), (3, .int b)] [] σ (fun v σ' => v = some (.long (l_X9_digest_61 n a b σ).1) ∧ σ' = (l_X9_digest_61 n a b σ).2) := by
  intro n
  induction n with
  | zero => intro a b σ hb; exact hb.elim
  | succ n ih =>
    intro a b σ hb
    rw [bl_X9_digest_61] at hb
    refine wp_iload_n dX9_digest_61 2 rfl ?_
    refine wp_aload_n dX9_digest_62 0 rfl ?_
    refine wp_getI dX9_digest_63 faX9_110 rfl rfl ?_
    refine wp_icmp_ge 135 dX9_digest_66 (by decide) (fun c66_1 => ?_) (fun c66_1 => ?_)
    · rw [if_pos c66_1] at hb
      refine wp_iconst dX9_digest_135 ic_0 ?_
      refine wp_istore_n (L' := [(3, _), (0, _), (1, _)]) dX9_digest_136 rfl rfl ?_
      refine wp_drop [1, 2, 0] rfl ?_
      rw [show l_X9_digest_61 (n + 1) a b σ = (l_X9_digest_137 (fu 17) a 0 σ) from by rw [l_X9_digest_61]; rw [if_pos c66_1]]
      exact lt_X9_digest_137 X (fu 17) a 0 σ hb
    · rw [if_neg c66_1] at hb
      refine wp_ldc2 dX9_digest_69 tlX9_274 ?_
      refine wp_lload_n dX9_digest_72 1 rfl ?_
      refine wp_lmul dX9_digest_73 ?_
      refine wp_aload_n dX9_digest_74 0 rfl ?_
      refine wp_getR dX9_digest_75 faX9_28 rfl rfl ?_
      refine wp_iload_n dX9_digest_78 2 rfl ?_
      obtain ⟨x2, hb⟩ := hb
      refine wp_iald dX9_digest_79 rfl x2 ?_
      refine wp_i2l dX9_digest_80 ?_
      refine wp_ladd dX9_digest_81 ?_
      refine wp_lstore_n (L' := [(1, _), (0, _), (3, _)]) dX9_digest_82 rfl rfl ?_
      refine wp_ldc2 dX9_digest_83 tlX9_274 ?_
      refine wp_lload_n dX9_digest_86 0 rfl ?_
      refine wp_lmul dX9_digest_87 ?_
      refine wp_aload_n dX9_digest_88 1 rfl ?_
      refine wp_iconst dX9_digest_89 ic_3 ?_
      refine wp_iload_n dX9_digest_90 2 rfl ?_
      obtain ⟨x3, hb⟩ := hb
      refine wp_cV2w (N := mX9_strainAt) dX9_digest_91 tmX9_174 okX9_strainAt rfl rfl rfl rfl rfl rfl rfl rfl (s_X9_strainAt X _ _ _ x3) ?_
      refine wp_i2l dX9_digest_94 ?_
      refine wp_aload_n dX9_digest_95 1 rfl ?_
      refine wp_getI dX9_digest_96 faX9_113 rfl rfl ?_
      refine wp_i2l dX9_digest_99 ?_
      refine wp_iconst dX9_digest_100 ic_0 ?_
      obtain ⟨x4, hb⟩ := hb
      refine wp_cS3w (N := mX9_part) dX9_digest_101 tmX9_177 okX9_part rfl rfl rfl rfl (s_X9_part X _ _ _ _ x4) ?_
      refine wp_ladd dX9_digest_104 ?_
      refine wp_lstore_n (L' := [(1, _), (0, _), (3, _)]) dX9_digest_105 rfl rfl ?_
      refine wp_ldc2 dX9_digest_106 tlX9_274 ?_
      refine wp_lload_n dX9_digest_109 0 rfl ?_
      refine wp_lmul dX9_digest_110 ?_
      refine wp_aload_n dX9_digest_111 1 rfl ?_
      refine wp_iconst dX9_digest_112 ic_3 ?_
      refine wp_iload_n dX9_digest_113 2 rfl ?_
      obtain ⟨x5, hb⟩ := hb
      refine wp_cV2w (N := mX9_strainAt) dX9_digest_114 tmX9_174 okX9_strainAt rfl rfl rfl rfl rfl rfl rfl rfl (s_X9_strainAt X _ _ _ x5) ?_
      refine wp_i2l dX9_digest_117 ?_
      refine wp_aload_n dX9_digest_118 1 rfl ?_
      refine wp_getI dX9_digest_119 faX9_113 rfl rfl ?_
      refine wp_i2l dX9_digest_122 ?_
      refine wp_iconst dX9_digest_123 ic_1 ?_
      obtain ⟨x6, hb⟩ := hb
      refine wp_cS3w (N := mX9_part) dX9_digest_124 tmX9_177 okX9_part rfl rfl rfl rfl (s_X9_part X _ _ _ _ x6) ?_
      refine wp_ladd dX9_digest_127 ?_
      refine wp_lstore_n (L' := [(1, _), (0, _), (3, _)]) dX9_digest_128 rfl rfl ?_
      refine wp_iinc (L' := [(3, _), (1, _), (0, _)]) dX9_digest_129 rfl 2 rfl (ii_1 _) rfl ?_
      refine wp_goto 61 dX9_digest_132 (by decide) ?_
      refine wp_drop [2, 1, 0] rfl ?_
      rw [show l_X9_digest_61 (n + 1) a b σ = (l_X9_digest_61 n ((31 * ((31 * ((31 * a) + (σ 7 (b.toNatClampNeg)).toInt64)) + (f_X9_part σ ((f_X9_strainAt σ 3 b).toInt64) ((σ 0 9).toInt64) 0))) + (f_X9_part σ ((f_X9_strainAt σ 3 b).toInt64) ((σ 0 9).toInt64) 1)) (b + 1) σ) from by rw [l_X9_digest_61, if_neg c66_1]]
      exact ih _ _ _ hb
def l_X9_digest_6 : Nat → Int64 → Int32 → Mem → Int64 × Mem
  | 0, _, _, σ => (0, σ)
  | n + 1, a, b, σ => if 8 ≤ b then (l_X9_digest_61 (fu 13) ((31 * ((31 * a) + ((f_X9_readsTrain σ).1).toInt64)) + ((f_X9_readsHill (f_X9_readsTrain σ).2).1).toInt64) 0 (f_X9_lives (f_X9_readsHill (f_X9_readsTrain σ).2).2)) else (l_X9_digest_6 n ((31 * a) + ((f_X9_count σ b).1).toInt64) (b + 1) (f_X9_count σ b).2)
def bl_X9_digest_6 : Nat → Int64 → Int32 → Mem → Prop
  | 0, _, _, _ => False
  | n + 1, a, b, σ => if 8 ≤ b then (b_X9_readsTrain σ) ∧ ((b_X9_readsHill (f_X9_readsTrain σ).2) ∧ ((b_X9_lives (f_X9_readsHill (f_X9_readsTrain σ).2).2) ∧ ((bl_X9_digest_61 (fu 13) ((31 * ((31 * a) + ((f_X9_readsTrain σ).1).toInt64)) + ((f_X9_readsHill (f_X9_readsTrain σ).2).1).toInt64) 0 (f_X9_lives (f_X9_readsHill (f_X9_readsTrain σ).2).2))))) else (b_X9_count σ b) ∧ ((bl_X9_digest_6 n ((31 * a) + ((f_X9_count σ b).1).toInt64) (b + 1) (f_X9_count σ b).2))
theorem lt_X9_digest_6 (X : Amb) : ∀ (n : Nat) (a : Int64) (b : Int32) (σ : Mem), bl_X9_digest_6 n a b σ → WP X mX9_digest 6 [(0, .ref (adr X 0)), (1, .long a), (3, .int b)] [] σ (fun v σ' => v = some (.long (l_X9_digest_6 n a b σ).1) ∧ σ' = (l_X9_digest_6 n a b σ).2) := by
  intro n
  induction n with
  | zero => intro a b σ hb; exact hb.elim
  | succ n ih =>
    intro a b σ hb
    rw [bl_X9_digest_6] at hb
    refine wp_iload_n dX9_digest_6 2 rfl ?_
    refine wp_bipush dX9_digest_7 bp_8 ?_
    refine wp_icmp_ge 31 dX9_digest_9 (by decide) (fun c9_1 => ?_) (fun c9_1 => ?_)
    · rw [if_pos c9_1] at hb
      refine wp_ldc2 dX9_digest_31 tlX9_274 ?_
      refine wp_lload_n dX9_digest_34 1 rfl ?_
      refine wp_lmul dX9_digest_35 ?_
      refine wp_aload_n dX9_digest_36 0 rfl ?_
      obtain ⟨x2, hb⟩ := hb
      refine wp_cV0w (N := mX9_readsTrain) dX9_digest_37 tmX9_121 okX9_readsTrain rfl rfl rfl rfl rfl rfl rfl rfl (s_X9_readsTrain X _ x2) ?_
      refine wp_i2l dX9_digest_40 ?_
      refine wp_ladd dX9_digest_41 ?_
      refine wp_lstore_n (L' := [(1, _), (0, _), (3, _)]) dX9_digest_42 rfl rfl ?_
      refine wp_ldc2 dX9_digest_43 tlX9_274 ?_
      refine wp_lload_n dX9_digest_46 0 rfl ?_
      refine wp_lmul dX9_digest_47 ?_
      refine wp_aload_n dX9_digest_48 1 rfl ?_
      obtain ⟨x3, hb⟩ := hb
      refine wp_cV0w (N := mX9_readsHill) dX9_digest_49 tmX9_125 okX9_readsHill rfl rfl rfl rfl rfl rfl rfl rfl (s_X9_readsHill X _ x3) ?_
      refine wp_i2l dX9_digest_52 ?_
      refine wp_ladd dX9_digest_53 ?_
      refine wp_lstore_n (L' := [(1, _), (0, _), (3, _)]) dX9_digest_54 rfl rfl ?_
      refine wp_aload_n dX9_digest_55 1 rfl ?_
      obtain ⟨x4, hb⟩ := hb
      refine wp_cV0v (N := mX9_lives) dX9_digest_56 tmX9_152 okX9_lives rfl rfl rfl rfl rfl rfl rfl rfl (s_X9_lives X _ x4) ?_
      refine wp_iconst dX9_digest_59 ic_0 ?_
      refine wp_istore_n (L' := [(3, _), (1, _), (0, _)]) dX9_digest_60 rfl rfl ?_
      refine wp_drop [2, 1, 0] rfl ?_
      rw [show l_X9_digest_6 (n + 1) a b σ = (l_X9_digest_61 (fu 13) ((31 * ((31 * a) + ((f_X9_readsTrain σ).1).toInt64)) + ((f_X9_readsHill (f_X9_readsTrain σ).2).1).toInt64) 0 (f_X9_lives (f_X9_readsHill (f_X9_readsTrain σ).2).2)) from by rw [l_X9_digest_6]; rw [if_pos c9_1]]
      exact lt_X9_digest_61 X (fu 13) ((31 * ((31 * a) + ((f_X9_readsTrain σ).1).toInt64)) + ((f_X9_readsHill (f_X9_readsTrain σ).2).1).toInt64) 0 (f_X9_lives (f_X9_readsHill (f_X9_readsTrain σ).2).2) hb
    · rw [if_neg c9_1] at hb
      refine wp_ldc2 dX9_digest_12 tlX9_274 ?_
      refine wp_lload_n dX9_digest_15 1 rfl ?_
      refine wp_lmul dX9_digest_16 ?_
      refine wp_aload_n dX9_digest_17 0 rfl ?_
      refine wp_iload_n dX9_digest_18 2 rfl ?_
      obtain ⟨x5, hb⟩ := hb
      refine wp_cV1w (N := mX9_count) dX9_digest_19 tmX9_276 okX9_count rfl rfl rfl rfl rfl rfl rfl rfl (s_X9_count X _ _ x5) ?_
      refine wp_i2l dX9_digest_22 ?_
      refine wp_ladd dX9_digest_23 ?_
      refine wp_lstore_n (L' := [(1, _), (0, _), (3, _)]) dX9_digest_24 rfl rfl ?_
      refine wp_iinc (L' := [(3, _), (1, _), (0, _)]) dX9_digest_25 rfl 2 rfl (ii_1 _) rfl ?_
      refine wp_goto 6 dX9_digest_28 (by decide) ?_
      refine wp_drop [2, 1, 0] rfl ?_
      rw [show l_X9_digest_6 (n + 1) a b σ = (l_X9_digest_6 n ((31 * a) + ((f_X9_count σ b).1).toInt64) (b + 1) (f_X9_count σ b).2) from by rw [l_X9_digest_6, if_neg c9_1]]
      exact ih _ _ _ hb
def f_X9_digest (σ : Mem) : Int64 × Mem := (l_X9_digest_6 (fu 9) 17 0 σ)
def b_X9_digest (σ : Mem) : Prop := (bl_X9_digest_6 (fu 9) 17 0 σ)
theorem s_X9_digest (X : Amb) (σ : Mem) (hb : b_X9_digest σ) : SpW X mX9_digest [.ref (adr X 0)] σ (.long (f_X9_digest σ).1) (f_X9_digest σ).2 := by
  unfold b_X9_digest at hb
  refine sp_of (by decide +kernel) rfl ?_
  show WP X mX9_digest 0 [(0, .ref (adr X 0))] [] σ _
  refine wp_ldc2 dX9_digest_0 tlX9_272 ?_
  refine wp_lstore_n (L' := [(1, _), (0, _)]) dX9_digest_3 rfl rfl ?_
  refine wp_iconst dX9_digest_4 ic_0 ?_
  refine wp_istore_n (L' := [(3, _), (1, _), (0, _)]) dX9_digest_5 rfl rfl ?_
  refine wp_drop [2, 1, 0] rfl ?_
  rw [show f_X9_digest σ = (l_X9_digest_6 (fu 9) 17 0 σ) from rfl]
  exact lt_X9_digest_6 X (fu 9) 17 0 σ hb
end
