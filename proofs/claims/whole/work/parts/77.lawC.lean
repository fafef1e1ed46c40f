theorem lq_drop {X : Amb} {ad : Nat → Nat} {b Ln : Nat} {xs : Nat → Int32} {pc : Nat} {L L' : List (Nat × Value)} {S : List Value} {σ τ : Mem} (ks : List Nat) (hL : lv_pick L ks = L') (k : LWP X ad b Ln xs pc L' S σ τ) : LWP X ad b Ln xs pc L S σ τ :=
  fun p e s m below meth c H locs ls B hP hQ hS hl => k p e s m below meth c H locs ls B hP hQ hS (lv_sub hl ks hL)
theorem sub6 {i Ln : Nat} (hL : Ln ≤ 3072) (hi : i ≤ 4000) : ¬ (Int32.ofNat Ln - 6 < nI i) → i + 6 ≤ Ln := by
  intro h
  have e1 : (Int32.ofNat Ln - 6).toInt = (Ln : Int) - 6 := by
    rw [Int32.toInt_sub, show (Int32.ofNat Ln).toInt = (Ln : Int) from nI_toInt (by omega), show (6 : Int32).toInt = 6 by decide]
    rw [Int.bmod_def]
    split <;> omega
  rw [Int32.lt_iff_toInt_lt, e1, nI_toInt (by omega)] at h
  omega
set_option maxHeartbeats 2000000 in
theorem law_case {X : Amb} {ad : Nat → Nat} {b Ln : Nat} {xs : Nat → Int32} {σ τ : Mem} (h : R σ τ) {i : Nat} (hi : i + 6 ≤ Ln) (hL : Ln ≤ 3072) (x : Int32) (hnext : ∀ σ' τ', R σ' τ' → LWP X ad b Ln xs 1250 [(0, .ref b), (1, .ref (adr X 0)), (2, .ref (ad 0)), (3, .int (nI i))] [] σ' τ') : LWP X ad b Ln xs 33 [(0, .ref b), (1, .ref (adr X 0)), (2, .ref (ad 0)), (3, .int (nI i))] [.int x] σ τ := by
  by_cases ho : x.toInt < 0 ∨ 36 < x.toInt
  · exact lq_tableOut 1250 dL_law_33 ho rfl (hnext _ _ h)
  · have h1 : ¬ x.toInt < 0 := fun z => ho (Or.inl z)
    have h2 : ¬ 36 < x.toInt := fun z => ho (Or.inr z)
    obtain ⟨k, hk⟩ : ∃ k : Nat, x.toInt = (k : Int) := ⟨x.toInt.toNat, by omega⟩
    have hk36 : k ≤ 36 := by omega
    have e0 : (x.toInt - 0).toNat = k := by omega
    match k, hk36, e0 with
    | 0, _, e0 => exact lq_tableIn (off := 163) 196 dL_law_33 h1 h2 (by rw [e0]; rfl) rfl (lcs_0 h hi hL hnext)
    | 1, _, e0 => exact lq_tableIn (off := 196) 229 dL_law_33 h1 h2 (by rw [e0]; rfl) rfl (lcs_1 h hi hL hnext)
    | 2, _, e0 => exact lq_tableIn (off := 219) 252 dL_law_33 h1 h2 (by rw [e0]; rfl) rfl (lcs_2 h hi hL hnext)
    | 3, _, e0 => exact lq_tableIn (off := 242) 275 dL_law_33 h1 h2 (by rw [e0]; rfl) rfl (lcs_3 h hi hL hnext)
    | 4, _, e0 => exact lq_tableIn (off := 265) 298 dL_law_33 h1 h2 (by rw [e0]; rfl) rfl (lcs_4 h hi hL hnext)
    | 5, _, e0 => exact lq_tableIn (off := 288) 321 dL_law_33 h1 h2 (by rw [e0]; rfl) rfl (lcs_5 h hi hL hnext)
    | 6, _, e0 => exact lq_tableIn (off := 321) 354 dL_law_33 h1 h2 (by rw [e0]; rfl) rfl (lcs_6 h hi hL hnext)
    | 7, _, e0 => exact lq_tableIn (off := 364) 397 dL_law_33 h1 h2 (by rw [e0]; rfl) rfl (lcs_7 h hi hL hnext)
    | 8, _, e0 => exact lq_tableIn (off := 397) 430 dL_law_33 h1 h2 (by rw [e0]; rfl) rfl (lcs_8 h hi hL hnext)
    | 9, _, e0 => exact lq_tableIn (off := 430) 463 dL_law_33 h1 h2 (by rw [e0]; rfl) rfl (lcs_9 h hi hL hnext)
    | 10, _, e0 => exact lq_tableIn (off := 463) 496 dL_law_33 h1 h2 (by rw [e0]; rfl) rfl (lcs_10 h hi hL hnext)
    | 11, _, e0 => exact lq_tableIn (off := 507) 540 dL_law_33 h1 h2 (by rw [e0]; rfl) rfl (lcs_11 h hi hL hnext)
    | 12, _, e0 => exact lq_tableIn (off := 530) 563 dL_law_33 h1 h2 (by rw [e0]; rfl) rfl (lcs_12 h hi hL hnext)
    | 13, _, e0 => exact lq_tableIn (off := 543) 576 dL_law_33 h1 h2 (by rw [e0]; rfl) rfl (lcs_13 h hi hL hnext)
    | 14, _, e0 => exact lq_tableIn (off := 566) 599 dL_law_33 h1 h2 (by rw [e0]; rfl) rfl (lcs_14 h hi hL hnext)
    | 15, _, e0 => exact lq_tableIn (off := 579) 612 dL_law_33 h1 h2 (by rw [e0]; rfl) rfl (lcs_15 h hi hL hnext)
    | 16, _, e0 => exact lq_tableIn (off := 592) 625 dL_law_33 h1 h2 (by rw [e0]; rfl) rfl (lcs_16 h hi hL hnext)
    | 17, _, e0 => exact lq_tableIn (off := 605) 638 dL_law_33 h1 h2 (by rw [e0]; rfl) rfl (lcs_17 h hi hL hnext)
    | 18, _, e0 => exact lq_tableIn (off := 628) 661 dL_law_33 h1 h2 (by rw [e0]; rfl) rfl (lcs_18 h hi hL hnext)
    | 19, _, e0 => exact lq_tableIn (off := 661) 694 dL_law_33 h1 h2 (by rw [e0]; rfl) rfl (lcs_19 h hi hL hnext)
    | 20, _, e0 => exact lq_tableIn (off := 684) 717 dL_law_33 h1 h2 (by rw [e0]; rfl) rfl (lcs_20 h hi hL hnext)
    | 21, _, e0 => exact lq_tableIn (off := 707) 740 dL_law_33 h1 h2 (by rw [e0]; rfl) rfl (lcs_21 h hi hL hnext)
    | 22, _, e0 => exact lq_tableIn (off := 730) 763 dL_law_33 h1 h2 (by rw [e0]; rfl) rfl (lcs_22 h hi hL hnext)
    | 23, _, e0 => exact lq_tableIn (off := 753) 786 dL_law_33 h1 h2 (by rw [e0]; rfl) rfl (lcs_23 h hi hL hnext)
    | 24, _, e0 => exact lq_tableIn (off := 766) 799 dL_law_33 h1 h2 (by rw [e0]; rfl) rfl (lcs_24 h hi hL hnext)
    | 25, _, e0 => exact lq_tableIn (off := 789) 822 dL_law_33 h1 h2 (by rw [e0]; rfl) rfl (lcs_25 h hi hL hnext)
    | 26, _, e0 => exact lq_tableIn (off := 822) 855 dL_law_33 h1 h2 (by rw [e0]; rfl) rfl (lcs_26 h hi hL hnext)
    | 27, _, e0 => exact lq_tableIn (off := 845) 878 dL_law_33 h1 h2 (by rw [e0]; rfl) rfl (lcs_27 h hi hL hnext)
    | 28, _, e0 => exact lq_tableIn (off := 899) 932 dL_law_33 h1 h2 (by rw [e0]; rfl) rfl (lcs_28 h hi hL hnext)
    | 29, _, e0 => exact lq_tableIn (off := 922) 955 dL_law_33 h1 h2 (by rw [e0]; rfl) rfl (lcs_29 h hi hL hnext)
    | 30, _, e0 => exact lq_tableIn (off := 965) 998 dL_law_33 h1 h2 (by rw [e0]; rfl) rfl (lcs_30 h hi hL hnext)
    | 31, _, e0 => exact lq_tableIn (off := 988) 1021 dL_law_33 h1 h2 (by rw [e0]; rfl) rfl (lcs_31 h hi hL hnext)
    | 32, _, e0 => exact lq_tableIn (off := 1041) 1074 dL_law_33 h1 h2 (by rw [e0]; rfl) rfl (lcs_32 h hi hL hnext)
    | 33, _, e0 => exact lq_tableIn (off := 1084) 1117 dL_law_33 h1 h2 (by rw [e0]; rfl) rfl (lcs_33 h hi hL hnext)
    | 34, _, e0 => exact lq_tableIn (off := 1147) 1180 dL_law_33 h1 h2 (by rw [e0]; rfl) rfl (lcs_34 h hi hL hnext)
    | 35, _, e0 => exact lq_tableIn (off := 1180) 1213 dL_law_33 h1 h2 (by rw [e0]; rfl) rfl (lcs_35 h hi hL hnext)
    | 36, _, e0 => exact lq_tableIn (off := 1203) 1236 dL_law_33 h1 h2 (by rw [e0]; rfl) rfl (lcs_36 h hi hL hnext)
    | n + 37, hn, _ => exact absurd hn (by omega)
set_option maxHeartbeats 1000000 in
theorem law_loop {X : Amb} {ad : Nat → Nat} {b Ln : Nat} {xs : Nat → Int32} (hL : Ln ≤ 3072) : ∀ (n i : Nat) (σ τ : Mem), R σ τ → i ≤ Ln → Ln < i + n → LWP X ad b Ln xs 18 [(0, .ref b), (1, .ref (adr X 0)), (2, .ref (ad 0)), (3, .int (nI i))] [] σ τ := by
  intro n
  induction n with
  | zero => intro i σ τ _ h1 h2; exact absurd h2 (by omega)
  | succ n ih =>
    intro i σ τ h hi hn
    refine lq_iload_n dL_law_18 3 rfl ?_
    refine lq_aload_n dL_law_19 0 rfl ?_
    refine lq_slen dL_law_20 ?_
    refine lq_bipush (v := 6) dL_law_21 (by decide) ?_
    refine lq_isub dL_law_23 ?_
    refine lq_icmp_gt 1256 dL_law_24 rfl (fun _ => ?_) (fun hc => ?_)
    · refine lq_iconst (v := 1) dL_law_1256 (by decide) ?_
      exact lq_ret dL_law_1257
    · have h6 : i + 6 ≤ Ln := sub6 hL (by omega) hc
      refine lq_aload_n dL_law_27 0 rfl ?_
      refine lq_iload_n dL_law_28 3 rfl ?_
      refine lq_sld dL_law_29 (vp_in_nI (by omega) (by omega)) ?_
      refine lq_bipush (v := 63) dL_law_30 (by decide) ?_
      refine lq_iand dL_law_32 ?_
      refine law_case h h6 hL _ (fun σ' τ' h' => ?_)
      refine lq_iinc (v := nI (i + 6)) (L' := [(3, .int (nI (i + 6))), (0, .ref b), (1, .ref (adr X 0)), (2, .ref (ad 0))]) dL_law_1250 rfl 3 rfl (by rw [show Int32.ofInt 6 = nI 6 by decide, nI_add]) rfl ?_
      refine lq_goto 18 dL_law_1253 rfl ?_
      exact lq_drop [1, 2, 3, 0] rfl (ih (i + 6) σ' τ' h' h6 (by omega))
