theorem ic_m1 : Int32.ofInt (-1) = (-1) := by decide
theorem ic_0 : Int32.ofInt 0 = 0 := by decide
theorem ic_1 : Int32.ofInt 1 = 1 := by decide
theorem ic_2 : Int32.ofInt 2 = 2 := by decide
theorem ic_3 : Int32.ofInt 3 = 3 := by decide
theorem ic_4 : Int32.ofInt 4 = 4 := by decide
theorem ic_5 : Int32.ofInt 5 = 5 := by decide
theorem bp_m10 : (Int8.ofInt (-10)).toInt32 = (-10) := by decide
theorem bp_m4 : (Int8.ofInt (-4)).toInt32 = (-4) := by decide
theorem bp_m3 : (Int8.ofInt (-3)).toInt32 = (-3) := by decide
theorem bp_m2 : (Int8.ofInt (-2)).toInt32 = (-2) := by decide
theorem bp_6 : (Int8.ofInt 6).toInt32 = 6 := by decide
theorem bp_7 : (Int8.ofInt 7).toInt32 = 7 := by decide
theorem bp_8 : (Int8.ofInt 8).toInt32 = 8 := by decide
theorem bp_9 : (Int8.ofInt 9).toInt32 = 9 := by decide
theorem bp_10 : (Int8.ofInt 10).toInt32 = 10 := by decide
theorem bp_12 : (Int8.ofInt 12).toInt32 = 12 := by decide
theorem bp_13 : (Int8.ofInt 13).toInt32 = 13 := by decide
theorem bp_16 : (Int8.ofInt 16).toInt32 = 16 := by decide
theorem bp_20 : (Int8.ofInt 20).toInt32 = 20 := by decide
theorem bp_32 : (Int8.ofInt 32).toInt32 = 32 := by decide
theorem bp_38 : (Int8.ofInt 38).toInt32 = 38 := by decide
theorem bp_39 : (Int8.ofInt 39).toInt32 = 39 := by decide
theorem bp_40 : (Int8.ofInt 40).toInt32 = 40 := by decide
theorem bp_44 : (Int8.ofInt 44).toInt32 = 44 := by decide
theorem bp_48 : (Int8.ofInt 48).toInt32 = 48 := by decide
theorem bp_49 : (Int8.ofInt 49).toInt32 = 49 := by decide
theorem bp_57 : (Int8.ofInt 57).toInt32 = 57 := by decide
theorem bp_60 : (Int8.ofInt 60).toInt32 = 60 := by decide
theorem bp_63 : (Int8.ofInt 63).toInt32 = 63 := by decide
theorem bp_80 : (Int8.ofInt 80).toInt32 = 80 := by decide
theorem bp_98 : (Int8.ofInt 98).toInt32 = 98 := by decide
theorem bp_99 : (Int8.ofInt 99).toInt32 = 99 := by decide
theorem bp_100 : (Int8.ofInt 100).toInt32 = 100 := by decide
theorem sp_200 : (Int16.ofInt 200).toInt32 = 200 := by decide
theorem sp_240 : (Int16.ofInt 240).toInt32 = 240 := by decide
theorem sp_255 : (Int16.ofInt 255).toInt32 = 255 := by decide
theorem sp_300 : (Int16.ofInt 300).toInt32 = 300 := by decide
theorem sp_720 : (Int16.ofInt 720).toInt32 = 720 := by decide
theorem sp_999 : (Int16.ofInt 999).toInt32 = 999 := by decide
theorem ii_m1 (x : Int32) : x + Int32.ofInt (-1) = x + (-1) := by rw [show Int32.ofInt (-1) = (-1) by decide]
theorem ii_1 (x : Int32) : x + Int32.ofInt 1 = x + 1 := by rw [show Int32.ofInt 1 = 1 by decide]
theorem ii_6 (x : Int32) : x + Int32.ofInt 6 = x + 6 := by rw [show Int32.ofInt 6 = 6 by decide]
theorem lc_0 : Int64.ofNat ((0 : Fin 2) : Nat) = 0 := by decide
theorem lc_1 : Int64.ofNat ((1 : Fin 2) : Nat) = 1 := by decide
theorem nlt_of_le {x y : Int32} (h : y ≤ x) : ¬ x < y := by rw [Int32.lt_iff_toInt_lt]; rw [Int32.le_iff_toInt_le] at h; omega
theorem nle_of_lt {x y : Int32} (h : x < y) : ¬ y ≤ x := by rw [Int32.le_iff_toInt_le]; rw [Int32.lt_iff_toInt_lt] at h; omega
theorem lt_of_nle {x y : Int32} (h : ¬ y ≤ x) : x < y := by rw [Int32.lt_iff_toInt_lt]; rw [Int32.le_iff_toInt_le] at h; omega
theorem le_of_nlt {x y : Int32} (h : ¬ x < y) : y ≤ x := by rw [Int32.le_iff_toInt_le]; rw [Int32.lt_iff_toInt_lt] at h; omega
theorem vlit (i : Int32) (n : Nat) (h : Bool.and (decide (0 ≤ i)) (Nat.blt i.toNatClampNeg n) = true) : vp_in i n := by
  simp only [Bool.and_eq_true, decide_eq_true_eq] at h
  rintro (q | q)
  · exact nlt_of_le h.1 q
  · have := Nat.le_of_ble_eq_true (show Nat.ble (i.toNatClampNeg + 1) n = true from h.2); omega
/-- an index that the code has looked at: not below 0, below the length -/
theorem vin {i B : Int32} (n : Nat) (hn : n < 2 ^ 31) (hB : B = Int32.ofNat n) (h0 : ¬ i < 0) (h1 : ¬ B ≤ i) : vp_in i n := by
  rw [vp_in_iff]
  rw [Int32.le_iff_toInt_le, hB, show (Int32.ofNat n).toInt = (n : Int) from nI_toInt hn] at h1
  rw [Int32.lt_iff_toInt_lt, Int32.toInt_zero] at h0
  omega
theorem inc_toInt {i B : Int32} (h : i < B) : (i + 1).toInt = i.toInt + 1 := by
  rw [Int32.lt_iff_toInt_lt] at h
  have h1 : B.toInt < 2 ^ 31 := Int32.toInt_lt B
  have h2 : -2 ^ 31 ≤ i.toInt := Int32.le_toInt i
  rw [Int32.toInt_add, show (1 : Int32).toInt = 1 by decide]
  apply Int.bmod_eq_of_le <;> omega
theorem dec_toInt {i B : Int32} (h : B < i) : (i + (-1)).toInt = i.toInt - 1 := by
  rw [Int32.lt_iff_toInt_lt] at h
  have h1 : i.toInt < 2 ^ 31 := Int32.toInt_lt i
  have h2 : -2 ^ 31 ≤ B.toInt := Int32.le_toInt B
  rw [Int32.toInt_add, show (-1 : Int32).toInt = -1 by decide]
  rw [Int.bmod_eq_of_le] <;> omega
/-- a loop that counts up to a bound -/
theorem cnt_lt {i B : Int32} {n : Nat} (h : i < B) (hm : (B.toInt - i.toInt).toNat < n + 1) : (B.toInt - (i + 1).toInt).toNat < n := by
  rw [inc_toInt h]; rw [Int32.lt_iff_toInt_lt] at h; omega
theorem cnt_up {i B : Int32} {n : Nat} (h : ¬ B ≤ i) (hm : (B.toInt - i.toInt).toNat < n + 1) : (B.toInt - (i + 1).toInt).toNat < n := cnt_lt (lt_of_nle h) hm
theorem cnt_le {i B : Int32} {n : Nat} (h : ¬ B < i) (hb : B < 2147483647) (hm : ((B.toInt + 1) - i.toInt).toNat < n + 1) : ((B.toInt + 1) - (i + 1).toInt).toNat < n := by
  have h' := le_of_nlt h
  have h2 : i < 2147483647 := by rw [Int32.lt_iff_toInt_lt] at hb ⊢; rw [Int32.le_iff_toInt_le] at h'; omega
  rw [inc_toInt h2]; rw [Int32.le_iff_toInt_le] at h'; omega
/-- down to a bound -/
theorem cnt_dn {i B : Int32} {n : Nat} (h : B < i) (hm : (i.toInt - B.toInt).toNat < n + 1) : ((i + (-1)).toInt - B.toInt).toNat < n := by
  rw [dec_toInt h]; rw [Int32.lt_iff_toInt_lt] at h; omega
theorem cnt_dn0 {i : Int32} {n : Nat} (h : ¬ i < 0) (hm : (i.toInt + 1).toNat < n + 1) : ((i + (-1)).toInt + 1).toNat < n := by
  have h1 : (-1 : Int32) < i := by rw [Int32.lt_iff_toInt_lt] at h ⊢; rw [Int32.toInt_zero] at h; rw [show (-1 : Int32).toInt = -1 by decide]; omega
  rw [dec_toInt h1]; rw [Int32.lt_iff_toInt_lt, Int32.toInt_zero] at h; omega
theorem nn_inc {i B : Int32} (h0 : ¬ i < 0) (h : i < B) : ¬ i + 1 < 0 := by
  rw [Int32.lt_iff_toInt_lt, inc_toInt h, Int32.toInt_zero]; rw [Int32.lt_iff_toInt_lt, Int32.toInt_zero] at h0; omega
theorem nn_inc' {i B : Int32} (h0 : ¬ i < 0) (h : ¬ B ≤ i) : ¬ i + 1 < 0 := nn_inc h0 (lt_of_nle h)
