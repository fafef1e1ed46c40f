/-! ===== the pure part: what the functions compute ===== -/
theorem nIc {n : Nat} (h : n < 2147483648) : (nI n).toNatClampNeg = n := nI_clamp h
theorem nIle {a b : Nat} (ha : a < 2147483648) (hb : b < 2147483648) : nI a ≤ nI b ↔ a ≤ b := nI_leI ha hb
theorem nIlt {a b : Nat} (ha : a < 2147483648) (hb : b < 2147483648) : nI a < nI b ↔ a < b := nI_ltI ha hb
theorem nInn {a : Nat} (ha : a < 2147483648) : ¬ nI a < 0 := nI_pos ha
theorem nI_lit0 : (0 : Int32) = nI 0 := rfl
theorem cl0 : (0 : Int32).toNatClampNeg = 0 := by decide
theorem cl1 : (1 : Int32).toNatClampNeg = 1 := by decide
theorem cl2 : (2 : Int32).toNatClampNeg = 2 := by decide
theorem cl3 : (3 : Int32).toNatClampNeg = 3 := by decide
theorem cl4 : (4 : Int32).toNatClampNeg = 4 := by decide
theorem nI_t {n : Nat} (h : n < 2147483648) : (nI n).toInt = (n : Int) := nI_toInt h
/-- an index of a row -/
theorem vnI {i n : Nat} (h : i < n) (hn : n < 2147483648) : vp_in (nI i) n := vp_in_nI h hn
/-- the model's 'in' of an int -/
theorem inI (σ : Mem) (x : Int32) (lo hi : Int64) : f_X9_in σ x.toInt64 lo hi = if lo.toInt ≤ x.toInt ∧ x.toInt ≤ hi.toInt then 1 else 0 := by
  unfold f_X9_in
  simp only [lg_cmp_lt, lg_cmp_gt, Int64.lt_iff_toInt_lt, Int32.toInt_toInt64]
  by_cases h1 : x.toInt < lo.toInt
  · rw [if_pos h1, if_neg (by omega)]
  · by_cases h2 : hi.toInt < x.toInt
    · rw [if_neg h1, if_pos h2, if_neg (by omega)]
    · rw [if_neg h1, if_neg h2, if_pos (by omega)]
theorem in_lit (σ : Mem) (x : Int32) {lo hi : Int64} {l h : Int} (hl : lo.toInt = l) (hh : hi.toInt = h) : f_X9_in σ x.toInt64 lo hi = if l ≤ x.toInt ∧ x.toInt ≤ h then 1 else 0 := by rw [inI, hl, hh]
/-! the train: bytes B, n of them -/
def tF (B : Nat → Int32) : Nat → Nat → Nat
  | 0, i => i
  | k + 1, i => if 49 ≤ (B i).toInt ∧ (B i).toInt ≤ 57 then tF B k (i + 1) else i
def aC (B : Nat → Int32) : Nat → Int32
  | 0 => 0
  | k + 1 => aC B k + (B k - 48)
def tN (B : Nat → Int32) (n : Nat) : Nat := if tF B n 0 = n then n else 0
def tfl (B : Nat → Int32) (n : Nat) : Int32 := if tF B n 0 = n then -1 else nI (tF B n 0)
theorem tF_le (B : Nat → Int32) : ∀ k i, i ≤ tF B k i ∧ tF B k i ≤ i + k := by
  intro k
  induction k with
  | zero => intro i; simp [tF]
  | succ k ih =>
    intro i
    rw [tF]
    split
    · have := ih (i + 1); omega
    · omega
theorem tN_le (B : Nat → Int32) (n : Nat) : tN B n ≤ n := by unfold tN; split <;> omega
theorem byteAt_eq {σ : Mem} {k i N : Nat} (hN : σ k 2 = nI N) (h32 : N ≤ 32) (hi : i < N) : f_X7_byteAt σ k (nI i) = σ (k + 1) i := by
  unfold f_X7_byteAt
  rw [if_neg (nInn (by omega)), hN, if_neg (by rw [nIle (by omega) (by omega)]; omega), if_neg (by rw [show (32 : Int32) = nI 32 from rfl, nIle (by omega) (by omega)]; omega), nIc (by omega)]
theorem b49 (x : Int32) : x < 49 ↔ x.toInt < 49 := by rw [Int32.lt_iff_toInt_lt, show (49 : Int32).toInt = 49 by decide]
theorem b57 (x : Int32) : x ≤ 57 ↔ x.toInt ≤ 57 := by rw [Int32.le_iff_toInt_le, show (57 : Int32).toInt = 57 by decide]
theorem faultOf_l {σ : Mem} {B : Nat → Int32} {N : Nat} (hN : σ 1 2 = nI N) (h32 : N ≤ 32) (hB : ∀ j, j < N → σ 2 j = B j) : ∀ (k i n : Nat), i + k = N → k < n → l_X1_faultOf_2 n (nI i) σ = if tF B k i = N then -1 else nI (tF B k i) := by
  intro k
  induction k with
  | zero =>
    intro i n hi hn
    obtain ⟨n, rfl⟩ : ∃ n', n = n' + 1 := ⟨n - 1, by omega⟩
    have e : i = N := by omega
    subst e
    rw [l_X1_faultOf_2, if_pos (by unfold f_X7_size; rw [hN, nIle (by omega) (by omega)]; omega), tF, if_pos rfl]
  | succ k ih =>
    intro i n hi hn
    obtain ⟨n, rfl⟩ : ∃ n', n = n' + 1 := ⟨n - 1, by omega⟩
    rw [l_X1_faultOf_2, if_neg (by unfold f_X7_size; rw [hN, nIle (by omega) (by omega)]; omega), byteAt_eq hN h32 (by omega), hB i (by omega), tF]
    by_cases h : 49 ≤ (B i).toInt ∧ (B i).toInt ≤ 57
    · rw [if_pos h, if_neg (by rw [b49]; omega), if_pos (by rw [b57]; omega), nI_1]
      exact ih (i + 1) n (by omega) (by omega)
    · rw [if_neg h, if_neg (show ¬ i = N by omega)]
      by_cases h1 : (B i).toInt < 49
      · rw [if_pos (by rw [b49]; exact h1)]
      · rw [if_neg (by rw [b49]; exact h1), if_neg (by rw [b57]; omega)]
theorem faultOf_eq {σ : Mem} {B : Nat → Int32} {N : Nat} (hN : σ 1 2 = nI N) (h32 : N ≤ 32) (hB : ∀ j, j < N → σ 2 j = B j) : f_X1_faultOf σ = tfl B N := by
  unfold f_X1_faultOf tfl
  rw [show (0 : Int32) = nI 0 from rfl, faultOf_l hN h32 hB N 0 _ (by omega) (by rw [fu_eq]; unfold f_X7_size; rw [hN, nI_t (by omega)]; omega)]
theorem load_l {B : Nat → Int32} {N N' : Nat} (h12 : N' ≤ 12) (h' : N' ≤ N) (h32 : N ≤ 32) : ∀ (k i n : Nat) (σ : Mem), i + k = N' → k < n → σ 1 2 = nI N → (∀ j, j < N → σ 2 j = B j) → σ 5 2 = nI N' → σ 5 3 = aC B i → (∀ j, j < i → σ 6 j = B j - 48) → (∀ j, j ≤ i → σ 7 j = aC B j) →
    (l_X1_load_47 n (nI i) σ) 5 2 = nI N' ∧ (l_X1_load_47 n (nI i) σ) 5 3 = aC B N' ∧ (l_X1_load_47 n (nI i) σ) 5 4 = σ 5 4 ∧ (∀ j, j < N' → (l_X1_load_47 n (nI i) σ) 6 j = B j - 48) ∧ (∀ j, j ≤ N' → (l_X1_load_47 n (nI i) σ) 7 j = aC B j) := by
  intro k
  induction k with
  | zero =>
    intro i n σ hi hn h1 h2 h3 h4 h5 h6
    obtain ⟨n, rfl⟩ : ∃ n', n = n' + 1 := ⟨n - 1, by omega⟩
    have e : i = N' := by omega
    subst e
    rw [l_X1_load_47, if_pos (by rw [h3, nIle (by omega) (by omega)]; omega)]
    exact ⟨h3, h4, rfl, h5, h6⟩
  | succ k ih =>
    intro i n σ hi hn h1 h2 h3 h4 h5 h6
    obtain ⟨n, rfl⟩ : ∃ n', n = n' + 1 := ⟨n - 1, by omega⟩
    rw [l_X1_load_47, if_neg (by rw [h3, nIle (by omega) (by omega)]; omega), if_neg (by rw [show (12 : Int32) = nI 12 from rfl, nIle (by omega) (by omega)]; omega), byteAt_eq h1 h32 (by omega), h2 i (by omega), nI_1, nIc (by omega), nIc (by omega), h4]
    have key := ih (i + 1) n (mst (mst (mst σ 6 i (B i - 48)) 5 3 (aC B i + (B i - 48))) 7 (i + 1) (aC B i + (B i - 48))) (by omega) (by omega) (by simp [mst, h1]) (by intro j hj; simp [mst, h2 j hj]) (by simp [mst, upd, h3]) (by simp [mst, upd, aC])
      (by
        intro j hj
        by_cases e : j = i
        · subst e; simp [mst, upd]
        · simp [mst, upd, e, h5 j (by omega)])
      (by
        intro j hj
        by_cases e : j = i + 1
        · subst e; simp [mst, upd, aC]
        · simp [mst, upd, e, h6 j (by omega)])
    obtain ⟨a1, a2, a3, a4, a5⟩ := key
    exact ⟨a1, a2, by rw [a3]; simp [mst, upd], a4, a5⟩
/-- the class' wagons stand as the text tells -/
def Trn (B : Nat → Int32) (n : Nat) (σ : Mem) : Prop := σ 5 2 = nI (tN B n) ∧ σ 5 3 = aC B (tN B n) ∧ σ 5 4 = tfl B n ∧ (∀ j, j < tN B n → σ 6 j = B j - 48) ∧ (∀ j, j ≤ tN B n → σ 7 j = aC B j)
theorem load_eq {σ : Mem} {B : Nat → Int32} {N : Nat} (hN : σ 1 2 = nI N) (h12 : N ≤ 12) (hB : ∀ j, j < N → σ 2 j = B j) : Trn B N (f_X1_load σ) ∧ ∀ q, q ≠ 5 → q ≠ 6 → q ≠ 7 → (f_X1_load σ) q = σ q := by
  have hf := faultOf_eq hN (by omega) hB
  constructor
  · unfold f_X1_load
    rw [hf]
    by_cases h : tF B N 0 = N
    · have e1 : tfl B N = -1 := by unfold tfl; rw [if_pos h]
      have e2 : tN B N = N := by unfold tN; rw [if_pos h]
      rw [if_pos e1, e1]
      have e3 : (if 12 < (f_X7_size (mst σ 5 4 (-1)) 1) then (12 : Int32) else (f_X7_size (mst σ 5 4 (-1)) 1)) = nI N := by
        have : f_X7_size (mst σ 5 4 (-1)) 1 = nI N := by simp [f_X7_size, mst, hN]
        rw [this, if_neg (by rw [show (12 : Int32) = nI 12 from rfl, nIlt (by omega) (by omega)]; omega)]
      rw [e3, cl0]
      have key := load_l (B := B) (N := N) (N' := N) h12 (Nat.le_refl _) (by omega) N 0 (fu 13) (mst (mst (mst (mst σ 5 4 (-1)) 5 2 (nI N)) 5 3 0) 7 0 0) (by omega) (by rw [fu_eq]; omega) (by simp [mst, hN]) (by intro j hj; simp [mst, hB j hj]) (by simp [mst, upd]) (by simp [mst, upd, aC]) (by intro j hj; omega) (by intro j hj; rw [show j = 0 by omega]; simp [mst, upd, aC])
      rw [show nI 0 = (0 : Int32) from rfl] at key
      unfold Trn
      rw [e1, e2]
      exact ⟨key.1, key.2.1, by rw [key.2.2.1]; simp [mst, upd], key.2.2.2.1, key.2.2.2.2⟩
    · have e1 : tfl B N = nI (tF B N 0) := by unfold tfl; rw [if_neg h]
      have e2 : tN B N = 0 := by unfold tN; rw [if_neg h]
      have hle := tF_le B N 0
      have hne : ¬ tfl B N = -1 := by
        rw [e1]; intro q
        have := congrArg Int32.toInt q
        rw [nI_t (by omega), show (-1 : Int32).toInt = -1 by decide] at this
        omega
      rw [if_neg hne, cl0]
      have key := load_l (B := B) (N := N) (N' := 0) (by omega) (by omega) (by omega) 0 0 (fu 13) (mst (mst (mst (mst σ 5 4 (tfl B N)) 5 2 0) 5 3 0) 7 0 0) (by omega) (by rw [fu_eq]; omega) (by simp [mst, hN]) (by intro j hj; simp [mst, hB j hj]) (by simp [mst, upd]; rfl) (by simp [mst, upd, aC]) (by intro j hj; omega) (by intro j hj; rw [show j = 0 by omega]; simp [mst, upd, aC])
      rw [show nI 0 = (0 : Int32) from rfl] at key
      unfold Trn
      rw [e2]
      exact ⟨key.1, key.2.1, by rw [key.2.2.1]; simp [mst, upd], key.2.2.2.1, key.2.2.2.2⟩
  · intro q h5 h6 h7
    unfold f_X1_load
    split <;> simp [fr_l_X1_load_47, mst, h5, h6, h7]
