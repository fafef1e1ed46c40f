theorem sub48 (x : Int32) : (x - 48).toInt = x.toInt - 48 ∨ (1000 < (x - 48).toInt ∧ x.toInt < 0) := by
  have h1 := Int32.toInt_lt x
  have h2 := Int32.le_toInt x
  have t48 : (48 : Int32).toInt = 48 := by decide
  by_cases h : -2147483648 ≤ x.toInt - 48
  · left; rw [subT (by rw [t48]; omega) (by rw [t48]; omega), t48]
  · right
    refine ⟨?_, by omega⟩
    have e : (x.toInt - 48).bmod (2 ^ 32) = x.toInt - 48 + 4294967296 := by unfold Int.bmod; dsimp only; split <;> omega
    rw [Int32.toInt_sub, t48, e]
    omega
theorem in48 (σ : Mem) (x : Int32) {lo hi : Int64} {l h : Int} (hl : lo.toInt = l) (hh : hi.toInt = h) (h0 : 0 ≤ l) (h1 : h ≤ 9) : f_X9_in σ (x - 48).toInt64 lo hi = if 48 + l ≤ x.toInt ∧ x.toInt ≤ 48 + h then 1 else 0 := by
  rw [in_lit σ _ hl hh]
  rcases sub48 x with e | ⟨e, e2⟩
  · rw [e]
    by_cases q : l ≤ x.toInt - 48 ∧ x.toInt - 48 ≤ h
    · rw [if_pos q, if_pos (by omega)]
    · rw [if_neg q, if_neg (by omega)]
  · rw [if_neg (by omega), if_neg (by omega)]
theorem in19 (σ : Mem) (x : Int32) : f_X9_in σ (x - 48).toInt64 1 9 = if 49 ≤ x.toInt ∧ x.toInt ≤ 57 then 1 else 0 := in48 σ x (l := 1) (h := 9) (by decide) (by decide) (by decide) (by decide)
theorem in09 (σ : Mem) (x : Int32) : f_X9_in σ (x - 48).toInt64 0 9 = if 48 ≤ x.toInt ∧ x.toInt ≤ 57 then 1 else 0 := in48 σ x (l := 0) (h := 9) (by decide) (by decide) (by decide) (by decide)
/-- the model's train -/
theorem rt_l {B : Nat → Int32} {N : Nat} (h12 : N ≤ 12) : ∀ (k i n : Nat) (σ : Mem), i + k = N → k < n → σ 6 0 = nI N → (∀ j, j < N → σ 5 j = B j) → σ 0 7 = nI i → σ 0 9 = aC B i → (∀ j, j < i → σ 7 j = B j - 48) →
    bl_X9_readsTrain_12 n (nI i) σ ∧ (l_X9_readsTrain_12 n (nI i) σ).1 = (if tF B k i = N then -1 else nI (tF B k i)) ∧
    (l_X9_readsTrain_12 n (nI i) σ).2 0 7 = nI (if tF B k i = N then N else 0) ∧ (l_X9_readsTrain_12 n (nI i) σ).2 0 9 = aC B (if tF B k i = N then N else 0) ∧
    (tF B k i = N → ∀ j, j < N → (l_X9_readsTrain_12 n (nI i) σ).2 7 j = B j - 48) ∧ (∀ q, q ≠ 0 → q ≠ 7 → (l_X9_readsTrain_12 n (nI i) σ).2 q = σ q) ∧ (∀ f, f ≠ 7 → f ≠ 9 → (l_X9_readsTrain_12 n (nI i) σ).2 0 f = σ 0 f) := by
  intro k
  induction k with
  | zero =>
    intro i n σ hi hn h1 h2 h3 h4 h5
    obtain ⟨n, rfl⟩ : ∃ n', n = n' + 1 := ⟨n - 1, by omega⟩
    have e : i = N := by omega
    subst e
    have hc : σ 6 ((0 : Int32).toNatClampNeg) ≤ nI i := by rw [cl0, h1, nIle (by omega) (by omega)]; omega
    rw [l_X9_readsTrain_12, bl_X9_readsTrain_12, if_pos hc, if_pos hc, tF, if_pos rfl, if_pos rfl]
    exact ⟨trivial, rfl, h3, h4, fun _ => h5, fun _ _ _ => rfl, fun _ _ _ => rfl⟩
  | succ k ih =>
    intro i n σ hi hn h1 h2 h3 h4 h5
    obtain ⟨n, rfl⟩ : ∃ n', n = n' + 1 := ⟨n - 1, by omega⟩
    have hc : ¬ σ 6 ((0 : Int32).toNatClampNeg) ≤ nI i := by rw [cl0, h1, nIle (by omega) (by omega)]; omega
    rw [l_X9_readsTrain_12, bl_X9_readsTrain_12, if_neg hc, if_neg hc, nIc (by omega), h2 i (by omega), in19, tF]
    by_cases h : 49 ≤ (B i).toInt ∧ (B i).toInt ≤ 57
    · have hne : ¬ (if 49 ≤ (B i).toInt ∧ (B i).toInt ≤ 57 then (1 : Int32) else 0) = 0 := by rw [if_pos h]; decide
      rw [if_neg hne, if_neg hne, if_pos h, nI_1, h3, nI_1, h4]
      obtain ⟨a1, a2, a3, a4, a5, a6, a7⟩ := ih (i + 1) n (mst (mst (mst σ 7 i (B i - 48)) 0 9 (aC B i + (B i - 48))) 0 7 (nI (i + 1))) (by omega) (by omega) (by simp [mst, h1]) (by intro j hj; simp [mst, h2 j hj]) (by simp [mst, upd]) (by simp [mst, upd, aC])
        (by
          intro j hj
          by_cases e : j = i
          · subst e; simp [mst, upd]
          · simp [mst, upd, e, h5 j (by omega)])
      refine ⟨⟨vnI (by omega) (by omega), vnI (by omega) (by omega), a1⟩, a2, a3, a4, a5, fun q q0 q7 => ?_, fun f f7 f9 => ?_⟩
      · rw [a6 q q0 q7]; simp [mst, q0, q7]
      · rw [a7 f f7 f9]; simp [mst, upd, f7, f9]
    · have he : (if 49 ≤ (B i).toInt ∧ (B i).toInt ≤ 57 then (1 : Int32) else 0) = 0 := by rw [if_neg h]
      rw [if_pos he, if_pos he, if_neg h, if_neg (show ¬ i = N by omega), if_neg (show ¬ i = N by omega)]
      refine ⟨⟨vnI (by omega) (by omega), trivial⟩, rfl, by simp [mst, upd]; rfl, by simp [mst, upd, aC], fun q => absurd q (by omega), fun q q0 q7 => by simp [mst, q0], fun f f7 f9 => by simp [mst, upd, f7, f9]⟩
/-- the model's wagons stand as the text tells -/
def TrnM (B : Nat → Int32) (n : Nat) (σ : Mem) : Prop := σ 0 7 = nI (tN B n) ∧ σ 0 9 = aC B (tN B n) ∧ ∀ j, j < tN B n → σ 7 j = B j - 48
theorem readsTrain_eq {σ : Mem} {B : Nat → Int32} {N : Nat} (hN : σ 6 0 = nI N) (h12 : N ≤ 12) (hB : ∀ j, j < N → σ 5 j = B j) :
    b_X9_readsTrain σ ∧ (f_X9_readsTrain σ).1 = tfl B N ∧ TrnM B N (f_X9_readsTrain σ).2 ∧ (∀ q, q ≠ 0 → q ≠ 7 → (f_X9_readsTrain σ).2 q = σ q) ∧ (∀ f, f ≠ 7 → f ≠ 9 → (f_X9_readsTrain σ).2 0 f = σ 0 f) := by
  unfold b_X9_readsTrain f_X9_readsTrain TrnM tN tfl
  obtain ⟨a1, a2, a3, a4, a5, a6, a7⟩ := rt_l (B := B) h12 N 0 (fu 13) (mst (mst σ 0 7 0) 0 9 0) (by omega) (by rw [fu_eq]; omega) (by simp [mst, hN]) (by intro j hj; simp [mst, hB j hj]) (by simp [mst, upd]; rfl) (by simp [mst, upd, aC]) (by intro j hj; omega)
  rw [show nI 0 = (0 : Int32) from rfl] at a1 a2 a3 a4 a5 a6 a7
  refine ⟨a1, a2, ⟨a3, a4, ?_⟩, fun q q0 q7 => ?_, fun f f7 f9 => ?_⟩
  · intro j hj
    by_cases h : tF B N 0 = N
    · rw [if_pos h] at hj; exact a5 h j hj
    · rw [if_neg h] at hj; omega
  · rw [a6 q q0 q7]; simp [mst, q0]
  · rw [a7 f f7 f9]; simp [mst, upd, f7, f9]
/-! the hill: places p, how steep s, bends q, d of them -/
abbrev Hs : Type := Nat × (Nat → Int32) × (Nat → Int32) × Nat
def hstep (r : Hs) (x : Int32) : Option Hs :=
  if x = 98 ∧ 0 < r.1 ∧ r.2.2.1 (r.1 - 1) = 0 then some (r.1, r.2.1, upd r.2.2.1 (r.1 - 1) 1, r.2.2.2 + 1)
  else if r.1 = 16 ∨ ¬ (48 ≤ x.toInt ∧ x.toInt ≤ 57) then none
  else some (r.1 + 1, upd r.2.1 r.1 (x - 48), upd r.2.2.1 r.1 0, r.2.2.2)
def hR (B : Nat → Int32) : Nat → Nat → Hs → Option Nat × Hs
  | 0, _, r => (none, r)
  | k + 1, i, r => match hstep r (B i) with
    | none => (some i, r)
    | some r' => hR B k (i + 1) r'
def h0s : Hs := (0, fun _ => 0, fun _ => 0, 0)
def hP (B : Nat → Int32) (n : Nat) : Nat := if (hR B n 0 h0s).1 = none then (hR B n 0 h0s).2.1 else 0
def hst (B : Nat → Int32) (n : Nat) : Nat → Int32 := (hR B n 0 h0s).2.2.1
def hbd (B : Nat → Int32) (n : Nat) : Nat → Int32 := (hR B n 0 h0s).2.2.2.1
def hBn (B : Nat → Int32) (n : Nat) : Nat := if (hR B n 0 h0s).1 = none then (hR B n 0 h0s).2.2.2.2 else 0
def hfl (B : Nat → Int32) (n : Nat) : Int32 := match (hR B n 0 h0s).1 with
  | none => -1
  | some i => nI i
theorem hstep_le {r r' : Hs} {x : Int32} (h : hstep r x = some r') (hp : r.1 ≤ 16) : r'.1 ≤ 16 := by
  unfold hstep at h
  split at h
  · cases h; exact hp
  · split at h
    · cases h
    · rename_i h2
      cases h
      show r.1 + 1 ≤ 16
      have : ¬ r.1 = 16 := fun q => h2 (Or.inl q)
      omega
theorem hR_le (B : Nat → Int32) : ∀ (k i : Nat) (r : Hs), r.1 ≤ 16 → (hR B k i r).2.1 ≤ 16 := by
  intro k
  induction k with
  | zero => intro i r h; exact h
  | succ k ih =>
    intro i r h
    rw [hR]
    cases e : hstep r (B i) with
    | none => exact h
    | some r' => exact ih (i + 1) r' (hstep_le e h)
theorem hP_le (B : Nat → Int32) (n : Nat) : hP B n ≤ 16 := by
  unfold hP
  split
  · exact hR_le B n 0 h0s (by decide)
  · omega
theorem hR_some (B : Nat → Int32) : ∀ (k i : Nat) (r : Hs) (f : Nat), (hR B k i r).1 = some f → i ≤ f ∧ f < i + k := by
  intro k
  induction k with
  | zero => intro i r f h; cases h
  | succ k ih =>
    intro i r f h
    rw [hR] at h
    cases e : hstep r (B i) with
    | none => rw [e] at h; cases h; omega
    | some r' => rw [e] at h; have := ih (i + 1) r' f h; omega
