def HC (r : Hs) (σ : Mem) : Prop := σ 8 2 = nI r.1 ∧ r.1 ≤ 16 ∧ σ 8 3 = nI r.2.2.2 ∧ ∀ j, j < r.1 → σ 9 j = r.2.1 j ∧ σ 10 j = r.2.2.1 j
theorem nI_m1 {p : Nat} (h : 0 < p) : nI p - 1 = nI (p - 1) := by
  obtain ⟨p, rfl⟩ : ∃ p', p = p' + 1 := ⟨p - 1, by omega⟩
  rw [nI_pred]; rfl
theorem x98 : (98 : Int32).toInt = 98 := by decide
theorem lt48 (x : Int32) : x < 48 ↔ x.toInt < 48 := by rw [Int32.lt_iff_toInt_lt, show (48 : Int32).toInt = 48 by decide]
theorem gt57 (x : Int32) : 57 < x ↔ 57 < x.toInt := by rw [Int32.lt_iff_toInt_lt, show (57 : Int32).toInt = 57 by decide]
theorem takes_eq {r : Hs} {σ : Mem} (h : HC r σ) (x : Int32) : match hstep r x with
    | none => (f_X6_takes σ x).1 = 0 ∧ (f_X6_takes σ x).2 = σ
    | some r' => (f_X6_takes σ x).1 = 1 ∧ HC r' (f_X6_takes σ x).2 ∧ (f_X6_takes σ x).2 8 4 = σ 8 4 := by
  obtain ⟨p, s, q, d⟩ := r
  obtain ⟨h1, h2, h3, h4⟩ := h
  dsimp only at h1 h2 h3 h4
  by_cases hx : x = 98
  · subst hx
    have e0 : f_X6_takes σ 98 = f_X6_bendsLast σ := by unfold f_X6_takes; rw [if_pos rfl]
    rw [e0]
    by_cases hp : 0 < p
    · have c1 : ¬ nI (p - 1) < 0 := nInn (by omega)
      have c2 : ¬ (16 : Int32) ≤ nI (p - 1) := by rw [show (16 : Int32) = nI 16 from rfl, nIle (by omega) (by omega)]; omega
      by_cases hq : q (p - 1) = 0
      · have ef : f_X6_bendsLast σ = (1, mst (mst σ 10 (p - 1) 1) 8 3 (σ 8 3 + 1)) := by
          unfold f_X6_bendsLast
          rw [h1, nI_m1 hp, if_neg c1, if_neg c2, nIc (by omega), (h4 (p - 1) (by omega)).2, if_pos hq]
        have eh : hstep (p, s, q, d) 98 = some (p, s, upd q (p - 1) 1, d + 1) := by
          unfold hstep; rw [if_pos (show (98 : Int32) = 98 ∧ 0 < p ∧ q (p - 1) = 0 from ⟨rfl, hp, hq⟩)]
        rw [ef, eh]
        dsimp only
        refine ⟨rfl, ⟨by simp [mst, upd, h1], h2, by simp [mst, upd, h3]; exact nI_1 d, fun j hj => ⟨by simp [mst, (h4 j hj).1], ?_⟩⟩, by simp [mst, upd]⟩
        by_cases e : j = p - 1
        · subst e; simp [mst, upd]
        · simp [mst, upd, e, (h4 j hj).2]
      · have ef : f_X6_bendsLast σ = (0, σ) := by
          unfold f_X6_bendsLast
          rw [h1, nI_m1 hp, if_neg c1, if_neg c2, nIc (by omega), (h4 (p - 1) (by omega)).2, if_neg hq]
        have eh : hstep (p, s, q, d) 98 = none := by
          unfold hstep; rw [if_neg (show ¬ ((98 : Int32) = 98 ∧ 0 < p ∧ q (p - 1) = 0) from fun z => hq z.2.2), if_pos (Or.inr (by rw [x98]; omega))]
        rw [ef, eh]
        exact ⟨rfl, rfl⟩
    · have e : p = 0 := by omega
      subst e
      have ef : f_X6_bendsLast σ = (0, σ) := by
        unfold f_X6_bendsLast
        rw [h1, if_pos (show nI 0 - 1 < 0 by decide)]
      have eh : hstep (0, s, q, d) 98 = none := by
        unfold hstep; rw [if_neg (show ¬ ((98 : Int32) = 98 ∧ 0 < 0 ∧ q (0 - 1) = 0) from fun z => hp z.2.1), if_pos (Or.inr (by rw [x98]; omega))]
      rw [ef, eh]
      exact ⟨rfl, rfl⟩
  · have hx' : ¬ (x = 98 ∧ 0 < p ∧ q (p - 1) = 0) := fun z => hx z.1
    by_cases ha : x.toInt < 48
    · have ef : f_X6_takes σ x = (0, σ) := by unfold f_X6_takes; rw [if_neg hx, if_pos ((lt48 x).mpr ha)]
      have eh : hstep (p, s, q, d) x = none := by unfold hstep; rw [if_neg hx', if_pos (Or.inr (by omega))]
      rw [ef, eh]; exact ⟨rfl, rfl⟩
    · have ha' : ¬ x < 48 := fun z => ha ((lt48 x).mp z)
      by_cases hb : 57 < x.toInt
      · have ef : f_X6_takes σ x = (0, σ) := by unfold f_X6_takes; rw [if_neg hx, if_neg ha', if_pos ((gt57 x).mpr hb)]
        have eh : hstep (p, s, q, d) x = none := by unfold hstep; rw [if_neg hx', if_pos (Or.inr (by omega))]
        rw [ef, eh]; exact ⟨rfl, rfl⟩
      · have hb' : ¬ 57 < x := fun z => hb ((gt57 x).mp z)
        have c1 : ¬ nI p < 0 := nInn (by omega)
        by_cases hp : p = 16
        · have c2 : ¬ nI p < 16 := by rw [show (16 : Int32) = nI 16 from rfl, nIlt (by omega) (by omega)]; omega
          have ef : f_X6_takes σ x = (0, σ) := by unfold f_X6_takes; rw [if_neg hx, if_neg ha', if_neg hb', h1, if_neg c1, if_neg c2]
          have eh : hstep (p, s, q, d) x = none := by unfold hstep; rw [if_neg hx', if_pos (Or.inl hp)]
          rw [ef, eh]; exact ⟨rfl, rfl⟩
        · have c2 : nI p < 16 := by rw [show (16 : Int32) = nI 16 from rfl, nIlt (by omega) (by omega)]; omega
          have ef : f_X6_takes σ x = (1, mst (mst (mst σ 9 p (x - 48)) 10 p 0) 8 2 (nI p + 1)) := by unfold f_X6_takes; rw [if_neg hx, if_neg ha', if_neg hb', h1, if_neg c1, if_pos c2, nIc (by omega)]
          have eh : hstep (p, s, q, d) x = some (p + 1, upd s p (x - 48), upd q p 0, d) := by unfold hstep; rw [if_neg hx', if_neg (show ¬ (p = 16 ∨ ¬ (48 ≤ x.toInt ∧ x.toInt ≤ 57)) by omega)]
          rw [ef, eh]
          dsimp only
          refine ⟨rfl, ⟨by simp [mst, upd]; exact nI_1 p, by dsimp only; omega, by simp [mst, upd, h3], fun j hj => ?_⟩, by simp [mst, upd]⟩
          by_cases e : j = p
          · subst e; simp [mst, upd]
          · have := h4 j (by dsimp only at hj; omega)
            simp [mst, upd, e, this.1, this.2]
theorem m1ne {i : Nat} (h : i < 2147483648) : ¬ nI i = -1 := by
  intro q
  have := congrArg Int32.toInt q
  rw [nI_t h, show (-1 : Int32).toInt = -1 by decide] at this
  omega
theorem hill_l {B : Nat → Int32} {N : Nat} (h32 : N ≤ 32) : ∀ (k i n : Nat) (σ : Mem) (r : Hs), i + k = N → k < n → σ 3 2 = nI N → (∀ j, j < N → σ 4 j = B j) → σ 8 4 = -1 → HC r σ →
    match (hR B k i r).1 with
    | none => (l_X6_load_17 n (nI i) σ) 8 4 = -1 ∧ HC (hR B k i r).2 (l_X6_load_17 n (nI i) σ)
    | some f => (l_X6_load_17 n (nI i) σ) 8 4 = nI f ∧ (l_X6_load_17 n (nI i) σ) 8 2 = 0 ∧ (l_X6_load_17 n (nI i) σ) 8 3 = 0 := by
  intro k
  induction k with
  | zero =>
    intro i n σ r hi hn h1 h2 h3 h4
    obtain ⟨n, rfl⟩ : ∃ n', n = n' + 1 := ⟨n - 1, by omega⟩
    have e : i = N := by omega
    subst e
    rw [hR, l_X6_load_17, if_pos (by unfold f_X7_size; rw [h1, nIle (by omega) (by omega)]; omega), if_pos h3]
    exact ⟨h3, h4⟩
  | succ k ih =>
    intro i n σ r hi hn h1 h2 h3 h4
    obtain ⟨n, rfl⟩ : ∃ n', n = n' + 1 := ⟨n - 1, by omega⟩
    rw [hR, l_X6_load_17, if_neg (by unfold f_X7_size; rw [h1, nIle (by omega) (by omega)]; omega), if_pos h3, byteAt_eq h1 h32 (by omega), h2 i (by omega), nI_1]
    have ht := takes_eq h4 (B i)
    cases e : hstep r (B i) with
    | none =>
      rw [e] at ht
      dsimp only at ht ⊢
      rw [if_pos ht.1, ht.2]
      obtain ⟨n, rfl⟩ : ∃ n', n = n' + 1 := ⟨n - 1, by omega⟩
      have hne : ¬ (mst σ 8 4 (nI i)) 8 4 = -1 := by rw [mst_eq]; exact m1ne (by omega)
      rw [l_X6_load_17]
      rw [if_neg hne, if_neg hne]
      have : (if f_X7_size (mst σ 8 4 (nI i)) 3 ≤ nI (i + 1) then (mst (mst (mst σ 8 4 (nI i)) 8 2 0) 8 3 0) else (mst (mst (mst σ 8 4 (nI i)) 8 2 0) 8 3 0)) = (mst (mst (mst σ 8 4 (nI i)) 8 2 0) 8 3 0) := by split <;> rfl
      rw [this]
      exact ⟨by simp [mst, upd], by simp [mst, upd], by simp [mst, upd]⟩
    | some r' =>
      rw [e] at ht
      dsimp only at ht ⊢
      rw [if_neg (by rw [ht.1]; decide)]
      exact ih (i + 1) n _ r' (by omega) (by omega) (by rw [fr_X6_takes σ (B i) (by decide) (by decide) (by decide)]; exact h1) (by intro j hj; rw [fr_X6_takes σ (B i) (by decide) (by decide) (by decide)]; exact h2 j hj) (by rw [ht.2.2]; exact h3) ht.2.1
theorem fr_l_X6_load_17 : ∀ (n : Nat) (c : Int32) (σ : Mem) (q : Nat), q ≠ 8 → q ≠ 9 → q ≠ 10 → (l_X6_load_17 n c σ) q = σ q := by
  intro n
  induction n with
  | zero => intros; rfl
  | succ n ih =>
    intro c σ q h0 h1 h2
    rw [l_X6_load_17]
    (repeat' split) <;> simp [ih, mst, fr_X6_takes, h0, h1, h2]
/-- the class' places stand as the text tells -/
def Hil (B : Nat → Int32) (n : Nat) (σ : Mem) : Prop := σ 8 2 = nI (hP B n) ∧ σ 8 3 = nI (hBn B n) ∧ σ 8 4 = hfl B n ∧ ∀ j, j < hP B n → σ 9 j = hst B n j ∧ σ 10 j = hbd B n j
theorem hill_eq {σ : Mem} {B : Nat → Int32} {N : Nat} (hN : σ 3 2 = nI N) (h32 : N ≤ 32) (hB : ∀ j, j < N → σ 4 j = B j) : Hil B N (f_X6_load σ) ∧ ∀ q, q ≠ 8 → q ≠ 9 → q ≠ 10 → (f_X6_load σ) q = σ q := by
  constructor
  · unfold f_X6_load
    have hf : N < fu ((f_X7_size σ 3).toInt.toNat + 1) := by rw [fu_eq]; unfold f_X7_size; rw [hN, nI_t (by omega)]; omega
    have key := hill_l (B := B) h32 N 0 _ (mst (mst (mst σ 8 2 0) 8 3 0) 8 4 (-1)) h0s (by omega) hf (by simp [mst, hN]) (by intro j hj; simp [mst, hB j hj]) (by simp [mst, upd]) ⟨by simp [mst, upd]; rfl, by decide, by simp [mst, upd]; rfl, fun j hj => absurd hj (Nat.not_lt_zero _)⟩
    rw [show nI 0 = (0 : Int32) from rfl] at key
    unfold Hil hP hBn hfl hst hbd
    cases e : (hR B N 0 h0s).1 with
    | none =>
      rw [e] at key
      dsimp only at key ⊢
      rw [if_pos rfl, if_pos rfl]
      exact ⟨key.2.1, key.2.2.2.1, key.1, key.2.2.2.2⟩
    | some f =>
      rw [e] at key
      dsimp only at key ⊢
      rw [if_neg (by simp), if_neg (by simp)]
      exact ⟨key.2.1, key.2.2, key.1, fun j hj => absurd hj (Nat.not_lt_zero _)⟩
  · intro q h0 h1 h2
    unfold f_X6_load
    rw [fr_l_X6_load_17 _ _ _ q h0 h1 h2]
    simp [mst, h0]
/-! the model's hill -/
def HM (r : Hs) (σ : Mem) : Prop := σ 0 10 = nI r.1 ∧ r.1 ≤ 16 ∧ ∀ j, j < r.1 → σ 8 j = r.2.1 j ∧ σ 9 j = r.2.2.1 j
theorem rh_l {B : Nat → Int32} {N : Nat} (h32 : N ≤ 32) : ∀ (k i n : Nat) (σ : Mem) (r : Hs), i + k = N → k < n → σ 6 1 = nI N → (∀ j, j < N → σ 5 (12 + j) = B j) → HM r σ →
    bl_X9_readsHill_7 n (nI i) σ ∧ (match (hR B k i r).1 with
    | none => (l_X9_readsHill_7 n (nI i) σ).1 = -1 ∧ HM (hR B k i r).2 (l_X9_readsHill_7 n (nI i) σ).2
    | some f => (l_X9_readsHill_7 n (nI i) σ).1 = nI f ∧ (l_X9_readsHill_7 n (nI i) σ).2 0 10 = 0) ∧ (∀ q, q ≠ 0 → q ≠ 8 → q ≠ 9 → (l_X9_readsHill_7 n (nI i) σ).2 q = σ q) ∧ (∀ f, f ≠ 10 → (l_X9_readsHill_7 n (nI i) σ).2 0 f = σ 0 f) := by
  intro k
  induction k with
  | zero =>
    intro i n σ r hi hn h1 h2 h4
    obtain ⟨n, rfl⟩ : ∃ n', n = n' + 1 := ⟨n - 1, by omega⟩
    have e : i = N := by omega
    subst e
    have hc : σ 6 ((1 : Int32).toNatClampNeg) ≤ nI i := by rw [cl1, h1, nIle (by omega) (by omega)]; omega
    rw [hR, l_X9_readsHill_7, bl_X9_readsHill_7, if_pos hc, if_pos hc]
    exact ⟨trivial, ⟨rfl, h4⟩, fun _ _ _ _ => rfl, fun _ _ => rfl⟩
  | succ k ih =>
    intro i n σ r hi hn h1 h2 h4
    obtain ⟨n, rfl⟩ : ∃ n', n = n' + 1 := ⟨n - 1, by omega⟩
    have hc : ¬ σ 6 ((1 : Int32).toNatClampNeg) ≤ nI i := by rw [cl1, h1, nIle (by omega) (by omega)]; omega
    have e12 : (12 : Int32) + nI i = nI (12 + i) := nI_add 12 i
    rw [hR, l_X9_readsHill_7, bl_X9_readsHill_7, if_neg hc, if_neg hc, e12, nIc (by omega), h2 i (by omega), nI_1, in09]
    have v1 : vp_in (nI (12 + i)) 44 := vnI (by omega) (by omega)
    obtain ⟨p, s, q, d⟩ := r
    obtain ⟨g1, g2, g4⟩ := h4
    dsimp only at g1 g2 g4
    rw [g1]
    have fault : ∀ (_ : hstep (p, s, q, d) (B i) = none), ((nI i, mst σ 0 10 0) : Int32 × Mem).1 = nI i ∧ ((nI i, mst σ 0 10 0) : Int32 × Mem).2 0 10 = 0 := fun _ => ⟨rfl, by simp [mst, upd]⟩
    have fr1 : ∀ q, q ≠ 0 → q ≠ 8 → q ≠ 9 → (mst σ 0 10 0) q = σ q := fun q q0 _ _ => by simp [mst, q0]
    have fr2 : ∀ f, f ≠ 10 → (mst σ 0 10 0) 0 f = σ 0 f := fun f f0 => by simp [mst, upd, f0]
    -- the step that adds a place
    have push : hstep (p, s, q, d) (B i) = some (p + 1, upd s p (B i - 48), upd q p 0, d) → p < 16 →
        bl_X9_readsHill_7 n (nI (i + 1)) (mst (mst (mst σ 8 p (B i - 48)) 9 p 0) 0 10 (nI (p + 1))) ∧ (match (hR B k (i + 1) (p + 1, upd s p (B i - 48), upd q p 0, d)).1 with
    | none => (l_X9_readsHill_7 n (nI (i + 1)) (mst (mst (mst σ 8 p (B i - 48)) 9 p 0) 0 10 (nI (p + 1)))).1 = -1 ∧ HM (hR B k (i + 1) (p + 1, upd s p (B i - 48), upd q p 0, d)).2 (l_X9_readsHill_7 n (nI (i + 1)) (mst (mst (mst σ 8 p (B i - 48)) 9 p 0) 0 10 (nI (p + 1)))).2
    | some f => (l_X9_readsHill_7 n (nI (i + 1)) (mst (mst (mst σ 8 p (B i - 48)) 9 p 0) 0 10 (nI (p + 1)))).1 = nI f ∧ (l_X9_readsHill_7 n (nI (i + 1)) (mst (mst (mst σ 8 p (B i - 48)) 9 p 0) 0 10 (nI (p + 1)))).2 0 10 = 0) ∧ (∀ q, q ≠ 0 → q ≠ 8 → q ≠ 9 → (l_X9_readsHill_7 n (nI (i + 1)) (mst (mst (mst σ 8 p (B i - 48)) 9 p 0) 0 10 (nI (p + 1)))).2 q = σ q) ∧ (∀ f, f ≠ 10 → (l_X9_readsHill_7 n (nI (i + 1)) (mst (mst (mst σ 8 p (B i - 48)) 9 p 0) 0 10 (nI (p + 1)))).2 0 f = σ 0 f) := by
      intro _ hp
      obtain ⟨a1, a2, a3, a4⟩ := ih (i + 1) n (mst (mst (mst σ 8 p (B i - 48)) 9 p 0) 0 10 (nI (p + 1))) (p + 1, upd s p (B i - 48), upd q p 0, d) (by omega) (by omega) (by simp [mst, h1]) (by intro j hj; simp [mst, h2 j hj])
        ⟨by simp [mst, upd], by dsimp only; omega, fun j hj => by
          by_cases e : j = p
          · subst e; simp [mst, upd]
          · have := g4 j (by dsimp only at hj; omega)
            simp [mst, upd, e, this.1, this.2]⟩
      refine ⟨a1, a2, fun q q0 q8 q9 => ?_, fun f f0 => ?_⟩
      · rw [a3 q q0 q8 q9]; simp [mst, q0, q8, q9]
      · rw [a4 f f0]; simp [mst, upd, f0]
    by_cases hx : B i = 98
    · have hin : (if 48 ≤ (B i).toInt ∧ (B i).toInt ≤ 57 then (1 : Int32) else 0) = 0 := by rw [hx, x98]; decide
      rw [if_pos hx, if_pos hx]
      by_cases hp : 0 < p
      · have c1 : ¬ nI p ≤ 0 := nI_nle hp (by omega)
        rw [if_neg c1, if_neg c1, nI_m1 hp, nIc (by omega), (g4 (p - 1) (by omega)).2]
        have v2 : vp_in (nI (p - 1)) 16 := vnI (by omega) (by omega)
        by_cases hq : q (p - 1) = 0
        · have hs : hstep (p, s, q, d) (B i) = some (p, s, upd q (p - 1) 1, d + 1) := by unfold hstep; rw [if_pos ⟨hx, hp, hq⟩]
          rw [hs, if_pos hq, if_pos hq]
          obtain ⟨a1, a2, a3, a4⟩ := ih (i + 1) n (mst σ 9 (p - 1) 1) (p, s, upd q (p - 1) 1, d + 1) (by omega) (by omega) (by simp [mst, h1]) (by intro j hj; simp [mst, h2 j hj])
            ⟨by simp [mst, g1], by dsimp only; omega, fun j hj => by
              by_cases e : j = p - 1
              · subst e; simp [mst, upd, (g4 (p - 1) (by omega)).1]
              · have := g4 j (by dsimp only at hj; omega)
                simp [mst, upd, e, this.1, this.2]⟩
          refine ⟨⟨v1, v1, v2, v2, a1⟩, a2, fun q q0 q8 q9 => ?_, fun f f0 => ?_⟩
          · rw [a3 q q0 q8 q9]; simp [mst, q9]
          · rw [a4 f f0]; simp [mst]
        · have hs : hstep (p, s, q, d) (B i) = none := by unfold hstep; rw [if_neg (fun z => hq z.2.2), if_pos (Or.inr (by rw [hx, x98]; omega))]
          rw [hs, if_neg hq, if_neg hq]
          by_cases h16 : nI p = 16
          · rw [if_pos h16, if_pos h16]; exact ⟨⟨v1, v1, v2, trivial⟩, fault hs, fr1, fr2⟩
          · rw [if_neg h16, if_neg h16, if_pos hin, if_pos hin]; exact ⟨⟨v1, v1, v2, trivial⟩, fault hs, fr1, fr2⟩
      · have e : p = 0 := by omega
        subst e
        have hs : hstep (0, s, q, d) (B i) = none := by unfold hstep; rw [if_neg (fun z => hp z.2.1), if_pos (Or.inr (by rw [hx, x98]; omega))]
        have c1 : nI 0 ≤ 0 := by decide
        have c2 : ¬ nI 0 = 16 := by decide
        rw [hs, if_pos c1, if_pos c1, if_neg c2, if_neg c2, if_pos hin, if_pos hin]
        exact ⟨⟨v1, v1, trivial⟩, fault hs, fr1, fr2⟩
    · rw [if_neg hx, if_neg hx]
      by_cases h16 : p = 16
      · have c1 : nI p = 16 := by rw [h16]; rfl
        have hs : hstep (p, s, q, d) (B i) = none := by unfold hstep; rw [if_neg (fun z => hx z.1), if_pos (Or.inl h16)]
        rw [hs, if_pos c1, if_pos c1]
        exact ⟨⟨v1, v1, trivial⟩, fault hs, fr1, fr2⟩
      · have c1 : ¬ nI p = 16 := by rw [show (16 : Int32) = nI 16 from rfl, nI_eq (by omega) (by omega)]; exact h16
        rw [if_neg c1, if_neg c1]
        by_cases hb : 48 ≤ (B i).toInt ∧ (B i).toInt ≤ 57
        · have hs : hstep (p, s, q, d) (B i) = some (p + 1, upd s p (B i - 48), upd q p 0, d) := by unfold hstep; rw [if_neg (fun z => hx z.1), if_neg (by dsimp only; omega)]
          have hne : ¬ (if 48 ≤ (B i).toInt ∧ (B i).toInt ≤ 57 then (1 : Int32) else 0) = 0 := by rw [if_pos hb]; decide
          rw [hs, if_neg hne, if_neg hne, nIc (by omega), nI_1]
          have v2 : vp_in (nI p) 16 := vnI (by omega) (by omega)
          obtain ⟨a1, a2, a3, a4⟩ := push hs (by omega)
          exact ⟨⟨v1, v1, v2, v2, a1⟩, a2, a3, a4⟩
        · have hs : hstep (p, s, q, d) (B i) = none := by unfold hstep; rw [if_neg (fun z => hx z.1), if_pos (Or.inr hb)]
          have he : (if 48 ≤ (B i).toInt ∧ (B i).toInt ≤ 57 then (1 : Int32) else 0) = 0 := by rw [if_neg hb]
          rw [hs, if_pos he, if_pos he]
          exact ⟨⟨v1, v1, trivial⟩, fault hs, fr1, fr2⟩
def HilM (B : Nat → Int32) (n : Nat) (σ : Mem) : Prop := σ 0 10 = nI (hP B n) ∧ ∀ j, j < hP B n → σ 8 j = hst B n j ∧ σ 9 j = hbd B n j
theorem readsHill_eq {σ : Mem} {B : Nat → Int32} {N : Nat} (hN : σ 6 1 = nI N) (h32 : N ≤ 32) (hB : ∀ j, j < N → σ 5 (12 + j) = B j) :
    b_X9_readsHill σ ∧ (f_X9_readsHill σ).1 = hfl B N ∧ HilM B N (f_X9_readsHill σ).2 ∧ (∀ q, q ≠ 0 → q ≠ 8 → q ≠ 9 → (f_X9_readsHill σ).2 q = σ q) ∧ (∀ f, f ≠ 10 → (f_X9_readsHill σ).2 0 f = σ 0 f) := by
  unfold b_X9_readsHill f_X9_readsHill
  obtain ⟨a1, a2, a3, a4⟩ := rh_l (B := B) h32 N 0 (fu 33) (mst σ 0 10 0) h0s (by omega) (by rw [fu_eq]; omega) (by simp [mst, hN]) (by intro j hj; simp [mst, hB j hj]) ⟨by simp [mst, upd]; rfl, by decide, fun j hj => absurd hj (Nat.not_lt_zero _)⟩
  rw [show nI 0 = (0 : Int32) from rfl] at a1 a2 a3 a4
  have fr : (∀ q, q ≠ 0 → q ≠ 8 → q ≠ 9 → (l_X9_readsHill_7 (fu 33) 0 (mst σ 0 10 0)).2 q = σ q) ∧ (∀ f, f ≠ 10 → (l_X9_readsHill_7 (fu 33) 0 (mst σ 0 10 0)).2 0 f = σ 0 f) := by
    refine ⟨fun q q0 q8 q9 => ?_, fun f f0 => ?_⟩
    · rw [a3 q q0 q8 q9]; simp [mst, q0]
    · rw [a4 f f0]; simp [mst, upd, f0]
  unfold HilM hP hfl hst hbd
  cases e : (hR B N 0 h0s).1 with
  | none =>
    rw [e] at a2
    dsimp only at a2 ⊢
    rw [if_pos rfl]
    exact ⟨a1, a2.1, ⟨a2.2.1, a2.2.2.2⟩, fr⟩
  | some f =>
    rw [e] at a2
    dsimp only at a2 ⊢
    rw [if_neg (by simp)]
    exact ⟨a1, a2.1, ⟨a2.2, fun j hj => absurd hj (Nat.not_lt_zero _)⟩, fr⟩
