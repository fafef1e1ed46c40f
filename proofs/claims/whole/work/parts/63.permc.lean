/-! the class' step -/
def r24 (σ : Mem) (n : Nat) (ρ : List Nat) : Prop := σ 23 2 = nI n ∧ ρ.length = 6 ∧ ∀ j, j < n → σ 24 j = nI (pg ρ j) ∧ pg ρ j < 100
theorem swap_b {σ : Mem} {n : Nat} {ρ : List Nat} (hn : n ≤ 6) (h : r24 σ n ρ) {a b : Nat} (ha : a < n) (hb : b < n) : r24 (f_X0_swap σ (nI a) (nI b)) n (psw ρ a b) := by
  obtain ⟨h1, h2, h3⟩ := h
  have c1 : ¬ (6 : Int32) ≤ nI a := by rw [show (6 : Int32) = nI 6 from rfl, nIle (by omega) (by omega)]; omega
  have c2 : ¬ (6 : Int32) ≤ nI b := by rw [show (6 : Int32) = nI 6 from rfl, nIle (by omega) (by omega)]; omega
  unfold f_X0_swap
  rw [if_neg (nInn (by omega)), if_neg c1, if_neg (nInn (by omega)), if_neg c2, nIc (by omega), nIc (by omega)]
  refine ⟨by simp [mst, h1], by rw [psw_len]; exact h2, fun j hj => ?_⟩
  rw [pg_psw (by omega) (by omega)]
  by_cases e1 : j = b
  · rw [if_pos e1, e1]; simp [mst, upd]; exact h3 a ha
  · rw [if_neg e1]
    by_cases e2 : j = a
    · rw [if_pos e2, e2]
      have : ¬ a = b := fun z => e1 (by rw [e2, z])
      simp [mst, upd, this]; exact h3 b hb
    · rw [if_neg e2]; simp [mst, upd, e1, e2]; exact h3 j hj
theorem st104 {n : Nat} (hn : n ≤ 6) : ∀ (r a b f : Nat) (σ : Mem) (ρ : List Nat), b ≤ a + r → r < f → b < n → a < 1000 → r24 σ n ρ → (l_X0_stepOn_104 f (nI a) (nI b) σ).1 = 1 ∧ r24 (l_X0_stepOn_104 f (nI a) (nI b) σ).2 n (prv r a b ρ) := by
  intro r
  induction r with
  | zero =>
    intro a b f σ ρ hab hf hb ha h
    obtain ⟨f, rfl⟩ : ∃ f', f = f' + 1 := ⟨f - 1, by omega⟩
    have c1 : nI b ≤ nI a := by rw [nIle (by omega) (by omega)]; omega
    rw [l_X0_stepOn_104, if_pos c1]; exact ⟨rfl, h⟩
  | succ r ih =>
    intro a b f σ ρ hab hf hb ha h
    obtain ⟨f, rfl⟩ : ∃ f', f = f' + 1 := ⟨f - 1, by omega⟩
    rw [l_X0_stepOn_104, prv]
    by_cases z : b ≤ a
    · have c1 : nI b ≤ nI a := by rw [nIle (by omega) (by omega)]; exact z
      rw [if_pos c1, if_pos z]; exact ⟨rfl, h⟩
    · have c1 : ¬ nI b ≤ nI a := by rw [nIle (by omega) (by omega)]; exact z
      rw [if_neg c1, if_neg z, nI_1, sb_m1 (by omega)]
      exact ih (a + 1) (b - 1) f _ _ (by omega) (by omega) (by omega) (by omega) (swap_b hn h (by omega) hb)
theorem pfj_le (ρ : List Nat) (i : Nat) : ∀ k, pfj ρ i k ≤ k := by
  intro k
  induction k with
  | zero => exact Nat.le_refl _
  | succ k ih =>
    rw [pfj]
    split
    · exact Nat.le_refl _
    · split
      · exact Nat.le_refl _
      · omega
theorem st60 {n : Nat} (hn : n ≤ 6) {σ : Mem} {ρ : List Nat} (h : r24 σ n ρ) {i : Nat} (hi : i < n) : ∀ (k f : Nat), k < n → k < f → l_X0_stepOn_60 f (nI i) (nI k) σ = l_X0_stepOn_104 (fu 8) (nI (i + 1)) (nI (n - 1)) (f_X0_swap σ (nI i) (nI (pfj ρ i k))) := by
  intro k
  have e : ∀ b : Int32, ((f_X0_swap σ (nI i) b) 23 2) - 1 = nI (n - 1) := fun b => by rw [fr_X0_swap σ _ _ (by decide), h.1, nI_m1 (by omega)]
  induction k with
  | zero =>
    intro f hk hf
    obtain ⟨f, rfl⟩ : ∃ f', f = f' + 1 := ⟨f - 1, by omega⟩
    have c1 : nI 0 ≤ nI i := by rw [nIle (by omega) (by omega)]; omega
    rw [l_X0_stepOn_60, if_pos c1, e, nI_1, pfj]
  | succ k ih =>
    intro f hk hf
    obtain ⟨f, rfl⟩ : ∃ f', f = f' + 1 := ⟨f - 1, by omega⟩
    rw [l_X0_stepOn_60, pfj]
    by_cases z : k + 1 ≤ i
    · have c1 : nI (k + 1) ≤ nI i := by rw [nIle (by omega) (by omega)]; exact z
      rw [if_pos c1, e, nI_1, if_pos z]
    · have c1 : ¬ nI (k + 1) ≤ nI i := by rw [nIle (by omega) (by omega)]; exact z
      rw [if_neg c1, if_neg z, nIc (by omega), nIc (by omega), (h.2.2 i hi).1, (h.2.2 (k + 1) hk).1]
      have b1 := (h.2.2 i hi).2
      have b2 := (h.2.2 (k + 1) hk).2
      by_cases y : pg ρ i ≤ pg ρ (k + 1)
      · have c2 : nI (pg ρ i) ≤ nI (pg ρ (k + 1)) := by rw [nIle (by omega) (by omega)]; exact y
        rw [if_pos c2, if_pos y, e, nI_1]
      · have c2 : ¬ nI (pg ρ i) ≤ nI (pg ρ (k + 1)) := by rw [nIle (by omega) (by omega)]; exact y
        rw [if_neg c2, if_neg y, pk_m1]
        exact ih f (by omega) (by omega)
theorem st7 {n : Nat} (hn1 : 1 ≤ n) (hn : n ≤ 6) {σ : Mem} {ρ : List Nat} (h : r24 σ n ρ) : ∀ (k f : Nat), k ≤ n - 1 → k < f → l_X0_stepOn_7 f (nI k + -1) σ = match pfi ρ k with
    | none => (0, σ)
    | some i => l_X0_stepOn_60 (fu 7) (nI i) (nI (n - 1)) σ := by
  intro k
  induction k with
  | zero =>
    intro f hk hf
    obtain ⟨f, rfl⟩ : ∃ f', f = f' + 1 := ⟨f - 1, by omega⟩
    have c1 : nI 0 + -1 < (0 : Int32) := by decide
    have c2 : ¬ (0 : Int32) ≤ nI 0 + -1 := by decide
    rw [l_X0_stepOn_7, if_pos c1, if_neg c2]; rfl
  | succ k ih =>
    intro f hk hf
    obtain ⟨f, rfl⟩ : ∃ f', f = f' + 1 := ⟨f - 1, by omega⟩
    have c1 : ¬ nI k < (0 : Int32) := nInn (by omega)
    have c2 : ¬ (6 : Int32) ≤ nI (k + 1) := by rw [show (6 : Int32) = nI 6 from rfl, nIle (by omega) (by omega)]; omega
    have c3 : (0 : Int32) ≤ nI k := nI_pos' (by omega)
    have c4 : ¬ (6 : Int32) < nI n := by rw [show (6 : Int32) = nI 6 from rfl, nIlt (by omega) (by omega)]; omega
    have b1 := (h.2.2 k (by omega))
    have b2 := (h.2.2 (k + 1) (by omega))
    rw [pk_m1, l_X0_stepOn_7, if_neg c1, nI_1, if_neg c2, nIc (by omega), nIc (by omega), b1.1, b2.1, if_pos c3, h.1, if_neg c4, nI_m1 (by omega), pfi]
    by_cases y : pg ρ k ≤ pg ρ (k + 1)
    · have c5 : nI (pg ρ k) ≤ nI (pg ρ (k + 1)) := by rw [nIle (by omega) (by omega)]; exact y
      rw [if_pos c5, if_pos y]
    · have c5 : ¬ nI (pg ρ k) ≤ nI (pg ρ (k + 1)) := by rw [nIle (by omega) (by omega)]; exact y
      rw [if_neg c5, if_neg y]
      exact ih f (by omega) (by omega)
theorem pfi_lt (ρ : List Nat) : ∀ k i, pfi ρ k = some i → i < k := by
  intro k
  induction k with
  | zero => intro i h; exact absurd h (by simp [pfi])
  | succ k ih =>
    intro i h
    rw [pfi] at h
    split at h
    · have := Option.some.inj h; omega
    · have := ih i h; omega
theorem step_b {n : Nat} (hn1 : 1 ≤ n) (hn : n ≤ 6) {σ : Mem} {ρ : List Nat} (h : r24 σ n ρ) : (pSn n ρ = none → f_X0_stepOn σ = (0, σ)) ∧ ∀ ρ', pSn n ρ = some ρ' → (f_X0_stepOn σ).1 = 1 ∧ r24 (f_X0_stepOn σ).2 n ρ' := by
  have e : (σ 23 2) - 2 = nI (n - 1) + -1 := by
    rw [h.1]
    by_cases z : n = 1
    · rw [z]; decide
    · rw [show (2 : Int32) = nI 2 from rfl, pk_sub (by omega), sb_m1 (by omega)]; congr 1
  have k := st7 hn1 hn h (n - 1) (fu 6) (Nat.le_refl _) (by rw [fu_eq]; omega)
  unfold f_X0_stepOn pSn
  rw [e, k]
  cases q : pfi ρ (n - 1) with
  | none => exact ⟨fun _ => rfl, fun ρ' z => absurd z (by simp)⟩
  | some i =>
    refine ⟨fun z => absurd z (by simp), fun ρ' z => ?_⟩
    have hi := pfi_lt ρ (n - 1) i q
    have hj := pfj_le ρ i (n - 1)
    dsimp only at z ⊢
    obtain rfl := Option.some.inj z
    rw [st60 hn h (by omega) (n - 1) (fu 7) (by omega) (by rw [fu_eq]; omega)]
    exact st104 hn 6 (i + 1) (n - 1) (fu 8) _ _ (by omega) (by rw [fu_eq]; omega) (by omega) (by omega) (swap_b hn h (by omega) (by omega))
