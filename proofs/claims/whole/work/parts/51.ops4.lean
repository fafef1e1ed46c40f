/-! fractions -/
theorem lNrem {a b : Nat} (ha : a < 9223372036854775808) (h0 : 0 < b) (hb : b < 9223372036854775808) : lN a - lN a / lN b * lN b = lN (a % b) := pk_lRem ha h0 hb
theorem lN0 {b : Nat} (hb : b < 9223372036854775808) : lg_cmp (lN b) 0 = 0 ↔ b = 0 := by
  rw [lg_cmp_eq, show (0 : Int64) = lN 0 from rfl, pk_lEQ hb (by decide)]
theorem gcdr (a b : Nat) : Nat.gcd a b = Nat.gcd b (a % b) := by rw [Nat.gcd_comm a b, Nat.gcd_rec b a, Nat.gcd_comm]
theorem half {a b : Nat} (h : 0 < a % b) (hb : 0 < b) : 2 * (b % (a % b)) < b := by
  have h1 := Nat.mod_lt b h
  have h2 : a % b < b := Nat.mod_lt a hb
  have h3 := Nat.div_add_mod b (a % b)
  have h4 : 1 ≤ b / (a % b) := (Nat.one_le_div_iff h).mpr (by omega)
  have h5 : a % b * 1 ≤ a % b * (b / (a % b)) := Nat.mul_le_mul_left _ h4
  omega
theorem cd_l (σ : Mem) : ∀ (k a b n e : Nat), b < 2 ^ k → a < 9223372036854775808 → b < 9223372036854775808 → 2 * k + 1 ≤ n → e + 2 * k ≤ 199 → l_X8_commonDivisor_9 n (lN a) (lN b) (nI e) σ = lN (Nat.gcd a b) := by
  intro k
  induction k with
  | zero =>
    intro a b n e h1 ha hb hn he
    have e0 : b = 0 := by simp at h1; exact h1
    subst e0
    obtain ⟨n, rfl⟩ : ∃ n', n = n' + 1 := ⟨n - 1, by omega⟩
    have c1 : ¬ (200 : Int32) ≤ nI e := by rw [show (200 : Int32) = nI 200 from rfl, nIle (by omega) (by omega)]; omega
    rw [l_X8_commonDivisor_9, if_neg c1, if_pos ((lN0 hb).mpr rfl), Nat.gcd_zero_right]
  | succ k ih =>
    intro a b n e h1 ha hb hn he
    obtain ⟨n, rfl⟩ : ∃ n', n = n' + 1 + 1 := ⟨n - 2, by omega⟩
    have c1 : ¬ (200 : Int32) ≤ nI e := by rw [show (200 : Int32) = nI 200 from rfl, nIle (by omega) (by omega)]; omega
    have c2 : ¬ (200 : Int32) ≤ nI (e + 1) := by rw [show (200 : Int32) = nI 200 from rfl, nIle (by omega) (by omega)]; omega
    rw [l_X8_commonDivisor_9, if_neg c1]
    by_cases hb0 : b = 0
    · subst hb0
      rw [if_pos ((lN0 hb).mpr rfl), Nat.gcd_zero_right]
    · have hm : a % b < b := Nat.mod_lt a (by omega)
      rw [if_neg (fun z => hb0 ((lN0 hb).mp z)), lNrem ha (by omega) hb, nI_1, l_X8_commonDivisor_9, if_neg c2, gcdr a b]
      by_cases hr : a % b = 0
      · rw [hr, if_pos ((lN0 (by decide)).mpr rfl), Nat.gcd_zero_right]
      · have hh := half (a := a) (b := b) (by omega) (by omega)
        rw [if_neg (fun z => hr ((lN0 (by omega)).mp z)), lNrem hb (by omega) (by omega), nI_1, gcdr b (a % b)]
        exact ih (a % b) (b % (a % b)) n (e + 1 + 1) (by rw [Nat.pow_succ] at h1; omega) (by omega) (by omega) (by omega) (by omega)
theorem pt_l (σ : Mem) (X Y : Int64) (w : Int32) : ∀ (k a b n : Nat), b < 2 ^ k → a < 9223372036854775808 → b < 9223372036854775808 → 0 < Nat.gcd a b → 2 * k + 1 ≤ n →
    bl_X9_part_17 n X Y w (lN a) (lN b) σ ∧ l_X9_part_17 n X Y w (lN a) (lN b) σ = (if w = 0 then X else Y) / lN (Nat.gcd a b) := by
  have fin : ∀ (n a : Nat), a < 9223372036854775808 → 0 < a → bl_X9_part_17 (n + 1) X Y w (lN a) (lN 0) σ ∧ l_X9_part_17 (n + 1) X Y w (lN a) (lN 0) σ = (if w = 0 then X else Y) / lN a := by
    intro n a ha h0
    have hne : ¬ lN a = 0 := by rw [show (0 : Int64) = lN 0 from rfl, pk_lEQ ha (by decide)]; omega
    have c : lg_cmp (lN 0) 0 = 0 := by decide
    rw [l_X9_part_17, bl_X9_part_17, if_pos c, if_pos c]
    by_cases hw : w = 0
    · rw [if_pos hw, if_pos hw, if_pos hw]; exact ⟨⟨hne, trivial⟩, rfl⟩
    · rw [if_neg hw, if_neg hw, if_neg hw]; exact ⟨⟨hne, trivial⟩, rfl⟩
  intro k
  induction k with
  | zero =>
    intro a b n h1 ha hb hg hn
    have e0 : b = 0 := by simp at h1; exact h1
    subst e0
    obtain ⟨n, rfl⟩ : ∃ n', n = n' + 1 := ⟨n - 1, by omega⟩
    rw [Nat.gcd_zero_right] at hg ⊢
    exact fin n a ha hg
  | succ k ih =>
    intro a b n h1 ha hb hg hn
    obtain ⟨n, rfl⟩ : ∃ n', n = n' + 1 + 1 := ⟨n - 2, by omega⟩
    by_cases hb0 : b = 0
    · subst hb0
      rw [Nat.gcd_zero_right] at hg ⊢
      exact fin (n + 1) a ha hg
    · have hm : a % b < b := Nat.mod_lt a (by omega)
      have c1 : ¬ lg_cmp (lN b) 0 = 0 := fun z => hb0 ((lN0 hb).mp z)
      have d1 : ¬ lN b = 0 := by rw [show (0 : Int64) = lN 0 from rfl, pk_lEQ hb (by decide)]; exact hb0
      rw [l_X9_part_17, bl_X9_part_17, if_neg c1, if_neg c1, lNrem ha (by omega) hb, gcdr a b]
      rw [gcdr a b] at hg
      by_cases hr : a % b = 0
      · rw [hr, Nat.gcd_zero_right]
        have := fin n b hb (by omega)
        exact ⟨⟨d1, this.1⟩, this.2⟩
      · have hh := half (a := a) (b := b) (by omega) (by omega)
        have c2 : ¬ lg_cmp (lN (a % b)) 0 = 0 := fun z => hr ((lN0 (by omega)).mp z)
        have d2 : ¬ lN (a % b) = 0 := by rw [show (0 : Int64) = lN 0 from rfl, pk_lEQ (by omega) (by decide)]; exact hr
        rw [l_X9_part_17, bl_X9_part_17, if_neg c2, if_neg c2, lNrem hb (by omega) (by omega), gcdr b (a % b)]
        rw [gcdr b (a % b)] at hg
        have := ih (a % b) (b % (a % b)) n (by rw [Nat.pow_succ] at h1; omega) (by omega) (by omega) hg (by omega)
        exact ⟨⟨d1, d2, this.1⟩, this.2⟩
/-- how far from 0 -/
theorem absX {X : Int64} (h : -4611686018427387904 < X.toInt) (h2 : X.toInt < 4611686018427387904) : ∃ a : Nat, a < 4611686018427387904 ∧ (if 0 < X then X else -X) = lN a ∧ (if 0 ≤ lg_cmp X 0 then X else -X) = lN a ∧ (a = 0 ↔ X = 0) := by
  have hz : (0 : Int64).toInt = 0 := by decide
  refine ⟨X.toInt.natAbs, by omega, ?_, ?_, ?_⟩
  · by_cases c : 0 < X
    · rw [if_pos c]
      rw [Int64.lt_iff_toInt_lt, hz] at c
      exact Int64.toInt_inj.mp (by rw [pk_lT (by omega)]; omega)
    · rw [if_neg c]
      rw [Int64.lt_iff_toInt_lt, hz] at c
      refine Int64.toInt_inj.mp ?_
      rw [pk_lT (by omega), Int64.toInt_neg, Int.bmod_eq_of_le (by omega) (by omega)]; omega
  · by_cases c : 0 ≤ lg_cmp X 0
    · rw [if_pos c]
      rw [lg_cmp_ge, Int64.le_iff_toInt_le, hz] at c
      exact Int64.toInt_inj.mp (by rw [pk_lT (by omega)]; omega)
    · rw [if_neg c]
      rw [lg_cmp_ge, Int64.le_iff_toInt_le, hz] at c
      refine Int64.toInt_inj.mp ?_
      rw [pk_lT (by omega), Int64.toInt_neg, Int.bmod_eq_of_le (by omega) (by omega)]; omega
  · constructor
    · intro e; exact Int64.toInt_inj.mp (by rw [hz]; omega)
    · intro e; rw [e, hz]; rfl
theorem part_eq (σ τ : Mem) {X : Int64} {y : Nat} (w : Int32) (hX : -4611686018427387904 < X.toInt) (hX2 : X.toInt < 4611686018427387904) (hy : 0 < y) (hy2 : y < 1152921504606846976) : b_X9_part σ X (lN y) w ∧ f_X9_part σ X (lN y) w = f_X8_inLowestTerms τ X (lN y) w := by
  obtain ⟨a, ha, e1, e2, e3⟩ := absX hX hX2
  have hg : 0 < Nat.gcd a y := Nat.gcd_pos_of_pos_right _ hy
  have hg2 : Nat.gcd a y ≤ y := Nat.gcd_le_right _ hy
  have p := pt_l σ X (lN y) w 60 a y (fu 200) (by simpa using hy2) (by omega) (by omega) hg (by rw [fu_eq]; omega)
  have q := cd_l τ 60 a y (fu 201) 0 (by simpa using hy2) (by omega) (by omega) (by rw [fu_eq]; omega) (by omega)
  have hcd : f_X8_commonDivisor τ (if 0 < X then X else -X) (lN y) = lN (Nat.gcd a y) := by
    unfold f_X8_commonDivisor; rw [e1]; exact q
  have hc : ¬ lg_cmp (lN (Nat.gcd a y)) 0 = 0 := fun z => by have := (lN0 (by omega)).mp z; omega
  constructor
  · unfold b_X9_part
    by_cases c : 0 ≤ lg_cmp X 0
    · rw [if_pos c] at e2 ⊢; have p1 := p.1; rw [← e2] at p1; exact p1
    · rw [if_neg c] at e2 ⊢; rw [e2]; exact p.1
  · have hl : f_X9_part σ X (lN y) w = (if w = 0 then X else lN y) / lN (Nat.gcd a y) := by
      unfold f_X9_part
      by_cases c : 0 ≤ lg_cmp X 0
      · rw [if_pos c] at e2 ⊢; have p2 := p.2; rw [← e2] at p2; exact p2
      · rw [if_neg c] at e2 ⊢; rw [e2]; exact p.2
    rw [hl]
    unfold f_X8_inLowestTerms
    rw [hcd, if_neg hc]
    by_cases hw : w = 0
    · rw [if_pos hw, if_pos hw]
    · rw [if_neg hw, if_neg hw]
