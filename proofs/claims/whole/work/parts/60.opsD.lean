/-! words, whistles -/
theorem op_words {c m : Mem} (h : R c m) (a : Int32) : OP (f_X8_words c a, c) (f_X9_words m a, m) (b_X9_words m a) := by
  unfold f_X8_words f_X9_words b_X9_words
  rw [inLR m a 0 9 (by decide) (by decide)]
  by_cases h1 : a < 0
  · rw [if_pos h1, if_pos h1, if_pos rfl, if_pos rfl]; exact ⟨trivial, rfl, h⟩
  · rw [if_neg h1, if_neg h1]
    have e : (9 < a) ↔ ¬ a ≤ 9 := by rw [Int32.lt_iff_toInt_lt, Int32.le_iff_toInt_le]; omega
    by_cases h2 : a ≤ 9
    · rw [if_pos h2, if_neg (fun z => (e.mp z) h2), if_neg i10, if_neg i10]
      obtain ⟨k, hk, rfl⟩ := nI_of h1
      have k9 : k ≤ 9 := by rw [show (9 : Int32) = nI 9 from rfl, nIle hk (by omega)] at h2; exact h2
      exact ⟨⟨by rw [nI_1]; exact nI_ne0 (by omega) (by omega), trivial⟩, rfl, h⟩
    · rw [if_neg h2, if_pos (e.mpr h2), if_pos rfl, if_pos rfl]; exact ⟨trivial, rfl, h⟩
def chN (k : Nat) : Nat → Nat
  | 0 => 1
  | i + 1 => chN k i * (k - i) / (i + 1)
theorem chN_le : ∀ k, k < 10 → ∀ j, j < 10 → j ≤ k → chN k j ≤ 126 := by decide
theorem ch_step {k t : Nat} (hk : k < 10) (ht : t < k) : (lN (chN k t) * (nI k - nI t).toInt64) / (nI t + 1).toInt64 = lN (chN k (t + 1)) := by
  have hb := chN_le k hk t (by omega) (by omega)
  have hb2 : chN k t * (k - t) ≤ 126 * 9 := Nat.mul_le_mul hb (by omega)
  rw [pk_sub (by omega), nI_1, nI_l (by omega), nI_l (by omega), lN_mul, pk_lDiv (by omega) (by omega) (by omega)]; rfl
theorem ch_l {k j : Nat} (hk : k < 10) (hj : j ≤ k) (σ : Mem) : ∀ (r t f : Nat), t + r = j → r < f → l_X8_choices_5 f (nI k) (nI j) (lN (chN k t)) (nI t) σ = lN (chN k j) := by
  intro r
  induction r with
  | zero =>
    intro t f ht hf
    obtain ⟨f, rfl⟩ : ∃ f', f = f' + 1 := ⟨f - 1, by omega⟩
    have e : t = j := by omega
    subst e
    have c1 : nI t ≤ nI t := by rw [nIle (by omega) (by omega)]; omega
    rw [l_X8_choices_5, if_pos c1]
  | succ r ih =>
    intro t f ht hf
    obtain ⟨f, rfl⟩ : ∃ f', f = f' + 1 := ⟨f - 1, by omega⟩
    have c1 : ¬ nI j ≤ nI t := by rw [nIle (by omega) (by omega)]; omega
    rw [l_X8_choices_5, if_neg c1, ch_step hk (by omega), nI_1]
    exact ih (t + 1) f (by omega) (by omega)
theorem pow_l {b n : Nat} (hb : b < 1000) (hn : n < 1000) (σ : Mem) : ∀ (r t f : Nat), t + r = n → r < f → l_X8_power_5 f (nI b) (nI n) (lN (b ^ t)) (nI t) σ = lN (b ^ n) := by
  intro r
  induction r with
  | zero =>
    intro t f ht hf
    obtain ⟨f, rfl⟩ : ∃ f', f = f' + 1 := ⟨f - 1, by omega⟩
    have e : t = n := by omega
    subst e
    have c1 : nI t ≤ nI t := by rw [nIle (by omega) (by omega)]; omega
    rw [l_X8_power_5, if_pos c1]
  | succ r ih =>
    intro t f ht hf
    obtain ⟨f, rfl⟩ : ∃ f', f = f' + 1 := ⟨f - 1, by omega⟩
    have c1 : ¬ nI n ≤ nI t := by rw [nIle (by omega) (by omega)]; omega
    rw [l_X8_power_5, if_neg c1, nI_l (by omega), lN_mul, nI_1, ← Nat.pow_succ]
    exact ih (t + 1) f (by omega) (by omega)
theorem pow_eq {b n : Nat} (hb : b < 1000) (hn : n < 1000) (σ : Mem) : f_X8_power σ (nI b) (nI n) = lN (b ^ n) := by
  unfold f_X8_power
  exact pow_l hb hn σ n 0 _ (by omega) (by rw [fu_eq, nI_t (by omega)]; omega)
/-- the model's product behind t whistles -/
def whE (b j ch t : Nat) : Nat := if t ≤ j then ch * b ^ t else ch * b ^ j * (16 - b) ^ (t - j)
theorem wh_l {k b j ch : Nat} (hk : k < 10) (hb : b ≤ 16) (hj : j ≤ k) (d : Int32) (m : Mem) (hpb : b_X9_part m (lN (whE b j ch k)) (lN (16 ^ k)) d) : ∀ (r t f : Nat), t + r = k → r < f → bl_X9_whistlesOf_40 f (nI k) (nI b) (nI j) d (lN (whE b j ch t)) (lN (16 ^ t)) (nI t) m ∧ l_X9_whistlesOf_40 f (nI k) (nI b) (nI j) d (lN (whE b j ch t)) (lN (16 ^ t)) (nI t) m = f_X9_part m (lN (whE b j ch k)) (lN (16 ^ k)) d := by
  intro r
  induction r with
  | zero =>
    intro t f ht hf
    obtain ⟨f, rfl⟩ : ∃ f', f = f' + 1 := ⟨f - 1, by omega⟩
    have e : t = k := by omega
    subst e
    have c1 : nI t ≤ nI t := by rw [nIle (by omega) (by omega)]; omega
    rw [l_X9_whistlesOf_40, bl_X9_whistlesOf_40, if_pos c1, if_pos c1]; exact ⟨⟨hpb, trivial⟩, rfl⟩
  | succ r ih =>
    intro t f ht hf
    obtain ⟨f, rfl⟩ : ∃ f', f = f' + 1 := ⟨f - 1, by omega⟩
    have c1 : ¬ nI k ≤ nI t := by rw [nIle (by omega) (by omega)]; omega
    have nx := ih (t + 1) f (by omega) (by omega)
    rw [l_X9_whistlesOf_40, bl_X9_whistlesOf_40, if_neg c1, if_neg c1, show (16 : Int32) - nI b = nI (16 - b) from pk_sub hb, nI_l (show b < 2 ^ 31 by omega), nI_l (show 16 - b < 2 ^ 31 by omega), lN_mul, lN_mul, show (16 : Int64) = lN 16 from rfl, lN_mul, ← Nat.pow_succ, nI_1]
    by_cases z : j ≤ t
    · have c2 : nI j ≤ nI t := by rw [nIle (by omega) (by omega)]; exact z
      have e : whE b j ch t * (16 - b) = whE b j ch (t + 1) := by
        unfold whE
        rw [if_neg (show ¬ t + 1 ≤ j by omega)]
        by_cases y : t ≤ j
        · have : t = j := by omega
          subst this
          rw [if_pos y, show t + 1 - t = 1 by omega, Nat.pow_one]
        · rw [if_neg y, show t + 1 - j = (t - j) + 1 by omega, Nat.pow_succ, Nat.mul_assoc (ch * b ^ j)]
      rw [if_pos c2, if_pos c2, e]; exact nx
    · have c2 : ¬ nI j ≤ nI t := by rw [nIle (by omega) (by omega)]; exact z
      have e : whE b j ch t * b = whE b j ch (t + 1) := by
        unfold whE
        rw [if_pos (show t ≤ j by omega), if_pos (show t + 1 ≤ j by omega), Nat.pow_succ, Nat.mul_assoc]
      rw [if_neg c2, if_neg c2, e]; exact nx
theorem wh9_l {k b j : Nat} (hk : k < 10) (hj : j ≤ k) (d : Int32) (m : Mem) (hK : bl_X9_whistlesOf_40 (fu 10) (nI k) (nI b) (nI j) d (lN (chN k j)) 1 0 m) : ∀ (r t f : Nat), t + r = j → r < f → bl_X9_whistlesOf_9 f (nI k) (nI b) (nI j) d (lN (chN k t)) 1 (nI t) m ∧ l_X9_whistlesOf_9 f (nI k) (nI b) (nI j) d (lN (chN k t)) 1 (nI t) m = l_X9_whistlesOf_40 (fu 10) (nI k) (nI b) (nI j) d (lN (chN k j)) 1 0 m := by
  intro r
  induction r with
  | zero =>
    intro t f ht hf
    obtain ⟨f, rfl⟩ : ∃ f', f = f' + 1 := ⟨f - 1, by omega⟩
    have e : t = j := by omega
    subst e
    have c1 : nI t ≤ nI t := by rw [nIle (by omega) (by omega)]; omega
    rw [l_X9_whistlesOf_9, bl_X9_whistlesOf_9, if_pos c1, if_pos c1]; exact ⟨hK, rfl⟩
  | succ r ih =>
    intro t f ht hf
    obtain ⟨f, rfl⟩ : ∃ f', f = f' + 1 := ⟨f - 1, by omega⟩
    have c1 : ¬ nI j ≤ nI t := by rw [nIle (by omega) (by omega)]; omega
    have nz : ¬ (nI t + 1).toInt64 = 0 := by
      rw [nI_1, nI_l (by omega), show (0 : Int64) = lN 0 from rfl, pk_lEQ (by omega) (by omega)]; omega
    rw [l_X9_whistlesOf_9, bl_X9_whistlesOf_9, if_neg c1, if_neg c1, ch_step hk (by omega)]
    have nx := ih (t + 1) f (by omega) (by omega)
    rw [← nI_1] at nx
    exact ⟨⟨nz, nx.1⟩, nx.2⟩
theorem whistles_eq (c m : Mem) {k b j : Nat} (hk : k < 10) (hb : b ≤ 16) (hj : j ≤ k) (d : Int32) : b_X9_whistlesOf m (nI k) (nI b) (nI j) d ∧ f_X8_inLowestTerms c (((f_X8_choices c (nI k) (nI j)) * (f_X8_power c (nI b) (nI j))) * (f_X8_power c (16 - nI b) (nI k - nI j))) (f_X8_power c 16 (nI k)) d = f_X9_whistlesOf m (nI k) (nI b) (nI j) d := by
  have ec : f_X8_choices c (nI k) (nI j) = lN (chN k j) := ch_l hk hj c j 0 _ (by omega) (by rw [fu_eq, nI_t (by omega)]; omega)
  have e2 : whE b j (chN k j) k = chN k j * b ^ j * (16 - b) ^ (k - j) := by
    unfold whE
    by_cases z : k ≤ j
    · have : k = j := by omega
      rw [if_pos z, this, Nat.sub_self, Nat.pow_zero, Nat.mul_one]
    · rw [if_neg z]
  have hbd : whE b j (chN k j) k ≤ 126 * 16 ^ 9 := by
    rw [e2]
    have b1 := chN_le k hk j (by omega) hj
    have b2 : b ^ j ≤ 16 ^ j := Nat.pow_le_pow_left hb j
    have b3 : (16 - b) ^ (k - j) ≤ 16 ^ (k - j) := Nat.pow_le_pow_left (by omega) _
    have b4 : b ^ j * (16 - b) ^ (k - j) ≤ 16 ^ 9 := by
      refine Nat.le_trans (Nat.mul_le_mul b2 b3) ?_
      rw [← Nat.pow_add]
      exact Nat.pow_le_pow_right (by omega) (by omega)
    rw [Nat.mul_assoc]
    exact Nat.mul_le_mul b1 b4
  have h16 : 16 ^ k ≤ 16 ^ 9 := Nat.pow_le_pow_right (by omega) (by omega)
  have hp : 0 < 16 ^ k := Nat.pow_pos (by omega)
  have n9 : (16 : Nat) ^ 9 = 68719476736 := by decide
  have ti : (lN (whE b j (chN k j) k)).toInt = ((whE b j (chN k j) k : Nat) : Int) := pk_lT (by omega)
  have pe := part_eq m c (X := lN (whE b j (chN k j) k)) (y := 16 ^ k) d (by rw [ti]; omega) (by rw [ti]; omega) hp (by omega)
  obtain ⟨w1, w2⟩ := wh_l (ch := chN k j) hk hb hj d m pe.1 k 0 (fu 10) (by omega) (by rw [fu_eq]; omega)
  rw [show whE b j (chN k j) 0 = chN k j by unfold whE; rw [if_pos (by omega), Nat.pow_zero, Nat.mul_one]] at w1 w2
  obtain ⟨u1, u2⟩ := wh9_l (b := b) hk hj d m w1 j 0 (fu 10) (by omega) (by rw [fu_eq]; omega)
  unfold b_X9_whistlesOf f_X9_whistlesOf
  refine ⟨u1, ?_⟩
  refine Eq.trans ?_ u2.symm
  refine Eq.trans ?_ w2.symm
  rw [pe.2, ec, show (16 : Int32) = nI 16 from rfl, pk_sub hb, pk_sub hj, pow_eq (by omega) (by omega), pow_eq (by omega) (by omega), pow_eq (by omega) (by omega), lN_mul, lN_mul, e2]
theorem op_whistles {c m : Mem} (h : R c m) (a b j d : Int32) : OPL (f_X8_whistles c a b j d, c) (f_X9_whistles m a b j d, m) (b_X9_whistles m a b j d) := by
  unfold f_X8_whistles f_X9_whistles b_X9_whistles
  have rf : f_X8_refusedAsLong c (-2) = f_X9_no m (-2) := rfl
  rw [rf, inLR m a 0 9 (by decide) (by decide), inLR m b 0 16 (by decide) (by decide), inLR m j 0 a (by decide) (by rw [Int32.toInt_toInt64]), isTwo_eq, z01]
  by_cases a0 : a < 0
  · rw [if_pos a0, if_pos a0, if_pos rfl, if_pos rfl]; exact ⟨trivial, rfl, h⟩
  rw [if_neg a0, if_neg a0]
  by_cases a9 : 9 < a
  · rw [if_pos a9, if_pos a9, if_pos rfl, if_pos rfl]; exact ⟨trivial, rfl, h⟩
  rw [if_neg a9, if_neg a9, if_neg i10, if_neg i10]
  by_cases b0 : b < 0
  · rw [if_pos b0, if_pos b0, if_pos rfl, if_pos rfl]; exact ⟨trivial, rfl, h⟩
  rw [if_neg b0, if_neg b0]
  by_cases b9 : 16 < b
  · rw [if_pos b9, if_pos b9, if_pos rfl, if_pos rfl]; exact ⟨trivial, rfl, h⟩
  rw [if_neg b9, if_neg b9, if_neg i10, if_neg i10]
  by_cases j0 : j < 0
  · rw [if_pos j0, if_pos j0, if_pos rfl, if_pos rfl]; exact ⟨trivial, rfl, h⟩
  rw [if_neg j0, if_neg j0]
  by_cases j9 : a < j
  · rw [if_pos j9, if_pos j9, if_pos rfl, if_pos rfl]; exact ⟨trivial, rfl, h⟩
  rw [if_neg j9, if_neg j9, if_neg i10, if_neg i10]
  by_cases d0 : d = 0 ∨ d = 1
  · rw [if_pos d0, if_neg i10, if_neg i10, if_neg i10]
    obtain ⟨a, ha, rfl⟩ := nI_of a0
    obtain ⟨b, hb, rfl⟩ := nI_of b0
    obtain ⟨j, hj, rfl⟩ := nI_of j0
    rw [show (9 : Int32) = nI 9 from rfl, nIlt (by omega) ha] at a9
    rw [show (16 : Int32) = nI 16 from rfl, nIlt (by omega) hb] at b9
    rw [nIlt ha hj] at j9
    have q := whistles_eq c m (k := a) (b := b) (j := j) (by omega) (by omega) (by omega) d
    exact ⟨⟨q.1, trivial⟩, q.2, h⟩
  · rw [if_neg d0, if_pos rfl, if_pos rfl, if_pos rfl]; exact ⟨trivial, rfl, h⟩
