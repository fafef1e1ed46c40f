theorem tF_all (B : Nat → Int32) : ∀ (k i : Nat), tF B k i = i + k → ∀ j, i ≤ j → j < i + k → 49 ≤ (B j).toInt ∧ (B j).toInt ≤ 57 := by
  intro k
  induction k with
  | zero => intro i _ j h1 h2; omega
  | succ k ih =>
    intro i h j h1 h2
    rw [tF] at h
    by_cases c : 49 ≤ (B i).toInt ∧ (B i).toInt ≤ 57
    · rw [if_pos c] at h
      by_cases e : j = i
      · rw [e]; exact c
      · exact ih (i + 1) (by omega) j (by omega) (by omega)
    · rw [if_neg c] at h; omega
theorem tN_all (B : Nat → Int32) (n : Nat) : ∀ j, j < tN B n → 49 ≤ (B j).toInt ∧ (B j).toInt ≤ 57 := by
  intro j hj
  unfold tN at hj
  by_cases c : tF B n 0 = n
  · rw [if_pos c] at hj; exact tF_all B n 0 (by omega) j (Nat.zero_le _) (by omega)
  · rw [if_neg c] at hj; omega
/-- weights as numbers -/
def wN (B : Nat → Int32) (j : Nat) : Nat := ((B j).toInt - 48).toNat
def sN (B : Nat → Int32) : Nat → Nat
  | 0 => 0
  | k + 1 => sN B k + wN B k
theorem w_eq {B : Nat → Int32} {j : Nat} (h : 49 ≤ (B j).toInt ∧ (B j).toInt ≤ 57) : B j - 48 = nI (wN B j) ∧ 1 ≤ wN B j ∧ wN B j ≤ 9 := by
  unfold wN
  refine ⟨Int32.toInt_inj.mp ?_, by omega, by omega⟩
  have t48 : (48 : Int32).toInt = 48 := by decide
  rw [subT (by rw [t48]; omega) (by rw [t48]; omega), t48, nI_t (by omega)]; omega
theorem aC_eq {B : Nat → Int32} {n : Nat} (h : ∀ j, j < n → 49 ≤ (B j).toInt ∧ (B j).toInt ≤ 57) : ∀ k, k ≤ n → aC B k = nI (sN B k) ∧ k ≤ sN B k ∧ sN B k ≤ 9 * k := by
  intro k
  induction k with
  | zero => intro _; exact ⟨rfl, Nat.le_refl _, Nat.le_refl _⟩
  | succ k ih =>
    intro hk
    obtain ⟨e1, e2, e3⟩ := ih (by omega)
    obtain ⟨w1, w2, w3⟩ := w_eq (h k (by omega))
    rw [aC, e1, w1, nI_add, sN]
    exact ⟨rfl, by omega, by omega⟩
def OPL (x y : Int64 × Mem) (b : Prop) : Prop := b ∧ x.1 = y.1 ∧ R x.2 y.2
theorem strain_ok {c m m' : Mem} (h : R c m) (l2 : LM m m') {t k : Nat} (ht : t < 40) (hk : k ≤ tN (m 5) (N0 m)) (hn : 0 < tN (m 5) (N0 m)) (w : Int32) :
    b_X9_strainAt m' (nI t) (nI k) ∧ b_X9_part m' ((f_X9_strainAt m' (nI t) (nI k)).toInt64) ((m' 0 9).toInt64) w ∧
    f_X8_inLowestTerms c ((f_X1_strainTimesWhole c (nI k) (f_X4_given c 0 (nI t)) (f_X4_given c 1 (nI t))).toInt64) ((f_X1_whole c).toInt64) w = f_X9_part m' ((f_X9_strainAt m' (nI t) (nI k)).toInt64) ((m' 0 9).toInt64) w := by
  obtain ⟨hT, hE, hG, hD, hS, hF, hV, hB⟩ := id h
  have v := vr_of hV hE hG l2
  have vw := vw_of hV hG hT l2.1 l2.2.2.2.1.2.2.2.2.2.2.1
  have hs := strainBy_eq vw hk (m' 12 (2 * t)) (m' 12 (2 * t + 1))
  have hsa : f_X9_strainAt m' (nI t) (nI k) = f_X1_strainTimesWhole c (nI k) (m' 12 (2 * t)) (m' 12 (2 * t + 1)) ∧ b_X9_strainAt m' (nI t) (nI k) := by
    unfold f_X9_strainAt b_X9_strainAt
    rw [two_t, nI_1, nIc (by omega), nIc (by omega)]
    exact ⟨hs.2, vnI (by omega) (by omega), vnI (by omega) (by omega), hs.1, trivial⟩
  have ha := aC_eq (tN_all (m 5) (N0 m)) (tN (m 5) (N0 m)) (Nat.le_refl _)
  have h12 := vw.1
  have ew : f_X1_whole c = nI (sN (m 5) (tN (m 5) (N0 m))) := by unfold f_X1_whole; rw [hV.1.2.1, ha.1]
  have em : m' 0 9 = nI (sN (m 5) (tN (m 5) (N0 m))) := by rw [l2.1.2.1, ha.1]
  rw [given0 ht, given1 ht, (v.2.2.2.2.2 t ht).1, (v.2.2.2.2.2 t ht).2.1, ew, em, hsa.1, nI_l (by omega)]
  have hlo := Int32.le_toInt (f_X1_strainTimesWhole c (nI k) (m' 12 (2 * t)) (m' 12 (2 * t + 1)))
  have hhi := Int32.toInt_lt (f_X1_strainTimesWhole c (nI k) (m' 12 (2 * t)) (m' 12 (2 * t + 1)))
  have pe := part_eq m' c (X := (f_X1_strainTimesWhole c (nI k) (m' 12 (2 * t)) (m' 12 (2 * t + 1))).toInt64) (y := sN (m 5) (tN (m 5) (N0 m))) w (by rw [Int32.toInt_toInt64]; omega) (by rw [Int32.toInt_toInt64]; omega) (by omega) (by omega)
  exact ⟨hsa.2, pe.1, pe.2.symm⟩
theorem op_strain {c m : Mem} (h : R c m) (a b w : Int32) : OPL (f_X8_strain c a b w, c) (f_X9_strain m a b w) (b_X9_strain m a b w) := by
  obtain ⟨hT, hE, hG, hD, hS, hF, hV, hB⟩ := id h
  obtain ⟨l1, l2⟩ := lives_eq hT hE hG
  have hp := h.prim l2.2.2.2.1
  have vw := vw_of hV hG hT l2.1 l2.2.2.2.1.2.2.2.2.2.2.1
  have h12 := vw.1
  unfold f_X8_strain f_X9_strain b_X9_strain f_X1_size
  rw [isMin _ c, vw.2.1, vw.2.2.1, z01, isTwo_eq]
  by_cases h1 : f_X8_isMinute c a = 0
  · rw [if_pos h1, if_pos h1, if_pos h1]; exact ⟨⟨l1, trivial⟩, rfl, hp⟩
  · obtain ⟨t, ht, rfl⟩ := minN h1
    rw [if_neg h1, if_neg h1, if_neg h1, inLR _ b 0 (nI (tN (m 5) (N0 m))) (by decide) (by rw [Int32.toInt_toInt64])]
    by_cases b0 : b < 0
    · rw [if_pos b0, if_pos b0, if_pos rfl, if_pos rfl]; exact ⟨⟨l1, trivial⟩, rfl, hp⟩
    · rw [if_neg b0, if_neg b0]
      by_cases b2 : nI (tN (m 5) (N0 m)) < b
      · rw [if_pos b2, if_pos b2, if_pos rfl, if_pos rfl]; exact ⟨⟨l1, trivial⟩, rfl, hp⟩
      · rw [if_neg b2, if_neg b2, if_neg i10, if_neg i10]
        by_cases w0 : w = 0 ∨ w = 1
        · rw [if_pos w0, if_neg i10, if_neg i10, if_neg i10]
          by_cases e : nI (tN (m 5) (N0 m)) = 0
          · rw [if_pos e, if_pos e, if_pos e]; exact ⟨⟨l1, trivial⟩, rfl, hp⟩
          · rw [if_neg e, if_neg e, if_neg e]
            have hn : 0 < tN (m 5) (N0 m) := by
              rcases Nat.eq_zero_or_pos (tN (m 5) (N0 m)) with z | z
              · rw [z] at e; exact absurd rfl e
              · exact z
            obtain ⟨k, hk, rfl⟩ := nI_of b0
            have hkn : k ≤ tN (m 5) (N0 m) := by rw [nIlt (by omega) hk] at b2; omega
            obtain ⟨q1, q2, q3⟩ := strain_ok h l2 ht hkn hn w
            exact ⟨⟨l1, q1, q2, trivial⟩, q3, hp⟩
        · rw [if_neg w0, if_pos rfl, if_pos rfl, if_pos rfl]; exact ⟨⟨l1, trivial⟩, rfl, hp⟩
/-! torn -/
theorem torn1 (m : Mem) (n : Nat) (hn : n ≤ 12) (h7 : m 0 7 = nI n) (a b : Int32) : ∀ (r d f : Nat), d + r = n + 1 → r < f → bl_X9_isTorn_5 f a b 1 (nI d) m ∧ l_X9_isTorn_5 f a b 1 (nI d) m = 1 := by
  intro r
  induction r with
  | zero =>
    intro d f hd hf
    obtain ⟨f, rfl⟩ : ∃ f', f = f' + 1 := ⟨f - 1, by omega⟩
    have c1 : nI n < nI d := by rw [nIlt (by omega) (by omega)]; omega
    rw [l_X9_isTorn_5, bl_X9_isTorn_5, h7, if_pos c1, if_pos c1]; exact ⟨⟨Or.inr rfl, trivial⟩, rfl⟩
  | succ r ih =>
    intro d f hd hf
    obtain ⟨f, rfl⟩ : ∃ f', f = f' + 1 := ⟨f - 1, by omega⟩
    have c1 : ¬ nI n < nI d := by rw [nIlt (by omega) (by omega)]; omega
    rw [l_X9_isTorn_5, bl_X9_isTorn_5, h7, if_neg c1, if_neg c1]
    by_cases c2 : nI n ≤ 0
    · rw [if_pos c2, if_pos c2]; exact ⟨⟨Or.inr rfl, trivial⟩, rfl⟩
    · rw [if_neg c2, if_neg c2, if_neg i10, if_neg i10, nI_1]; exact ih (d + 1) f (by omega) (by omega)
theorem torn_l {c m : Mem} {n : Nat} (v : VW c m n) (hn0 : 0 < n) (a b : Int32) : ∀ (r d f1 f2 : Nat), d + r = n + 1 → r < f1 → r < f2 → bl_X9_isTorn_5 f2 a b 0 (nI d) m ∧ l_X1_tears_3 f1 a b (m 11 0) (nI d) c = l_X9_isTorn_5 f2 a b 0 (nI d) m := by
  have hn := v.1
  intro r
  induction r with
  | zero =>
    intro d f1 f2 hd h1 h2
    obtain ⟨f1, rfl⟩ : ∃ f', f1 = f' + 1 := ⟨f1 - 1, by omega⟩
    obtain ⟨f2, rfl⟩ : ∃ f', f2 = f' + 1 := ⟨f2 - 1, by omega⟩
    have c1 : nI n < nI d := by rw [nIlt (by omega) (by omega)]; omega
    rw [l_X1_tears_3, l_X9_isTorn_5, bl_X9_isTorn_5, v.2.1, v.2.2.1, if_pos c1, if_pos c1, if_pos c1]; exact ⟨⟨Or.inl rfl, trivial⟩, rfl⟩
  | succ r ih =>
    intro d f1 f2 hd h1 h2
    obtain ⟨f1, rfl⟩ : ∃ f', f1 = f' + 1 := ⟨f1 - 1, by omega⟩
    obtain ⟨f2, rfl⟩ : ∃ f', f2 = f' + 1 := ⟨f2 - 1, by omega⟩
    have c1 : ¬ nI n < nI d := by rw [nIlt (by omega) (by omega)]; omega
    have c2 : ¬ nI n ≤ 0 := nI_nle hn0 (by omega)
    have hs := strainBy_eq v (k := d) (by omega) a b
    rw [l_X1_tears_3, l_X9_isTorn_5, bl_X9_isTorn_5, v.2.1, v.2.2.1, if_neg c1, if_neg c1, if_neg c1, if_neg c2, if_neg c2, if_pos rfl, if_pos rfl, hs.2, cl0, v.2.2.2.1, nI_1]
    by_cases q : f_X1_strainTimesWhole c (nI d) a b ≤ m 11 0 * m 0 9
    · rw [if_pos q, if_pos q, if_pos q]
      have := ih (d + 1) f1 f2 (by omega) (by omega) (by omega)
      exact ⟨⟨hs.1, this.1⟩, this.2⟩
    · rw [if_neg q, if_neg q, if_neg q]
      have := torn1 m n hn v.2.2.1 a b r (d + 1) f2 (by omega) (by omega)
      exact ⟨⟨hs.1, this.1⟩, this.2.symm⟩
theorem tears_eq {c m : Mem} {n : Nat} (v : VW c m n) (a b : Int32) : b_X9_isTorn m a b ∧ f_X1_tears c a b (m 11 0) = f_X9_isTorn m a b := by
  have hn := v.1
  unfold b_X9_isTorn f_X9_isTorn f_X1_tears
  rw [v.2.1]
  by_cases e : 0 < n
  · exact torn_l v e a b (n + 1) 0 _ _ (by omega) (by rw [fu_eq, nI_t (by omega)]; omega) (by rw [fu_eq]; omega)
  · have e0 : n = 0 := by omega
    subst e0
    obtain ⟨v1, v2, v3, v4, v5, v6, v7, v8, v9⟩ := v
    have hw := v8 rfl
    rw [hw] at v4
    have q1 : ¬ nI 0 < (0 : Int32) := by decide
    have q2 : nI 0 ≤ (0 : Int32) := by decide
    have z : l_X9_isTorn_5 (fu 14) a b 0 0 m = 0 ∧ bl_X9_isTorn_5 (fu 14) a b 0 0 m := by
      rw [fu_eq, show (14 : Nat) = 13 + 1 from rfl, l_X9_isTorn_5, bl_X9_isTorn_5, v3, if_neg q1, if_neg q1, if_pos q2, if_pos q2]
      exact ⟨rfl, Or.inl rfl, trivial⟩
    rw [z.1]
    refine ⟨z.2, ?_⟩
    have s0 : f_X1_strainTimesWhole c 0 a b = 0 := by
      unfold f_X1_strainTimesWhole
      rw [if_neg (by decide), if_neg (by decide), cl0, v4, v6, Int32.mul_zero, Int32.mul_zero]; decide
    rw [fu_eq, show (nI 0).toInt.toNat + 3 = 1 + 1 + 1 from rfl, l_X1_tears_3, v2, if_neg (by decide), s0, v4, Int32.mul_zero, if_pos (by decide), l_X1_tears_3, v2, if_pos (by decide)]
theorem tornNow_l {c m : Mem} {n p : Nat} {F : Nat → Nat} (w : VW c m n) (v : VR c m p F) : ∀ (r t f1 f2 : Nat), t + r = 40 → r < f1 → r < f2 → bl_X9_tornNow_2 f2 (nI t) m ∧ l_X8_torn_11 f1 (m 11 0) (nI t) c = l_X9_tornNow_2 f2 (nI t) m := by
  intro r
  induction r with
  | zero =>
    intro t f1 f2 ht h1 h2
    obtain ⟨f1, rfl⟩ : ∃ f', f1 = f' + 1 := ⟨f1 - 1, by omega⟩
    obtain ⟨f2, rfl⟩ : ∃ f', f2 = f' + 1 := ⟨f2 - 1, by omega⟩
    have e : t = 40 := by omega
    subst e
    rw [l_X8_torn_11, l_X9_tornNow_2, bl_X9_tornNow_2, if_pos (by decide), if_pos (by decide), if_pos (by decide)]; exact ⟨trivial, rfl⟩
  | succ r ih =>
    intro t f1 f2 ht h1 h2
    obtain ⟨f1, rfl⟩ : ∃ f', f1 = f' + 1 := ⟨f1 - 1, by omega⟩
    obtain ⟨f2, rfl⟩ : ∃ f', f2 = f' + 1 := ⟨f2 - 1, by omega⟩
    have c1 : ¬ (40 : Int32) ≤ nI t := by rw [show (40 : Int32) = nI 40 from rfl, nIle (by omega) (by omega)]; omega
    have q := tears_eq w (m 12 (2 * t)) (m 12 (2 * t + 1))
    rw [l_X8_torn_11, l_X9_tornNow_2, bl_X9_tornNow_2, if_neg c1, if_neg c1, if_neg c1, given0 (by omega), given1 (by omega), (v.2.2.2.2.2 t (by omega)).1, (v.2.2.2.2.2 t (by omega)).2.1, two_t, nI_1, nI_1, nIc (by omega), nIc (by omega), ← q.2]
    have v1 : vp_in (nI (2 * t)) 80 := vnI (by omega) (by omega)
    have v2 : vp_in (nI (2 * t + 1)) 80 := vnI (by omega) (by omega)
    by_cases z : f_X1_tears c (m 12 (2 * t)) (m 12 (2 * t + 1)) (m 11 0) = 0
    · rw [if_pos z, if_pos z, if_pos z]
      have := ih (t + 1) f1 f2 (by omega) (by omega) (by omega)
      exact ⟨⟨v1, v2, q.1, this.1⟩, this.2⟩
    · rw [if_neg z, if_neg z, if_neg z]; exact ⟨⟨v1, v2, q.1, trivial⟩, rfl⟩
theorem tornNow_eq {c m : Mem} {n p : Nat} {F : Nat → Nat} (w : VW c m n) (v : VR c m p F) : b_X9_tornNow m ∧ f_X8_torn c = f_X9_tornNow m := by
  unfold b_X9_tornNow f_X9_tornNow f_X8_torn
  have e : f_X3_at c 15 3 4 5 0 = m 11 0 := by rw [show (0 : Int32) = nI 0 from rfl, at_eq (by omega) (by omega)]; exact w.2.2.2.2.2.2.2.2 0 (by omega)
  rw [e]
  exact tornNow_l w v 40 0 _ _ (by omega) (by rw [fu_eq]; omega) (by rw [fu_eq]; omega)
theorem op_torn {c m : Mem} (h : R c m) : OP (f_X8_torn c, c) (f_X9_torn m) (b_X9_torn m) := by
  obtain ⟨hT, hE, hG, hD, hS, hF, hV, hB⟩ := id h
  obtain ⟨l1, l2⟩ := lives_eq hT hE hG
  have q := tornNow_eq (vw_of hV hG hT l2.1 l2.2.2.2.1.2.2.2.2.2.2.1) (vr_of hV hE hG l2)
  exact ⟨⟨l1, q.1, trivial⟩, q.2, h.prim l2.2.2.2.1⟩
