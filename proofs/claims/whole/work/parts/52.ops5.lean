/-! the class' wagons and ride beside the model's, behind its 'reads' and 'lives' -/
def VW (c m : Mem) (n : Nat) : Prop := n ≤ 12 ∧ c 5 2 = nI n ∧ m 0 7 = nI n ∧ c 5 3 = m 0 9 ∧ (∀ j, j < n → c 6 j = m 7 j) ∧ c 7 0 = 0 ∧ (∀ j, j < n → c 7 (j + 1) = c 7 j + m 7 j) ∧ (n = 0 → m 0 9 = 0) ∧ (∀ j, j < 5 → c 16 j = m 11 j)
def VR (c m : Mem) (p : Nat) (F : Nat → Nat) : Prop := p ≤ 16 ∧ c 8 2 = nI p ∧ m 0 10 = nI p ∧ (∀ j, j < p → c 10 j = m 9 j) ∧ (∀ j, F j ≤ 20 * j ∨ 40 ≤ j) ∧ ∀ t, t < 40 → c 18 t = m 12 (2 * t) ∧ c 19 t = m 12 (2 * t + 1) ∧ c 20 t = m 15 t ∧ c 21 t = m 13 t ∧ c 22 t = nI (F t) ∧ m 14 t = nI (F t)
theorem vw_of {c m m' : Mem} (hV : RV c m) (hG : RG c m) (hT : RT c m) (hm : TrnM (m 5) (N0 m) m') (h11 : m' 11 = m 11) : VW c m' (tN (m 5) (N0 m)) := by
  have hn := tN_le (m 5) (N0 m)
  have h12 := hT.2.1
  obtain ⟨⟨a1, a2, a3, a4, a5⟩, -, -⟩ := hV
  refine ⟨by omega, a1, hm.1, by rw [a2, hm.2.1], fun j hj => by rw [a4 j hj, hm.2.2 j hj], a5 0 (Nat.zero_le _), fun j hj => ?_, fun e => ?_, fun j hj => by rw [h11]; exact hG.1 j hj⟩
  · rw [a5 (j + 1) (by omega), a5 j (by omega), hm.2.2 j hj]; rfl
  · rw [hm.2.1, e]; rfl
theorem vr_of {c m m' : Mem} (hV : RV c m) (hE : RE c m) (hG : RG c m) (hl : LM m m') : VR c m' (hP (B1 m) (N1 m)) (fun j => (rd (PM m) 40).2.2.2.2.1 j) := by
  have hP' := pok hE hG
  refine ⟨hP_le _ _, hV.2.1.1, hl.2.1.1, fun j hj => by rw [(hV.2.1.2.2.2 j hj).2, (hl.2.1.2 j hj).2], fun j => ?_, fun t ht => ?_⟩
  · by_cases h : j < 40
    · exact Or.inl (rd_le2 (PM m) hP'.1 40 j h).2
    · exact Or.inr (by omega)
  · obtain ⟨a1, a2, a3, a4, a5⟩ := hV.2.2 t ht
    obtain ⟨b1, b2, b3, b4, b5⟩ := hl.2.2.1 t ht
    exact ⟨a1.trans b1.symm, a2.trans b2.symm, a3.trans b3.symm, a4.trans b4.symm, a5, b5⟩
theorem given0 {c : Mem} {t : Nat} (ht : t < 40) : f_X4_given c 0 (nI t) = c 18 t := by
  unfold f_X4_given
  have c2 : nI t < 40 := by rw [show (40 : Int32) = nI 40 from rfl, nIlt (by omega) (by omega)]; omega
  rw [if_neg (nInn (by omega)), if_pos c2, if_pos rfl, nIc (by omega)]
theorem given1 {c : Mem} {t : Nat} (ht : t < 40) : f_X4_given c 1 (nI t) = c 19 t := by
  unfold f_X4_given
  have c2 : nI t < 40 := by rw [show (40 : Int32) = nI 40 from rfl, nIlt (by omega) (by omega)]; omega
  rw [if_neg (nInn (by omega)), if_pos c2, if_neg i10, nIc (by omega)]
theorem isMin (σ τ : Mem) (a : Int32) : f_X9_isMinute σ a = f_X8_isMinute τ a := by
  unfold f_X9_isMinute f_X8_isMinute
  rw [inLR σ a 0 39 (by decide) (by decide)]
  by_cases c1 : a < 0
  · rw [if_pos c1, if_pos c1]
  · rw [if_neg c1, if_neg c1]
    by_cases c2 : 39 < a
    · have c3 : 40 ≤ a := by rw [Int32.lt_iff_toInt_lt, show (39 : Int32).toInt = 39 by decide] at c2; rw [Int32.le_iff_toInt_le, show (40 : Int32).toInt = 40 by decide]; omega
      rw [if_pos c2, if_pos c3]
    · have c3 : ¬ 40 ≤ a := by rw [Int32.lt_iff_toInt_lt, show (39 : Int32).toInt = 39 by decide] at c2; rw [Int32.le_iff_toInt_le, show (40 : Int32).toInt = 40 by decide]; omega
      rw [if_neg c2, if_neg c3]
theorem minN {τ : Mem} {a : Int32} (h : ¬ f_X8_isMinute τ a = 0) : ∃ t, t < 40 ∧ a = nI t := by
  unfold f_X8_isMinute at h
  by_cases c1 : a < 0
  · rw [if_pos c1] at h; exact absurd rfl h
  · by_cases c2 : 40 ≤ a
    · rw [if_neg c1, if_pos c2] at h; exact absurd rfl h
    · exact asN (n := 40) (by decide) c1 c2
theorem op_gives {c m : Mem} (h : R c m) (a b : Int32) : OP (f_X8_gives c a b, c) (f_X9_gives m a b) (b_X9_gives m a b) := by
  obtain ⟨hT, hE, hG, hD, hS, hF, hV, hB⟩ := id h
  obtain ⟨l1, l2⟩ := lives_eq hT hE hG
  have hp := h.prim l2.2.2.2.1
  obtain ⟨v1, v2, v3, v4, v5, v6⟩ := vr_of hV hE hG l2
  unfold f_X8_gives f_X9_gives b_X9_gives
  rw [isMin _ c, isTwo_eq, isEng]
  by_cases h1 : f_X8_isMinute c a = 0
  · rw [if_pos h1, if_pos h1, if_pos h1]; exact ⟨⟨l1, trivial⟩, rfl, hp⟩
  · obtain ⟨t, ht, rfl⟩ := minN h1
    rw [if_neg h1, if_neg h1, if_neg h1]
    by_cases h2 : b = 0 ∨ b = 1
    · rw [if_pos h2, if_neg i10, if_neg i10, if_neg i10]
      rcases h2 with rfl | rfl
      · rw [two_t, Int32.add_zero, nIc (by omega), ← (v6 t ht).1]
        exact ⟨⟨l1, vnI (by omega) (by omega), trivial⟩, given0 ht, hp⟩
      · rw [two_t, nI_1, nIc (by omega), ← (v6 t ht).2.1]
        exact ⟨⟨l1, vnI (by omega) (by omega), trivial⟩, given1 ht, hp⟩
    · rw [if_neg h2, if_pos rfl, if_pos rfl, if_pos rfl]; exact ⟨⟨l1, trivial⟩, rfl, hp⟩
theorem placeIn_eq {c m : Mem} {p : Nat} {F : Nat → Nat} (v : VR c m p F) {t : Nat} (ht : t < 40) : f_X4_placeIn c (nI t) = nI (F t / 10) ∧ f_X9_placeAt m (nI t) = (if p ≤ F t / 10 then -1 else nI (F t / 10)) ∧ b_X9_placeAt m (nI t) ∧ F t < 1000 := by
  obtain ⟨v1, v2, v3, v4, v5, v6⟩ := v
  have hF : F t < 1000 := by rcases v5 t with q | q <;> omega
  have c2 : ¬ (40 : Int32) ≤ nI t := by rw [show (40 : Int32) = nI 40 from rfl, nIle (by omega) (by omega)]; omega
  have vt : vp_in (nI t) 40 := vnI ht (by omega)
  have e : (p ≤ F t / 10) ↔ (nI p ≤ nI (F t / 10)) := by rw [nIle (by omega) (by omega)]
  refine ⟨?_, ?_, ?_, hF⟩
  · unfold f_X4_placeIn
    rw [if_neg (nInn (by omega)), if_neg c2, nIc (by omega), (v6 t ht).2.2.2.2.1, div10 (by omega)]
  · unfold f_X9_placeAt
    rw [nIc (by omega), (v6 t ht).2.2.2.2.2, div10 (by omega), v3]
    by_cases q : p ≤ F t / 10
    · rw [if_pos q, if_pos (e.mp q)]
    · rw [if_neg q, if_neg (fun z => q (e.mpr z))]
  · unfold b_X9_placeAt
    refine ⟨vt, ?_⟩
    split
    · trivial
    · exact ⟨vt, trivial⟩
theorem op_minute {c m : Mem} (h : R c m) (a b : Int32) : OP (f_X8_minute c a b, c) (f_X9_minute m a b) (b_X9_minute m a b) := by
  obtain ⟨hT, hE, hG, hD, hS, hF, hV, hB⟩ := id h
  obtain ⟨l1, l2⟩ := lives_eq hT hE hG
  have hp := h.prim l2.2.2.2.1
  have v := vr_of hV hE hG l2
  unfold f_X8_minute f_X9_minute b_X9_minute
  rw [isMin _ c]
  by_cases h1 : f_X8_isMinute c a = 0
  · rw [if_pos h1, if_pos h1, if_pos h1]; exact ⟨⟨l1, trivial⟩, rfl, hp⟩
  · obtain ⟨t, ht, rfl⟩ := minN h1
    have c2 : ¬ (40 : Int32) ≤ nI t := by rw [show (40 : Int32) = nI 40 from rfl, nIle (by omega) (by omega)]; omega
    have vt : vp_in (nI t) 40 := vnI ht (by omega)
    obtain ⟨p1, p2, p3, p4⟩ := placeIn_eq v ht
    rw [if_neg h1, if_neg h1, if_neg h1, inLR _ b 0 2 (by decide) (by decide)]
    by_cases b0 : b < 0
    · rw [if_pos b0, if_pos b0, if_pos rfl, if_pos rfl]; exact ⟨⟨l1, trivial⟩, rfl, hp⟩
    · rw [if_neg b0, if_neg b0]
      by_cases b2 : 2 < b
      · rw [if_pos b2, if_neg (nle_of_lt b2), if_pos rfl, if_pos rfl]; exact ⟨⟨l1, trivial⟩, rfl, hp⟩
      · rw [if_neg b2, if_pos (le_of_nlt b2), if_neg i10, if_neg i10]
        unfold f_X9_minuteOf b_X9_minuteOf
        by_cases e0 : b = 0
        · rw [if_pos e0, if_pos e0, if_pos e0]
          refine ⟨⟨l1, ⟨vt, trivial⟩, trivial⟩, ?_, hp⟩
          show f_X4_neededIn c (nI t) = _
          unfold f_X4_neededIn
          rw [if_neg (nInn (by omega)), if_neg c2, nIc (by omega)]; exact (v.2.2.2.2.2 t ht).2.2.1
        · by_cases e1 : b = 1
          · rw [if_neg e0, if_neg e0, if_neg e0, if_pos e1, if_pos e1, if_pos e1]
            refine ⟨⟨l1, ⟨vt, trivial⟩, trivial⟩, ?_, hp⟩
            show f_X4_speedIn c (nI t) = _
            unfold f_X4_speedIn
            rw [if_neg (nInn (by omega)), if_neg c2, nIc (by omega)]; exact (v.2.2.2.2.2 t ht).2.2.2.1
          · rw [if_neg e0, if_neg e0, if_neg e0, if_neg e1, if_neg e1, if_neg e1]
            refine ⟨⟨l1, ⟨p3, trivial⟩, trivial⟩, ?_, hp⟩
            show (if f_X6_size c ≤ f_X4_placeIn c (nI t) then (-1) else f_X4_placeIn c (nI t)) = f_X9_placeAt _ (nI t)
            rw [p1, p2]
            unfold f_X6_size
            rw [v.2.1]
            have v1 := v.1
            have e : (nI (hP (B1 m) (N1 m)) ≤ nI ((rd (PM m) 40).2.2.2.2.1 t / 10)) ↔ (hP (B1 m) (N1 m) ≤ (rd (PM m) 40).2.2.2.2.1 t / 10) := by rw [nIle (by omega) (by omega)]
            by_cases q : hP (B1 m) (N1 m) ≤ (rd (PM m) 40).2.2.2.2.1 t / 10
            · rw [if_pos (e.mpr q), if_pos q]
            · rw [if_neg (fun z => q (e.mp z)), if_neg q]
/-! strains -/
theorem ahead_l {c m : Mem} {n : Nat} (v : VW c m n) {k : Nat} (hk : k ≤ n) : ∀ (r i f : Nat), i + r = k → r < f → bl_X9_ahead_4 f (nI k) (c 7 i) (nI i) m ∧ l_X9_ahead_4 f (nI k) (c 7 i) (nI i) m = c 7 k := by
  obtain ⟨v1, v2, v3, v4, v5, v6, v7, v8, v9⟩ := v
  intro r
  induction r with
  | zero =>
    intro i f hi hf
    obtain ⟨f, rfl⟩ : ∃ f', f = f' + 1 := ⟨f - 1, by omega⟩
    have e : i = k := by omega
    subst e
    have c1 : nI i ≤ nI i := by rw [nIle (by omega) (by omega)]; omega
    rw [l_X9_ahead_4, bl_X9_ahead_4, if_pos c1, if_pos c1]; exact ⟨trivial, rfl⟩
  | succ r ih =>
    intro i f hi hf
    obtain ⟨f, rfl⟩ : ∃ f', f = f' + 1 := ⟨f - 1, by omega⟩
    have c1 : ¬ nI k ≤ nI i := by rw [nIle (by omega) (by omega)]; omega
    rw [l_X9_ahead_4, bl_X9_ahead_4, if_neg c1, if_neg c1, nIc (by omega), ← v7 i (by omega), nI_1]
    have := ih (i + 1) f (by omega) (by omega)
    exact ⟨⟨vnI (by omega) (by omega), this.1⟩, this.2⟩
theorem strainBy_eq {c m : Mem} {n : Nat} (v : VW c m n) {k : Nat} (hk : k ≤ n) (a b : Int32) : b_X9_strainBy m a b (nI k) ∧ f_X9_strainBy m a b (nI k) = f_X1_strainTimesWhole c (nI k) a b := by
  have h := ahead_l v hk k 0 (fu 13) (by omega) (by have := v.1; rw [fu_eq]; omega)
  obtain ⟨v1, v2, v3, v4, v5, v6, v7, v8, v9⟩ := v
  rw [v6, show nI 0 = (0 : Int32) from rfl] at h
  unfold b_X9_strainBy f_X9_strainBy f_X1_strainTimesWhole b_X9_ahead f_X9_ahead
  have c2 : ¬ (13 : Int32) ≤ nI k := by rw [show (13 : Int32) = nI 13 from rfl, nIle (by omega) (by omega)]; omega
  rw [h.2, if_neg (nInn (by omega)), if_neg c2, nIc (by omega), v4]
  exact ⟨⟨h.1, trivial⟩, rfl⟩
theorem slack_l {c m : Mem} {n : Nat} (v : VW c m n) {t : Nat} (ht : t < 40) : ∀ (r d f1 f2 : Nat), d + r = n + 1 → r < f1 → r < f2 → bl_X9_slackAt_12 f2 (nI t) (nI d) m ∧ l_X1_firstSlack_2 f1 (m 12 (2 * t)) (m 12 (2 * t + 1)) (nI d) c = l_X9_slackAt_12 f2 (nI t) (nI d) m := by
  have hn := v.1
  intro r
  induction r with
  | zero =>
    intro d f1 f2 hd h1 h2
    obtain ⟨f1, rfl⟩ : ∃ f', f1 = f' + 1 := ⟨f1 - 1, by omega⟩
    obtain ⟨f2, rfl⟩ : ∃ f', f2 = f' + 1 := ⟨f2 - 1, by omega⟩
    have c1 : nI n < nI d := by rw [nIlt (by omega) (by omega)]; omega
    rw [l_X1_firstSlack_2, l_X9_slackAt_12, bl_X9_slackAt_12, v.2.1, v.2.2.1, if_pos c1, if_pos c1, if_pos c1]; exact ⟨trivial, rfl⟩
  | succ r ih =>
    intro d f1 f2 hd h1 h2
    obtain ⟨f1, rfl⟩ : ∃ f', f1 = f' + 1 := ⟨f1 - 1, by omega⟩
    obtain ⟨f2, rfl⟩ : ∃ f', f2 = f' + 1 := ⟨f2 - 1, by omega⟩
    have c1 : ¬ nI n < nI d := by rw [nIlt (by omega) (by omega)]; omega
    have hs := strainBy_eq v (k := d) (by omega) (m 12 (2 * t)) (m 12 (2 * t + 1))
    have hsa : f_X9_strainAt m (nI t) (nI d) = f_X1_strainTimesWhole c (nI d) (m 12 (2 * t)) (m 12 (2 * t + 1)) ∧ b_X9_strainAt m (nI t) (nI d) := by
      unfold f_X9_strainAt b_X9_strainAt
      rw [two_t, nI_1, nIc (by omega), nIc (by omega)]
      exact ⟨hs.2, vnI (by omega) (by omega), vnI (by omega) (by omega), hs.1, trivial⟩
    rw [l_X1_firstSlack_2, l_X9_slackAt_12, bl_X9_slackAt_12, v.2.1, v.2.2.1, if_neg c1, if_neg c1, if_neg c1, hsa.1, nI_1]
    by_cases q : 0 < f_X1_strainTimesWhole c (nI d) (m 12 (2 * t)) (m 12 (2 * t + 1))
    · rw [if_pos q, if_pos q, if_pos q]
      have := ih (d + 1) f1 f2 (by omega) (by omega) (by omega)
      exact ⟨⟨hsa.2, this.1⟩, this.2⟩
    · rw [if_neg q, if_neg q, if_neg q]; exact ⟨⟨hsa.2, trivial⟩, rfl⟩
theorem slackAt_eq {c m : Mem} {n : Nat} (v : VW c m n) {t : Nat} (ht : t < 40) (h18 : c 18 t = m 12 (2 * t)) (h19 : c 19 t = m 12 (2 * t + 1)) : b_X9_slackAt m (nI t) ∧ (if f_X1_size c = 0 then (-3) else f_X1_firstSlack c (f_X4_given c 0 (nI t)) (f_X4_given c 1 (nI t))) = f_X9_slackAt m (nI t) := by
  have hn := v.1
  unfold b_X9_slackAt f_X9_slackAt f_X1_size f_X1_firstSlack
  rw [given0 ht, given1 ht, h18, h19, v.2.1, v.2.2.1]
  by_cases e : nI n = 0
  · rw [if_pos e, if_pos e, if_pos e]; exact ⟨trivial, rfl⟩
  · rw [if_neg e, if_neg e, if_neg e]
    have := slack_l v ht (n + 1) 0 (fu ((nI n).toInt.toNat + 3)) (fu 14) (by omega) (by rw [fu_eq, nI_t (by omega)]; omega) (by rw [fu_eq]; omega)
    exact this
theorem op_slack {c m : Mem} (h : R c m) (a : Int32) : OP (f_X8_slack c a, c) (f_X9_slack m a) (b_X9_slack m a) := by
  obtain ⟨hT, hE, hG, hD, hS, hF, hV, hB⟩ := id h
  obtain ⟨l1, l2⟩ := lives_eq hT hE hG
  have hp := h.prim l2.2.2.2.1
  have v := vr_of hV hE hG l2
  have w := vw_of hV hG hT l2.1 l2.2.2.2.1.2.2.2.2.2.2.1
  unfold f_X8_slack f_X9_slack b_X9_slack
  rw [isMin _ c]
  by_cases h1 : f_X8_isMinute c a = 0
  · rw [if_pos h1, if_pos h1, if_pos h1]; exact ⟨⟨l1, trivial⟩, rfl, hp⟩
  · obtain ⟨t, ht, rfl⟩ := minN h1
    rw [if_neg h1, if_neg h1, if_neg h1]
    have q := slackAt_eq w ht (v.2.2.2.2.2 t ht).1 (v.2.2.2.2.2 t ht).2.1
    exact ⟨⟨l1, q.1, trivial⟩, q.2, hp⟩
