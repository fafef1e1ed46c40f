/-! digest -/
/-- the day's part -/
theorem late_in (m : Mem) {n : Nat} (h1 : 1 ≤ n) (h6 : n ≤ 6) {w : Int32} (hw : w = 0 ∨ w = 1) : f_X9_late m (nI n) w = ((f_X9_lateOf m (nI n) w).1, (f_X9_lateOf m (nI n) w).2) ∧ b_X9_late m (nI n) w = (b_X9_lateOf m (nI n) w ∧ True) := by
  have c1 : ¬ nI n < 1 := by rw [show (1 : Int32) = nI 1 from rfl, nIlt (by omega) (by omega)]; omega
  have c2 : ¬ (6 : Int32) < nI n := by rw [show (6 : Int32) = nI 6 from rfl, nIlt (by omega) (by omega)]; omega
  unfold f_X9_late b_X9_late
  rw [inLR m (nI n) 1 6 (by decide) (by decide), if_neg c1, if_neg c2, if_neg i10, if_neg i10, isTwo_eq, if_pos hw, if_neg i10, if_neg i10]
  exact ⟨rfl, rfl⟩
theorem day_l : ∀ (r b f1 f2 : Nat) (a h : Int64) (c m : Mem), 1 ≤ b → b + r = 7 → r < f1 → r < f2 → R c m →
    bl_X9_digest_516 f2 h (nI b) m ∧ (l_X8_mixedDay_5 f1 a h (nI b) c).1 = (l_X9_digest_516 f2 h (nI b) m).1 ∧ R (l_X8_mixedDay_5 f1 a h (nI b) c).2 (l_X9_digest_516 f2 h (nI b) m).2 := by
  intro r
  induction r with
  | zero =>
    intro b f1 f2 a h c m hb ht h1 h2 hR
    obtain ⟨f1, rfl⟩ : ∃ f', f1 = f' + 1 := ⟨f1 - 1, by omega⟩
    obtain ⟨f2, rfl⟩ : ∃ f', f2 = f' + 1 := ⟨f2 - 1, by omega⟩
    have e : b = 7 := by omega
    subst e
    have c1 : (6 : Int32) < nI 7 := by decide
    have c2 : (7 : Int32) ≤ nI 7 := by decide
    rw [l_X8_mixedDay_5, l_X9_digest_516, bl_X9_digest_516, if_pos c1, if_pos c2, if_pos c2]
    obtain ⟨q1, q2, q3⟩ := enoughOf_eq hR 9
    have ee : f_X8_enough c 9 = l_X8_enough_16 (fu 7) 9 1 c := by
      unfold f_X8_enough
      rw [if_neg (by decide), if_pos (by decide)]
    rw [ee]
    have w0 := whistles_eq (l_X8_enough_16 (fu 7) 9 1 c).2 (f_X9_enoughOf m 9).2 (k := 5) (b := 7) (j := 3) (by omega) (by omega) (by omega) 0
    have w1 := whistles_eq (l_X8_enough_16 (fu 7) 9 1 c).2 (f_X9_enoughOf m 9).2 (k := 5) (b := 7) (j := 3) (by omega) (by omega) (by omega) 1
    have ew : ∀ w : Int32, w = 0 ∨ w = 1 → f_X8_whistles (l_X8_enough_16 (fu 7) 9 1 c).2 5 7 3 w = f_X8_inLowestTerms (l_X8_enough_16 (fu 7) 9 1 c).2 (((f_X8_choices (l_X8_enough_16 (fu 7) 9 1 c).2 (nI 5) (nI 3)) * (f_X8_power (l_X8_enough_16 (fu 7) 9 1 c).2 (nI 7) (nI 3))) * (f_X8_power (l_X8_enough_16 (fu 7) 9 1 c).2 (16 - nI 7) (nI 5 - nI 3))) (f_X8_power (l_X8_enough_16 (fu 7) 9 1 c).2 16 (nI 5)) w := by
      intro w hw
      unfold f_X8_whistles
      rw [if_neg (by decide), if_neg (by decide), if_neg (by decide), if_neg (by decide), if_neg (by decide), if_neg (by decide), z01, if_pos hw, if_neg i10]
      rfl
    have ow := op_words q3 1
    rw [ew 0 (Or.inl rfl), ew 1 (Or.inr rfl), w0.2, w1.2]
    refine ⟨⟨q1, w0.1, w1.1, ow.1, trivial⟩, ?_, q3⟩
    unfold f_X8_mixed
    rw [q2, show f_X8_words (l_X8_enough_16 (fu 7) 9 1 c).2 1 = f_X9_words (f_X9_enoughOf m 9).2 1 from ow.2.1]; rfl
  | succ r ih =>
    intro b f1 f2 a h c m hb ht h1 h2 hR
    obtain ⟨f1, rfl⟩ : ∃ f', f1 = f' + 1 := ⟨f1 - 1, by omega⟩
    obtain ⟨f2, rfl⟩ : ∃ f', f2 = f' + 1 := ⟨f2 - 1, by omega⟩
    have c1 : ¬ (6 : Int32) < nI b := by rw [show (6 : Int32) = nI 6 from rfl, nIlt (by omega) (by omega)]; omega
    have c2 : ¬ (7 : Int32) ≤ nI b := by rw [show (7 : Int32) = nI 7 from rfl, nIle (by omega) (by omega)]; omega
    have o0 := op_late hR (nI b) 0
    have i0 := late_in m hb (show b ≤ 6 by omega) (w := 0) (Or.inl rfl)
    rw [i0.1, i0.2] at o0
    have o1 := op_late o0.2.2 (nI b) 1
    have i1 := late_in (f_X9_lateOf m (nI b) 0).2 hb (show b ≤ 6 by omega) (w := 1) (Or.inr rfl)
    rw [i1.1, i1.2] at o1
    have nx := ih (b + 1) f1 f2 a (31 * (31 * h + ((f_X9_lateOf m (nI b) 0).1).toInt64) + ((f_X9_lateOf (f_X9_lateOf m (nI b) 0).2 (nI b) 1).1).toInt64) _ _ (by omega) (by omega) (by omega) (by omega) o1.2.2
    rw [l_X8_mixedDay_5, l_X9_digest_516, bl_X9_digest_516, if_neg c1, if_neg c2, if_neg c2, nI_1]
    unfold f_X8_mixed
    rw [o0.2.1, o1.2.1]
    exact ⟨⟨o0.1.1, o1.1.1, nx.1⟩, nx.2⟩
/-- the searched row doesn't change when asked again -/
theorem fb_idem (c : Mem) : f_X8_findBestRow (f_X8_findBestRow c) = f_X8_findBestRow c := by
  by_cases z : c 0 11 = 0
  · have e : (f_X8_findBestRow c) 0 11 = 1 := by unfold f_X8_findBestRow; rw [if_pos z]; simp [mst, upd]
    rw [show f_X8_findBestRow (f_X8_findBestRow c) = if (f_X8_findBestRow c) 0 11 = 0 then (mst (f_X0_find (f_X8_findBestRow c) (f_X3_at (f_X8_findBestRow c) 11 0 1 3 0) (f_X3_at (f_X8_findBestRow c) 13 0 1 3 0)) 0 11 1) else (f_X8_findBestRow c) from rfl, e, if_neg i10]
  · have e : f_X8_findBestRow c = c := by unfold f_X8_findBestRow; rw [if_neg z]
    rw [e, e]
theorem order_in (c : Mem) {j : Nat} (hj : j < 6) : f_X8_order c (nI j) = (f_X0_wagonAt (f_X8_findBestRow c) (nI j), f_X8_findBestRow c) := by
  unfold f_X8_order
  rw [if_neg (nInn (by omega)), if_pos (by rw [show (6 : Int32) = nI 6 from rfl, nIlt (by omega) (by omega)]; exact hj)]
theorem squeeze_in (c : Mem) {w : Int32} (hw : w = 0 ∨ w = 1) : f_X8_squeeze c w = ((f_X8_inLowestTerms (f_X8_findBestRow c) ((f_X0_squeezeAbove (f_X8_findBestRow c)).toInt64) ((f_X0_squeezeBelow (f_X8_findBestRow c)).toInt64) w).toInt32, f_X8_findBestRow c) := by
  unfold f_X8_squeeze
  rw [z01, if_pos hw, if_neg i10]
/-- from the minutes' end on -/
theorem dig_end {c m μ : Mem} (h : R c m) (l2 : LM m μ) (a : Int64) (f : Nat) : bl_X9_digest_189 (f + 1) a 4 μ ∧ (f_X8_mixedDay (f_X8_mixedStarts c (f_X8_mixedOutcomes c a)).2 (f_X8_mixedStarts c (f_X8_mixedOutcomes c a)).1).1 = (l_X9_digest_189 (f + 1) a 4 μ).1 ∧ R (f_X8_mixedDay (f_X8_mixedStarts c (f_X8_mixedOutcomes c a)).2 (f_X8_mixedStarts c (f_X8_mixedOutcomes c a)).1).2 (l_X9_digest_189 (f + 1) a 4 μ).2 := by
  obtain ⟨hT, hE, hG, hD, hS, hF, hV, hB⟩ := id h
  have pr := l2.2.2.2.1
  have v := vr_of hV hE hG l2
  have w := vw_of hV hG hT l2.1 pr.2.2.2.2.2.2.1
  have h12 : c 12 0 = μ 10 0 := by rw [pr.2.2.2.2.2.1]; exact (hE.1 0 (by omega)).1
  have h14 : c 14 0 = μ 10 3 := by rw [pr.2.2.2.2.2.1]; exact (hE.1 0 (by omega)).2
  have q1 := tornNow_eq w v
  have q2 := offOf_eq w v 0
  have q3 := offOf_eq w v 1
  have q4 := overNow_eq v
  have q5 := settlesNow_eq v
  have q6 := swingsNow_eq v
  have q7 := doesOf_eq v (gives9 hE l2) 0
  have q8 := doesOf_eq v (gives9 hE l2) 1
  have q9 := startOf_eq w h12 h14 0 3
  have q10 := startOf_eq w h12 h14 4 1
  have q11 := safeOf_eq w h12 h14 0
  have q12 := safeOf_eq w h12 h14 1
  obtain ⟨k1, k2, k3⟩ := best_FO h l2.1 pr.2.2.2.2.2.1
  have t0 := tO_eq k2 (j := 0) (by omega)
  have t1 := tO_eq k2 (j := 1) (by omega)
  have s0 := tS_eq k2 0
  have s1 := tS_eq k2 1
  have e2 : f_X8_off c 0 = l_X8_off_12 (fu 41) 0 0 c := by unfold f_X8_off; rw [z01, if_pos (Or.inl rfl), if_neg i10]
  have e3 : f_X8_off c 1 = l_X8_off_12 (fu 41) 1 0 c := by unfold f_X8_off; rw [z01, if_pos (Or.inr rfl), if_neg i10]
  have e7 : ∀ x : Int32, x = 0 ∨ x = 1 → f_X8_does c x = (f_X8_inLowestTerms c ((f_X4_allGiven c 0).toInt64) (((f_X4_allGiven c 0) + (f_X4_allGiven c 1)).toInt64) x).toInt32 := fun x hx => by unfold f_X8_does; rw [z01, if_pos hx, if_neg i10]
  have e9 : f_X8_start c 0 3 = f_X8_startOf c 0 3 := by unfold f_X8_start f_X8_isSecond; rw [if_neg (by decide), if_neg (by decide)]
  have e10 : f_X8_start c 4 1 = f_X8_startOf c 4 1 := by unfold f_X8_start f_X8_isSecond; rw [if_neg (by decide), if_neg (by decide)]
  have e11 : ∀ x : Int32, x = 0 ∨ x = 1 → f_X8_safe c x = l_X8_safe_17 (fu 101) x 0 (-1) 0 c := fun x hx => by unfold f_X8_safe; rw [z01, if_pos hx, if_neg i10]
  have hR2 : R (f_X8_findBestRow c) (f_X9_findOrder μ) := (R_best h).1.prim (pr.tr k3.prim)
  have o0 : f_X8_order c 0 = (f_X9_tellsOrder (f_X9_findOrder μ) 0, f_X8_findBestRow c) := by rw [show (0 : Int32) = nI 0 from rfl, order_in c (by omega), t0.2]
  have o1 : f_X8_order (f_X8_findBestRow c) 1 = (f_X9_tellsOrder (f_X9_findOrder μ) 1, f_X8_findBestRow c) := by rw [show (1 : Int32) = nI 1 from rfl, order_in _ (by omega), fb_idem, t1.2]
  have z0 : f_X8_squeeze (f_X8_findBestRow c) 0 = (f_X9_tellsSqueeze (f_X9_findOrder μ) 0, f_X8_findBestRow c) := by rw [squeeze_in _ (Or.inl rfl), fb_idem, s0.2]
  have z1 : f_X8_squeeze (f_X8_findBestRow c) 1 = (f_X9_tellsSqueeze (f_X9_findOrder μ) 1, f_X8_findBestRow c) := by rw [squeeze_in _ (Or.inr rfl), fb_idem, s1.2]
  have c4 : (4 : Int32) ≤ 4 := by decide
  rw [l_X9_digest_189, bl_X9_digest_189, if_pos c4, if_pos c4]
  have ems : f_X8_mixedStarts c (f_X8_mixedOutcomes c a) = ((31 * (31 * (31 * (31 * (31 * (31 * (31 * (31 * (31 * (31 * (31 * (31 * (31 * (31 * (31 * (31 * a + (f_X9_tornNow μ).toInt64) + (f_X9_offOf μ 0).toInt64) + (f_X9_offOf μ 1).toInt64) + (f_X9_overNow μ).toInt64) + (f_X9_settlesNow μ).toInt64) + (f_X9_swingsNow μ).toInt64) + (f_X9_doesOf μ 0).toInt64) + (f_X9_doesOf μ 1).toInt64) + (f_X9_startOf μ 0 3).toInt64) + (f_X9_startOf μ 4 1).toInt64) + (f_X9_safeOf μ 0).toInt64) + (f_X9_safeOf μ 1).toInt64) + (f_X9_tellsOrder (f_X9_findOrder μ) 0).toInt64) + (f_X9_tellsOrder (f_X9_findOrder μ) 1).toInt64) + (f_X9_tellsSqueeze (f_X9_findOrder μ) 0).toInt64) + (f_X9_tellsSqueeze (f_X9_findOrder μ) 1).toInt64), f_X8_findBestRow c) := by
    unfold f_X8_mixedStarts f_X8_mixedOutcomes f_X8_mixed
    rw [o0, o1, z0, z1, q1.2, e2, q2.2, e3, q3.2, q4.2, q5.2, q6.2, e7 0 (Or.inl rfl), q7.2, e7 1 (Or.inr rfl), q8.2, e9, q9.2, e10, q10.2, e11 0 (Or.inl rfl), q11.2, e11 1 (Or.inr rfl), q12.2]
  rw [ems]
  have dd := day_l 6 1 (fu 7) (fu 7) (31 * (31 * (31 * (31 * (31 * (31 * (31 * (31 * (31 * (31 * (31 * (31 * (31 * (31 * (31 * (31 * a + (f_X9_tornNow μ).toInt64) + (f_X9_offOf μ 0).toInt64) + (f_X9_offOf μ 1).toInt64) + (f_X9_overNow μ).toInt64) + (f_X9_settlesNow μ).toInt64) + (f_X9_swingsNow μ).toInt64) + (f_X9_doesOf μ 0).toInt64) + (f_X9_doesOf μ 1).toInt64) + (f_X9_startOf μ 0 3).toInt64) + (f_X9_startOf μ 4 1).toInt64) + (f_X9_safeOf μ 0).toInt64) + (f_X9_safeOf μ 1).toInt64) + (f_X9_tellsOrder (f_X9_findOrder μ) 0).toInt64) + (f_X9_tellsOrder (f_X9_findOrder μ) 1).toInt64) + (f_X9_tellsSqueeze (f_X9_findOrder μ) 0).toInt64) + (f_X9_tellsSqueeze (f_X9_findOrder μ) 1).toInt64) (31 * (31 * (31 * (31 * (31 * (31 * (31 * (31 * (31 * (31 * (31 * (31 * (31 * (31 * (31 * (31 * a + (f_X9_tornNow μ).toInt64) + (f_X9_offOf μ 0).toInt64) + (f_X9_offOf μ 1).toInt64) + (f_X9_overNow μ).toInt64) + (f_X9_settlesNow μ).toInt64) + (f_X9_swingsNow μ).toInt64) + (f_X9_doesOf μ 0).toInt64) + (f_X9_doesOf μ 1).toInt64) + (f_X9_startOf μ 0 3).toInt64) + (f_X9_startOf μ 4 1).toInt64) + (f_X9_safeOf μ 0).toInt64) + (f_X9_safeOf μ 1).toInt64) + (f_X9_tellsOrder (f_X9_findOrder μ) 0).toInt64) + (f_X9_tellsOrder (f_X9_findOrder μ) 1).toInt64) + (f_X9_tellsSqueeze (f_X9_findOrder μ) 0).toInt64) + (f_X9_tellsSqueeze (f_X9_findOrder μ) 1).toInt64) (f_X8_findBestRow c) (f_X9_findOrder μ) (by omega) (by omega) (by rw [fu_eq]; omega) (by rw [fu_eq]; omega) hR2
  exact ⟨⟨q1.1, q2.1, q3.1, q4.1, q5.1, q6.1, q7.1, q8.1, q9.1, q10.1, q11.1, q12.1, k1, t0.1, t1.1, s0.1, s1.1, dd.1⟩, dd.2.1, dd.2.2⟩
/-- one minute of the digest -/
theorem min_K {c m μ : Mem} (h : R c m) (l1 : μ = f_X9_lives m) {t : Nat} (ht : t < 40) (K : Int64 → Int32 → Mem → Int64 × Mem) (bK : Int64 → Int32 → Mem → Prop) (a : Int64) (b : Int32) :
    (l_X9_digest_256 K (fu 4) ((31 * ((31 * a) + (μ 12 (2 * t)).toInt64)) + (μ 12 (2 * t + 1)).toInt64) b (nI t) 0 μ = K (f_X8_mixed c (f_X8_mixed c (f_X8_mixed c (f_X8_mixed c (f_X8_mixed c (f_X8_mixed c a ((f_X8_gives c (nI t) 0).toInt64)) ((f_X8_gives c (nI t) 1).toInt64)) ((f_X8_minute c (nI t) 0).toInt64)) ((f_X8_minute c (nI t) 1).toInt64)) ((f_X8_minute c (nI t) 2).toInt64)) ((f_X8_slack c (nI t)).toInt64)) (b + 1) μ) ∧
    (bK (f_X8_mixed c (f_X8_mixed c (f_X8_mixed c (f_X8_mixed c (f_X8_mixed c (f_X8_mixed c a ((f_X8_gives c (nI t) 0).toInt64)) ((f_X8_gives c (nI t) 1).toInt64)) ((f_X8_minute c (nI t) 0).toInt64)) ((f_X8_minute c (nI t) 1).toInt64)) ((f_X8_minute c (nI t) 2).toInt64)) ((f_X8_slack c (nI t)).toInt64)) (b + 1) μ → bl_X9_digest_256 bK (fu 4) ((31 * ((31 * a) + (μ 12 (2 * t)).toInt64)) + (μ 12 (2 * t + 1)).toInt64) b (nI t) 0 μ) := by
  subst l1
  obtain ⟨hT, hE, hG, hD, hS, hF, hV, hB⟩ := id h
  obtain ⟨lb, l2⟩ := lives_eq hT hE hG
  have v := vr_of hV hE hG l2
  have w := vw_of hV hG hT l2.1 l2.2.2.2.1.2.2.2.2.2.2.1
  have im : f_X8_isMinute c (nI t) = 1 := by
    unfold f_X8_isMinute
    rw [if_neg (nInn (by omega)), if_neg (by rw [show (40 : Int32) = nI 40 from rfl, nIle (by omega) (by omega)]; omega)]
  have g0 : f_X8_gives c (nI t) 0 = (f_X9_lives m) 12 (2 * t) := by
    unfold f_X8_gives f_X8_isEngine
    rw [im, if_neg i10, if_pos rfl, if_neg i10, given0 ht]; exact (v.2.2.2.2.2 t ht).1
  have g1 : f_X8_gives c (nI t) 1 = (f_X9_lives m) 12 (2 * t + 1) := by
    unfold f_X8_gives f_X8_isEngine
    rw [im, if_neg i10, if_neg i10, if_pos rfl, if_neg i10, given1 ht]; exact (v.2.2.2.2.2 t ht).2.1
  have mn : ∀ j : Nat, j ≤ 2 → b_X9_minuteOf (f_X9_lives m) (nI t) (nI j) ∧ f_X8_minute c (nI t) (nI j) = f_X9_minuteOf (f_X9_lives m) (nI t) (nI j) := by
    intro j hj
    have o := op_minute h (nI t) (nI j)
    unfold f_X9_minute b_X9_minute at o
    have c2 : ¬ (2 : Int32) < nI j := by rw [show (2 : Int32) = nI 2 from rfl, nIlt (by omega) (by omega)]; omega
    have ii : f_X9_in (f_X9_lives m) (nI j).toInt64 0 2 = 1 := by rw [inLR _ (nI j) 0 2 (by decide) (by decide), if_neg (nInn (by omega)), if_neg c2]
    have jj : f_X9_isMinute (f_X9_lives m) (nI t) = 1 := by rw [isMin _ c, im]
    rw [jj, ii, if_neg i10, if_neg i10, if_neg i10, if_neg i10] at o
    exact ⟨o.1.2.1, o.2.1⟩
  have sl : b_X9_slackAt (f_X9_lives m) (nI t) ∧ f_X8_slack c (nI t) = f_X9_slackAt (f_X9_lives m) (nI t) := by
    have q := slackAt_eq w ht (v.2.2.2.2.2 t ht).1 (v.2.2.2.2.2 t ht).2.1
    refine ⟨q.1, ?_⟩
    unfold f_X8_slack
    rw [im, if_neg i10]; exact q.2
  have m0 := mn 0 (by omega)
  have m1 := mn 1 (by omega)
  have m2 := mn 2 (by omega)
  rw [show nI 0 = (0 : Int32) from rfl] at m0
  rw [show nI 1 = (1 : Int32) from rfl] at m1
  rw [show nI 2 = (2 : Int32) from rfl] at m2
  have n0 : ¬ (3 : Int32) ≤ 0 := by decide
  have n1 : ¬ (3 : Int32) ≤ 0 + 1 := by decide
  have n2 : ¬ (3 : Int32) ≤ 0 + 1 + 1 := by decide
  have n3 : (3 : Int32) ≤ 0 + 1 + 1 + 1 := by decide
  have x1 : (0 : Int32) + 1 = 1 := by decide
  have x2 : (0 : Int32) + 1 + 1 = 2 := by decide
  unfold f_X8_mixed
  rw [fu_eq, g0, g1, m0.2, m1.2, m2.2, sl.2, show (4 : Nat) = 0 + 1 + 1 + 1 + 1 from rfl]
  constructor
  · rw [l_X9_digest_256, if_neg n0, l_X9_digest_256, if_neg n1, l_X9_digest_256, if_neg n2, l_X9_digest_256, if_pos n3, x1]; rfl
  · intro hk
    rw [bl_X9_digest_256, if_neg n0, bl_X9_digest_256, if_neg n1, bl_X9_digest_256, if_neg n2, bl_X9_digest_256, if_pos n3]
    rw [x1]
    exact ⟨m0.1, m1.1, m2.1, sl.1, hk⟩
