/-- the four minutes, and on -/
theorem dig_min {c m μ : Mem} (h : R c m) (l1 : μ = f_X9_lives m) (a : Int64) : bl_X9_digest_189 (fu 5) a 0 μ ∧ (f_X8_mixedDay (f_X8_mixedStarts c (f_X8_mixedOutcomes c (f_X8_mixedMinutes c a))).2 (f_X8_mixedStarts c (f_X8_mixedOutcomes c (f_X8_mixedMinutes c a))).1).1 = (l_X9_digest_189 (fu 5) a 0 μ).1 ∧ R (f_X8_mixedDay (f_X8_mixedStarts c (f_X8_mixedOutcomes c (f_X8_mixedMinutes c a))).2 (f_X8_mixedStarts c (f_X8_mixedOutcomes c (f_X8_mixedMinutes c a))).1).2 (l_X9_digest_189 (fu 5) a 0 μ).2 := by
  obtain ⟨lb, l2⟩ := lives_eq h.1 h.2.1 h.2.2.1
  rw [← l1] at l2
  -- the class, unrolled
  let M := fun (x : Int64) (t : Nat) => f_X8_mixed c (f_X8_mixed c (f_X8_mixed c (f_X8_mixed c (f_X8_mixed c (f_X8_mixed c x ((f_X8_gives c (nI t) 0).toInt64)) ((f_X8_gives c (nI t) 1).toInt64)) ((f_X8_minute c (nI t) 0).toInt64)) ((f_X8_minute c (nI t) 1).toInt64)) ((f_X8_minute c (nI t) 2).toInt64)) ((f_X8_slack c (nI t)).toInt64)
  have ec : f_X8_mixedMinutes c a = M (M (M (M a 0) 1) 7) 39 := by
    unfold f_X8_mixedMinutes
    rw [fu_eq, show (5 : Nat) = 0 + 1 + 1 + 1 + 1 + 1 from rfl, l_X8_mixedMinutes_15, if_neg (by decide), l_X8_mixedMinutes_15, if_neg (by decide), l_X8_mixedMinutes_15, if_neg (by decide), l_X8_mixedMinutes_15, if_neg (by decide), l_X8_mixedMinutes_15, if_pos (by decide)]
    have d0 : (stv 6).getD (0 : Int32).toNatClampNeg 0 = nI 0 := by decide
    have d1 : (stv 6).getD (0 + 1 : Int32).toNatClampNeg 0 = nI 1 := by decide
    have d2 : (stv 6).getD (0 + 1 + 1 : Int32).toNatClampNeg 0 = nI 7 := by decide
    have d3 : (stv 6).getD (0 + 1 + 1 + 1 : Int32).toNatClampNeg 0 = nI 39 := by decide
    rw [d0, d1, d2, d3]
  have en := dig_end h l2 (M (M (M (M a 0) 1) 7) 39) 0
  rw [ec]
  have k3 := min_K h l1 (t := 39) (by omega) (l_X9_digest_189 1) (bl_X9_digest_189 1) (M (M (M a 0) 1) 7) 3
  have k2 := min_K h l1 (t := 7) (by omega) (l_X9_digest_189 2) (bl_X9_digest_189 2) (M (M a 0) 1) 2
  have k1 := min_K h l1 (t := 1) (by omega) (l_X9_digest_189 3) (bl_X9_digest_189 3) (M a 0) 1
  have k0 := min_K h l1 (t := 0) (by omega) (l_X9_digest_189 4) (bl_X9_digest_189 4) a 0
  have v : ∀ j : Nat, j < 80 → vp_in (nI j) 80 := fun j hj => vnI hj (by omega)
  have e3 : l_X9_digest_189 2 (M (M (M a 0) 1) 7) 3 μ = l_X9_digest_189 1 (M (M (M (M a 0) 1) 7) 39) 4 μ ∧ (bl_X9_digest_189 1 (M (M (M (M a 0) 1) 7) 39) 4 μ → bl_X9_digest_189 2 (M (M (M a 0) 1) 7) 3 μ) := by
    refine ⟨?_, fun hk => ?_⟩
    · rw [show (2 : Nat) = 1 + 1 from rfl, l_X9_digest_189, if_neg (show ¬ (4 : Int32) ≤ 3 by decide), if_pos (show (2 : Int32) ≤ 3 by decide), if_neg (show ¬ (3 : Int32) = 2 by decide)]; exact k3.1
    · rw [show (2 : Nat) = 1 + 1 from rfl, bl_X9_digest_189, if_neg (show ¬ (4 : Int32) ≤ 3 by decide), if_pos (show (2 : Int32) ≤ 3 by decide), if_neg (show ¬ (3 : Int32) = 2 by decide)]; exact ⟨v 78 (by omega), v 79 (by omega), k3.2 hk⟩
  have e2 : l_X9_digest_189 3 (M (M a 0) 1) 2 μ = l_X9_digest_189 2 (M (M (M a 0) 1) 7) 3 μ ∧ (bl_X9_digest_189 2 (M (M (M a 0) 1) 7) 3 μ → bl_X9_digest_189 3 (M (M a 0) 1) 2 μ) := by
    refine ⟨?_, fun hk => ?_⟩
    · rw [show (3 : Nat) = 2 + 1 from rfl, l_X9_digest_189, if_neg (show ¬ (4 : Int32) ≤ 2 by decide), if_pos (show (2 : Int32) ≤ 2 by decide), if_pos rfl]; exact k2.1
    · rw [show (3 : Nat) = 2 + 1 from rfl, bl_X9_digest_189, if_neg (show ¬ (4 : Int32) ≤ 2 by decide), if_pos (show (2 : Int32) ≤ 2 by decide), if_pos rfl]; exact ⟨v 14 (by omega), v 15 (by omega), k2.2 hk⟩
  have e1 : l_X9_digest_189 4 (M a 0) 1 μ = l_X9_digest_189 3 (M (M a 0) 1) 2 μ ∧ (bl_X9_digest_189 3 (M (M a 0) 1) 2 μ → bl_X9_digest_189 4 (M a 0) 1 μ) := by
    refine ⟨?_, fun hk => ?_⟩
    · rw [show (4 : Nat) = 3 + 1 from rfl, l_X9_digest_189, if_neg (show ¬ (4 : Int32) ≤ 1 by decide), if_neg (show ¬ (2 : Int32) ≤ 1 by decide)]; exact k1.1
    · rw [show (4 : Nat) = 3 + 1 from rfl, bl_X9_digest_189, if_neg (show ¬ (4 : Int32) ≤ 1 by decide), if_neg (show ¬ (2 : Int32) ≤ 1 by decide)]; exact ⟨v 2 (by omega), v 3 (by omega), k1.2 hk⟩
  have e0 : l_X9_digest_189 (fu 5) a 0 μ = l_X9_digest_189 4 (M a 0) 1 μ ∧ (bl_X9_digest_189 4 (M a 0) 1 μ → bl_X9_digest_189 (fu 5) a 0 μ) := by
    refine ⟨?_, fun hk => ?_⟩
    · rw [fu_eq, show (5 : Nat) = 4 + 1 from rfl, l_X9_digest_189, if_neg (show ¬ (4 : Int32) ≤ 0 by decide), if_neg (show ¬ (2 : Int32) ≤ 0 by decide)]; exact k0.1
    · rw [fu_eq, show (5 : Nat) = 4 + 1 from rfl, bl_X9_digest_189, if_neg (show ¬ (4 : Int32) ≤ 0 by decide), if_neg (show ¬ (2 : Int32) ≤ 0 by decide)]; exact ⟨v 0 (by omega), v 1 (by omega), k0.2 hk⟩
  rw [e0.1, e1.1, e2.1, e3.1]
  exact ⟨e0.2 (e1.2 (e2.2 (e3.2 en.1))), en.2⟩
/-- the hill's places -/
theorem dig_hill {c μ : Mem} {p : Nat} (hp : p ≤ 16) (c8 : c 8 2 = nI p) (m10 : μ 0 10 = nI p) (hs : ∀ j, j < p → c 9 j = μ 8 j) (hb : ∀ j, j < p → c 10 j = μ 9 j) : ∀ (r t f1 f2 : Nat) (a h : Int64), t + r = p → r < f1 → r < f2 →
    l_X9_digest_137 f2 h (nI t) μ = l_X9_digest_189 (fu 5) (l_X8_mixedHill_5 f1 a h (nI t) c) 0 μ ∧ (bl_X9_digest_189 (fu 5) (l_X8_mixedHill_5 f1 a h (nI t) c) 0 μ → bl_X9_digest_137 f2 h (nI t) μ) := by
  intro r
  induction r with
  | zero =>
    intro t f1 f2 a h ht h1 h2
    obtain ⟨f1, rfl⟩ : ∃ f', f1 = f' + 1 := ⟨f1 - 1, by omega⟩
    obtain ⟨f2, rfl⟩ : ∃ f', f2 = f' + 1 := ⟨f2 - 1, by omega⟩
    have c1 : nI p ≤ nI t := by rw [nIle (by omega) (by omega)]; omega
    rw [l_X8_mixedHill_5, l_X9_digest_137, bl_X9_digest_137]
    unfold f_X6_size
    rw [c8, m10, if_pos c1, if_pos c1, if_pos c1]; exact ⟨rfl, id⟩
  | succ r ih =>
    intro t f1 f2 a h ht h1 h2
    obtain ⟨f1, rfl⟩ : ∃ f', f1 = f' + 1 := ⟨f1 - 1, by omega⟩
    obtain ⟨f2, rfl⟩ : ∃ f', f2 = f' + 1 := ⟨f2 - 1, by omega⟩
    have c1 : ¬ nI p ≤ nI t := by rw [nIle (by omega) (by omega)]; omega
    have c2 : ¬ (16 : Int32) ≤ nI t := by rw [show (16 : Int32) = nI 16 from rfl, nIle (by omega) (by omega)]; omega
    have v : vp_in (nI t) 16 := vnI (by omega) (by omega)
    have e0 : f_X8_hill c (nI t) 0 = μ 8 t := by
      unfold f_X8_hill f_X6_size
      rw [if_neg (nInn (by omega)), c8, if_neg c1, z01, if_pos (Or.inl rfl), if_neg i10, if_pos rfl]
      unfold f_X6_steepAt
      rw [c8, nI_m1 (by omega), if_neg (show ¬ nI (p - 1) < nI t by rw [nIlt (by omega) (by omega)]; omega), if_neg (nInn (by omega)), if_neg c2, nIc (by omega)]
      exact hs t (by omega)
    have e1 : f_X8_hill c (nI t) 1 = if μ 9 t = 0 then 0 else 1 := by
      unfold f_X8_hill f_X6_size
      rw [if_neg (nInn (by omega)), c8, if_neg c1, z01, if_pos (Or.inr rfl), if_neg i10, if_neg i10]
      unfold f_X6_bendsAt
      rw [c8, if_neg (nInn (by omega)), if_neg c1, if_neg c2, nIc (by omega), hb t (by omega)]
      by_cases z : μ 9 t = 0
      · rw [if_pos z, if_pos rfl]
      · rw [if_neg z, if_neg i10]
    rw [l_X8_mixedHill_5, l_X9_digest_137, bl_X9_digest_137]
    unfold f_X6_size
    rw [c8, m10, if_neg c1, if_neg c1, if_neg c1, nIc (by omega), nI_1, e0, e1]
    unfold f_X8_mixed
    by_cases z : μ 9 t = 0
    · rw [if_pos z, if_pos z, if_pos z]
      have nx := ih (t + 1) f1 f2 a (31 * (31 * h + (μ 8 t).toInt64) + (0 : Int32).toInt64) (by omega) (by omega) (by omega)
      exact ⟨nx.1, fun hk => ⟨v, v, nx.2 hk⟩⟩
    · rw [if_neg z, if_neg z, if_neg z]
      have nx := ih (t + 1) f1 f2 a (31 * (31 * h + (μ 8 t).toInt64) + (1 : Int32).toInt64) (by omega) (by omega) (by omega)
      exact ⟨nx.1, fun hk => ⟨v, v, nx.2 hk⟩⟩
/-- the wagons -/
theorem dig_wag {c m μ : Mem} (h : R c m) (l2 : LM m μ) : ∀ (r t f1 f2 : Nat) (a x : Int64), t + r = tN (m 5) (N0 m) → r < f1 → r < f2 →
    l_X9_digest_61 f2 x (nI t) μ = l_X9_digest_137 (fu 17) (l_X8_mixedWagons_5 f1 a x (nI t) c) 0 μ ∧ (bl_X9_digest_137 (fu 17) (l_X8_mixedWagons_5 f1 a x (nI t) c) 0 μ → bl_X9_digest_61 f2 x (nI t) μ) := by
  obtain ⟨hT, hE, hG, hD, hS, hF, hV, hB⟩ := id h
  have w := vw_of hV hG hT l2.1 l2.2.2.2.1.2.2.2.2.2.2.1
  have hn := w.1
  intro r
  induction r with
  | zero =>
    intro t f1 f2 a x ht h1 h2
    obtain ⟨f1, rfl⟩ : ∃ f', f1 = f' + 1 := ⟨f1 - 1, by omega⟩
    obtain ⟨f2, rfl⟩ : ∃ f', f2 = f' + 1 := ⟨f2 - 1, by omega⟩
    have c1 : nI (tN (m 5) (N0 m)) ≤ nI t := by rw [nIle (by omega) (by omega)]; omega
    rw [l_X8_mixedWagons_5, l_X9_digest_61, bl_X9_digest_61]
    unfold f_X1_size
    rw [w.2.1, w.2.2.1, if_pos c1, if_pos c1, if_pos c1]; exact ⟨rfl, id⟩
  | succ r ih =>
    intro t f1 f2 a x ht h1 h2
    obtain ⟨f1, rfl⟩ : ∃ f', f1 = f' + 1 := ⟨f1 - 1, by omega⟩
    obtain ⟨f2, rfl⟩ : ∃ f', f2 = f' + 1 := ⟨f2 - 1, by omega⟩
    have c1 : ¬ nI (tN (m 5) (N0 m)) ≤ nI t := by rw [nIle (by omega) (by omega)]; omega
    have c2 : ¬ (12 : Int32) ≤ nI t := by rw [show (12 : Int32) = nI 12 from rfl, nIle (by omega) (by omega)]; omega
    have c3 : ¬ nI (tN (m 5) (N0 m)) < nI t := by rw [nIlt (by omega) (by omega)]; omega
    have c4 : ¬ nI (tN (m 5) (N0 m)) = 0 := nI_ne0 (by omega) (by omega)
    have v : vp_in (nI t) 12 := vnI (by omega) (by omega)
    have e0 : f_X8_wagon c (nI t) = μ 7 t := by
      unfold f_X8_wagon f_X1_size
      rw [if_neg (nInn (by omega)), w.2.1, if_neg c1]
      unfold f_X1_weightOf
      rw [if_neg (nInn (by omega)), w.2.1, if_neg c1, if_neg c2, nIc (by omega)]
      exact w.2.2.2.2.1 t (by omega)
    have e1 : ∀ y : Int32, y = 0 ∨ y = 1 → b_X9_strainAt μ 3 (nI t) ∧ b_X9_part μ ((f_X9_strainAt μ 3 (nI t)).toInt64) ((μ 0 9).toInt64) y ∧ f_X8_strain c 3 (nI t) y = f_X9_part μ ((f_X9_strainAt μ 3 (nI t)).toInt64) ((μ 0 9).toInt64) y := by
      intro y hy
      obtain ⟨k1, k2, k3⟩ := strain_ok h l2 (t := 3) (by omega) (k := t) (by omega) (by omega) y
      refine ⟨k1, k2, ?_⟩
      unfold f_X8_strain f_X1_size
      rw [show f_X8_isMinute c 3 = 1 from by unfold f_X8_isMinute; rw [if_neg (by decide), if_neg (by decide)], if_neg i10, if_neg (nInn (by omega)), w.2.1, if_neg c3, z01, if_pos hy, if_neg i10, if_neg c4]
      exact k3
    have s0 := e1 0 (Or.inl rfl)
    have s1 := e1 1 (Or.inr rfl)
    rw [l_X8_mixedWagons_5, l_X9_digest_61, bl_X9_digest_61]
    unfold f_X1_size
    rw [w.2.1, w.2.2.1, if_neg c1, if_neg c1, if_neg c1, nIc (by omega), nI_1, e0, s0.2.2, s1.2.2]
    unfold f_X8_mixed
    have nx := ih (t + 1) f1 f2 a (31 * (31 * (31 * x + (μ 7 t).toInt64) + f_X9_part μ ((f_X9_strainAt μ 3 (nI t)).toInt64) ((μ 0 9).toInt64) 0) + f_X9_part μ ((f_X9_strainAt μ 3 (nI t)).toInt64) ((μ 0 9).toInt64) 1) (by omega) (by omega) (by omega)
    exact ⟨nx.1, fun hk => ⟨v, s0.1, s0.2.1, s1.1, s1.2.1, nx.2 hk⟩⟩
theorem dig_rest {c m : Mem} (h : R c m) (x : Int64) : bl_X9_digest_61 (fu 13) x 0 (f_X9_lives m) ∧ (f_X8_mixedDay (f_X8_mixedStarts c (f_X8_mixedOutcomes c (f_X8_mixedMinutes c (f_X8_mixedHill c (f_X8_mixedWagons c x))))).2 (f_X8_mixedStarts c (f_X8_mixedOutcomes c (f_X8_mixedMinutes c (f_X8_mixedHill c (f_X8_mixedWagons c x))))).1).1 = (l_X9_digest_61 (fu 13) x 0 (f_X9_lives m)).1 ∧ R (f_X8_mixedDay (f_X8_mixedStarts c (f_X8_mixedOutcomes c (f_X8_mixedMinutes c (f_X8_mixedHill c (f_X8_mixedWagons c x))))).2 (f_X8_mixedStarts c (f_X8_mixedOutcomes c (f_X8_mixedMinutes c (f_X8_mixedHill c (f_X8_mixedWagons c x))))).1).2 (l_X9_digest_61 (fu 13) x 0 (f_X9_lives m)).2 := by
  obtain ⟨hT, hE, hG, hD, hS, hF, hV, hB⟩ := id h
  obtain ⟨lb, l2⟩ := lives_eq hT hE hG
  have w := vw_of hV hG hT l2.1 l2.2.2.2.1.2.2.2.2.2.2.1
  have hn := w.1
  have hp := hP_le (B1 m) (N1 m)
  have a1 := dig_wag h l2 (tN (m 5) (N0 m)) 0 (fu ((f_X1_size c).toInt.toNat + 1)) (fu 13) x x (by omega) (by rw [fu_eq]; unfold f_X1_size; rw [w.2.1, nI_t (by omega)]; omega) (by rw [fu_eq]; omega)
  have a2 := dig_hill (c := c) (μ := f_X9_lives m) hp hV.2.1.1 l2.2.1.1 (fun j hj => by rw [(hV.2.1.2.2.2 j hj).1, (l2.2.1.2 j hj).1]) (fun j hj => by rw [(hV.2.1.2.2.2 j hj).2, (l2.2.1.2 j hj).2]) (hP (B1 m) (N1 m)) 0 (fu ((f_X6_size c).toInt.toNat + 1)) (fu 17) (f_X8_mixedWagons c x) (f_X8_mixedWagons c x) (by omega) (by rw [fu_eq]; unfold f_X6_size; rw [hV.2.1.1, nI_t (by omega)]; omega) (by rw [fu_eq]; omega)
  have a3 := dig_min h rfl (f_X8_mixedHill c (f_X8_mixedWagons c x))
  have e1 : l_X9_digest_61 (fu 13) x 0 (f_X9_lives m) = l_X9_digest_189 (fu 5) (f_X8_mixedHill c (f_X8_mixedWagons c x)) 0 (f_X9_lives m) := a1.1.trans a2.1
  rw [e1]
  exact ⟨a1.2 (a2.2 a3.1), a3.2⟩
theorem dig_l : ∀ (r b f1 f2 : Nat) (x : Int64) (c m : Mem), b + r = 8 → r < f1 → r < f2 → R c m → bl_X9_digest_6 f2 x (nI b) m ∧ (l_X8_digest_6 f1 x (nI b) c).1 = (l_X9_digest_6 f2 x (nI b) m).1 ∧ R (l_X8_digest_6 f1 x (nI b) c).2 (l_X9_digest_6 f2 x (nI b) m).2 := by
  intro r
  induction r with
  | zero =>
    intro b f1 f2 x c m hb h1 h2 h
    obtain ⟨f1, rfl⟩ : ∃ f', f1 = f' + 1 := ⟨f1 - 1, by omega⟩
    obtain ⟨f2, rfl⟩ : ∃ f', f2 = f' + 1 := ⟨f2 - 1, by omega⟩
    have e : b = 8 := by omega
    subst e
    have c1 : (7 : Int32) < nI 8 := by decide
    have c2 : (8 : Int32) ≤ nI 8 := by decide
    obtain ⟨b1, b2, -⟩ := readsTrain_eq (B := m 5) h.1.1 h.1.2.1 (fun _ _ => rfl)
    have hA := h.prim (readsT_prim h.1)
    obtain ⟨d1, d2, -⟩ := readsHill_eq (B := B1 (f_X9_readsTrain m).2) hA.1.2.2.1 hA.1.2.2.2.1 (fun _ _ => rfl)
    have hC := hA.prim (readsH_prim hA.1)
    have lb := (lives_eq hC.1 hC.2.1 hC.2.2.1).1
    have f0 : f_X8_fault c 0 = (f_X9_readsTrain m).1 := by unfold f_X8_fault; rw [if_pos rfl, if_pos rfl, b2]; exact h.2.2.2.2.2.2.1.1.2.2.1
    have f1' : f_X8_fault c 1 = (f_X9_readsHill (f_X9_readsTrain m).2).1 := by unfold f_X8_fault; rw [if_neg i10, if_pos rfl, if_neg i10, d2]; exact hA.2.2.2.2.2.2.1.2.1.2.2.1
    have k := dig_rest hC (31 * (31 * x + ((f_X9_readsTrain m).1).toInt64) + ((f_X9_readsHill (f_X9_readsTrain m).2).1).toInt64)
    rw [l_X8_digest_6, l_X9_digest_6, bl_X9_digest_6, if_pos c1, if_pos c2, if_pos c2, f0, f1']
    exact ⟨⟨b1, d1, lb, k.1⟩, k.2⟩
  | succ r ih =>
    intro b f1 f2 x c m hb h1 h2 h
    obtain ⟨f1, rfl⟩ : ∃ f', f1 = f' + 1 := ⟨f1 - 1, by omega⟩
    obtain ⟨f2, rfl⟩ : ∃ f', f2 = f' + 1 := ⟨f2 - 1, by omega⟩
    have c1 : ¬ (7 : Int32) < nI b := by rw [show (7 : Int32) = nI 7 from rfl, nIlt (by omega) (by omega)]; omega
    have c2 : ¬ (8 : Int32) ≤ nI b := by rw [show (8 : Int32) = nI 8 from rfl, nIle (by omega) (by omega)]; omega
    have o := op_count h (nI b)
    have nx := ih (b + 1) f1 f2 (31 * x + ((f_X9_count m (nI b)).1).toInt64) c (f_X9_count m (nI b)).2 (by omega) (by omega) (by omega) o.2.2
    rw [l_X8_digest_6, l_X9_digest_6, bl_X9_digest_6, if_neg c1, if_neg c2, if_neg c2, nI_1]
    unfold f_X8_mixed
    rw [show f_X8_count c (nI b) = (f_X9_count m (nI b)).1 from o.2.1]
    exact ⟨⟨o.1, nx.1⟩, nx.2⟩
theorem op_digest {c m : Mem} (h : R c m) : OPL (f_X8_digest c) (f_X9_digest m) (b_X9_digest m) :=
  dig_l 8 0 (fu 9) (fu 9) 17 c m (by omega) (by rw [fu_eq]; omega) (by rw [fu_eq]; omega) h
/-- what the class' contracts ask for -/
theorem R.CI {c m : Mem} (h : R c m) : CI c := by
  have hn := tN_le (m 5) (N0 m)
  have h12 := h.1.2.1
  refine ⟨⟨?_, ?_⟩, fun k hk => ?_⟩
  · rw [h.2.2.2.2.2.2.1.1.1]; exact nI_pos' (by omega)
  · rw [h.2.2.2.2.2.2.1.1.1, show (12 : Int32) = nI 12 from rfl, nIle (by omega) (by omega)]; omega
  · have key : ∀ s, s < 4 → 0 ≤ c (31 + 2 * s) 2 ∧ c (31 + 2 * s) 2 ≤ 60 := fun s hs => by
      have q := (h.2.2.2.2.1 s hs).2.2.1
      rw [Int32.le_iff_toInt_le, Int32.le_iff_toInt_le, Int32.toInt_zero, show (60 : Int32).toInt = 60 by decide]; exact q
    rcases hk with rfl | rfl | rfl | rfl
    · exact key 0 (by omega)
    · exact key 1 (by omega)
    · exact key 2 (by omega)
    · exact key 3 (by omega)
