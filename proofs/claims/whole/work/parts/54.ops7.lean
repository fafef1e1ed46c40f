/-! squeezed off -/
theorem squ_l {c m : Mem} {n : Nat} (v : VW c m n) (a b : Int32) : ∀ (r d f1 f2 : Nat), d + r = n → r < f1 → r < f2 → bl_X9_squeezedOff_2 f2 a b (nI d) m ∧ l_X1_firstSqueezed_3 f1 a b (m 11 1) (nI d) c = l_X9_squeezedOff_2 f2 a b (nI d) m ∧ (l_X9_squeezedOff_2 f2 a b (nI d) m = -1 ∨ ∃ j, j < n ∧ l_X9_squeezedOff_2 f2 a b (nI d) m = nI j) := by
  have hn := v.1
  intro r
  induction r with
  | zero =>
    intro d f1 f2 hd h1 h2
    obtain ⟨f1, rfl⟩ : ∃ f', f1 = f' + 1 := ⟨f1 - 1, by omega⟩
    obtain ⟨f2, rfl⟩ : ∃ f', f2 = f' + 1 := ⟨f2 - 1, by omega⟩
    have c1 : nI n ≤ nI d := by rw [nIle (by omega) (by omega)]; omega
    rw [l_X1_firstSqueezed_3, l_X9_squeezedOff_2, bl_X9_squeezedOff_2, v.2.1, v.2.2.1, if_pos c1, if_pos c1, if_pos c1]; exact ⟨trivial, rfl, Or.inl rfl⟩
  | succ r ih =>
    intro d f1 f2 hd h1 h2
    obtain ⟨f1, rfl⟩ : ∃ f', f1 = f' + 1 := ⟨f1 - 1, by omega⟩
    obtain ⟨f2, rfl⟩ : ∃ f', f2 = f' + 1 := ⟨f2 - 1, by omega⟩
    have c1 : ¬ nI n ≤ nI d := by rw [nIle (by omega) (by omega)]; omega
    have c12 : ¬ (12 : Int32) ≤ nI d := by rw [show (12 : Int32) = nI 12 from rfl, nIle (by omega) (by omega)]; omega
    have s1 := strainBy_eq v (k := d) (by omega) a b
    have s2 := strainBy_eq v (k := d + 1) (by omega) a b
    have ew : f_X1_weightOf c (nI d) = m 7 d := by
      unfold f_X1_weightOf
      rw [if_neg (nInn (by omega)), v.2.1, if_neg c1, if_neg c12, nIc (by omega)]; exact v.2.2.2.2.1 d (by omega)
    have vd : vp_in (nI d) 12 := vnI (by omega) (by omega)
    have nx := ih (d + 1) f1 f2 (by omega) (by omega) (by omega)
    rw [l_X1_firstSqueezed_3, l_X9_squeezedOff_2, bl_X9_squeezedOff_2, v.2.1, v.2.2.1, if_neg c1, if_neg c1, if_neg c1, ew, cl1, nIc (by omega), v.2.2.2.1, nI_1, s1.2, s2.2]
    by_cases q1 : -(f_X1_strainTimesWhole c (nI d) a b) ≤ m 11 1 * m 7 d * m 0 9
    · rw [if_pos q1, if_pos q1, if_pos q1]
      have e : (if -(f_X1_strainTimesWhole c (nI (d + 1)) a b) ≤ m 11 1 * m 7 d * m 0 9 then l_X1_firstSqueezed_3 f1 a b (m 11 1) (nI (d + 1)) c else l_X1_firstSqueezed_3 f1 a b (m 11 1) (nI (d + 1)) c) = l_X1_firstSqueezed_3 f1 a b (m 11 1) (nI (d + 1)) c := by split <;> rfl
      rw [e]
      exact ⟨⟨vd, s1.1, nx.1⟩, nx.2⟩
    · rw [if_neg q1, if_neg q1, if_neg q1]
      by_cases q2 : -(f_X1_strainTimesWhole c (nI (d + 1)) a b) ≤ m 11 1 * m 7 d * m 0 9
      · rw [if_pos q2, if_pos q2, if_pos q2]; exact ⟨⟨vd, s1.1, s2.1, nx.1⟩, nx.2⟩
      · rw [if_neg q2, if_neg q2, if_neg q2]; exact ⟨⟨vd, s1.1, s2.1, trivial⟩, rfl, Or.inr ⟨d, by omega, rfl⟩⟩
theorem squ_eq {c m : Mem} {n : Nat} (v : VW c m n) (a b : Int32) : b_X9_squeezedOff m a b ∧ f_X1_firstSqueezed c a b (m 11 1) = f_X9_squeezedOff m a b := by
  have hn := v.1
  unfold b_X9_squeezedOff f_X9_squeezedOff f_X1_firstSqueezed
  rw [v.2.1]
  have := squ_l v a b n 0 (fu ((nI n).toInt.toNat + 1)) (fu 13) (by omega) (by rw [fu_eq, nI_t (by omega)]; omega) (by rw [fu_eq]; omega)
  exact ⟨this.1, this.2.1⟩
theorem off_l {c m : Mem} {n p : Nat} {F : Nat → Nat} (w : VW c m n) (v : VR c m p F) (a : Int32) : ∀ (r t f1 f2 : Nat), t + r = 40 → r < f1 → r < f2 → bl_X9_offOf_2 f2 a (nI t) m ∧ l_X8_off_12 f1 a (nI t) c = l_X9_offOf_2 f2 a (nI t) m := by
  have hp := v.1
  intro r
  induction r with
  | zero =>
    intro t f1 f2 ht h1 h2
    obtain ⟨f1, rfl⟩ : ∃ f', f1 = f' + 1 := ⟨f1 - 1, by omega⟩
    obtain ⟨f2, rfl⟩ : ∃ f', f2 = f' + 1 := ⟨f2 - 1, by omega⟩
    have e : t = 40 := by omega
    subst e
    rw [l_X8_off_12, l_X9_offOf_2, bl_X9_offOf_2, if_pos (by decide), if_pos (by decide), if_pos (by decide)]; exact ⟨trivial, rfl⟩
  | succ r ih =>
    intro t f1 f2 ht h1 h2
    obtain ⟨f1, rfl⟩ : ∃ f', f1 = f' + 1 := ⟨f1 - 1, by omega⟩
    obtain ⟨f2, rfl⟩ : ∃ f', f2 = f' + 1 := ⟨f2 - 1, by omega⟩
    have c1 : ¬ (40 : Int32) ≤ nI t := by rw [show (40 : Int32) = nI 40 from rfl, nIle (by omega) (by omega)]; omega
    obtain ⟨p1, p2, p3, p4⟩ := placeIn_eq v (t := t) (by omega)
    have q := squ_eq w (m 12 (2 * t)) (m 12 (2 * t + 1))
    have nx := ih (t + 1) f1 f2 (by omega) (by omega) (by omega)
    have v1 : vp_in (nI (2 * t)) 80 := vnI (by omega) (by omega)
    have v2 : vp_in (nI (2 * t + 1)) 80 := vnI (by omega) (by omega)
    have e1 : f_X3_at c 15 3 4 5 1 = m 11 1 := by rw [show (1 : Int32) = nI 1 from rfl, at_eq (by omega) (by omega)]; exact w.2.2.2.2.2.2.2.2 1 (by omega)
    rw [l_X8_off_12, l_X9_offOf_2, bl_X9_offOf_2, if_neg c1, if_neg c1, if_neg c1, p2, nI_1, two_t, nI_1, nIc (show 2 * t < 2147483648 by omega), nIc (show 2 * t + 1 < 2147483648 by omega)]
    unfold f_X8_squeezedOffIn
    rw [p1, given0 (by omega), given1 (by omega), (v.2.2.2.2.2 t (by omega)).1, (v.2.2.2.2.2 t (by omega)).2.1, e1, q.2]
    unfold f_X6_bendsAt
    rw [v.2.1, if_neg (nInn (show F t / 10 < 2147483648 by omega))]
    by_cases z : p ≤ F t / 10
    · have z' : nI p ≤ nI (F t / 10) := by rw [nIle (by omega) (by omega)]; exact z
      rw [if_pos z', if_pos z, if_pos rfl, if_pos rfl, if_pos rfl, if_pos rfl]
      exact ⟨⟨p3, nx.1⟩, nx.2⟩
    · have z' : ¬ nI p ≤ nI (F t / 10) := by rw [nIle (by omega) (by omega)]; exact z
      have z16 : ¬ (16 : Int32) ≤ nI (F t / 10) := by rw [show (16 : Int32) = nI 16 from rfl, nIle (by omega) (by omega)]; omega
      have zm : ¬ nI (F t / 10) = -1 := m1ne (by omega)
      have vf : vp_in (nI (F t / 10)) 16 := vnI (by omega) (by omega)
      rw [if_neg z', if_neg z, if_neg z16, if_neg zm, if_neg zm, nIc (by omega), v.2.2.2.1 (F t / 10) (by omega)]
      by_cases bd : m 9 (F t / 10) = 0
      · rw [if_pos bd, if_pos bd, if_pos bd, if_pos rfl, if_pos rfl]; exact ⟨⟨p3, vf, nx.1⟩, nx.2⟩
      · rw [if_neg bd, if_neg bd, if_neg bd, if_neg i10]
        by_cases qq : f_X9_squeezedOff m (m 12 (2 * t)) (m 12 (2 * t + 1)) = -1
        · rw [if_pos qq, if_pos qq, if_pos qq]; exact ⟨⟨p3, vf, v1, v2, q.1, nx.1⟩, nx.2⟩
        · rw [if_neg qq, if_neg qq, if_neg qq]
          refine ⟨⟨p3, vf, v1, v2, q.1, ?_⟩, rfl⟩
          split <;> trivial
theorem offOf_eq {c m : Mem} {n p : Nat} {F : Nat → Nat} (w : VW c m n) (v : VR c m p F) (a : Int32) : b_X9_offOf m a ∧ l_X8_off_12 (fu 41) a 0 c = f_X9_offOf m a := by
  unfold b_X9_offOf f_X9_offOf
  exact off_l w v a 40 0 _ _ (by omega) (by rw [fu_eq]; omega) (by rw [fu_eq]; omega)
theorem op_off {c m : Mem} (h : R c m) (a : Int32) : OP (f_X8_off c a, c) (f_X9_off m a) (b_X9_off m a) := by
  obtain ⟨hT, hE, hG, hD, hS, hF, hV, hB⟩ := id h
  obtain ⟨l1, l2⟩ := lives_eq hT hE hG
  have hp := h.prim l2.2.2.2.1
  have q := offOf_eq (vw_of hV hG hT l2.1 l2.2.2.2.1.2.2.2.2.2.2.1) (vr_of hV hE hG l2) a
  unfold f_X8_off f_X9_off b_X9_off
  rw [z01, isTwo_eq]
  by_cases h0 : a = 0 ∨ a = 1
  · rw [if_pos h0, if_neg i10, if_neg i10, if_neg i10]; exact ⟨⟨l1, q.1, trivial⟩, q.2, hp⟩
  · rw [if_neg h0, if_pos rfl, if_pos rfl, if_pos rfl]; exact ⟨⟨l1, trivial⟩, rfl, hp⟩
/-! over -/
theorem over0 (m : Mem) (h : m 0 10 = 0) : ∀ (r t f : Nat), t + r = 40 → r < f → bl_X9_overNow_2 f (nI t) m ∧ l_X9_overNow_2 f (nI t) m = -1 := by
  intro r
  induction r with
  | zero =>
    intro t f ht hf
    obtain ⟨f, rfl⟩ : ∃ f', f = f' + 1 := ⟨f - 1, by omega⟩
    have e : t = 40 := by omega
    subst e
    rw [l_X9_overNow_2, bl_X9_overNow_2, if_pos (by decide), if_pos (by decide)]; exact ⟨trivial, rfl⟩
  | succ r ih =>
    intro t f ht hf
    obtain ⟨f, rfl⟩ : ∃ f', f = f' + 1 := ⟨f - 1, by omega⟩
    have c1 : ¬ (40 : Int32) ≤ nI t := by rw [show (40 : Int32) = nI 40 from rfl, nIle (by omega) (by omega)]; omega
    have c2 : m 0 10 ≤ 0 := by rw [h]; decide
    rw [l_X9_overNow_2, bl_X9_overNow_2, if_neg c1, if_neg c1, if_pos c2, if_pos c2, nI_1]
    exact ih (t + 1) f (by omega) (by omega)
theorem over_l {c m : Mem} {p : Nat} {F : Nat → Nat} (v : VR c m p F) (hp0 : 0 < p) : ∀ (r t f1 f2 : Nat), t + r = 40 → r < f1 → r < f2 → bl_X9_overNow_2 f2 (nI t) m ∧ l_X8_over_14 f1 (nI t) c = l_X9_overNow_2 f2 (nI t) m := by
  have hp := v.1
  intro r
  induction r with
  | zero =>
    intro t f1 f2 ht h1 h2
    obtain ⟨f1, rfl⟩ : ∃ f', f1 = f' + 1 := ⟨f1 - 1, by omega⟩
    obtain ⟨f2, rfl⟩ : ∃ f', f2 = f' + 1 := ⟨f2 - 1, by omega⟩
    have e : t = 40 := by omega
    subst e
    rw [l_X8_over_14, l_X9_overNow_2, bl_X9_overNow_2, if_pos (by decide), if_pos (by decide), if_pos (by decide)]; exact ⟨trivial, rfl⟩
  | succ r ih =>
    intro t f1 f2 ht h1 h2
    obtain ⟨f1, rfl⟩ : ∃ f', f1 = f' + 1 := ⟨f1 - 1, by omega⟩
    obtain ⟨f2, rfl⟩ : ∃ f', f2 = f' + 1 := ⟨f2 - 1, by omega⟩
    have c1 : ¬ (40 : Int32) ≤ nI t := by rw [show (40 : Int32) = nI 40 from rfl, nIle (by omega) (by omega)]; omega
    obtain ⟨p1, p2, p3, p4⟩ := placeIn_eq v (t := t) (by omega)
    have nx := ih (t + 1) f1 f2 (by omega) (by omega) (by omega)
    have c2 : ¬ nI p ≤ 0 := nI_nle hp0 (by omega)
    rw [l_X8_over_14, l_X9_overNow_2, bl_X9_overNow_2, if_neg c1, if_neg c1, if_neg c1, p1, p2, v.2.2.1, if_neg c2, if_neg c2, nI_1]
    unfold f_X6_size
    rw [v.2.1]
    by_cases z : p ≤ F t / 10
    · have z' : ¬ nI (F t / 10) < nI p := by rw [nIlt (by omega) (by omega)]; omega
      rw [if_neg z', if_pos z, if_pos rfl, if_pos rfl]; exact ⟨⟨p3, trivial⟩, rfl⟩
    · have z' : nI (F t / 10) < nI p := by rw [nIlt (by omega) (by omega)]; omega
      have zm : ¬ nI (F t / 10) = -1 := m1ne (by omega)
      rw [if_pos z', if_neg z, if_neg zm, if_neg zm]; exact ⟨⟨p3, nx.1⟩, nx.2⟩
theorem overNow_eq {c m : Mem} {p : Nat} {F : Nat → Nat} (v : VR c m p F) : b_X9_overNow m ∧ f_X8_over c = f_X9_overNow m := by
  have hp := v.1
  unfold b_X9_overNow f_X9_overNow f_X8_over f_X6_size
  rw [v.2.1]
  rcases Nat.eq_zero_or_pos p with e | e
  · subst e
    have := over0 m (by rw [v.2.2.1]; rfl) 40 0 (fu 41) (by omega) (by rw [fu_eq]; omega)
    rw [if_pos (show nI 0 = 0 from rfl)]
    exact ⟨this.1, this.2.symm⟩
  · rw [if_neg (nI_ne0 e (by omega))]
    exact over_l v e 40 0 _ _ (by omega) (by rw [fu_eq]; omega) (by rw [fu_eq]; omega)
theorem op_over {c m : Mem} (h : R c m) : OP (f_X8_over c, c) (f_X9_over m) (b_X9_over m) := by
  obtain ⟨hT, hE, hG, hD, hS, hF, hV, hB⟩ := id h
  obtain ⟨l1, l2⟩ := lives_eq hT hE hG
  have q := overNow_eq (vr_of hV hE hG l2)
  exact ⟨⟨l1, q.1, trivial⟩, q.2, h.prim l2.2.2.2.1⟩
/-! alike -/
theorem alike_eq {c m : Mem} {p : Nat} {F : Nat → Nat} (v : VR c m p F) {s t : Nat} (hs : s < 40) (ht : t < 40) : b_X9_isAlike m (nI s) (nI t) ∧ f_X4_givesAlike c (nI s) (nI t) = f_X9_isAlike m (nI s) (nI t) := by
  have v1 : vp_in (nI (2 * s)) 80 := vnI (by omega) (by omega)
  have v2 : vp_in (nI (2 * s + 1)) 80 := vnI (by omega) (by omega)
  have v3 : vp_in (nI (2 * t)) 80 := vnI (by omega) (by omega)
  have v4 : vp_in (nI (2 * t + 1)) 80 := vnI (by omega) (by omega)
  unfold b_X9_isAlike f_X4_givesAlike f_X9_isAlike
  rw [given0 hs, given1 hs, given0 ht, given1 ht, (v.2.2.2.2.2 s hs).1, (v.2.2.2.2.2 s hs).2.1, (v.2.2.2.2.2 t ht).1, (v.2.2.2.2.2 t ht).2.1, two_t, two_t, nI_1, nI_1, nIc (by omega), nIc (by omega), nIc (by omega), nIc (by omega)]
  refine ⟨⟨v1, v3, ?_⟩, rfl⟩
  split
  · refine ⟨v2, v4, ?_⟩
    split <;> trivial
  · trivial
theorem set0 (m : Mem) (a : Int32) : ∀ (r f : Nat), r < f → r ≤ 39 → bl_X9_settlesNow_7 f a 0 (nI r + -1) m ∧ l_X9_settlesNow_7 f a 0 (nI r + -1) m = a := by
  intro r
  induction r with
  | zero =>
    intro f hf _
    obtain ⟨f, rfl⟩ : ∃ f', f = f' + 1 := ⟨f - 1, by omega⟩
    rw [l_X9_settlesNow_7, bl_X9_settlesNow_7, if_pos (by decide), if_pos (by decide)]; exact ⟨trivial, rfl⟩
  | succ r ih =>
    intro f hf hr
    obtain ⟨f, rfl⟩ : ∃ f', f = f' + 1 := ⟨f - 1, by omega⟩
    rw [pk_m1, l_X9_settlesNow_7, bl_X9_settlesNow_7, if_neg (nInn (by omega)), if_neg (nInn (by omega)), if_pos rfl, if_pos rfl]
    exact ih f (by omega) (by omega)
theorem settles_l {c m : Mem} {p : Nat} {F : Nat → Nat} (v : VR c m p F) : ∀ (r : Nat) (a : Int32) (f1 f2 : Nat), r < f1 → r < f2 → r ≤ 39 → (m 12 (2 * r) = m 12 78 ∧ m 12 (2 * r + 1) = m 12 79) →
    bl_X9_settlesNow_7 f2 a 1 (nI r + -1) m ∧ l_X8_settles_5 f1 a (nI r + -1) c = l_X9_settlesNow_7 f2 a 1 (nI r + -1) m := by
  intro r
  induction r with
  | zero =>
    intro a f1 f2 h1 h2 _ _
    obtain ⟨f1, rfl⟩ : ∃ f', f1 = f' + 1 := ⟨f1 - 1, by omega⟩
    obtain ⟨f2, rfl⟩ : ∃ f', f2 = f' + 1 := ⟨f2 - 1, by omega⟩
    rw [l_X8_settles_5, l_X9_settlesNow_7, bl_X9_settlesNow_7, if_pos (by decide), if_pos (by decide), if_pos (by decide)]; exact ⟨trivial, rfl⟩
  | succ r ih =>
    intro a f1 f2 h1 h2 hr he
    obtain ⟨f1, rfl⟩ : ∃ f', f1 = f' + 1 := ⟨f1 - 1, by omega⟩
    obtain ⟨f2, rfl⟩ : ∃ f', f2 = f' + 1 := ⟨f2 - 1, by omega⟩
    have al := alike_eq v (s := r) (t := r + 1) (by omega) (by omega)
    have e39 : f_X4_givesAlike c (nI r) 39 = f_X9_isAlike m (nI r) (nI (r + 1)) := by
      rw [show (39 : Int32) = nI 39 from rfl, (alike_eq v (s := r) (t := 39) (by omega) (by omega)).2]
      unfold f_X9_isAlike
      rw [two_t, two_t, two_t, nI_1, nI_1, nI_1, nIc (by omega), nIc (by omega), nIc (by omega), nIc (by omega), nIc (by omega), nIc (by omega), he.1, he.2]
    have c1 : ¬ nI r < 0 := nInn (by omega)
    rw [pk_m1, l_X8_settles_5, l_X9_settlesNow_7, bl_X9_settlesNow_7, if_neg c1, if_neg c1, if_neg c1, if_neg i10, if_neg i10, nI_1, e39]
    by_cases q : f_X9_isAlike m (nI r) (nI (r + 1)) = 0
    · rw [if_pos q, if_pos q, if_pos q]
      have := set0 m a r f2 (by omega) (by omega)
      exact ⟨⟨al.1, this.1⟩, this.2.symm⟩
    · rw [if_neg q, if_neg q, if_neg q]
      have hq : m 12 (2 * r) = m 12 (2 * (r + 1)) ∧ m 12 (2 * r + 1) = m 12 (2 * (r + 1) + 1) := by
        unfold f_X9_isAlike at q
        rw [two_t, two_t, nI_1, nI_1, nIc (by omega), nIc (by omega), nIc (by omega), nIc (by omega)] at q
        by_cases z1 : m 12 (2 * r) = m 12 (2 * (r + 1))
        · rw [if_pos z1] at q
          by_cases z2 : m 12 (2 * r + 1) = m 12 (2 * (r + 1) + 1)
          · exact ⟨z1, z2⟩
          · rw [if_neg z2] at q; exact absurd rfl q
        · rw [if_neg z1] at q; exact absurd rfl q
      have := ih (nI r) f1 f2 (by omega) (by omega) (by omega) ⟨hq.1.trans he.1, hq.2.trans he.2⟩
      exact ⟨⟨al.1, this.1⟩, this.2⟩
theorem settlesNow_eq {c m : Mem} {p : Nat} {F : Nat → Nat} (v : VR c m p F) : b_X9_settlesNow m ∧ f_X8_settles c = f_X9_settlesNow m := by
  unfold b_X9_settlesNow f_X9_settlesNow f_X8_settles
  have := settles_l v 39 (-1) (fu 40) (fu 40) (by rw [fu_eq]; omega) (by rw [fu_eq]; omega) (by omega) ⟨rfl, rfl⟩
  rw [show nI 39 + -1 = (38 : Int32) by decide] at this
  exact this
theorem op_settles {c m : Mem} (h : R c m) : OP (f_X8_settles c, c) (f_X9_settles m) (b_X9_settles m) := by
  obtain ⟨hT, hE, hG, hD, hS, hF, hV, hB⟩ := id h
  obtain ⟨l1, l2⟩ := lives_eq hT hE hG
  have q := settlesNow_eq (vr_of hV hE hG l2)
  exact ⟨⟨l1, q.1, trivial⟩, q.2, h.prim l2.2.2.2.1⟩
