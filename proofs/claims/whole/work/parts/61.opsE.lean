/-! late, enough -/
theorem R_day2 {c m c' m' : Mem} (h : R c m) (hc : ∀ q, q < 26 ∨ 30 < q → c' q = c q) (hm : ∀ q, 1 ≤ q → q < 18 → m' q = m q) (h4 : m' 0 4 = m 0 4) (hD : RD c' m') : R c' m' := by
  obtain ⟨hT, hE, hG, -, hS, hF, hV, hB⟩ := h
  have k : ∀ q, q < 26 → c' q = c q := fun q hq => hc q (Or.inl hq)
  refine ⟨(hT.cf (k 1 (by omega)) (k 2 (by omega)) (k 3 (by omega)) (k 4 (by omega))).mf (hm 5 (by decide) (by decide)) (hm 6 (by decide) (by decide)), (hE.cf (k 12 (by omega)) (k 14 (by omega))).mf (hm 10 (by decide) (by decide)), (hG.cf (k 16 (by omega))).mf (hm 11 (by decide) (by decide)), hD, (hS.cf (fun q h1 h2 => hc q (by omega))).mf (hm 1 (by decide) (by decide)) (hm 2 (by decide) (by decide)) (hm 3 (by decide) (by decide)), by rw [k 0 (by omega), h4]; exact hF, (hV.cf (fun q h1 h2 => k q (by omega)) (fun q h1 h2 => k q (by omega))).mf (hm 5 (by decide) (by decide)) (hm 6 (by decide) (by decide)) (hm 10 (by decide) (by decide)) (hm 11 (by decide) (by decide)), (hB.cf (by rw [k 0 (by omega)]) (k 23 (by omega)) (k 25 (by omega))).mf (hm 5 (by decide) (by decide)) (hm 6 (by decide) (by decide)) (hm 10 (by decide) (by decide))⟩
theorem sort_i (K : Int32 → Mem → Mem) (K' : Int32 → Mem → Mem) (bK : Int32 → Mem → Prop) {a : Nat} (ha : a < 12) : ∀ (b f1 f2 : Nat) (c m : Mem), b ≤ a → b < f1 → b < f2 → c 27 a = m 18 a → (∀ j, j ≤ a → j ≠ b → j < a ∨ b < a → c 28 j = m 19 j) →
    ∃ c' m' : Mem, l_X2_sort_18 K f1 (nI a) (nI b) c = K (nI (a + 1)) c' ∧ l_X9_sorts_12 K' f2 (nI a) (nI b) m = K' (nI (a + 1)) m' ∧ (bK (nI (a + 1)) m' → bl_X9_sorts_12 bK f2 (nI a) (nI b) m) ∧ (∀ q, q ≠ 28 → c' q = c q) ∧ (∀ q, q ≠ 19 → m' q = m q) ∧ (∀ j, j ≤ a → c' 28 j = m' 19 j) := by
  intro b
  induction b with
  | zero =>
    intro f1 f2 c m hb h1 h2 e27 hj
    obtain ⟨f1, rfl⟩ : ∃ f', f1 = f' + 1 := ⟨f1 - 1, by omega⟩
    obtain ⟨f2, rfl⟩ : ∃ f', f2 = f' + 1 := ⟨f2 - 1, by omega⟩
    have c1 : nI 0 ≤ (0 : Int32) := by decide
    have va : vp_in (nI a) 12 := vnI ha (by omega)
    refine ⟨mst c 28 0 (c 27 a), mst m 19 0 (m 18 a), ?_, ?_, ?_, fun q hq => mst_ne _ _ _ hq, fun q hq => mst_ne _ _ _ hq, fun j hja => ?_⟩
    · rw [l_X2_sort_18, if_pos c1, nIc (by omega), nIc (by omega), nI_1]
    · rw [l_X9_sorts_12, if_pos c1, nIc (by omega), nIc (by omega), nI_1]
    · intro hk
      rw [bl_X9_sorts_12, if_pos c1, nIc (by omega), nIc (by omega), nI_1]
      exact ⟨va, vnI (by omega) (by omega), hk⟩
    · by_cases e : j = 0
      · subst e; simp [mst, upd, e27]
      · simp [mst, upd, e]; exact hj j hja e (by omega)
  | succ b ih =>
    intro f1 f2 c m hb h1 h2 e27 hj
    obtain ⟨f1, rfl⟩ : ∃ f', f1 = f' + 1 := ⟨f1 - 1, by omega⟩
    obtain ⟨f2, rfl⟩ : ∃ f', f2 = f' + 1 := ⟨f2 - 1, by omega⟩
    have c1 : ¬ nI (b + 1) ≤ (0 : Int32) := nI_nle (by omega) (by omega)
    have va : vp_in (nI a) 12 := vnI ha (by omega)
    have vb : vp_in (nI b) 12 := vnI (by omega) (by omega)
    have vb1 : vp_in (nI (b + 1)) 12 := vnI (by omega) (by omega)
    have eb : c 28 b = m 19 b := hj b (by omega) (by omega) (by omega)
    by_cases q : m 19 b ≤ m 18 a
    · refine ⟨mst c 28 (b + 1) (c 27 a), mst m 19 (b + 1) (m 18 a), ?_, ?_, ?_, fun q hq => mst_ne _ _ _ hq, fun q hq => mst_ne _ _ _ hq, fun j hja => ?_⟩
      · rw [l_X2_sort_18, if_neg c1, nI_pred, nIc (by omega), nIc (by omega), nIc (by omega), nI_1, eb, e27, if_pos q]
      · rw [l_X9_sorts_12, if_neg c1, nI_pred, nIc (by omega), nIc (by omega), nIc (by omega), nI_1, if_pos q]
      · intro hk
        rw [bl_X9_sorts_12, if_neg c1, nI_pred, nIc (by omega), nIc (by omega), nIc (by omega), nI_1, if_pos q]
        exact ⟨vb, va, va, vb1, hk⟩
      · by_cases e : j = b + 1
        · subst e; simp [mst, upd, e27]
        · simp [mst, upd, e]; exact hj j hja e (by omega)
    · obtain ⟨c', m', a1, a2, a3, a4, a5, a6⟩ := ih f1 f2 (mst c 28 (b + 1) (c 28 b)) (mst m 19 (b + 1) (m 19 b)) (by omega) (by omega) (by omega) (by simpa [mst] using e27)
        (fun j hja hjb hh => by
          by_cases e : j = b + 1
          · subst e; simp [mst, upd, eb]
          · simp [mst, upd, e]; exact hj j hja e (by omega))
      refine ⟨c', m', ?_, ?_, ?_, fun q hq => by rw [a4 q hq]; exact mst_ne _ _ _ hq, fun q hq => by rw [a5 q hq]; exact mst_ne _ _ _ hq, a6⟩
      · rw [l_X2_sort_18, if_neg c1, nI_pred, nIc (by omega), nIc (by omega), nIc (by omega), eb, e27, if_neg q, pk_m1]
        rw [eb] at a1; exact a1
      · rw [l_X9_sorts_12, if_neg c1, nI_pred, nIc (by omega), nIc (by omega), nIc (by omega), if_neg q, pk_m1]; exact a2
      · intro hk
        rw [bl_X9_sorts_12, if_neg c1, nI_pred, nIc (by omega), nIc (by omega), nIc (by omega), if_neg q, pk_m1]
        exact ⟨vb, va, vb, vb1, a3 hk⟩
theorem sort_o {n : Nat} (hn : n ≤ 12) : ∀ (r a f1 f2 : Nat) (c m : Mem), a + r = n → r < f1 → r < f2 → c 26 3 = nI n → m 0 25 = nI n → (∀ j, j < n → c 27 j = m 18 j) → (∀ j, j < a → c 28 j = m 19 j) →
    bl_X9_sorts_2 f2 (nI a) m ∧ (∀ q, q ≠ 28 → (l_X2_sort_2 f1 (nI a) c) q = c q) ∧ (∀ q, q ≠ 19 → (l_X9_sorts_2 f2 (nI a) m) q = m q) ∧ (∀ j, j < n → (l_X2_sort_2 f1 (nI a) c) 28 j = (l_X9_sorts_2 f2 (nI a) m) 19 j) := by
  intro r
  induction r with
  | zero =>
    intro a f1 f2 c m ha h1 h2 hc hm h27 h28
    obtain ⟨f1, rfl⟩ : ∃ f', f1 = f' + 1 := ⟨f1 - 1, by omega⟩
    obtain ⟨f2, rfl⟩ : ∃ f', f2 = f' + 1 := ⟨f2 - 1, by omega⟩
    have e : a = n := by omega
    subst e
    have c1 : nI a ≤ nI a := by rw [nIle (by omega) (by omega)]; omega
    rw [l_X2_sort_2, l_X9_sorts_2, bl_X9_sorts_2, hc, hm, if_pos c1, if_pos c1, if_pos c1]
    exact ⟨trivial, fun _ _ => rfl, fun _ _ => rfl, h28⟩
  | succ r ih =>
    intro a f1 f2 c m ha h1 h2 hc hm h27 h28
    obtain ⟨f1, rfl⟩ : ∃ f', f1 = f' + 1 := ⟨f1 - 1, by omega⟩
    obtain ⟨f2, rfl⟩ : ∃ f', f2 = f' + 1 := ⟨f2 - 1, by omega⟩
    have c1 : ¬ nI n ≤ nI a := by rw [nIle (by omega) (by omega)]; omega
    have c2 : ¬ (12 : Int32) ≤ nI a := by rw [show (12 : Int32) = nI 12 from rfl, nIle (by omega) (by omega)]; omega
    obtain ⟨c', m', a1, a2, a3, a4, a5, a6⟩ := sort_i (l_X2_sort_2 f1) (l_X9_sorts_2 f2) (bl_X9_sorts_2 f2) (a := a) (by omega) a (fu 13) (fu 13) c m (Nat.le_refl _) (by rw [fu_eq]; omega) (by rw [fu_eq]; omega) (h27 a (by omega)) (fun j hj _ hh => h28 j (by omega))
    obtain ⟨b1, b2, b3, b4⟩ := ih (a + 1) f1 f2 c' m' (by omega) (by omega) (by omega) (by rw [a4 26 (by decide)]; exact hc) (by rw [a5 0 (by decide)]; exact hm) (fun j hj => by rw [a4 27 (by decide), a5 18 (by decide)]; exact h27 j hj) (fun j hj => a6 j (by omega))
    rw [l_X2_sort_2, l_X9_sorts_2, bl_X9_sorts_2, hc, hm, if_neg c1, if_neg c1, if_neg c1, if_neg c2, a1, a2]
    exact ⟨a3 b1, fun q hq => by rw [b2 q hq, a4 q hq], fun q hq => by rw [b3 q hq, a5 q hq], b4⟩
theorem max_eq (σ : Mem) (x y : Int32) : (if x < y then y else x) = f_X9_greater σ x y := by
  unfold f_X9_greater
  by_cases h : x < y
  · have h2 : x ≤ y := by rw [Int32.lt_iff_toInt_lt] at h; rw [Int32.le_iff_toInt_le]; omega
    rw [if_pos h, if_pos h2]
  · rw [if_neg h]
    by_cases h2 : x ≤ y
    · rw [if_pos h2]; rw [Int32.lt_iff_toInt_lt] at h; rw [Int32.le_iff_toInt_le] at h2; exact Int32.toInt_inj.mp (by omega)
    · rw [if_neg h2]
theorem max_eq2 (σ : Mem) (x y : Int32) : (if y < x then x else y) = f_X9_greater σ x y := by
  unfold f_X9_greater
  by_cases h : y < x
  · have h2 : ¬ x ≤ y := by rw [Int32.lt_iff_toInt_lt] at h; rw [Int32.le_iff_toInt_le]; omega
    rw [if_pos h, if_neg h2]
  · have h2 : x ≤ y := by rw [Int32.lt_iff_toInt_lt] at h; rw [Int32.le_iff_toInt_le]; omega
    rw [if_neg h, if_pos h2]
/-- the first free pusher -/
theorem ff_l (K : Int32 → Int32 → Int32 → Int32 → Int32 → Mem → Int32 × Mem) (bK : Int32 → Int32 → Int32 → Int32 → Int32 → Mem → Prop) {n e : Nat} (hn : n ≤ 6) (he : e < 12) (w C D : Int32) (c m : Mem) (h20 : ∀ j, j < n → c 29 j = m 20 j) : ∀ (r g f1 f2 p : Nat), p < n → g + r = n → r < f1 → r < f2 →
    ∃ q : Nat, q < n ∧ l_X2_firstFree_4 f1 (nI n) (nI p) (nI g) c = nI q ∧
      l_X9_lateOf_47 K f2 (nI n) w C D (nI e) (nI p) (nI g) m = K (nI n) w (C + (f_X9_greater m (m 19 e) (m 20 q) - m 19 e)) (f_X9_greater (mst m 20 q ((f_X9_greater m (m 19 e) (m 20 q) + m 11 2) + m 11 3)) (f_X9_greater m (m 19 e) (m 20 q) - m 19 e) D) (nI (e + 1)) (mst m 20 q ((f_X9_greater m (m 19 e) (m 20 q) + m 11 2) + m 11 3)) ∧
      (bK (nI n) w (C + (f_X9_greater m (m 19 e) (m 20 q) - m 19 e)) (f_X9_greater (mst m 20 q ((f_X9_greater m (m 19 e) (m 20 q) + m 11 2) + m 11 3)) (f_X9_greater m (m 19 e) (m 20 q) - m 19 e) D) (nI (e + 1)) (mst m 20 q ((f_X9_greater m (m 19 e) (m 20 q) + m 11 2) + m 11 3)) → bl_X9_lateOf_47 bK f2 (nI n) w C D (nI e) (nI p) (nI g) m) := by
  intro r
  induction r with
  | zero =>
    intro g f1 f2 p hp hg h1 h2
    obtain ⟨f1, rfl⟩ : ∃ f', f1 = f' + 1 := ⟨f1 - 1, by omega⟩
    obtain ⟨f2, rfl⟩ : ∃ f', f2 = f' + 1 := ⟨f2 - 1, by omega⟩
    have c1 : nI n ≤ nI g := by rw [nIle (by omega) (by omega)]; omega
    have ve : vp_in (nI e) 12 := vnI he (by omega)
    have vp : vp_in (nI p) 6 := vnI (by omega) (by omega)
    refine ⟨p, hp, ?_, ?_, fun hk => ?_⟩
    · rw [l_X2_firstFree_4, if_pos c1]
    · rw [l_X9_lateOf_47, if_pos c1, nIc (by omega), nIc (by omega), nI_1, cl2, cl3]
    · rw [bl_X9_lateOf_47, if_pos c1, nIc (by omega), nIc (by omega), nI_1, cl2, cl3]
      exact ⟨ve, vp, vp, ve, ve, hk⟩
  | succ r ih =>
    intro g f1 f2 p hp hg h1 h2
    obtain ⟨f1, rfl⟩ : ∃ f', f1 = f' + 1 := ⟨f1 - 1, by omega⟩
    obtain ⟨f2, rfl⟩ : ∃ f', f2 = f' + 1 := ⟨f2 - 1, by omega⟩
    have c1 : ¬ nI n ≤ nI g := by rw [nIle (by omega) (by omega)]; omega
    have c2 : ¬ (6 : Int32) ≤ nI g := by rw [show (6 : Int32) = nI 6 from rfl, nIle (by omega) (by omega)]; omega
    have vp : vp_in (nI p) 6 := vnI (by omega) (by omega)
    have vg : vp_in (nI g) 6 := vnI (by omega) (by omega)
    by_cases z : m 20 p ≤ m 20 g
    · obtain ⟨q, hq, a1, a2, a3⟩ := ih (g + 1) f1 f2 p hp (by omega) (by omega) (by omega)
      refine ⟨q, hq, ?_, ?_, fun hk => ?_⟩
      · rw [l_X2_firstFree_4, if_neg c1, if_neg c2, nIc (by omega), nIc (by omega), h20 p (by omega), h20 g (by omega), if_pos z, nI_1]; exact a1
      · rw [l_X9_lateOf_47, if_neg c1, nIc (show p < 2147483648 by omega), nIc (show g < 2147483648 by omega), if_pos z, nI_1]; exact a2
      · rw [bl_X9_lateOf_47, if_neg c1, nIc (show p < 2147483648 by omega), nIc (show g < 2147483648 by omega), if_pos z, nI_1]; exact ⟨vg, vp, a3 hk⟩
    · obtain ⟨q, hq, a1, a2, a3⟩ := ih (g + 1) f1 f2 g (by omega) (by omega) (by omega) (by omega)
      refine ⟨q, hq, ?_, ?_, fun hk => ?_⟩
      · rw [l_X2_firstFree_4, if_neg c1, if_neg c2, nIc (by omega), nIc (by omega), h20 p (by omega), h20 g (by omega), if_neg z, nI_1]; exact a1
      · rw [l_X9_lateOf_47, if_neg c1, nIc (show p < 2147483648 by omega), nIc (show g < 2147483648 by omega), if_neg z, nI_1]; exact a2
      · rw [bl_X9_lateOf_47, if_neg c1, nIc (show p < 2147483648 by omega), nIc (show g < 2147483648 by omega), if_neg z, nI_1]; exact ⟨vg, vp, a3 hk⟩
theorem push_l {n N : Nat} (hn0 : 1 ≤ n) (hn : n ≤ 6) (hN : N ≤ 12) (w bz : Int32) : ∀ (r e f1 f2 : Nat) (C D : Int32) (c m : Mem), e + r = N → r < f1 → r < f2 → c 26 3 = nI N → m 0 25 = nI N → bz = m 11 2 + m 11 3 → (∀ j, j < N → c 28 j = m 19 j) → (∀ j, j < n → c 29 j = m 20 j) → c 26 4 = C → c 26 5 = D →
    bl_X9_lateOf_32 f2 (nI n) w C D (nI e) m ∧ (l_X9_lateOf_32 f2 (nI n) w C D (nI e) m).1 = (if w = 0 then (l_X2_pushAll_37 f1 (nI n) bz (nI e) c) 26 4 else (l_X2_pushAll_37 f1 (nI n) bz (nI e) c) 26 5) ∧
    (∀ q, q ≠ 26 → q ≠ 29 → (l_X2_pushAll_37 f1 (nI n) bz (nI e) c) q = c q) ∧ (l_X2_pushAll_37 f1 (nI n) bz (nI e) c) 26 3 = c 26 3 ∧ (∀ q, q ≠ 20 → (l_X9_lateOf_32 f2 (nI n) w C D (nI e) m).2 q = m q) := by
  intro r
  induction r with
  | zero =>
    intro e f1 f2 C D c m he h1 h2 hc hm hb h28 h29 hC hD
    obtain ⟨f1, rfl⟩ : ∃ f', f1 = f' + 1 := ⟨f1 - 1, by omega⟩
    obtain ⟨f2, rfl⟩ : ∃ f', f2 = f' + 1 := ⟨f2 - 1, by omega⟩
    have c1 : nI N ≤ nI e := by rw [nIle (by omega) (by omega)]; omega
    rw [l_X2_pushAll_37, l_X9_lateOf_32, bl_X9_lateOf_32, hc, hm, if_pos c1, if_pos c1, if_pos c1, hC, hD]
    by_cases z : w = 0
    · rw [if_pos z, if_pos z, if_pos z]; exact ⟨trivial, rfl, fun _ _ _ => rfl, hc, fun _ _ => rfl⟩
    · rw [if_neg z, if_neg z, if_neg z]; exact ⟨trivial, rfl, fun _ _ _ => rfl, hc, fun _ _ => rfl⟩
  | succ r ih =>
    intro e f1 f2 C D c m he h1 h2 hc hm hb h28 h29 hC hD
    obtain ⟨f1, rfl⟩ : ∃ f', f1 = f' + 1 := ⟨f1 - 1, by omega⟩
    obtain ⟨f2, rfl⟩ : ∃ f', f2 = f' + 1 := ⟨f2 - 1, by omega⟩
    have c1 : ¬ nI N ≤ nI e := by rw [nIle (by omega) (by omega)]; omega
    have c2 : ¬ (12 : Int32) ≤ nI e := by rw [show (12 : Int32) = nI 12 from rfl, nIle (by omega) (by omega)]; omega
    obtain ⟨q, hq, a1, a2, a3⟩ := ff_l (l_X9_lateOf_32 f2) (bl_X9_lateOf_32 f2) hn (e := e) (by omega) w C D c m h29 (n - 1) 1 (fu 6) (fu 7) 0 (by omega) (by omega) (by rw [fu_eq]; omega) (by rw [fu_eq]; omega)
    have ef : f_X2_firstFree c (nI n) = nI q := a1
    rw [l_X2_pushAll_37, l_X9_lateOf_32, bl_X9_lateOf_32, hc, hm, if_neg c1, if_neg c1, if_neg c1, if_neg c2, ef, nIc (by omega), nIc (by omega), h28 e (by omega), h29 q hq, max_eq m, hC, hD, max_eq2 (mst m 20 q ((f_X9_greater m (m 19 e) (m 20 q) + m 11 2) + m 11 3)), nI_1, hb, ← Int32.add_assoc]
    have nx := ih (e + 1) f1 f2 (C + (f_X9_greater m (m 19 e) (m 20 q) - m 19 e)) (f_X9_greater (mst m 20 q ((f_X9_greater m (m 19 e) (m 20 q) + m 11 2) + m 11 3)) (f_X9_greater m (m 19 e) (m 20 q) - m 19 e) D)
      (mst (mst (mst c 29 q ((f_X9_greater m (m 19 e) (m 20 q) + m 11 2) + m 11 3)) 26 4 (C + (f_X9_greater m (m 19 e) (m 20 q) - m 19 e))) 26 5 (f_X9_greater (mst m 20 q ((f_X9_greater m (m 19 e) (m 20 q) + m 11 2) + m 11 3)) (f_X9_greater m (m 19 e) (m 20 q) - m 19 e) D))
      (mst m 20 q ((f_X9_greater m (m 19 e) (m 20 q) + m 11 2) + m 11 3)) (by omega) (by omega) (by omega) (by simp [mst, upd, hc]) (by simp [mst, hm]) (by simp [mst, hb]) (fun j hj => by simp [mst, h28 j hj])
      (fun j hj => by
        by_cases z : j = q
        · subst z; simp [mst, upd]
        · simp [mst, upd, z, h29 j hj]) (by simp [mst, upd]) (by simp [mst, upd])
    obtain ⟨b1, b2, b3, b4, b5⟩ := nx
    rw [hb] at b2 b3 b4
    have e47 : l_X9_lateOf_47 (l_X9_lateOf_32 f2) (fu 7) (nI n) w C D (nI e) 0 1 m = _ := a2
    rw [e47]
    refine ⟨a3 b1, b2, fun p h26 h29 => ?_, ?_, fun p hp => ?_⟩
    · rw [b3 p h26 h29]; simp [mst, h26, h29]
    · rw [b4]; simp [mst, upd, hc]
    · rw [b5 p hp]; simp [mst, hp]
theorem zero_c (a b : Int32) : ∀ (r t f : Nat) (c : Mem), t + r = 6 → r < f → (∀ j, j < t → c 29 j = 0) → ∃ c' : Mem, l_X2_pushAll_16 f a b (nI t) c = l_X2_pushAll_37 (fu 13) a b 0 c' ∧ (∀ j, j < 6 → c' 29 j = 0) ∧ ∀ q, q ≠ 29 → c' q = c q := by
  intro r
  induction r with
  | zero =>
    intro t f c ht hf h0
    obtain ⟨f, rfl⟩ : ∃ f', f = f' + 1 := ⟨f - 1, by omega⟩
    have e : t = 6 := by omega
    subst e
    have c1 : (6 : Int32) ≤ nI 6 := by decide
    exact ⟨c, by rw [l_X2_pushAll_16, if_pos c1], h0, fun _ _ => rfl⟩
  | succ r ih =>
    intro t f c ht hf h0
    obtain ⟨f, rfl⟩ : ∃ f', f = f' + 1 := ⟨f - 1, by omega⟩
    have c1 : ¬ (6 : Int32) ≤ nI t := by rw [show (6 : Int32) = nI 6 from rfl, nIle (by omega) (by omega)]; omega
    obtain ⟨c', a1, a2, a3⟩ := ih (t + 1) f (mst c 29 t 0) (by omega) (by omega) (fun j hj => by
      by_cases e : j = t
      · subst e; simp [mst, upd]
      · simp [mst, upd, e, h0 j (by omega)])
    refine ⟨c', by rw [l_X2_pushAll_16, if_neg c1, nIc (by omega), nI_1]; exact a1, a2, fun q hq => by rw [a3 q hq]; exact mst_ne _ _ _ hq⟩
theorem zero_m {n : Nat} (hn : n ≤ 6) (w : Int32) : ∀ (r t f : Nat) (m : Mem), t + r = n → r < f → (∀ j, j < t → m 20 j = 0) → ∃ m' : Mem, l_X9_lateOf_6 f (nI n) w (nI t) m = l_X9_lateOf_32 (fu 13) (nI n) w 0 0 0 m' ∧ (bl_X9_lateOf_32 (fu 13) (nI n) w 0 0 0 m' → bl_X9_lateOf_6 f (nI n) w (nI t) m) ∧ (∀ j, j < n → m' 20 j = 0) ∧ ∀ q, q ≠ 20 → m' q = m q := by
  intro r
  induction r with
  | zero =>
    intro t f c ht hf h0
    obtain ⟨f, rfl⟩ : ∃ f', f = f' + 1 := ⟨f - 1, by omega⟩
    have e : t = n := by omega
    subst e
    have c1 : nI t ≤ nI t := by rw [nIle (by omega) (by omega)]; omega
    exact ⟨c, by rw [l_X9_lateOf_6, if_pos c1], by rw [bl_X9_lateOf_6, if_pos c1]; exact id, h0, fun _ _ => rfl⟩
  | succ r ih =>
    intro t f c ht hf h0
    obtain ⟨f, rfl⟩ : ∃ f', f = f' + 1 := ⟨f - 1, by omega⟩
    have c1 : ¬ nI n ≤ nI t := by rw [nIle (by omega) (by omega)]; omega
    obtain ⟨c', a1, a2, a3, a4⟩ := ih (t + 1) f (mst c 20 t 0) (by omega) (by omega) (fun j hj => by
      by_cases e : j = t
      · subst e; simp [mst, upd]
      · simp [mst, upd, e, h0 j (by omega)])
    refine ⟨c', by rw [l_X9_lateOf_6, if_neg c1, nIc (by omega), nI_1]; exact a1, fun hk => ?_, a3, fun q hq => by rw [a4 q hq]; exact mst_ne _ _ _ hq⟩
    rw [bl_X9_lateOf_6, if_neg c1, nIc (by omega), nI_1]
    exact ⟨vnI (by omega) (by omega), a2 hk⟩
theorem lateOf_eq {c m : Mem} (h : R c m) {n : Nat} (hn0 : 1 ≤ n) (hn : n ≤ 6) (w : Int32) : b_X9_lateOf m (nI n) w ∧ (f_X9_lateOf m (nI n) w).1 = (if w = 0 then (f_X2_pushAll c (nI n) (f_X8_busyMinutes c)) 26 4 else (f_X2_pushAll c (nI n) (f_X8_busyMinutes c)) 26 5) ∧ R (f_X2_pushAll c (nI n) (f_X8_busyMinutes c)) (f_X9_lateOf m (nI n) w).2 := by
  obtain ⟨hT, hE, hG, hD, hS, hF, hV, hB⟩ := id h
  obtain ⟨d1, d2, d3, d4⟩ := id hD
  have eb : f_X8_busyMinutes c = m 11 2 + m 11 3 := by
    unfold f_X8_busyMinutes
    rw [show (2 : Int32) = nI 2 from rfl, show (3 : Int32) = nI 3 from rfl, at_eq (by omega) (by omega), at_eq (by omega) (by omega), hG.1 2 (by omega), hG.1 3 (by omega)]
  obtain ⟨s1, s2, s3, s4⟩ := sort_o (n := Nt m) d2 (Nt m) 0 (fu 13) (fu 13) (mst (mst c 26 4 0) 26 5 0) m (by omega) (by rw [fu_eq]; omega) (by rw [fu_eq]; omega) (by simp [mst, upd, d3, d1]) d1 (fun j hj => by simp [mst, d4 j hj]) (fun j hj => absurd hj (Nat.not_lt_zero _))
  obtain ⟨c2, z1, z2, z3⟩ := zero_c (nI n) (f_X8_busyMinutes c) 6 0 (fu 7) (f_X2_sort (mst (mst c 26 4 0) 26 5 0)) (by omega) (by rw [fu_eq]; omega) (fun j hj => absurd hj (Nat.not_lt_zero _))
  obtain ⟨m2, y1, y2, y3, y4⟩ := zero_m hn w n 0 (fu 7) (f_X9_sorts m) (by omega) (by rw [fu_eq]; omega) (fun j hj => absurd hj (Nat.not_lt_zero _))
  have ks : ∀ q, q ≠ 28 → f_X2_sort (mst (mst c 26 4 0) 26 5 0) q = (mst (mst c 26 4 0) 26 5 0) q := s2
  have km : ∀ q, q ≠ 19 → f_X9_sorts m q = m q := s3
  have p := push_l (n := n) (N := Nt m) hn0 hn d2 w (f_X8_busyMinutes c) (Nt m) 0 (fu 13) (fu 13) 0 0 c2 m2 (by omega) (by rw [fu_eq]; omega) (by rw [fu_eq]; omega)
    (by rw [z3 26 (by decide), ks 26 (by decide)]; simp [mst, upd, d3, d1]) (by rw [y4 0 (by decide), km 0 (by decide)]; exact d1) (by rw [eb, y4 11 (by decide), km 11 (by decide)])
    (fun j hj => by rw [z3 28 (by decide), y4 19 (by decide)]; exact s4 j hj) (fun j hj => by rw [z2 j (by omega), y3 j hj]) (by rw [z3 26 (by decide), ks 26 (by decide)]; simp [mst, upd]) (by rw [z3 26 (by decide), ks 26 (by decide)]; simp [mst, upd])
  obtain ⟨p1, p2, p3, p4, p5⟩ := p
  rw [show nI 0 = (0 : Int32) from rfl] at p1 p2 p3 p4 p5 z1 y1 y2
  unfold f_X2_pushAll b_X9_lateOf f_X9_lateOf
  rw [z1, y1]
  refine ⟨⟨s1, y2 p1⟩, p2, ?_⟩
  refine R_day2 h (fun q hq => ?_) (fun q q1 q2 => ?_) ?_ ?_
  · rw [p3 q (by omega) (by omega), z3 q (by omega), ks q (by omega)]; simp [mst, show ¬ q = 26 by omega]
  · rw [p5 q (by omega), y4 q (by omega), km q (by omega)]
  · rw [p5 0 (by omega), y4 0 (by omega), km 0 (by omega)]
  · have e0 : (l_X9_lateOf_32 (fu 13) (nI n) w 0 0 0 m2).2 0 25 = m 0 25 := by rw [p5 0 (by omega), y4 0 (by omega), km 0 (by omega)]
    have e18 : (l_X9_lateOf_32 (fu 13) (nI n) w 0 0 0 m2).2 18 = m 18 := by rw [p5 18 (by omega), y4 18 (by omega), km 18 (by omega)]
    have c27 : (l_X2_pushAll_37 (fu 13) (nI n) (f_X8_busyMinutes c) 0 c2) 27 = c 27 := by rw [p3 27 (by omega) (by omega), z3 27 (by omega), ks 27 (by omega)]; simp [mst]
    have c26 : (l_X2_pushAll_37 (fu 13) (nI n) (f_X8_busyMinutes c) 0 c2) 26 3 = c 26 3 := by rw [p4, z3 26 (by omega), ks 26 (by omega)]; simp [mst, upd]
    exact (hD.cf c26 c27).mf e18 e0
theorem op_late {c m : Mem} (h : R c m) (a b : Int32) : OP (f_X8_late c a b) (f_X9_late m a b) (b_X9_late m a b) := by
  unfold f_X8_late f_X9_late b_X9_late
  rw [inLR m a 1 6 (by decide) (by decide), z01, isTwo_eq]
  by_cases a1 : a < 1
  · rw [if_pos a1, if_pos a1, if_pos rfl, if_pos rfl]; exact ⟨trivial, rfl, h⟩
  rw [if_neg a1, if_neg a1]
  by_cases a6 : 6 < a
  · rw [if_pos a6, if_pos a6, if_pos rfl, if_pos rfl]; exact ⟨trivial, rfl, h⟩
  rw [if_neg a6, if_neg a6, if_neg i10, if_neg i10]
  by_cases b0 : b = 0 ∨ b = 1
  · rw [if_pos b0, if_neg i10, if_neg i10, if_neg i10]
    have a0 : ¬ a < 0 := by rw [Int32.lt_iff_toInt_lt] at a1 ⊢; rw [show (1 : Int32).toInt = 1 by decide] at a1; rw [Int32.toInt_zero]; omega
    obtain ⟨n, hn, rfl⟩ := nI_of a0
    rw [show (1 : Int32) = nI 1 from rfl, nIlt hn (by omega)] at a1
    rw [show (6 : Int32) = nI 6 from rfl, nIlt (by omega) hn] at a6
    obtain ⟨q1, q2, q3⟩ := lateOf_eq h (n := n) (by omega) (by omega) b
    by_cases z : b = 0
    · rw [if_pos z] at q2
      rw [if_pos z]; exact ⟨⟨q1, trivial⟩, q2.symm, q3⟩
    · rw [if_neg z] at q2
      rw [if_neg z]; exact ⟨⟨q1, trivial⟩, q2.symm, q3⟩
  · rw [if_neg b0, if_pos rfl, if_pos rfl, if_pos rfl]; exact ⟨trivial, rfl, h⟩
theorem enough_l (a : Int32) : ∀ (r b f1 f2 : Nat) (c m : Mem), 1 ≤ b → b + r = 7 → r < f1 → r < f2 → R c m → bl_X9_enoughOf_2 f2 a (nI b) m ∧ (l_X8_enough_16 f1 a (nI b) c).1 = (l_X9_enoughOf_2 f2 a (nI b) m).1 ∧ R (l_X8_enough_16 f1 a (nI b) c).2 (l_X9_enoughOf_2 f2 a (nI b) m).2 := by
  intro r
  induction r with
  | zero =>
    intro b f1 f2 c m hb ht h1 h2 h
    obtain ⟨f1, rfl⟩ : ∃ f', f1 = f' + 1 := ⟨f1 - 1, by omega⟩
    obtain ⟨f2, rfl⟩ : ∃ f', f2 = f' + 1 := ⟨f2 - 1, by omega⟩
    have e : b = 7 := by omega
    subst e
    have c1 : (6 : Int32) < nI 7 := by decide
    have c2 : (7 : Int32) ≤ nI 7 := by decide
    rw [l_X8_enough_16, l_X9_enoughOf_2, bl_X9_enoughOf_2, if_pos c1, if_pos c2, if_pos c2]; exact ⟨trivial, rfl, h⟩
  | succ r ih =>
    intro b f1 f2 c m hb ht h1 h2 h
    obtain ⟨f1, rfl⟩ : ∃ f', f1 = f' + 1 := ⟨f1 - 1, by omega⟩
    obtain ⟨f2, rfl⟩ : ∃ f', f2 = f' + 1 := ⟨f2 - 1, by omega⟩
    have c1 : ¬ (6 : Int32) < nI b := by rw [show (6 : Int32) = nI 6 from rfl, nIlt (by omega) (by omega)]; omega
    have c2 : ¬ (7 : Int32) ≤ nI b := by rw [show (7 : Int32) = nI 7 from rfl, nIle (by omega) (by omega)]; omega
    obtain ⟨q1, q2, q3⟩ := lateOf_eq h (n := b) hb (by omega) 1
    rw [if_neg i10] at q2
    rw [l_X8_enough_16, l_X9_enoughOf_2, bl_X9_enoughOf_2, if_neg c1, if_neg c2, if_neg c2, q2, nI_1]
    unfold f_X2_waitedMost
    by_cases z : a < (f_X2_pushAll c (nI b) (f_X8_busyMinutes c)) 26 5
    · rw [if_pos z, if_pos z, if_pos z]
      have nx := ih (b + 1) f1 f2 _ _ (by omega) (by omega) (by omega) (by omega) q3
      exact ⟨⟨q1, nx.1⟩, nx.2⟩
    · rw [if_neg z, if_neg z, if_neg z]; exact ⟨⟨q1, trivial⟩, rfl, q3⟩
theorem enoughOf_eq {c m : Mem} (h : R c m) (a : Int32) : b_X9_enoughOf m a ∧ (l_X8_enough_16 (fu 7) a 1 c).1 = (f_X9_enoughOf m a).1 ∧ R (l_X8_enough_16 (fu 7) a 1 c).2 (f_X9_enoughOf m a).2 :=
  enough_l a 6 1 (fu 7) (fu 7) c m (by omega) (by omega) (by rw [fu_eq]; omega) (by rw [fu_eq]; omega) h
theorem op_enough {c m : Mem} (h : R c m) (a : Int32) : OP (f_X8_enough c a) (f_X9_enough m a) (b_X9_enough m a) := by
  unfold f_X8_enough f_X9_enough b_X9_enough
  rw [inLR m a 0 999 (by decide) (by decide)]
  by_cases a1 : a < 0
  · rw [if_pos a1, if_pos a1, if_pos rfl, if_pos rfl]; exact ⟨trivial, rfl, h⟩
  rw [if_neg a1, if_neg a1]
  have e : (999 < a) ↔ ¬ a ≤ 999 := by rw [Int32.lt_iff_toInt_lt, Int32.le_iff_toInt_le]; omega
  by_cases a9 : a ≤ 999
  · rw [if_pos a9, if_neg (fun z => (e.mp z) a9), if_neg i10, if_neg i10]
    have q := enoughOf_eq h a
    exact ⟨⟨q.1, trivial⟩, q.2⟩
  · rw [if_neg a9, if_pos (e.mpr a9), if_pos rfl, if_pos rfl]; exact ⟨trivial, rfl, h⟩
