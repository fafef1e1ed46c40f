/-! swings -/
theorem sw0 (m : Mem) (K : Int32 → Mem → Int32) (bK : Int32 → Mem → Prop) {a : Nat} (ha : a < 40) : ∀ (r t f : Nat), t + a + r = 40 → r < f → (bl_X9_swingsNow_13 bK f (nI a) 0 (nI t) m ↔ bK (nI (a + 1)) m) ∧ l_X9_swingsNow_13 K f (nI a) 0 (nI t) m = K (nI (a + 1)) m := by
  intro r
  induction r with
  | zero =>
    intro t f ht hf
    obtain ⟨f, rfl⟩ : ∃ f', f = f' + 1 := ⟨f - 1, by omega⟩
    have c1 : (40 : Int32) ≤ nI (t + a) := by rw [show t + a = 40 by omega]; decide
    rw [l_X9_swingsNow_13, bl_X9_swingsNow_13, nI_add, if_pos c1, if_pos c1, if_pos rfl, if_pos rfl, nI_1]; exact ⟨Iff.rfl, rfl⟩
  | succ r ih =>
    intro t f ht hf
    obtain ⟨f, rfl⟩ : ∃ f', f = f' + 1 := ⟨f - 1, by omega⟩
    have c1 : ¬ (40 : Int32) ≤ nI (t + a) := by rw [show (40 : Int32) = nI 40 from rfl, nIle (by omega) (by omega)]; omega
    rw [l_X9_swingsNow_13, bl_X9_swingsNow_13, nI_add, if_neg c1, if_neg c1, if_pos rfl, if_pos rfl, nI_1]
    exact ih (t + 1) f (by omega) (by omega)
theorem sw1 {c m : Mem} {p : Nat} {F : Nat → Nat} (v : VR c m p F) (K : Int32 → Mem → Int32) (bK : Int32 → Mem → Prop) {a : Nat} (ha : a < 20) (hK : bK (nI (a + 1)) m) : ∀ (r t f1 f2 : Nat), t + a + r = 40 → r < f1 → r < f2 → bl_X9_swingsNow_13 bK f2 (nI a) 1 (nI t) m ∧ l_X9_swingsNow_13 K f2 (nI a) 1 (nI t) m = (if l_X4_comesAgain_3 f1 (nI a) (nI t) c = 0 then K (nI (a + 1)) m else nI a) := by
  intro r
  induction r with
  | zero =>
    intro t f1 f2 ht h1 h2
    obtain ⟨f1, rfl⟩ : ∃ f', f1 = f' + 1 := ⟨f1 - 1, by omega⟩
    obtain ⟨f2, rfl⟩ : ∃ f', f2 = f' + 1 := ⟨f2 - 1, by omega⟩
    have c1 : (40 : Int32) ≤ nI (t + a) := by rw [show t + a = 40 by omega]; decide
    rw [l_X9_swingsNow_13, bl_X9_swingsNow_13, l_X4_comesAgain_3, nI_add, if_pos c1, if_pos c1, if_pos c1, if_neg i10, if_neg i10, if_neg i10]; exact ⟨trivial, rfl⟩
  | succ r ih =>
    intro t f1 f2 ht h1 h2
    obtain ⟨f1, rfl⟩ : ∃ f', f1 = f' + 1 := ⟨f1 - 1, by omega⟩
    obtain ⟨f2, rfl⟩ : ∃ f', f2 = f' + 1 := ⟨f2 - 1, by omega⟩
    have c1 : ¬ (40 : Int32) ≤ nI (t + a) := by rw [show (40 : Int32) = nI 40 from rfl, nIle (by omega) (by omega)]; omega
    have al := alike_eq v (s := t) (t := t + a) (by omega) (by omega)
    have nx := ih (t + 1) f1 f2 (by omega) (by omega) (by omega)
    have z := sw0 m K bK (a := a) (by omega) r (t + 1) f2 (by omega) (by omega)
    rw [l_X9_swingsNow_13, bl_X9_swingsNow_13, l_X4_comesAgain_3, nI_add, if_neg c1, if_neg c1, if_neg c1, if_neg i10, if_neg i10, nI_1, al.2]
    by_cases q : f_X9_isAlike m (nI t) (nI (t + a)) = 0
    · rw [if_pos q, if_pos q, if_pos q, if_pos rfl]
      exact ⟨⟨al.1, z.1.mpr hK⟩, z.2⟩
    · rw [if_neg q, if_neg q, if_neg q]
      exact ⟨⟨al.1, nx.1⟩, nx.2⟩
theorem sw_l {c m : Mem} {p : Nat} {F : Nat → Nat} (v : VR c m p F) : ∀ (r a f1 f2 : Nat), a + r = 13 → r < f1 → r < f2 → bl_X9_swingsNow_2 f2 (nI a) m ∧ l_X8_swings_2 f1 (nI a) c = l_X9_swingsNow_2 f2 (nI a) m := by
  intro r
  induction r with
  | zero =>
    intro a f1 f2 ht h1 h2
    obtain ⟨f1, rfl⟩ : ∃ f', f1 = f' + 1 := ⟨f1 - 1, by omega⟩
    obtain ⟨f2, rfl⟩ : ∃ f', f2 = f' + 1 := ⟨f2 - 1, by omega⟩
    have e : a = 13 := by omega
    subst e
    have c1 : (12 : Int32) < nI 13 := by decide
    have c2 : (13 : Int32) ≤ nI 13 := by decide
    rw [l_X8_swings_2, l_X9_swingsNow_2, bl_X9_swingsNow_2, if_pos c1, if_pos c2, if_pos c2]; exact ⟨trivial, rfl⟩
  | succ r ih =>
    intro a f1 f2 ht h1 h2
    obtain ⟨f1, rfl⟩ : ∃ f', f1 = f' + 1 := ⟨f1 - 1, by omega⟩
    obtain ⟨f2, rfl⟩ : ∃ f', f2 = f' + 1 := ⟨f2 - 1, by omega⟩
    have c1 : ¬ (12 : Int32) < nI a := by rw [show (12 : Int32) = nI 12 from rfl, nIlt (by omega) (by omega)]; omega
    have c2 : ¬ (13 : Int32) ≤ nI a := by rw [show (13 : Int32) = nI 13 from rfl, nIle (by omega) (by omega)]; omega
    have nx := ih (a + 1) f1 f2 (by omega) (by omega) (by omega)
    have z := sw1 v (l_X9_swingsNow_2 f2) (bl_X9_swingsNow_2 f2) (a := a) (by omega) nx.1 (20 - a) 20 (fu 41) (fu 41) (by omega) (by rw [fu_eq]; omega) (by rw [fu_eq]; omega)
    rw [l_X8_swings_2, l_X9_swingsNow_2, bl_X9_swingsNow_2, if_neg c1, if_neg c2, if_neg c2, nI_1]
    unfold f_X4_comesAgain
    refine ⟨z.1, ?_⟩
    show _ = l_X9_swingsNow_13 (l_X9_swingsNow_2 f2) (fu 41) (nI a) 1 (nI 20) m
    rw [z.2, ← nx.2]; rfl
theorem swingsNow_eq {c m : Mem} {p : Nat} {F : Nat → Nat} (v : VR c m p F) : b_X9_swingsNow m ∧ f_X8_swings c = f_X9_swingsNow m := by
  unfold b_X9_swingsNow f_X9_swingsNow f_X8_swings
  exact sw_l v 12 1 (fu 13) (fu 13) (by omega) (by rw [fu_eq]; omega) (by rw [fu_eq]; omega)
theorem op_swings {c m : Mem} (h : R c m) : OP (f_X8_swings c, c) (f_X9_swings m) (b_X9_swings m) := by
  obtain ⟨hT, hE, hG, hD, hS, hF, hV, hB⟩ := id h
  obtain ⟨l1, l2⟩ := lives_eq hT hE hG
  have q := swingsNow_eq (vr_of hV hE hG l2)
  exact ⟨⟨l1, q.1, trivial⟩, q.2, h.prim l2.2.2.2.1⟩
