theorem inLR (σ : Mem) (x : Int32) {lo hi : Int64} (lo' hi' : Int32) (h1 : lo.toInt = lo'.toInt) (h2 : hi.toInt = hi'.toInt) : f_X9_in σ x.toInt64 lo hi = if x < lo' then 0 else if hi' < x then 0 else 1 := by
  rw [in_lit σ x h1 h2]
  by_cases c1 : x < lo'
  · rw [if_pos c1, if_neg]; rw [Int32.lt_iff_toInt_lt] at c1; omega
  · rw [if_neg c1]
    by_cases c2 : hi' < x
    · rw [if_pos c2, if_neg]; rw [Int32.lt_iff_toInt_lt] at c2; omega
    · rw [if_neg c2, if_pos]; rw [Int32.lt_iff_toInt_lt] at c1 c2; omega
theorem rng_of {x lo hi : Int32} (h1 : ¬ x < lo) (h2 : ¬ hi < x) : rng x lo.toInt hi.toInt := by
  rw [Int32.lt_iff_toInt_lt] at h1 h2; exact ⟨by omega, by omega⟩
/-- a dial's test, at a place that there is -/
theorem takes_at {σ : Mem} {k ja jb n i : Nat} {v : Int32} (hi : i < n) (hn : n < 100) (ha : (stv ja).length = n) (hb : (stv jb).length = n) : f_X3_takes σ k ja jb n (nI i) v = if v < (stv ja).getD i 0 then 0 else if (stv jb).getD i 0 < v then 0 else 1 := by
  unfold f_X3_takes
  have c1 : ¬ nI i < 0 := nInn (by omega)
  have c2 : ¬ Int32.ofNat n ≤ nI i := by rw [show Int32.ofNat n = nI n from rfl, nIle (by omega) (by omega)]; omega
  rw [ha, hb, if_neg c1, if_neg c2, if_neg c2, if_neg c2, nIc (by omega)]
theorem takes_no {σ : Mem} {k ja jb n : Nat} {a v : Int32} (h : a < 0 ∨ Int32.ofNat (stv ja).length ≤ a) : f_X3_takes σ k ja jb n a v = 0 := by
  unfold f_X3_takes
  by_cases c1 : a < 0
  · rw [if_pos c1]
  · rw [if_neg c1, if_pos (h.resolve_left c1)]
theorem turn_at {σ : Mem} {k ja jb n i : Nat} {v : Int32} (hi : i < n) (hn : n < 100) (ht : ¬ f_X3_takes σ k ja jb n (nI i) v = 0) : f_X3_turn σ k ja jb n (nI i) v = (σ (k + 1) i, mst σ (k + 1) i v) := by
  unfold f_X3_turn
  rw [if_neg ht, at_eq hi hn, nIc (by omega)]
theorem eng {c m : Mem} (h : R c m) (e i : Nat) (he : e < 2) (hi : i < 3) (v : Int32) (hv : rng v ((stv 0).getD i 0).toInt ((stv 1).getD i 0).toInt) : R (f_X8_refresh (mst c (12 + 2 * e) i v)) (mst m 10 (3 * e + i) v) := by
  obtain ⟨hT, hE, hG, hD, hS, hF, hV, hB⟩ := h
  refine R_refresh ?_ ?_ (by unfold RG at hG ⊢; rcases (show e = 0 ∨ e = 1 by omega) with rfl | rfl <;> simpa [mst] using hG) (by unfold RD Nt at hD ⊢; rcases (show e = 0 ∨ e = 1 by omega) with rfl | rfl <;> simpa [mst] using hD) ?_ (by rcases (show e = 0 ∨ e = 1 by omega) with rfl | rfl <;> simpa [mst] using hF)
  · unfold RT N0 N1 at hT ⊢
    rcases (show e = 0 ∨ e = 1 by omega) with rfl | rfl <;> simpa [mst] using hT
  · obtain ⟨h0, h1, h2, h3, h4, h5, h6⟩ := hE
    have g0 := h0 0 (by omega)
    have g1 := h0 1 (by omega)
    have g2 := h0 2 (by omega)
    unfold RE
    rcases (show e = 0 ∨ e = 1 by omega) with rfl | rfl <;> rcases (show i = 0 ∨ i = 1 ∨ i = 2 by omega) with rfl | rfl | rfl <;>
      (refine ⟨fun j hj => ?_, ?_⟩
       · rcases (show j = 0 ∨ j = 1 ∨ j = 2 by omega) with rfl | rfl | rfl <;> simp [mst, upd, g0, g1, g2]
       · simp [mst, upd]
         first
         | exact ⟨hv, h2, h3, h4, h5, h6⟩
         | exact ⟨h1, hv, h3, h4, h5, h6⟩
         | exact ⟨h1, h2, hv, h4, h5, h6⟩
         | exact ⟨h1, h2, h3, hv, h5, h6⟩
         | exact ⟨h1, h2, h3, h4, hv, h6⟩
         | exact ⟨h1, h2, h3, h4, h5, hv⟩)
  · intro s hs
    have := hS s hs
    have n1 : ¬ 31 + 2 * s = 12 + 2 * e := by omega
    have n2 : ¬ 32 + 2 * s = 12 + 2 * e := by omega
    simp only [mst, n1, n2, if_false]
    simpa [mst] using this
theorem isEng (σ : Mem) (a : Int32) : f_X8_isEngine σ a = if a = 0 ∨ a = 1 then 1 else 0 := by
  unfold f_X8_isEngine
  by_cases h0 : a = 0
  · rw [if_pos h0, if_pos (Or.inl h0)]
  · by_cases h1 : a = 1
    · rw [if_neg h0, if_pos h1, if_pos (Or.inr h1)]
    · rw [if_neg h0, if_neg h1, if_neg (fun z => z.elim h0 h1)]
/-- the model's own test of an engine's dial -/
theorem engM {m : Mem} {a b v : Int32} {i : Nat} (ha : a = 0 ∨ a = 1) (hi : i < 3) (hb : b = nI i) : (f_X9_engine m a b v = if v < (stv 0).getD i 0 then (-2, m) else if (stv 1).getD i 0 < v then (-2, m) else (m 10 (3 * a.toNatClampNeg + i), mst m 10 (3 * a.toNatClampNeg + i) v)) ∧ b_X9_engine m a b v := by
  have hx : ((3 * a) + b).toNatClampNeg = 3 * a.toNatClampNeg + i ∧ vp_in ((3 * a) + b) 6 := by
    subst hb
    rcases ha with rfl | rfl <;> rcases (show i = 0 ∨ i = 1 ∨ i = 2 by omega) with rfl | rfl | rfl <;> exact ⟨by decide, vlit _ 6 (by decide)⟩
  unfold f_X9_engine b_X9_engine
  rw [isTwo_eq, if_pos ha, if_neg i10, if_neg i10, hx.1]
  have i02 : ¬ f_X9_in m b.toInt64 0 2 = 0 := by
    subst hb
    rw [in_lit m _ (l := 0) (h := 2) (by decide) (by decide), if_pos (by rw [nI_t (by omega)]; omega)]; decide
  rw [if_neg i02, if_neg i02]
  rcases (show i = 0 ∨ i = 1 ∨ i = 2 by omega) with rfl | rfl | rfl
  · have e : b = 0 := hb
    subst e
    have n2 : ¬ (0 : Int32) = 2 := by decide
    rw [if_neg n2, if_neg n2, if_pos rfl, if_pos rfl, inLR m v 0 999 (by decide) (by decide)]
    show _ = (if v < 0 then _ else if 999 < v then _ else _) ∧ _
    by_cases c1 : v < 0
    · rw [if_pos c1, if_pos c1, if_pos rfl, if_pos rfl]; exact ⟨rfl, trivial⟩
    · rw [if_neg c1, if_neg c1]
      by_cases c2 : 999 < v
      · rw [if_pos c2, if_pos c2, if_pos rfl, if_pos rfl]; exact ⟨rfl, trivial⟩
      · rw [if_neg c2, if_neg c2, if_neg i10, if_neg i10]; exact ⟨rfl, hx.2, hx.2, trivial⟩
  · have e : b = 1 := hb
    subst e
    rw [if_neg n12, if_neg n12, if_neg i10, if_neg i10, if_pos rfl, if_pos rfl, inLR m v 0 3 (by decide) (by decide)]
    show _ = (if v < 0 then _ else if 3 < v then _ else _) ∧ _
    by_cases c1 : v < 0
    · rw [if_pos c1, if_pos c1, if_pos rfl, if_pos rfl]; exact ⟨rfl, trivial⟩
    · rw [if_neg c1, if_neg c1]
      by_cases c2 : 3 < v
      · rw [if_pos c2, if_pos c2, if_pos rfl, if_pos rfl]; exact ⟨rfl, trivial⟩
      · rw [if_neg c2, if_neg c2, if_neg i10, if_neg i10]; exact ⟨rfl, hx.2, hx.2, trivial⟩
  · have e : b = 2 := hb
    subst e
    have n20 : ¬ (2 : Int32) = 0 := by decide
    have n21 : ¬ (2 : Int32) = 1 := by decide
    rw [if_pos rfl, if_pos rfl, if_neg n20, if_neg n20, if_neg n21, if_neg n21, inLR m v 1 5 (by decide) (by decide)]
    show _ = (if v < 1 then _ else if 5 < v then _ else _) ∧ _
    by_cases c1 : v < 1
    · rw [if_pos c1, if_pos c1, if_pos rfl, if_pos rfl]; exact ⟨rfl, trivial⟩
    · rw [if_neg c1, if_neg c1]
      by_cases c2 : 5 < v
      · rw [if_pos c2, if_pos c2, if_pos rfl, if_pos rfl]; exact ⟨rfl, trivial⟩
      · rw [if_neg c2, if_neg c2, if_neg i10, if_neg i10]; exact ⟨rfl, hx.2, hx.2, trivial⟩
theorem op_engine {c m : Mem} (h : R c m) (a b v : Int32) : OP (f_X8_engine c a b v) (f_X9_engine m a b v) (b_X9_engine m a b v) := by
  by_cases ha : a = 0 ∨ a = 1
  · by_cases hb : b < 0 ∨ 3 ≤ b
    · have z1 : f_X8_engine c a b v = (-2, c) := by
        unfold f_X8_engine
        rw [isEng, if_pos ha, if_neg i10, takes_no (by exact hb), takes_no (by exact hb), if_pos rfl, if_pos rfl]
        split <;> rfl
      have i02 : f_X9_in m b.toInt64 0 2 = 0 := by
        rw [inLR m b 0 2 (by decide) (by decide)]
        by_cases c1 : b < 0
        · rw [if_pos c1]
        · have c2 : 2 < b := by have := hb.resolve_left c1; rw [Int32.le_iff_toInt_le, show (3 : Int32).toInt = 3 by decide] at this; rw [Int32.lt_iff_toInt_lt, t2]; omega
          rw [if_neg c1, if_pos c2]
      have z2 : f_X9_engine m a b v = (-2, m) := by unfold f_X9_engine; rw [isTwo_eq, if_pos ha, if_neg i10, if_pos i02]
      have z3 : b_X9_engine m a b v := by unfold b_X9_engine; rw [isTwo_eq, if_pos ha, if_neg i10, if_pos i02]; trivial
      rw [z1, z2]; exact ⟨z3, rfl, h⟩
    · obtain ⟨i, hi, rfl⟩ := asN (n := 3) (by decide) (fun z => hb (Or.inl z)) (fun z => hb (Or.inr z))
      obtain ⟨e1, e2⟩ := engM (m := m) (v := v) ha hi rfl
      have hr := h.2.1.1 i hi
      rw [e1]
      refine ⟨e2, ?_⟩
      rcases ha with rfl | rfl
      · have z1 : f_X8_engine c 0 (nI i) v = if f_X3_takes c 11 0 1 3 (nI i) v = 0 then (-2, c) else ((f_X3_turn c 11 0 1 3 (nI i) v).1, (f_X8_refresh (f_X3_turn c 11 0 1 3 (nI i) v).2)) := by
          unfold f_X8_engine; rw [isEng, if_pos (Or.inl rfl), if_neg i10, if_pos rfl]
        rw [z1, takes_at hi (by omega) rfl rfl, cl0]
        by_cases c1 : v < (stv 0).getD i 0
        · rw [if_pos c1, if_pos c1, if_pos rfl]; exact ⟨rfl, h⟩
        · rw [if_neg c1, if_neg c1]
          by_cases c2 : (stv 1).getD i 0 < v
          · rw [if_pos c2, if_pos c2, if_pos rfl]; exact ⟨rfl, h⟩
          · have ht : ¬ f_X3_takes c 11 0 1 3 (nI i) v = 0 := by rw [takes_at hi (by omega) rfl rfl, if_neg c1, if_neg c2]; decide
            rw [if_neg c2, if_neg c2, if_neg i10, turn_at hi (by omega) ht]
            exact ⟨by show c 12 i = m 10 (3 * 0 + i); rw [Nat.mul_zero, Nat.zero_add]; exact hr.1, eng h 0 i (by omega) hi v (rng_of c1 c2)⟩
      · have z1 : f_X8_engine c 1 (nI i) v = if f_X3_takes c 13 0 1 3 (nI i) v = 0 then (-2, c) else ((f_X3_turn c 13 0 1 3 (nI i) v).1, (f_X8_refresh (f_X3_turn c 13 0 1 3 (nI i) v).2)) := by
          unfold f_X8_engine; rw [isEng, if_pos (Or.inr rfl), if_neg i10, if_neg i10]
        rw [z1, takes_at hi (by omega) rfl rfl, cl1]
        by_cases c1 : v < (stv 0).getD i 0
        · rw [if_pos c1, if_pos c1, if_pos rfl]; exact ⟨rfl, h⟩
        · rw [if_neg c1, if_neg c1]
          by_cases c2 : (stv 1).getD i 0 < v
          · rw [if_pos c2, if_pos c2, if_pos rfl]; exact ⟨rfl, h⟩
          · have ht : ¬ f_X3_takes c 13 0 1 3 (nI i) v = 0 := by rw [takes_at hi (by omega) rfl rfl, if_neg c1, if_neg c2]; decide
            rw [if_neg c2, if_neg c2, if_neg i10, turn_at hi (by omega) ht]
            exact ⟨by show c 14 i = m 10 (3 * 1 + i); exact hr.2, eng h 1 i (by omega) hi v (rng_of c1 c2)⟩
  · have z1 : f_X8_engine c a b v = (-2, c) := by unfold f_X8_engine; rw [isEng, if_neg ha, if_pos rfl]
    have z2 : f_X9_engine m a b v = (-2, m) := by unfold f_X9_engine; rw [isTwo_eq, if_neg ha, if_pos rfl]
    have z3 : b_X9_engine m a b v := by unfold b_X9_engine; rw [isTwo_eq, if_neg ha, if_pos rfl]; trivial
    rw [z1, z2]; exact ⟨z3, rfl, h⟩
theorem seti {c m : Mem} (h : R c m) (i : Nat) (hi : i < 5) (v : Int32) (hv : rng v ((stv 3).getD i 0).toInt ((stv 4).getD i 0).toInt) : R (f_X8_refresh (mst c 16 i v)) (mst m 11 i v) := by
  obtain ⟨hT, hE, hG, hD, hS, hF, hV, hB⟩ := h
  refine R_refresh (by unfold RT N0 N1 at hT ⊢; simpa [mst] using hT) (by unfold RE at hE ⊢; simpa [mst] using hE) ?_ (by unfold RD Nt at hD ⊢; simpa [mst] using hD) ?_ (by simpa [mst] using hF)
  · obtain ⟨h0, h1, h2, h3, h4, h5⟩ := hG
    unfold RG
    refine ⟨fun j hj => ?_, ?_⟩
    · by_cases e : j = i
      · subst e; simp [mst, upd]
      · simp [mst, upd, e, h0 j hj]
    · rcases (show i = 0 ∨ i = 1 ∨ i = 2 ∨ i = 3 ∨ i = 4 by omega) with rfl | rfl | rfl | rfl | rfl <;>
        (simp [mst, upd]
         first
         | exact ⟨hv, h2, h3, h4, h5⟩
         | exact ⟨h1, hv, h3, h4, h5⟩
         | exact ⟨h1, h2, hv, h4, h5⟩
         | exact ⟨h1, h2, h3, hv, h5⟩
         | exact ⟨h1, h2, h3, h4, hv⟩)
  · intro s hs
    have := hS s hs
    simp only [mst, show ¬ 31 + 2 * s = 16 by omega, show ¬ 32 + 2 * s = 16 by omega, if_false]
    simpa [mst] using this
theorem setM {m : Mem} {v : Int32} {i : Nat} (hi : i < 5) : (f_X9_set m (nI i) v = if v < (stv 3).getD i 0 then (-2, m) else if (stv 4).getD i 0 < v then (-2, m) else (m 11 i, mst m 11 i v)) ∧ b_X9_set m (nI i) v := by
  have v5 : vp_in (nI i) 5 := vnI hi (by omega)
  have i04 : ¬ f_X9_in m (nI i).toInt64 0 4 = 0 := by
    rw [in_lit m _ (l := 0) (h := 4) (by decide) (by decide), if_pos (by rw [nI_t (by omega)]; omega)]; decide
  unfold f_X9_set b_X9_set
  rw [if_neg i04, if_neg i04, nIc (by omega)]
  have go : ∀ (lo' hi' : Int32) (z : Int32), z = (if v < lo' then 0 else if hi' < v then 0 else 1) → ((if z = 0 then ((-2 : Int32), m) else (m 11 i, mst m 11 i v)) = if v < lo' then (-2, m) else if hi' < v then (-2, m) else (m 11 i, mst m 11 i v)) ∧ (if z = 0 then True else (vp_in (nI i) 5 ∧ vp_in (nI i) 5 ∧ True)) := by
    intro lo' hi' z hz
    subst hz
    by_cases c1 : v < lo'
    · rw [if_pos c1, if_pos c1, if_pos rfl, if_pos rfl]; exact ⟨rfl, trivial⟩
    · rw [if_neg c1, if_neg c1]
      by_cases c2 : hi' < v
      · rw [if_pos c2, if_pos c2, if_pos rfl, if_pos rfl]; exact ⟨rfl, trivial⟩
      · rw [if_neg c2, if_neg c2, if_neg i10, if_neg i10]; exact ⟨rfl, v5, v5, trivial⟩
  rcases (show i = 0 ∨ i = 1 ∨ i = 2 ∨ i = 3 ∨ i = 4 by omega) with rfl | rfl | rfl | rfl | rfl
  · rw [if_neg (show ¬ nI 0 = 4 by decide), if_neg (show ¬ nI 0 = 4 by decide), if_pos (show nI 0 = 0 from rfl), if_pos (show nI 0 = 0 from rfl)]
    exact go 1 999 _ (inLR m v 1 999 (by decide) (by decide))
  · rw [if_neg (show ¬ nI 1 = 4 by decide), if_neg (show ¬ nI 1 = 4 by decide), if_neg (show ¬ nI 1 = 0 by decide), if_neg (show ¬ nI 1 = 0 by decide), if_neg (show ¬ nI 1 = 4 by decide), if_neg (show ¬ nI 1 = 4 by decide)]
    exact go 1 99 _ (inLR m v 1 99 (by decide) (by decide))
  · rw [if_neg (show ¬ nI 2 = 4 by decide), if_neg (show ¬ nI 2 = 4 by decide), if_neg (show ¬ nI 2 = 0 by decide), if_neg (show ¬ nI 2 = 0 by decide), if_neg (show ¬ nI 2 = 4 by decide), if_neg (show ¬ nI 2 = 4 by decide)]
    exact go 1 99 _ (inLR m v 1 99 (by decide) (by decide))
  · rw [if_neg (show ¬ nI 3 = 4 by decide), if_neg (show ¬ nI 3 = 4 by decide), if_neg (show ¬ nI 3 = 0 by decide), if_neg (show ¬ nI 3 = 0 by decide), if_neg (show ¬ nI 3 = 4 by decide), if_neg (show ¬ nI 3 = 4 by decide)]
    exact go 1 99 _ (inLR m v 1 99 (by decide) (by decide))
  · rw [if_pos (show nI 4 = 4 from rfl), if_pos (show nI 4 = 4 from rfl), if_neg (show ¬ nI 4 = 0 by decide), if_neg (show ¬ nI 4 = 0 by decide), if_pos (show nI 4 = 4 from rfl), if_pos (show nI 4 = 4 from rfl)]
    exact go 0 20 _ (inLR m v 0 20 (by decide) (by decide))
theorem op_set {c m : Mem} (h : R c m) (a v : Int32) : OP (f_X8_set c a v) (f_X9_set m a v) (b_X9_set m a v) := by
  by_cases hb : a < 0 ∨ 5 ≤ a
  · have z1 : f_X8_set c a v = (-2, c) := by unfold f_X8_set; rw [takes_no (by exact hb), if_pos rfl]
    have i04 : f_X9_in m a.toInt64 0 4 = 0 := by
      rw [inLR m a 0 4 (by decide) (by decide)]
      by_cases c1 : a < 0
      · rw [if_pos c1]
      · have c2 : 4 < a := by have := hb.resolve_left c1; rw [Int32.le_iff_toInt_le, t5] at this; rw [Int32.lt_iff_toInt_lt, t4]; omega
        rw [if_neg c1, if_pos c2]
    have z2 : f_X9_set m a v = (-2, m) := by unfold f_X9_set; rw [if_pos i04]
    have z3 : b_X9_set m a v := by unfold b_X9_set; rw [if_pos i04]; trivial
    rw [z1, z2]; exact ⟨z3, rfl, h⟩
  · obtain ⟨i, hi, rfl⟩ := asN (n := 5) (by decide) (fun z => hb (Or.inl z)) (fun z => hb (Or.inr z))
    obtain ⟨e1, e2⟩ := setM (m := m) (v := v) hi
    rw [e1]
    refine ⟨e2, ?_⟩
    unfold f_X8_set
    rw [takes_at hi (by omega) rfl rfl]
    by_cases c1 : v < (stv 3).getD i 0
    · rw [if_pos c1, if_pos c1, if_pos rfl]; exact ⟨rfl, h⟩
    · rw [if_neg c1, if_neg c1]
      by_cases c2 : (stv 4).getD i 0 < v
      · rw [if_pos c2, if_pos c2, if_pos rfl]; exact ⟨rfl, h⟩
      · have ht : ¬ f_X3_takes c 15 3 4 5 (nI i) v = 0 := by rw [takes_at hi (by omega) rfl rfl, if_neg c1, if_neg c2]; decide
        rw [if_neg c2, if_neg c2, if_neg i10, turn_at hi (by omega) ht]
        exact ⟨h.2.2.1.1 i hi, seti h i hi v (rng_of c1 c2)⟩
