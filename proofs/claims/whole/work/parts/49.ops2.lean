theorem cut0 {c m : Mem} (h : R c m) {k : Nat} (hk : k ≤ N0 m) : R (f_X8_refresh (mst c 1 2 (nI k))) (mst m 6 0 (nI k)) := by
  obtain ⟨hT, hE, hG, hD, hS, hF, hV, hB⟩ := h
  obtain ⟨t1, t2, t3, t4, t5, t6, t7, t8, t9, t10⟩ := hT
  have n0 : N0 (mst m 6 0 (nI k)) = k := by unfold N0; simp [mst, upd]; exact nIc (by omega)
  have n1 : N1 (mst m 6 0 (nI k)) = N1 m := by unfold N1; simp [mst, upd]
  refine R_refresh ?_ (by unfold RE at hE ⊢; simpa [mst] using hE) (by unfold RG at hG ⊢; simpa [mst] using hG) (by unfold RD Nt at hD ⊢; simpa [mst] using hD) ?_ (by simpa [mst] using hF)
  · unfold RT
    rw [n0, n1]
    refine ⟨by simp [mst, upd], by omega, by simp [mst, upd]; exact t3, t4, by simp [mst, upd], by simp [mst, upd, t6], fun j hj => by simp [mst, t7 j (by omega)], by simp [mst, upd, t8], by simp [mst, t9], fun j hj => by simp [mst, t10 j hj]⟩
  · intro s hs
    have := hS s hs
    simp only [mst, show ¬ 31 + 2 * s = 1 by omega, show ¬ 32 + 2 * s = 1 by omega, if_false]
    simpa [mst] using this
theorem cut1 {c m : Mem} (h : R c m) {k : Nat} (hk : k ≤ N1 m) : R (f_X8_refresh (mst c 3 2 (nI k))) (mst m 6 1 (nI k)) := by
  obtain ⟨hT, hE, hG, hD, hS, hF, hV, hB⟩ := h
  obtain ⟨t1, t2, t3, t4, t5, t6, t7, t8, t9, t10⟩ := hT
  have n0 : N0 (mst m 6 1 (nI k)) = N0 m := by unfold N0; simp [mst, upd]
  have n1 : N1 (mst m 6 1 (nI k)) = k := by unfold N1; simp [mst, upd]; exact nIc (by omega)
  refine R_refresh ?_ (by unfold RE at hE ⊢; simpa [mst] using hE) (by unfold RG at hG ⊢; simpa [mst] using hG) (by unfold RD Nt at hD ⊢; simpa [mst] using hD) ?_ (by simpa [mst] using hF)
  · unfold RT
    rw [n0, n1]
    refine ⟨by simp [mst, upd]; exact t1, t2, by simp [mst, upd], by omega, by simp [mst, upd, t5], by simp [mst, upd, t6], fun j hj => by simp [mst, t7 j hj], by simp [mst, upd], by simp [mst, upd, t9], fun j hj => by simp [mst, t10 j (by omega)]⟩
  · intro s hs
    have := hS s hs
    simp only [mst, show ¬ 31 + 2 * s = 3 by omega, show ¬ 32 + 2 * s = 3 by omega, if_false]
    simpa [mst] using this
theorem shorten_eq {σ : Mem} {k n b : Nat} (h : σ k 2 = nI n) (hb : b ≤ n) (hn : n < 1000) : f_X7_shorten σ k (nI b) = mst σ k 2 (nI (n - b)) := by
  unfold f_X7_shorten
  rw [h, pk_sub hb]
  by_cases e : 0 < n - b
  · have c1 : 0 < nI (n - b) := by rw [show (0 : Int32) = nI 0 from rfl, nIlt (by omega) (by omega)]; exact e
    rw [if_pos c1]
  · have e0 : n - b = 0 := by omega
    rw [e0, if_neg (by decide)]; rfl
theorem op_wipe {c m : Mem} (h : R c m) (a : Int32) : OP (f_X8_wipe c a) (f_X9_wipe m a) (b_X9_wipe m a) := by
  obtain ⟨t1, t2, t3, t4, t5, t6, t7, t8, t9, t10⟩ := id h.1
  unfold f_X8_wipe f_X9_wipe b_X9_wipe
  by_cases a0 : a = 0
  · subst a0
    have v : vp_in (0 : Int32) 2 := vlit _ 2 (by decide)
    have es : f_X7_size c 1 = nI (N0 m) := by unfold f_X7_size; rw [t5, t1]
    rw [if_pos rfl, if_neg (isTwo0 m), if_neg (isTwo0 m), cl0, es, shorten_eq (n := N0 m) (by rw [t5, t1]) (Nat.le_refl _) (by omega), Nat.sub_self]
    exact ⟨⟨v, v, trivial⟩, t1.symm, cut0 h (Nat.zero_le _)⟩
  · rw [if_neg a0]
    by_cases a1 : a = 1
    · subst a1
      have v : vp_in (1 : Int32) 2 := vlit _ 2 (by decide)
      have es : f_X7_size c 3 = nI (N1 m) := by unfold f_X7_size; rw [t8, t3]
      rw [if_pos rfl, if_neg (isTwo1 m), if_neg (isTwo1 m), cl1, es, shorten_eq (n := N1 m) (by rw [t8, t3]) (Nat.le_refl _) (by omega), Nat.sub_self]
      exact ⟨⟨v, v, trivial⟩, t3.symm, cut1 h (Nat.zero_le _)⟩
    · rw [if_neg a1, if_pos (isTwoN a0 a1), if_pos (isTwoN a0 a1)]
      exact ⟨trivial, rfl, h⟩
theorem op_undo {c m : Mem} (h : R c m) (a : Int32) : OP (f_X8_undo c a) (f_X9_undo m a) (b_X9_undo m a) := by
  obtain ⟨t1, t2, t3, t4, t5, t6, t7, t8, t9, t10⟩ := id h.1
  unfold f_X8_undo f_X9_undo b_X9_undo
  by_cases a0 : a = 0
  · subst a0
    have v : vp_in (0 : Int32) 2 := vlit _ 2 (by decide)
    have es : f_X7_size c 1 = nI (N0 m) := by unfold f_X7_size; rw [t5, t1]
    rw [if_pos rfl, if_neg (isTwo0 m), if_neg (isTwo0 m), cl0, es, t1]
    by_cases e : N0 m = 0
    · have c1 : nI (N0 m) = 0 := by rw [e]; rfl
      rw [if_pos c1, if_pos c1, if_pos c1]; exact ⟨⟨v, trivial⟩, rfl, h⟩
    · have c1 : ¬ nI (N0 m) = 0 := nI_ne0 (by omega) (by omega)
      rw [if_neg c1, if_neg c1, if_neg c1, show (1 : Int32) = nI 1 from rfl, shorten_eq (n := N0 m) (by rw [t5, t1]) (by omega) (by omega), pk_sub (by omega)]
      have hR := cut0 h (k := N0 m - 1) (by omega)
      refine ⟨⟨v, v, v, v, trivial⟩, ?_, hR⟩
      show f_X7_size (f_X8_refresh _) 1 = _
      unfold f_X7_size
      rw [hR.1.2.2.2.2.1]; simp [mst, upd]
  · rw [if_neg a0]
    by_cases a1 : a = 1
    · subst a1
      have v : vp_in (1 : Int32) 2 := vlit _ 2 (by decide)
      have es : f_X7_size c 3 = nI (N1 m) := by unfold f_X7_size; rw [t8, t3]
      rw [if_pos rfl, if_neg (isTwo1 m), if_neg (isTwo1 m), cl1, es, t3]
      by_cases e : N1 m = 0
      · have c1 : nI (N1 m) = 0 := by rw [e]; rfl
        rw [if_pos c1, if_pos c1, if_pos c1]; exact ⟨⟨v, trivial⟩, rfl, h⟩
      · have c1 : ¬ nI (N1 m) = 0 := nI_ne0 (by omega) (by omega)
        rw [if_neg c1, if_neg c1, if_neg c1, show (1 : Int32) = nI 1 from rfl, shorten_eq (n := N1 m) (by rw [t8, t3]) (by omega) (by omega), pk_sub (by omega)]
        have hR := cut1 h (k := N1 m - 1) (by omega)
        refine ⟨⟨v, v, v, v, trivial⟩, ?_, hR⟩
        show f_X7_size (f_X8_refresh _) 3 = _
        unfold f_X7_size
        rw [hR.1.2.2.2.2.2.2.2.1]; simp [mst, upd]
    · rw [if_neg a1, if_pos (isTwoN a0 a1), if_pos (isTwoN a0 a1)]
      exact ⟨trivial, rfl, h⟩
theorem readsT_prim {c m : Mem} (h : RT c m) : Prim m (f_X9_readsTrain m).2 := by
  obtain ⟨-, -, -, a, b⟩ := readsTrain_eq (B := m 5) h.1 h.2.1 (fun _ _ => rfl)
  exact ⟨a 1 (by decide) (by decide), a 2 (by decide) (by decide), a 3 (by decide) (by decide), a 5 (by decide) (by decide), a 6 (by decide) (by decide), a 10 (by decide) (by decide), a 11 (by decide) (by decide), a 18 (by decide) (by decide), b 4 (by decide) (by decide), b 25 (by decide) (by decide)⟩
theorem readsH_prim {c m : Mem} (h : RT c m) : Prim m (f_X9_readsHill m).2 := by
  obtain ⟨-, -, -, a, b⟩ := readsHill_eq (B := B1 m) h.2.2.1 h.2.2.2.1 (fun _ _ => rfl)
  exact ⟨a 1 (by decide) (by decide) (by decide), a 2 (by decide) (by decide) (by decide), a 3 (by decide) (by decide) (by decide), a 5 (by decide) (by decide) (by decide), a 6 (by decide) (by decide) (by decide), a 10 (by decide) (by decide) (by decide), a 11 (by decide) (by decide) (by decide), a 18 (by decide) (by decide) (by decide), b 4 (by decide), b 25 (by decide)⟩
theorem op_fault {c m : Mem} (h : R c m) (a : Int32) : OP (f_X8_fault c a, c) (f_X9_fault m a) (b_X9_fault m a) := by
  obtain ⟨hT, hE, hG, hD, hS, hF, hV, hB⟩ := id h
  unfold f_X8_fault f_X9_fault b_X9_fault
  by_cases a0 : a = 0
  · subst a0
    obtain ⟨b1, b2, -⟩ := readsTrain_eq (B := m 5) hT.1 hT.2.1 (fun _ _ => rfl)
    rw [if_pos rfl, if_pos rfl, if_neg (isTwo0 m), if_neg (isTwo0 m), if_pos rfl, if_pos rfl]
    exact ⟨⟨b1, trivial⟩, by show f_X1_firstFault c = _; rw [b2]; exact hV.1.2.2.1, h.prim (readsT_prim hT)⟩
  · rw [if_neg a0]
    by_cases a1 : a = 1
    · subst a1
      obtain ⟨b1, b2, -⟩ := readsHill_eq (B := B1 m) hT.2.2.1 hT.2.2.2.1 (fun _ _ => rfl)
      rw [if_pos rfl, if_neg i10, if_neg (isTwo1 m), if_neg (isTwo1 m), if_neg i10, if_neg i10]
      exact ⟨⟨b1, trivial⟩, by show f_X6_firstFault c = _; rw [b2]; exact hV.2.1.2.2.1, h.prim (readsH_prim hT)⟩
    · rw [if_neg a1, if_pos (isTwoN a0 a1), if_pos (isTwoN a0 a1)]
      exact ⟨trivial, rfl, h⟩
/-- 'in' of a range that ends below n -/
theorem inN (σ : Mem) (a : Int32) {n : Nat} (hn : n < 1000) : f_X9_in σ a.toInt64 0 (nI n - 1).toInt64 = if a < 0 then 0 else if nI n ≤ a then 0 else 1 := by
  have e : (nI n - 1).toInt = (n : Int) - 1 := by rw [subT (by rw [nI_t (by omega), t1]; omega) (by rw [nI_t (by omega), t1]; omega), nI_t (by omega), t1]
  rw [in_lit σ a (l := 0) (h := (n : Int) - 1) (by decide) (by rw [Int32.toInt_toInt64]; exact e)]
  have e1 : (a < 0) ↔ a.toInt < 0 := by rw [Int32.lt_iff_toInt_lt, Int32.toInt_zero]
  have e2 : (nI n ≤ a) ↔ (n : Int) ≤ a.toInt := by rw [Int32.le_iff_toInt_le, nI_t (by omega)]
  by_cases h1 : a.toInt < 0
  · rw [if_neg (by omega), if_pos (e1.mpr h1)]
  · rw [if_neg (fun z => h1 (e1.mp z))]
    by_cases h2 : (n : Int) ≤ a.toInt
    · rw [if_neg (by omega), if_pos (e2.mpr h2)]
    · rw [if_pos (by omega), if_neg (fun z => h2 (e2.mp z))]
/-- an int that isn't below 0 and is below nI n -/
theorem asN {a : Int32} {n : Nat} (hn : n < 2147483648) (h0 : ¬ a < 0) (h1 : ¬ nI n ≤ a) : ∃ j, j < n ∧ a = nI j := by
  obtain ⟨j, hj, e⟩ := nI_of h0
  refine ⟨j, ?_, e⟩
  rw [e, nIle hn hj] at h1; omega
theorem op_wagon {c m : Mem} (h : R c m) (a : Int32) : OP (f_X8_wagon c a, c) (f_X9_wagon m a) (b_X9_wagon m a) := by
  obtain ⟨hT, hE, hG, hD, hS, hF, hV, hB⟩ := id h
  obtain ⟨r1, r2, r3, -⟩ := reads_eq hT
  have hn := tN_le (m 5) (N0 m)
  have h12 := hT.2.1
  unfold f_X8_wagon f_X9_wagon b_X9_wagon f_X1_size
  rw [r2.1, inN _ a (by omega), hV.1.1]
  by_cases a0 : a < 0
  · rw [if_pos a0, if_pos a0, if_pos rfl, if_pos rfl]; exact ⟨⟨r1, trivial⟩, rfl, h.prim (reads_prim hT)⟩
  · rw [if_neg a0, if_neg a0]
    by_cases a1 : nI (tN (m 5) (N0 m)) ≤ a
    · rw [if_pos a1, if_pos a1, if_pos rfl, if_pos rfl]; exact ⟨⟨r1, trivial⟩, rfl, h.prim (reads_prim hT)⟩
    · obtain ⟨j, hj, rfl⟩ := asN (by omega) a0 a1
      have c2 : ¬ (12 : Int32) ≤ nI j := by rw [show (12 : Int32) = nI 12 from rfl, nIle (by omega) (by omega)]; omega
      rw [if_neg a1, if_neg a1, if_neg i10, if_neg i10, nIc (by omega), r2.2.2 j hj]
      refine ⟨⟨r1, vnI (by omega) (by omega), trivial⟩, ?_, h.prim (reads_prim hT)⟩
      show f_X1_weightOf c (nI j) = _
      unfold f_X1_weightOf
      rw [if_neg a0, hV.1.1, if_neg a1, if_neg c2, nIc (by omega), hV.1.2.2.2.1 j hj]
theorem z01 (σ : Mem) (b : Int32) : f_X8_isZeroOrOne σ b = if b = 0 ∨ b = 1 then 1 else 0 := by
  unfold f_X8_isZeroOrOne
  by_cases h0 : b = 0
  · rw [if_pos h0, if_pos (Or.inl h0)]
  · by_cases h1 : b = 1
    · rw [if_neg h0, if_pos h1, if_pos (Or.inr h1)]
    · rw [if_neg h0, if_neg h1, if_neg (fun z => z.elim h0 h1)]
theorem op_hill {c m : Mem} (h : R c m) (a b : Int32) : OP (f_X8_hill c a b, c) (f_X9_hill m a b) (b_X9_hill m a b) := by
  obtain ⟨hT, hE, hG, hD, hS, hF, hV, hB⟩ := id h
  obtain ⟨r1, r2, r3, -⟩ := reads_eq hT
  have hn := hP_le (B1 m) (N1 m)
  have hp := h.prim (reads_prim hT)
  unfold f_X8_hill f_X9_hill b_X9_hill f_X6_size
  rw [r3.1, inN _ a (by omega), hV.2.1.1]
  by_cases a0 : a < 0
  · rw [if_pos a0, if_pos a0, if_pos rfl, if_pos rfl]; exact ⟨⟨r1, trivial⟩, rfl, hp⟩
  · rw [if_neg a0, if_neg a0]
    by_cases a1 : nI (hP (B1 m) (N1 m)) ≤ a
    · rw [if_pos a1, if_pos a1, if_pos rfl, if_pos rfl]; exact ⟨⟨r1, trivial⟩, rfl, hp⟩
    · obtain ⟨j, hj, rfl⟩ := asN (by omega) a0 a1
      have c2 : ¬ (16 : Int32) ≤ nI j := by rw [show (16 : Int32) = nI 16 from rfl, nIle (by omega) (by omega)]; omega
      have v : vp_in (nI j) 16 := vnI (by omega) (by omega)
      rw [if_neg a1, if_neg a1, if_neg i10, if_neg i10, z01, isTwo_eq]
      by_cases b0 : b = 0 ∨ b = 1
      · rw [if_pos b0, if_neg i10, if_neg i10, if_neg i10, nIc (by omega), (r3.2 j hj).1, (r3.2 j hj).2]
        by_cases b1 : b = 0
        · rw [if_pos b1, if_pos b1, if_pos b1]
          refine ⟨⟨r1, v, trivial⟩, ?_, hp⟩
          show f_X6_steepAt c (nI j) = hst (B1 m) (N1 m) j
          unfold f_X6_steepAt
          rw [hV.2.1.1, nI_m1 (by omega), if_neg (show ¬ nI (hP (B1 m) (N1 m) - 1) < nI j by rw [nIlt (by omega) (by omega)]; omega), if_neg a0, if_neg c2, nIc (by omega), (hV.2.1.2.2.2 j hj).1]
        · rw [if_neg b1, if_neg b1, if_neg b1]
          have e : f_X6_bendsAt c (nI j) = if hbd (B1 m) (N1 m) j = 0 then 0 else 1 := by
            unfold f_X6_bendsAt
            rw [if_neg a0, hV.2.1.1, if_neg a1, if_neg c2, nIc (by omega), (hV.2.1.2.2.2 j hj).2]
          rw [e]
          by_cases q : hbd (B1 m) (N1 m) j = 0
          · rw [if_pos q, if_pos q, if_pos q, if_pos rfl]; exact ⟨⟨r1, v, trivial⟩, rfl, hp⟩
          · rw [if_neg q, if_neg q, if_neg q, if_neg i10]; exact ⟨⟨r1, v, trivial⟩, rfl, hp⟩
      · rw [if_neg b0, if_pos rfl, if_pos rfl, if_pos rfl]; exact ⟨⟨r1, trivial⟩, rfl, hp⟩
