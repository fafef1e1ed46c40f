def FO (c m : Mem) (n W : Nat) : Prop := (1 ≤ n ∧ n ≤ 6 ∧ n ≤ W ∧ W ≤ 54 ∧ found1 c m n W) ∨ (c 23 2 = 0 ∧ c 23 5 = 0 ∧ c 23 6 = 1 ∧ c 23 7 = 1 ∧ m 0 22 = 0)
theorem FO.cf {c c' m : Mem} {n W : Nat} (h : FO c m n W) (h23 : c' 23 = c 23) (h25 : c' 25 = c 25) : FO c' m n W := by unfold FO found1; rw [h23, h25]; exact h
theorem find_0 (σ : Mem) (a b : Int32) (h : 6 < σ 5 2 ∨ σ 5 2 = 0) : f_X0_find σ a b = f_X0_begin σ ∧ (f_X0_begin σ) 23 2 = 0 ∧ (f_X0_begin σ) 23 5 = 0 ∧ (f_X0_begin σ) 23 6 = 1 ∧ (f_X0_begin σ) 23 7 = 1 := by
  have k : (f_X0_begin σ) 23 2 = 0 ∧ (f_X0_begin σ) 23 5 = 0 ∧ (f_X0_begin σ) 23 6 = 1 ∧ (f_X0_begin σ) 23 7 = 1 := by
    unfold f_X0_begin f_X1_size
    rcases h with h | h
    · rw [if_pos h]
      refine ⟨?_, ?_, ?_, ?_⟩ <;> (rw [fr_l_X0_begin_52 _ _ _ 23 (by decide)]; simp [mst, upd])
    · have c1 : ¬ (6 : Int32) < σ 5 2 := by rw [h]; decide
      have c2 : σ 5 2 ≤ 0 := by rw [h]; decide
      rw [if_neg c1, if_pos c2, h]
      refine ⟨?_, ?_, ?_, ?_⟩ <;> (rw [fr_l_X0_begin_52 _ _ _ 23 (by decide)]; simp [mst, upd])
  refine ⟨?_, k⟩
  unfold f_X0_find
  have c3 : (f_X0_begin σ) 23 2 ≤ 0 := by rw [k.1]; decide
  rw [if_pos c3, fu_eq, show (721 : Nat) = 720 + 1 from rfl, l_X0_find_22, if_neg (by decide), if_pos rfl]
theorem find_eq {σ m : Mem} {B : Nat → Int32} {N : Nat} (hN : N ≤ 12) (hc : Trn B N σ) (hm : TrnM B N m) (h0 : rng (m 10 0) 0 999) (h3 : rng (m 10 3) 0 999) : b_X9_findOrder m ∧ FO (f_X0_find σ (m 10 0) (m 10 3)) (f_X9_findOrder m) (tN B N) (sN B (tN B N)) ∧ frO m (f_X9_findOrder m) := by
  have hn12 := tN_le B N
  have hw := tN_all B N
  have aw := aC_eq hw
  have aW := aw (tN B N) (Nat.le_refl _)
  obtain ⟨t1, t2, t3, t4, t5⟩ := hc
  obtain ⟨u1, u2, u3⟩ := hm
  have z0 : nI 0 = (0 : Int32) := rfl
  have fr0 : frO m (mst m 0 22 0) := ⟨fun q a b c => mst_ne _ _ _ a, fun s hs => by simp [mst, upd, show ¬ s = 22 by omega]⟩
  by_cases e : 1 ≤ tN B N ∧ tN B N ≤ 6
  · obtain ⟨e1, e2⟩ := e
    obtain ⟨p, hp, ep⟩ := g9_of h0
    obtain ⟨q, hq, eq⟩ := g9_of h3
    have c1 : ¬ (6 : Int32) < nI (tN B N) := by rw [show (6 : Int32) = nI 6 from rfl, nIlt (by omega) (by omega)]; omega
    have c2 : ¬ nI (tN B N) ≤ 0 := nI_nle (by omega) (by omega)
    have c3 : ¬ nI (tN B N) = 0 := nI_ne0 (by omega) (by omega)
    have c4 : nI (tN B N) ≤ 6 := by rw [show (6 : Int32) = nI 6 from rfl, nIle (by omega) (by omega)]; omega
    have eb : f_X0_begin σ = l_X0_begin_52 (fu 7) 0 (mst (mst (mst (mst σ 23 2 (nI (tN B N))) 23 7 (nI (sN B (tN B N)))) 23 5 0) 23 6 1) := by
      unfold f_X0_begin f_X1_size f_X1_whole
      rw [t1, if_neg c1, if_neg c2]
      have : (mst σ 23 2 (nI (tN B N))) 5 3 = nI (sN B (tN B N)) := by simp [mst, t2, aW.1]
      rw [this]
    have bg := begin_l 6 0 (fu 7) (mst (mst (mst (mst σ 23 2 (nI (tN B N))) 23 7 (nI (sN B (tN B N)))) 23 5 0) 23 6 1) (by omega) (by rw [fu_eq]; omega)
    rw [z0, ← eb] at bg
    have b23 : ∀ s, (f_X0_begin σ) 23 s = (mst (mst (mst (mst σ 23 2 (nI (tN B N))) 23 7 (nI (sN B (tN B N)))) 23 5 0) 23 6 1) 23 s := fun s => by rw [eb, fr_l_X0_begin_52 _ _ _ 23 (by decide)]
    have bq : ∀ x, x ≠ 23 → x ≠ 24 → (f_X0_begin σ) x = σ x := fun x h1 h2 => fr_X0_begin σ h1 h2
    have b2 : (f_X0_begin σ) 23 2 = nI (tN B N) := by rw [b23]; simp [mst, upd]
    have b7 : (f_X0_begin σ) 23 7 = nI (sN B (tN B N)) := by rw [b23]; simp [mst, upd]
    have hwt : wts (f_X0_begin σ) (mst m 0 22 0) (tN B N) (wN B) p q := by
      refine ⟨by rw [bq 5 (by decide) (by decide)]; exact t1, fun j hj => ?_, by simp [mst, ep], by simp [mst, eq], hp, hq⟩
      have := w_eq (hw j hj)
      refine ⟨by rw [bq 6 (by decide) (by decide), t4 j hj]; exact this.1, by simp [mst]; rw [u3 j hj]; exact this.1, this.2.1, this.2.2⟩
    have hf := fct_le e2
    have key := find_l (n := tN B N) (W := sN B (tN B N)) (p := p) (q := q) (w := wN B) e1 e2 (by omega) (fct (tN B N)) 0 (fu 721) (fu 721) (f_X0_begin σ) (mst m 0 22 0) 1 (by omega) (by rw [fu_eq]; omega) (by rw [fu_eq]; omega) (by rw [if_pos (by omega)]) hwt b2 (by simp [mst, upd, u1]) b7 (by simp [mst, upd, u2, aW.1])
      (fun _ => ⟨b2, by
        rcases (show tN B N = 1 ∨ tN B N = 2 ∨ tN B N = 3 ∨ tN B N = 4 ∨ tN B N = 5 ∨ tN B N = 6 by omega) with y | y | y | y | y | y <;> (rw [y]; decide), fun j hj => by
          have := p_0 e1 e2 j hj
          rw [this]; exact ⟨bg.1 j (by omega) (by omega), by omega⟩⟩) (fun _ => by simp [mst, upd]) (fun z => absurd z (by omega))
    obtain ⟨cd1, cd2⟩ := codes_l e1 e2 u1 (tN B N - 1) 2 (fu 14) (by omega) (by omega) (by rw [fu_eq]; omega)
    have em : f_X9_findOrder m = l_X9_findOrder_49 (fu 721) (nI (fct (tN B N))) 0 (mst m 0 22 0) := by
      unfold f_X9_findOrder
      rw [u1, if_neg c3, if_pos c4]; exact cd1
    have ec : f_X0_find σ (m 10 0) (m 10 3) = l_X0_find_22 (fu 721) (nI p) (nI q) 1 0 (f_X0_begin σ) := by
      unfold f_X0_find
      rw [b2, if_neg c2, ep, eq]
    rw [z0] at key
    refine ⟨?_, Or.inl ⟨e1, e2, aW.2.1, by omega, ?_⟩, ?_⟩
    · unfold b_X9_findOrder
      rw [u1, if_neg c3, if_pos c4]; exact cd2 key.1
    · rw [em, ec]; exact key.2.1
    · rw [em]; exact fr0.tr key.2.2
  · obtain ⟨k1, k2⟩ := codes0_l (n := tN B N) (by omega) u1 12 2 (fu 14) (by omega) (by omega) (by rw [fu_eq]; omega)
    have em : f_X9_findOrder m = mst m 0 22 0 ∧ b_X9_findOrder m := by
      unfold f_X9_findOrder b_X9_findOrder
      rw [u1]
      by_cases y : nI (tN B N) = 0
      · rw [if_pos y, if_pos y]; exact ⟨k1, k2⟩
      · rw [if_neg y, if_neg y]
        have y0 : tN B N ≠ 0 := fun w => y (by rw [w]; rfl)
        have y6 : ¬ nI (tN B N) ≤ 6 := by rw [show (6 : Int32) = nI 6 from rfl, nIle (by omega) (by omega)]; omega
        rw [if_neg y6, if_neg y6]; exact ⟨k1, k2⟩
    have hz : 6 < σ 5 2 ∨ σ 5 2 = 0 := by
      rw [t1]
      by_cases y : tN B N = 0
      · right; rw [y]; rfl
      · left; rw [show (6 : Int32) = nI 6 from rfl, nIlt (by omega) (by omega)]; omega
    obtain ⟨f1, f2, f3, f4, f5⟩ := find_0 σ (m 10 0) (m 10 3) hz
    refine ⟨em.2, Or.inr ?_, ?_⟩
    · rw [f1, em.1]; exact ⟨f2, f3, f4, f5, by simp [mst, upd]⟩
    · rw [em.1]; exact fr0
theorem tO_eq {c m : Mem} {n W : Nat} (h : FO c m n W) {j : Nat} (hj : j < 6) : b_X9_tellsOrder m (nI j) ∧ f_X0_wagonAt c (nI j) = f_X9_tellsOrder m (nI j) := by
  unfold b_X9_tellsOrder f_X9_tellsOrder f_X0_wagonAt
  have c1 : ¬ nI j < 0 := nInn (by omega)
  have c2 : ¬ (6 : Int32) ≤ nI j := by rw [show (6 : Int32) = nI 6 from rfl, nIle (by omega) (by omega)]; omega
  rcases h with ⟨h1, h2, h3, h4, f1, f2, f3, f4, A, Bl, f5, f6, f7, f8, f9, f10, f11, f12⟩ | ⟨h1, h2, h3, h4, h5⟩
  · have c3 : ¬ nI Bl ≤ 0 := nI_nle (by omega) (by omega)
    rw [if_neg c1, f1, f11, f3, if_neg c3, if_neg c3]
    by_cases z : nI n ≤ nI j
    · rw [if_pos z, if_pos z, if_pos z]; exact ⟨trivial, rfl⟩
    · rw [if_neg z, if_neg z, if_neg z, if_neg c2, nIc (by omega)]
      rw [nIle (by omega) (by omega)] at z
      exact ⟨⟨vnI hj (by omega), trivial⟩, f12 j (by omega)⟩
  · have c3 : (0 : Int32) ≤ 0 := by decide
    have c4 : (0 : Int32) ≤ nI j := nI_pos' (by omega)
    rw [if_neg c1, h1, h5, if_pos c3, if_pos c3, if_pos c4]; exact ⟨trivial, rfl⟩
theorem tS_eq {c m : Mem} {n W : Nat} (h : FO c m n W) (w : Int32) : b_X9_tellsSqueeze m w ∧ (f_X8_inLowestTerms c ((f_X0_squeezeAbove c).toInt64) ((f_X0_squeezeBelow c).toInt64) w).toInt32 = f_X9_tellsSqueeze m w := by
  unfold b_X9_tellsSqueeze f_X9_tellsSqueeze f_X0_squeezeAbove f_X0_squeezeBelow
  rcases h with ⟨h1, h2, h3, h4, f1, f2, f3, f4, A, Bl, f5, f6, f7, f8, f9, f10, f11, f12⟩ | ⟨h1, h2, h3, h4, h5⟩
  · have c3 : ¬ nI Bl = 0 := nI_ne0 (by omega) (by omega)
    have hb : Bl * W ≤ 9 * 54 := Nat.mul_le_mul f7 h4
    have hp : 0 < Bl * W := Nat.mul_pos f6 (by omega)
    rw [f8, f10, f2, f9, f11, f4, if_neg c3, if_neg c3, pk_mul, nI_l (show A < 2 ^ 31 by omega), nI_l (show Bl * W < 2 ^ 31 by omega), nI_l (show Bl < 2 ^ 31 by omega), nI_l (show W < 2 ^ 31 by omega), lN_mul]
    have ti : (lN A).toInt = (A : Int) := pk_lT (by omega)
    have pe := part_eq m c (X := lN A) (y := Bl * W) w (by rw [ti]; omega) (by rw [ti]; omega) hp (by omega)
    exact ⟨⟨pe.1, trivial⟩, by rw [pe.2]⟩
  · rw [h2, h3, h4, h5, if_pos rfl, if_pos rfl]
    have pe := part_eq m c (X := 0) (y := 1) w (by decide) (by decide) (by omega) (by omega)
    rw [show ((1 : Int32) * 1).toInt64 = lN 1 by decide, show (0 : Int32).toInt64 = 0 by decide]
    exact ⟨⟨pe.1, trivial⟩, by rw [← pe.2]; rfl⟩
theorem R_best {c m : Mem} (h : R c m) : R (f_X8_findBestRow c) m ∧ ∃ σ : Mem, Trn (m 5) (N0 m) σ ∧ (f_X8_findBestRow c) 23 = (f_X0_find σ (m 10 0) (m 10 3)) 23 ∧ (f_X8_findBestRow c) 25 = (f_X0_find σ (m 10 0) (m 10 3)) 25 := by
  obtain ⟨hT, hE, hG, hD, hS, hF, hV, hB⟩ := id h
  unfold f_X8_findBestRow
  by_cases z : c 0 11 = 0
  · have e2 : f_X3_at c 11 0 1 3 0 = m 10 0 := by rw [show (0 : Int32) = nI 0 from rfl, at_eq (by omega) (by omega)]; exact (hE.1 0 (by omega)).1
    have e3 : f_X3_at c 13 0 1 3 0 = m 10 3 := by rw [show (0 : Int32) = nI 0 from rfl, at_eq (by omega) (by omega)]; exact (hE.1 0 (by omega)).2
    rw [if_pos z, e2, e3]
    have k : ∀ q, q ≠ 0 → q ≠ 23 → q ≠ 24 → q ≠ 25 → (mst (f_X0_find c (m 10 0) (m 10 3)) 0 11 1) q = c q := fun q q0 q1 q2 q3 => by rw [mst_ne _ _ _ q0]; exact fr_X0_find c _ _ q1 q2 q3
    have k0 : ∀ s, s ≠ 11 → (mst (f_X0_find c (m 10 0) (m 10 3)) 0 11 1) 0 s = c 0 s := fun s hs => by
      rw [mst_at, if_neg (fun y => hs y.2)]; rw [fr_X0_find c _ _ (by decide) (by decide) (by decide)]
    have k' : ∀ q, q ≠ 0 → (q < 23 ∨ 25 < q) → (mst (f_X0_find c (m 10 0) (m 10 3)) 0 11 1) q = c q := fun q q0 hq => k q q0 (by omega) (by omega) (by omega)
    have ex : ∃ σ : Mem, Trn (m 5) (N0 m) σ ∧ (mst (f_X0_find c (m 10 0) (m 10 3)) 0 11 1) 23 = (f_X0_find σ (m 10 0) (m 10 3)) 23 ∧ (mst (f_X0_find c (m 10 0) (m 10 3)) 0 11 1) 25 = (f_X0_find σ (m 10 0) (m 10 3)) 25 := ⟨c, hV.1, mst_ne _ _ _ (by decide), mst_ne _ _ _ (by decide)⟩
    refine ⟨⟨hT.cf (k' 1 (by omega) (by omega)) (k' 2 (by omega) (by omega)) (k' 3 (by omega) (by omega)) (k' 4 (by omega) (by omega)), hE.cf (k' 12 (by omega) (by omega)) (k' 14 (by omega) (by omega)), hG.cf (k' 16 (by omega) (by omega)), hD.cf (by rw [k' 26 (by omega) (by omega)]) (k' 27 (by omega) (by omega)), hS.cf (fun q h1 h2 => k' q (by omega) (by omega)), by rw [k0 12 (by decide)]; exact hF, hV.cf (fun q h1 h2 => k' q (by omega) (by omega)) (fun q h1 h2 => k' q (by omega) (by omega)), Or.inr ⟨by simp [mst, upd], ex⟩⟩, ex⟩
  · rw [if_neg z]
    exact ⟨h, (hB.resolve_left z).2⟩
theorem best_FO {c m μ : Mem} (h : R c m) (hm : TrnM (m 5) (N0 m) μ) (h10 : μ 10 = m 10) : b_X9_findOrder μ ∧ FO (f_X8_findBestRow c) (f_X9_findOrder μ) (tN (m 5) (N0 m)) (sN (m 5) (tN (m 5) (N0 m))) ∧ frO μ (f_X9_findOrder μ) := by
  obtain ⟨hR, σ, s1, s2, s3⟩ := R_best h
  have k := find_eq (m := μ) h.1.2.1 s1 hm (by rw [h10]; exact h.2.1.2.1) (by rw [h10]; exact h.2.1.2.2.2.2.1)
  rw [h10] at k
  exact ⟨k.1, k.2.1.cf s2 s3, k.2.2⟩
theorem frO.prim {m m' : Mem} (h : frO m m') : Prim m m' := ⟨h.1 1 (by decide) (by decide) (by decide), h.1 2 (by decide) (by decide) (by decide), h.1 3 (by decide) (by decide) (by decide), h.1 5 (by decide) (by decide) (by decide), h.1 6 (by decide) (by decide) (by decide), h.1 10 (by decide) (by decide) (by decide), h.1 11 (by decide) (by decide) (by decide), h.1 18 (by decide) (by decide) (by decide), h.2 4 (by omega), h.2 25 (by omega)⟩
theorem op_order {c m : Mem} (h : R c m) (a : Int32) : OP (f_X8_order c a) (f_X9_order m a) (b_X9_order m a) := by
  obtain ⟨r1, r2, r3, r4, r5⟩ := reads_eq h.1
  have pr := reads_prim h.1
  obtain ⟨k1, k2, k3⟩ := best_FO h r2 pr.2.2.2.2.2.1
  unfold f_X8_order f_X9_order b_X9_order
  rw [inLR _ a 0 5 (by decide) (by decide)]
  by_cases a0 : a < 0
  · rw [if_pos a0, if_pos a0, if_pos rfl, if_pos rfl]; exact ⟨⟨r1, trivial⟩, rfl, h.prim pr⟩
  rw [if_neg a0, if_neg a0]
  have e : (5 < a) ↔ ¬ a < 6 := by rw [Int32.lt_iff_toInt_lt, Int32.lt_iff_toInt_lt, show (5 : Int32).toInt = 5 by decide, show (6 : Int32).toInt = 6 by decide]; omega
  by_cases a6 : a < 6
  · rw [if_pos a6, if_neg (fun z => (e.mp z) a6), if_neg i10, if_neg i10]
    obtain ⟨j, hj, rfl⟩ := nI_of a0
    rw [show (6 : Int32) = nI 6 from rfl, nIlt hj (by omega)] at a6
    have t := tO_eq k2 a6
    exact ⟨⟨r1, k1, t.1, trivial⟩, t.2, (R_best h).1.prim (pr.tr k3.prim)⟩
  · rw [if_neg a6, if_pos (e.mpr a6), if_pos rfl, if_pos rfl]; exact ⟨⟨r1, trivial⟩, rfl, h.prim pr⟩
theorem op_squeeze {c m : Mem} (h : R c m) (a : Int32) : OP (f_X8_squeeze c a) (f_X9_squeeze m a) (b_X9_squeeze m a) := by
  obtain ⟨r1, r2, r3, r4, r5⟩ := reads_eq h.1
  have pr := reads_prim h.1
  obtain ⟨k1, k2, k3⟩ := best_FO h r2 pr.2.2.2.2.2.1
  unfold f_X8_squeeze f_X9_squeeze b_X9_squeeze
  rw [z01, isTwo_eq]
  by_cases h0 : a = 0 ∨ a = 1
  · rw [if_pos h0, if_neg i10, if_neg i10, if_neg i10]
    have t := tS_eq k2 a
    exact ⟨⟨r1, k1, t.1, trivial⟩, t.2, (R_best h).1.prim (pr.tr k3.prim)⟩
  · rw [if_neg h0, if_pos rfl, if_pos rfl, if_pos rfl]; exact ⟨⟨r1, trivial⟩, rfl, h.prim pr⟩
