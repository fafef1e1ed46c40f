/-! frames on the model's side -/
theorem RT.mf {c m m' : Mem} (h : RT c m) (h5 : m' 5 = m 5) (h6 : m' 6 = m 6) : RT c m' := by unfold RT N0 N1; rw [h5, h6]; exact h
theorem RE.mf {c m m' : Mem} (h : RE c m) (h10 : m' 10 = m 10) : RE c m' := by unfold RE; rw [h10]; exact h
theorem RG.mf {c m m' : Mem} (h : RG c m) (h11 : m' 11 = m 11) : RG c m' := by unfold RG; rw [h11]; exact h
theorem RD.mf {c m m' : Mem} (h : RD c m) (h18 : m' 18 = m 18) (h0 : m' 0 25 = m 0 25) : RD c m' := by unfold RD Nt; rw [h18, h0]; exact h
theorem RS.mf {c m m' : Mem} (h : RS c m) (h1 : m' 1 = m 1) (h2 : m' 2 = m 2) (h3 : m' 3 = m 3) : RS c m' := by unfold RS; rw [h1, h2, h3]; exact h
theorem RV.mf {c m m' : Mem} (h : RV c m) (h5 : m' 5 = m 5) (h6 : m' 6 = m 6) (h10 : m' 10 = m 10) (h11 : m' 11 = m 11) : RV c m' := by unfold RV B1 PM N0 N1 B1; rw [h5, h6, h10, h11]; exact h
theorem RB.mf {c m m' : Mem} (h : RB c m) (h5 : m' 5 = m 5) (h6 : m' 6 = m 6) (h10 : m' 10 = m 10) : RB c m' := by unfold RB N0; rw [h5, h6, h10]; exact h
theorem R_day {c m c' m' : Mem} (h : R c m) (hc : ∀ q, q ≠ 26 → q ≠ 27 → c' q = c q) (hm : ∀ q, q ≠ 0 → q ≠ 18 → m' q = m q) (h4 : m' 0 4 = m 0 4) (hD : RD c' m') : R c' m' := by
  obtain ⟨hT, hE, hG, -, hS, hF, hV, hB⟩ := h
  have k : ∀ q, q < 26 → c' q = c q := fun q hq => hc q (by omega) (by omega)
  refine ⟨(hT.cf (k 1 (by omega)) (k 2 (by omega)) (k 3 (by omega)) (k 4 (by omega))).mf (hm 5 (by decide) (by decide)) (hm 6 (by decide) (by decide)), (hE.cf (k 12 (by omega)) (k 14 (by omega))).mf (hm 10 (by decide) (by decide)), (hG.cf (k 16 (by omega))).mf (hm 11 (by decide) (by decide)), hD, (hS.cf (fun q h1 h2 => hc q (by omega) (by omega))).mf (hm 1 (by decide) (by decide)) (hm 2 (by decide) (by decide)) (hm 3 (by decide) (by decide)), by rw [k 0 (by omega), h4]; exact hF, (hV.cf (fun q h1 h2 => k q (by omega)) (fun q h1 h2 => k q (by omega))).mf (hm 5 (by decide) (by decide)) (hm 6 (by decide) (by decide)) (hm 10 (by decide) (by decide)) (hm 11 (by decide) (by decide)), (hB.cf (by rw [k 0 (by omega)]) (k 23 (by omega)) (k 25 (by omega))).mf (hm 5 (by decide) (by decide)) (hm 6 (by decide) (by decide)) (hm 10 (by decide) (by decide))⟩
theorem R_sheet {c m c' m' : Mem} (h : R c m) (hc : ∀ q, q ≠ 0 → q < 31 → c' q = c q) (hm : ∀ q, 5 ≤ q → m' q = m q) (h11 : c' 0 11 = c 0 11) (h12 : c' 0 12 = m' 0 4) (h25 : m' 0 25 = m 0 25) (hS : RS c' m') : R c' m' := by
  obtain ⟨hT, hE, hG, hD, -, hF, hV, hB⟩ := h
  refine ⟨(hT.cf (hc 1 (by omega) (by omega)) (hc 2 (by omega) (by omega)) (hc 3 (by omega) (by omega)) (hc 4 (by omega) (by omega))).mf (hm 5 (by decide)) (hm 6 (by decide)), (hE.cf (hc 12 (by omega) (by omega)) (hc 14 (by omega) (by omega))).mf (hm 10 (by decide)), (hG.cf (hc 16 (by omega) (by omega))).mf (hm 11 (by decide)), (hD.cf (by rw [hc 26 (by omega) (by omega)]) (hc 27 (by omega) (by omega))).mf (hm 18 (by decide)) h25, hS, h12, (hV.cf (fun q h1 h2 => hc q (by omega) (by omega)) (fun q h1 h2 => hc q (by omega) (by omega))).mf (hm 5 (by decide)) (hm 6 (by decide)) (hm 10 (by decide)) (hm 11 (by decide)), (hB.cf h11 (hc 23 (by omega) (by omega)) (hc 25 (by omega) (by omega))).mf (hm 5 (by decide)) (hm 6 (by decide)) (hm 10 (by decide))⟩
theorem R_found {c m : Mem} (h : R c m) (k : Int32) : R (mst c 0 12 k) (mst m 0 4 k) := by
  refine R_sheet h (fun q h0 _ => mst_ne _ _ _ h0) (fun q h5 => mst_ne _ _ _ (by omega)) ?_ ?_ ?_ ((h.2.2.2.2.1.cf (fun q h1 h2 => mst_ne _ _ _ (by omega))).mf (mst_ne _ _ _ (by decide)) (mst_ne _ _ _ (by decide)) (mst_ne _ _ _ (by decide)))
  · simp [mst, upd]
  · simp [mst, upd]
  · simp [mst, upd]
/-! count -/
def bC (q : Nat → Int32) : Nat → Nat
  | 0 => 0
  | p + 1 => bC q p + (if q p = 0 then 0 else 1)
theorem bC_upd (q : Nat → Int32) (x : Int32) (k : Nat) : ∀ p, p ≤ k → bC (upd q k x) p = bC q p := by
  intro p
  induction p with
  | zero => intro _; rfl
  | succ p ih => intro hp; rw [bC, bC, ih (by omega)]; unfold upd; rw [if_neg (show ¬ p = k by omega)]
theorem bC_le (q : Nat → Int32) : ∀ p, bC q p ≤ p := by
  intro p
  induction p with
  | zero => exact Nat.le_refl _
  | succ p ih => rw [bC]; split <;> omega
theorem hstep_b {r r' : Hs} {x : Int32} (h : r.2.2.2 = bC r.2.2.1 r.1) (hs : hstep r x = some r') : r'.2.2.2 = bC r'.2.2.1 r'.1 := by
  obtain ⟨p, s, q, d⟩ := r
  unfold hstep at hs
  dsimp only at hs h
  by_cases c1 : x = 98 ∧ 0 < p ∧ q (p - 1) = 0
  · rw [if_pos c1] at hs
    obtain rfl := Option.some.inj hs
    obtain ⟨p, rfl⟩ : ∃ p', p = p' + 1 := ⟨p - 1, by omega⟩
    dsimp only
    rw [h, bC, bC, Nat.add_sub_cancel, bC_upd q 1 p p (Nat.le_refl _)]
    unfold upd
    have := c1.2.2
    rw [Nat.add_sub_cancel] at this
    rw [if_pos rfl, if_neg i10, if_pos this]
  · rw [if_neg c1] at hs
    by_cases c2 : p = 16 ∨ ¬ (48 ≤ x.toInt ∧ x.toInt ≤ 57)
    · rw [if_pos c2] at hs; exact absurd hs (by simp)
    · rw [if_neg c2] at hs
      obtain rfl := Option.some.inj hs
      dsimp only
      rw [h, bC, bC_upd q 0 p p (Nat.le_refl _)]
      unfold upd
      rw [if_pos rfl, if_pos rfl]; rfl
theorem hR_b (B : Nat → Int32) : ∀ (k i : Nat) (r : Hs), r.2.2.2 = bC r.2.2.1 r.1 → (hR B k i r).2.2.2.2 = bC (hR B k i r).2.2.2.1 (hR B k i r).2.1 := by
  intro k
  induction k with
  | zero => intro i r h; exact h
  | succ k ih =>
    intro i r h
    rw [hR]
    cases e : hstep r (B i) with
    | none => exact h
    | some r' => exact ih (i + 1) r' (hstep_b h e)
theorem hBn_eq (B : Nat → Int32) (n : Nat) : hBn B n = bC (hbd B n) (hP B n) := by
  unfold hBn hbd hP
  by_cases h : (hR B n 0 h0s).1 = none
  · rw [if_pos h, if_pos h]; exact hR_b B n 0 h0s rfl
  · rw [if_neg h, if_neg h]; rfl
theorem count_l {m : Mem} {p : Nat} {q : Nat → Int32} (hp : m 0 10 = nI p) (h16 : p ≤ 16) (hq : ∀ j, j < p → m 9 j = q j) : ∀ (r t f : Nat), t + r = p → r < f → bl_X9_count_87 f (nI (bC q t)) (nI t) m ∧ l_X9_count_87 f (nI (bC q t)) (nI t) m = (nI (bC q p), m) := by
  intro r
  induction r with
  | zero =>
    intro t f ht hf
    obtain ⟨f, rfl⟩ : ∃ f', f = f' + 1 := ⟨f - 1, by omega⟩
    have e : t = p := by omega
    subst e
    have c1 : nI t ≤ nI t := by rw [nIle (by omega) (by omega)]; omega
    rw [l_X9_count_87, bl_X9_count_87, hp, if_pos c1, if_pos c1]; exact ⟨trivial, rfl⟩
  | succ r ih =>
    intro t f ht hf
    obtain ⟨f, rfl⟩ : ∃ f', f = f' + 1 := ⟨f - 1, by omega⟩
    have c1 : ¬ nI p ≤ nI t := by rw [nIle (by omega) (by omega)]; omega
    have nx := ih (t + 1) f (by omega) (by omega)
    rw [bC] at nx
    have v : vp_in (nI t) 16 := vnI (by omega) (by omega)
    rw [l_X9_count_87, bl_X9_count_87, hp, if_neg c1, if_neg c1, nIc (by omega), hq t (by omega), nI_1, nI_1, Int32.add_zero]
    by_cases e : q t = 0
    · rw [if_pos e] at nx
      rw [if_pos e, if_pos e]; exact ⟨⟨v, nx.1⟩, nx.2⟩
    · rw [if_neg e] at nx
      rw [if_neg e, if_neg e]; exact ⟨⟨v, nx.1⟩, nx.2⟩
theorem op_count {c m : Mem} (h : R c m) (a : Int32) : OP (f_X8_count c a, c) (f_X9_count m a) (b_X9_count m a) := by
  obtain ⟨hT, hE, hG, hD, hS, hF, hV, hB⟩ := id h
  obtain ⟨r1, r2, r3, r4, r5⟩ := reads_eq hT
  have pr := reads_prim hT
  have hp := h.prim pr
  have h16 := hP_le (B1 m) (N1 m)
  have q := count_l (m := f_X9_reads m) r3.1 h16 (fun j hj => (r3.2 j hj).2) (hP (B1 m) (N1 m)) 0 (fu 17) (by omega) (by rw [fu_eq]; omega)
  obtain ⟨t1, t2, t3, t4, t5, t6, t7, t8, t9, t10⟩ := id hT
  unfold f_X8_count f_X9_count b_X9_count
  by_cases a0 : a = 0
  · rw [if_pos a0, if_pos a0, if_pos a0]; exact ⟨⟨r1, trivial⟩, by show c 5 2 = _; rw [r2.1]; exact hV.1.1, hp⟩
  rw [if_neg a0, if_neg a0, if_neg a0]
  by_cases a1 : a = 1
  · rw [if_pos a1, if_pos a1, if_pos a1]; exact ⟨⟨r1, trivial⟩, by show c 8 2 = _; rw [r3.1]; exact hV.2.1.1, hp⟩
  rw [if_neg a1, if_neg a1, if_neg a1]
  by_cases a2 : a = 2
  · rw [if_pos a2, if_pos a2, if_pos a2]
    subst a2
    exact ⟨⟨r1, vlit _ 2 (by decide), trivial⟩, by show c 1 2 = (f_X9_reads m) 6 _; rw [pr.2.2.2.2.1]; exact t5, hp⟩
  rw [if_neg a2, if_neg a2, if_neg a2]
  by_cases a3 : a = 3
  · rw [if_pos a3, if_pos a3, if_pos a3]
    subst a3
    exact ⟨⟨r1, vlit _ 2 (by decide), trivial⟩, by show c 3 2 = (f_X9_reads m) 6 _; rw [pr.2.2.2.2.1]; exact t8, hp⟩
  rw [if_neg a3, if_neg a3, if_neg a3]
  by_cases a4 : a = 4
  · rw [if_pos a4, if_pos a4, if_pos a4]; exact ⟨⟨r1, trivial⟩, by show c 26 3 = _; rw [pr.2.2.2.2.2.2.2.2.2]; exact hD.2.2.1, hp⟩
  rw [if_neg a4, if_neg a4, if_neg a4]
  by_cases a5 : a = 5
  · rw [if_pos a5, if_pos a5, if_pos a5]; exact ⟨⟨r1, trivial⟩, by show c 5 3 = _; rw [r2.2.1]; exact hV.1.2.1, hp⟩
  rw [if_neg a5, if_neg a5, if_neg a5]
  by_cases a6 : a = 6
  · rw [if_pos a6, if_pos a6, if_pos a6]
    refine ⟨⟨r1, q.1⟩, ?_, ?_⟩
    · show c 8 3 = (l_X9_count_87 (fu 17) (nI (bC (hbd (B1 m) (N1 m)) 0)) (nI 0) (f_X9_reads m)).1
      rw [q.2, hV.2.1.2.1, hBn_eq]
    · show R c (l_X9_count_87 (fu 17) (nI (bC (hbd (B1 m) (N1 m)) 0)) (nI 0) (f_X9_reads m)).2
      rw [q.2]; exact hp
  rw [if_neg a6, if_neg a6, if_neg a6]
  by_cases a7 : a = 7
  · rw [if_pos a7, if_pos a7, if_pos a7]; exact ⟨⟨r1, trivial⟩, by show f_X3_at c 15 3 4 5 4 = _; rw [show (4 : Int32) = nI 4 from rfl, at_eq (by omega) (by omega), nIc (by omega), pr.2.2.2.2.2.2.1]; exact hG.1 4 (by omega), hp⟩
  rw [if_neg a7, if_neg a7, if_neg a7]
  by_cases a8 : a = 8
  · rw [if_pos a8, if_pos a8, if_pos a8]; exact ⟨⟨r1, trivial⟩, by show c 0 12 = _; rw [pr.2.2.2.2.2.2.2.2.1]; exact hF, hp⟩
  rw [if_neg a8, if_neg a8, if_neg a8]
  exact ⟨⟨r1, trivial⟩, rfl, hp⟩
/-! train, back -/
theorem isFoot (σ τ : Mem) (a : Int32) : f_X9_in σ a.toInt64 0 999 = f_X8_isFootMinute τ a := by
  rw [inLR σ a 0 999 (by decide) (by decide)]; rfl
theorem full_iff {c m : Mem} (hD : RD c m) : (f_X2_isFull c = 0 ↔ ¬ m 0 25 = 12) ∧ (f_X2_isFull c = 0 ↔ Nt m < 12) := by
  obtain ⟨d1, d2, d3, d4⟩ := hD
  unfold f_X2_isFull
  rw [d3, d1]
  by_cases e : Nt m < 12
  · have c1 : nI (Nt m) < 12 := by rw [show (12 : Int32) = nI 12 from rfl, nIlt (by omega) (by omega)]; omega
    have c2 : ¬ nI (Nt m) = 12 := by rw [show (12 : Int32) = nI 12 from rfl, nI_eq (by omega) (by omega)]; omega
    rw [if_pos c1]; exact ⟨⟨fun _ => c2, fun _ => rfl⟩, ⟨fun _ => e, fun _ => rfl⟩⟩
  · have e2 : Nt m = 12 := by omega
    have c1 : ¬ nI (Nt m) < 12 := by rw [show (12 : Int32) = nI 12 from rfl, nIlt (by omega) (by omega)]; omega
    rw [if_neg c1]
    refine ⟨⟨fun z => absurd z i10, fun z => absurd (by rw [e2]; rfl) z⟩, ⟨fun z => absurd z i10, fun z => absurd z e⟩⟩
theorem tell_R {c m : Mem} (h : R c m) (hn : Nt m < 12) (a : Int32) : R (f_X2_tell c a) (mst (mst m 18 (Nt m) a) 0 25 (nI (Nt m + 1))) ∧ f_X2_tell c a = mst (mst c 27 (Nt m) a) 26 3 (nI (Nt m + 1)) := by
  obtain ⟨d1, d2, d3, d4⟩ := h.2.2.2.1
  have e : f_X2_tell c a = mst (mst c 27 (Nt m) a) 26 3 (nI (Nt m + 1)) := by
    have c1 : ¬ (12 : Int32) ≤ nI (Nt m) := by rw [show (12 : Int32) = nI 12 from rfl, nIle (by omega) (by omega)]; omega
    unfold f_X2_tell
    rw [d3, d1, if_neg (nInn (by omega)), if_neg c1, nIc (by omega), nI_1]
  refine ⟨?_, e⟩
  rw [e]
  have n : Nt (mst (mst m 18 (Nt m) a) 0 25 (nI (Nt m + 1))) = Nt m + 1 := by
    unfold Nt; simp [mst, upd]; exact nIc (by unfold Nt at hn; omega)
  refine R_day h (fun q h1 h2 => by simp [mst, h1, h2]) (fun q h1 h2 => by simp [mst, h1, h2]) (by simp [mst, upd]) ?_
  unfold RD
  rw [n]
  refine ⟨by simp [mst, upd], by omega, by simp [mst, upd], fun j hj => ?_⟩
  by_cases e : j = Nt m
  · subst e; simp [mst, upd]
  · simp [mst, upd, e, d4 j (by omega)]
theorem op_train {c m : Mem} (h : R c m) (a : Int32) : OP (f_X8_train c a) (f_X9_train m a) (b_X9_train m a) := by
  have hD := h.2.2.2.1
  have hf := full_iff hD
  unfold f_X8_train f_X9_train b_X9_train
  rw [isFoot m c]
  by_cases h1 : f_X8_isFootMinute c a = 0
  · rw [if_pos h1, if_pos h1, if_pos h1]; exact ⟨trivial, rfl, h⟩
  · rw [if_neg h1, if_neg h1, if_neg h1]
    by_cases h2 : f_X2_isFull c = 0
    · have h3 := hf.1.mp h2
      have t := tell_R h (hf.2.mp h2) a
      have hn := hf.2.mp h2
      rw [if_pos h2, if_neg h3, if_neg h3, hD.1, nIc (by omega), nI_1]
      refine ⟨⟨vnI (by omega) (by omega), trivial⟩, ?_, t.1⟩
      show f_X2_size (f_X2_tell c a) = _
      rw [t.2]; simp [f_X2_size, mst, upd]
    · have h3 : m 0 25 = 12 := Classical.byContradiction fun z => h2 (hf.1.mpr z)
      rw [if_neg h2, if_pos h3, if_pos h3]; exact ⟨trivial, rfl, h⟩
theorem op_back {c m : Mem} (h : R c m) : OP (f_X8_back c) (f_X9_back m) True := by
  obtain ⟨d1, d2, d3, d4⟩ := id h.2.2.2.1
  unfold f_X8_back f_X9_back f_X2_size
  rw [d3]
  by_cases e : m 0 25 = 0
  · rw [if_pos e, if_pos e]; exact ⟨trivial, rfl, h⟩
  · rw [if_neg e, if_neg e]
    have hn : 0 < Nt m := by
      rcases Nat.eq_zero_or_pos (Nt m) with z | z
      · rw [d1, z] at e; exact absurd rfl e
      · exact z
    have ec : f_X2_forgetLast c = mst c 26 3 (nI (Nt m - 1)) := by
      unfold f_X2_forgetLast
      rw [d3, d1, nI_m1 hn]
      by_cases z : 0 < Nt m - 1
      · have c1 : (0 : Int32) < nI (Nt m - 1) := by rw [show (0 : Int32) = nI 0 from rfl, nIlt (by omega) (by omega)]; exact z
        rw [if_pos c1]
      · have c1 : ¬ (0 : Int32) < nI (Nt m - 1) := by rw [show (0 : Int32) = nI 0 from rfl, nIlt (by omega) (by omega)]; exact z
        rw [if_neg c1, show Nt m - 1 = 0 by omega]; rfl
    have em : m 0 25 - 1 = nI (Nt m - 1) := by rw [d1, nI_m1 hn]
    rw [ec, em]
    refine ⟨trivial, by simp [mst, upd], ?_⟩
    have n : Nt (mst m 0 25 (nI (Nt m - 1))) = Nt m - 1 := by
      unfold Nt; simp [mst, upd]; exact nIc (by have := d2; unfold Nt at this; omega)
    refine R_day h (fun q h1 h2 => by simp [mst, h1]) (fun q h1 h2 => by simp [mst, h1]) (by simp [mst, upd]) ?_
    unfold RD
    rw [n]
    exact ⟨by simp [mst, upd], by omega, by simp [mst, upd], fun j hj => by simp [mst, d4 j (by omega)]⟩
