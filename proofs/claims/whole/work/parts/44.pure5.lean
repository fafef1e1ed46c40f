/-! the class' ride -/
def EC (P : Rp) (σ : Mem) : Prop := (σ 12 0 = P.2.2.2.1 0 ∧ σ 12 1 = P.2.2.2.1 1 ∧ σ 12 2 = P.2.2.2.1 2) ∧ (σ 14 0 = P.2.2.2.1 3 ∧ σ 14 1 = P.2.2.2.1 4 ∧ σ 14 2 = P.2.2.2.1 5) ∧ σ 8 2 = nI P.2.1 ∧ ∀ j, j < P.2.1 → σ 9 j = P.2.2.1 j
def IC (P : Rp) (t : Nat) (σ : Mem) : Prop := ∀ j, j < t → σ 18 j = (rd P t).1 j ∧ σ 19 j = (rd P t).2.1 j ∧ σ 20 j = (rd P t).2.2.1 j ∧ σ 21 j = nI ((rd P t).2.2.2.1 j) ∧ σ 22 j = nI ((rd P t).2.2.2.2.1 j)
theorem EC.fr {P : Rp} {σ τ : Mem} (h : EC P σ) (h8 : τ 8 = σ 8) (h9 : τ 9 = σ 9) (h12 : τ 12 = σ 12) (h14 : τ 14 = σ 14) : EC P τ := by
  unfold EC; rw [h8, h9, h12, h14]; exact h
theorem run_l {P : Rp} (hP : Pok P) : ∀ (k t n : Nat) (b : Int32) (σ : Mem), t + k = 40 → k < n → EC P σ → IC P t σ →
    IC P 40 (l_X4_run_10 n P.1 b (nI (rd P t).2.2.2.2.2.1) (nI (rd P t).2.2.2.2.2.2) (nI t) σ) := by
  intro k
  induction k with
  | zero =>
    intro t n b σ ht hn hE hI
    obtain ⟨n, rfl⟩ : ∃ n', n = n' + 1 := ⟨n - 1, by omega⟩
    have e : t = 40 := by omega
    subst e
    rw [l_X4_run_10, if_pos (show (40 : Int32) ≤ nI 40 by decide)]
    exact hI
  | succ k ih =>
    intro t n b σ ht hn hE hI
    obtain ⟨n, rfl⟩ : ∃ n', n = n' + 1 := ⟨n - 1, by omega⟩
    have hle := rd_le P hP.1 t
    have c0 : ¬ (40 : Int32) ≤ nI t := by rw [show (40 : Int32) = nI 40 from rfl, nIle (by omega) (by omega)]; omega
    obtain ⟨⟨f0, f1, f2⟩, ⟨b0, b1, b2⟩, hp, hst⟩ := id hE
    obtain ⟨-, hp16, ⟨hl0, hl01, hl05⟩, ⟨hl1, hl11, hl15⟩, hr0, hr1⟩ := id hP
    rw [l_X4_run_10, if_neg c0, nIc (show t < 2147483648 by omega)]
    have e_nd : f_X6_steepAt (mst (mst σ 21 t (nI (rd P t).2.2.2.2.2.1)) 22 t (nI (rd P t).2.2.2.2.2.2)) (nI (rd P t).2.2.2.2.2.2 / 10) * P.1 = ndv P (rd P t).2.2.2.2.2.2 :=
      steepAt_eq hp16 (by omega) (by simp [mst, hp]) (by intro j hj; simp [mst, hst j hj])
    rw [e_nd]
    have e_x : f_X4_byRule (mst (mst (mst σ 21 t (nI (rd P t).2.2.2.2.2.1)) 22 t (nI (rd P t).2.2.2.2.2.2)) 20 t (ndv P (rd P t).2.2.2.2.2.2)) 11 18 19 (nI t) = gf P (rd P t) t :=
      byRule_eq (by omega) (by simp [mst, f0]) (by simp [mst, f1]) (by simp [mst, f2, hl0]) hl01 hl05 hr0 (by intro j hj; simp [mst, (hI j hj).1]) (by intro j hj; simp [mst, (hI j hj).2.1]) (by simp [mst, upd])
    rw [e_x]
    have e_y : f_X4_byRule (mst (mst (mst (mst σ 21 t (nI (rd P t).2.2.2.2.2.1)) 22 t (nI (rd P t).2.2.2.2.2.2)) 20 t (ndv P (rd P t).2.2.2.2.2.2)) 18 t (gf P (rd P t) t)) 13 19 18 (nI t) = gb P (rd P t) t :=
      byRule_eq (by omega) (by simp [mst, b0]) (by simp [mst, b1]) (by simp [mst, b2, hl1]) hl11 hl15 hr1 (by intro j hj; simp [mst, (hI j hj).2.1]) (by intro j hj; simp [mst, upd, show ¬ j = t by omega, (hI j hj).1]) (by simp [mst, upd])
    rw [e_y, nextSpeed_eq _ hle.1, nI_1, nI_add]
    have key := ih (t + 1) n b (mst (mst (mst (mst (mst σ 21 t (nI (rd P t).2.2.2.2.2.1)) 22 t (nI (rd P t).2.2.2.2.2.2)) 20 t (ndv P (rd P t).2.2.2.2.2.2)) 18 t (gf P (rd P t) t)) 19 t (gb P (rd P t) t)) (by omega) (by omega) (hE.fr (by simp [mst]) (by simp [mst]) (by simp [mst]) (by simp [mst]))
      (by
        intro j hj
        show _ = upd _ _ _ j ∧ _ = upd _ _ _ j ∧ _ = upd _ _ _ j ∧ _ = nI (updN _ _ _ j) ∧ _ = nI (updN _ _ _ j)
        by_cases e : j = t
        · subst e; simp [mst, upd, updN]
        · have := hI j (by omega)
          simp [mst, upd, updN, e, this.1, this.2.1, this.2.2.1, this.2.2.2.1, this.2.2.2.2])
    exact key
theorem fr_l_X4_run_10 : ∀ (n : Nat) (a b c d g : Int32) (σ : Mem) (q : Nat), q ≠ 18 → q ≠ 19 → q ≠ 20 → q ≠ 21 → q ≠ 22 → (l_X4_run_10 n a b c d g σ) q = σ q := by
  intro n
  induction n with
  | zero => intros; rfl
  | succ n ih =>
    intro a b c d g σ q h0 h1 h2 h3 h4
    rw [l_X4_run_10]
    split
    · rfl
    · rw [ih _ _ _ _ _ _ q h0 h1 h2 h3 h4]; simp [mst, h0, h1, h2, h3, h4]
theorem run_eq {P : Rp} {σ : Mem} (hP : Pok P) (hE : EC P σ) : IC P 40 (f_X4_run σ P.1 (nI P.2.2.2.2)) ∧ ∀ q, q ≠ 18 → q ≠ 19 → q ≠ 20 → q ≠ 21 → q ≠ 22 → (f_X4_run σ P.1 (nI P.2.2.2.2)) q = σ q := by
  unfold f_X4_run
  exact ⟨run_l hP 40 0 (fu 41) _ σ (by omega) (by rw [fu_eq]; omega) hE (fun j hj => absurd hj (Nat.not_lt_zero _)), fun q h0 h1 h2 h3 h4 => fr_l_X4_run_10 _ _ _ _ _ _ _ q h0 h1 h2 h3 h4⟩
/-! the model's ride -/
def EM (P : Rp) (σ : Mem) : Prop := (∀ j, j < 6 → σ 10 j = P.2.2.2.1 j) ∧ σ 11 4 = nI P.2.2.2.2 ∧ σ 0 10 = nI P.2.1 ∧ (∀ j, j < P.2.1 → σ 8 j = P.2.2.1 j) ∧ σ 0 9 = P.1
def IM (P : Rp) (t : Nat) (σ : Mem) : Prop := ∀ j, j < t → σ 12 (2 * j) = (rd P t).1 j ∧ σ 12 (2 * j + 1) = (rd P t).2.1 j ∧ σ 15 j = (rd P t).2.2.1 j ∧ σ 13 j = nI ((rd P t).2.2.2.1 j) ∧ σ 14 j = nI ((rd P t).2.2.2.2.1 j)
theorem EM.fr {P : Rp} {σ τ : Mem} (h : EM P σ) (h0 : τ 0 = σ 0) (h8 : τ 8 = σ 8) (h10 : τ 10 = σ 10) (h11 : τ 11 = σ 11) : EM P τ := by
  unfold EM; rw [h0, h8, h10, h11]; exact h
theorem i30 : ((3 : Int32) * 0).toNatClampNeg = 0 ∧ ((3 : Int32) * 0 + 1).toNatClampNeg = 1 ∧ ((3 : Int32) * 0 + 2).toNatClampNeg = 2 := by decide
theorem i31 : ((3 : Int32) * 1).toNatClampNeg = 3 ∧ ((3 : Int32) * 1 + 1).toNatClampNeg = 4 ∧ ((3 : Int32) * 1 + 2).toNatClampNeg = 5 := by decide
theorem li2 : (2 : Int32) = nI 2 := rfl
theorem ix0 {t lag : Nat} (h : lag ≤ t) : ((2 * (nI t - nI lag)) + 1) - 0 = nI (2 * (t - lag) + 1) := by
  rw [pk_sub h, li2, pk_mul, nI_1, show (0 : Int32) = nI 0 from rfl, pk_sub (by omega)]; rfl
theorem ix1 {t lag : Nat} (h : lag ≤ t) : ((2 * (nI t - nI lag)) + 1) - 1 = nI (2 * (t - lag)) := by
  rw [pk_sub h, li2, pk_mul, nI_1, nI_pred]
theorem iy0 {t : Nat} (h : 1 ≤ t) : ((2 * nI t) - 2) + 0 = nI (2 * (t - 1)) := by
  rw [li2, pk_mul, pk_sub (by omega), show (0 : Int32) = nI 0 from rfl, nI_add]; congr 1; omega
theorem iy1 {t : Nat} (h : 1 ≤ t) : ((2 * nI t) - 2) + 1 = nI (2 * (t - 1) + 1) := by
  rw [li2, pk_mul, pk_sub (by omega), nI_1]; congr 1; omega
theorem n12 : ¬ (1 : Int32) = 2 := by decide
theorem n32 : ¬ (3 : Int32) = 2 := by decide
theorem n31 : ¬ (3 : Int32) = 1 := by decide
theorem e11 : (1 : Int32) = 1 := rfl
theorem e22 : (2 : Int32) = 2 := rfl
theorem wlea (σ : Mem) (x : Int32) : f_X9_within σ x 999 = lea x := rfl
theorem givesOf0 {σ : Mem} {lag t : Nat} {pl ps : Nat → Int32} {nd g r : Int32} (ht : t < 40) (hg : σ 10 0 = g) (hr : σ 10 1 = r) (hl : σ 10 2 = nI lag) (hl1 : 1 ≤ lag) (hl5 : lag ≤ 5) (hrr : r = 0 ∨ r = 1 ∨ r = 2 ∨ r = 3) (hpl : ∀ j, j < t → σ 12 (2 * j) = pl j) (hps : ∀ j, j < t → σ 12 (2 * j + 1) = ps j) (hnd : σ 15 t = nd) :
    f_X9_givesOf σ (nI t) 0 = rl g r lag pl ps nd t ∧ b_X9_givesOf σ (nI t) 0 := by
  unfold f_X9_givesOf b_X9_givesOf f_X9_leans b_X9_leans rl
  rw [i30.1, i30.2.1, i30.2.2, hg, hr, hl, wlea]
  have v1 : vp_in ((3 : Int32) * 0 + 1) 6 := vlit _ 6 (by decide)
  have v2 : vp_in ((3 : Int32) * 0 + 2) 6 := vlit _ 6 (by decide)
  have v0 : vp_in ((3 : Int32) * 0) 6 := vlit _ 6 (by decide)
  by_cases h0 : r = 0
  · rw [if_pos h0, if_pos h0, if_pos (Or.inl h0)]; exact ⟨rfl, v1, v2, v0, trivial⟩
  · rw [if_neg h0, if_neg h0]
    by_cases h : t < lag
    · have c1 : ¬ nI lag ≤ nI t := by rw [nIle (by omega) (by omega)]; omega
      rw [if_neg c1, if_neg c1, if_pos (Or.inr h)]; exact ⟨rfl, v1, v2, v0, trivial⟩
    · have c1 : nI lag ≤ nI t := by rw [nIle (by omega) (by omega)]; omega
      have c2 : ¬ (r = 0 ∨ t < lag) := fun z => z.elim h0 h
      rw [if_pos c1, if_pos c1, if_neg c2, ix0 (by omega), iy0 (by omega), nIc (by omega), nIc (by omega), nIc (by omega), hnd, hps (t - lag) (by omega), hpl (t - 1) (by omega)]
      have v3 : vp_in (nI (2 * (t - lag) + 1)) 80 := vnI (by omega) (by omega)
      have v4 : vp_in (nI t) 40 := vnI (by omega) (by omega)
      have v5 : vp_in (nI (2 * (t - 1))) 80 := vnI (by omega) (by omega)
      rcases hrr with rfl | rfl | rfl | rfl
      · exact absurd rfl h0
      · rw [if_neg n12, if_neg n12, if_pos e11, if_pos e11]
        exact ⟨rfl, v1, v2, ⟨v2, v3, v4, trivial⟩, trivial⟩
      · rw [if_pos e22, if_pos e22]; exact ⟨rfl, v1, v2, v3, trivial⟩
      · rw [if_neg n32, if_neg n32, if_neg n31, if_neg n31]
        exact ⟨rfl, v1, v2, v5, ⟨v2, v3, v4, trivial⟩, trivial⟩
theorem givesOf1 {σ : Mem} {lag t : Nat} {pl ps : Nat → Int32} {nd g r : Int32} (ht : t < 40) (hg : σ 10 3 = g) (hr : σ 10 4 = r) (hl : σ 10 5 = nI lag) (hl1 : 1 ≤ lag) (hl5 : lag ≤ 5) (hrr : r = 0 ∨ r = 1 ∨ r = 2 ∨ r = 3) (hpl : ∀ j, j < t → σ 12 (2 * j) = pl j) (hps : ∀ j, j < t → σ 12 (2 * j + 1) = ps j) (hnd : σ 15 t = nd) :
    f_X9_givesOf σ (nI t) 1 = rl g r lag ps pl nd t ∧ b_X9_givesOf σ (nI t) 1 := by
  unfold f_X9_givesOf b_X9_givesOf f_X9_leans b_X9_leans rl
  rw [i31.1, i31.2.1, i31.2.2, hg, hr, hl, wlea]
  have v1 : vp_in ((3 : Int32) * 1 + 1) 6 := vlit _ 6 (by decide)
  have v2 : vp_in ((3 : Int32) * 1 + 2) 6 := vlit _ 6 (by decide)
  have v0 : vp_in ((3 : Int32) * 1) 6 := vlit _ 6 (by decide)
  by_cases h0 : r = 0
  · rw [if_pos h0, if_pos h0, if_pos (Or.inl h0)]; exact ⟨rfl, v1, v2, v0, trivial⟩
  · rw [if_neg h0, if_neg h0]
    by_cases h : t < lag
    · have c1 : ¬ nI lag ≤ nI t := by rw [nIle (by omega) (by omega)]; omega
      rw [if_neg c1, if_neg c1, if_pos (Or.inr h)]; exact ⟨rfl, v1, v2, v0, trivial⟩
    · have c1 : nI lag ≤ nI t := by rw [nIle (by omega) (by omega)]; omega
      have c2 : ¬ (r = 0 ∨ t < lag) := fun z => z.elim h0 h
      rw [if_pos c1, if_pos c1, if_neg c2, ix1 (by omega), iy1 (by omega), nIc (by omega), nIc (by omega), nIc (by omega), hnd, hpl (t - lag) (by omega), hps (t - 1) (by omega)]
      have v3 : vp_in (nI (2 * (t - lag))) 80 := vnI (by omega) (by omega)
      have v4 : vp_in (nI t) 40 := vnI (by omega) (by omega)
      have v5 : vp_in (nI (2 * (t - 1) + 1)) 80 := vnI (by omega) (by omega)
      rcases hrr with rfl | rfl | rfl | rfl
      · exact absurd rfl h0
      · rw [if_neg n12, if_neg n12, if_pos e11, if_pos e11]
        exact ⟨rfl, v1, v2, ⟨v2, v3, v4, trivial⟩, trivial⟩
      · rw [if_pos e22, if_pos e22]; exact ⟨rfl, v1, v2, v3, trivial⟩
      · rw [if_neg n32, if_neg n32, if_neg n31, if_neg n31]
        exact ⟨rfl, v1, v2, v5, ⟨v2, v3, v4, trivial⟩, trivial⟩
