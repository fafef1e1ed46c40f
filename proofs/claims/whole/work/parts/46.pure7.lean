theorem rd_next (P : Rp) (u : Nat) : (rd P (u + 1)).2.2.2.2.2.1 = nsp ((rd P (u + 1)).2.2.2.1 u) ((rd P (u + 1)).1 u + (rd P (u + 1)).2.1 u - (rd P (u + 1)).2.2.1 u) ∧ (rd P (u + 1)).2.2.2.2.2.2 = (rd P (u + 1)).2.2.2.2.1 u + (rd P (u + 1)).2.2.2.1 u := by
  simp [rd, upd, updN]
theorem lives_l {P : Rp} (hP : Pok P) : ∀ (k t n : Nat) (σ : Mem), t + k = 40 → k < n → EM P σ → IM P t σ →
    bl_X9_lives_6 n (nI t) σ ∧ EM P (l_X9_lives_6 n (nI t) σ) ∧ IM P 40 (l_X9_lives_6 n (nI t) σ) ∧ ∀ q, q ≠ 12 → q ≠ 13 → q ≠ 14 → q ≠ 15 → (l_X9_lives_6 n (nI t) σ) q = σ q := by
  intro k
  induction k with
  | zero =>
    intro t n σ ht hn hE hI
    obtain ⟨n, rfl⟩ : ∃ n', n = n' + 1 := ⟨n - 1, by omega⟩
    have e : t = 40 := by omega
    subst e
    have c : (40 : Int32) ≤ nI 40 := by decide
    rw [l_X9_lives_6, bl_X9_lives_6, if_pos c, if_pos c]
    exact ⟨trivial, hE, hI, fun _ _ _ _ _ => rfl⟩
  | succ k ih =>
    intro t n σ ht hn hE hI
    obtain ⟨n, rfl⟩ : ∃ n', n = n' + 1 := ⟨n - 1, by omega⟩
    have c0 : ¬ (40 : Int32) ≤ nI t := by rw [show (40 : Int32) = nI 40 from rfl, nIle (by omega) (by omega)]; omega
    rw [l_X9_lives_6, bl_X9_lives_6, if_neg c0, if_neg c0]
    have hle := rd_le P hP.1 t
    by_cases h0 : t = 0
    · subst h0
      have c1 : nI 0 = 0 := rfl
      rw [if_pos c1, if_pos c1, cl0, cl4, hE.2.1]
      obtain ⟨τ, e1, e2, e3, e4, e5⟩ := tail129 hP (t := 0) (by omega) (σ := mst (mst σ 13 0 (nI P.2.2.2.2)) 14 0 0) (hE.fr (by simp [mst]) (by simp [mst]) (by simp [mst]) (by simp [mst])) (fun j hj => absurd hj (Nat.not_lt_zero _)) (by simp [mst, upd, rd]) (by simp [mst, upd, rd]; rfl)
      rw [e1]
      obtain ⟨a1, a2, a3, a4⟩ := ih (0 + 1) n τ (by omega) (by omega) e3 e4
      refine ⟨e2 _ a1, a2, a3, fun q h12 h13 h14 h15 => ?_⟩
      rw [a4 q h12 h13 h14 h15, e5 q h12 h15]; simp [mst, h13, h14]
    · have c1 : ¬ nI t = 0 := nI_ne0 (by omega) (by omega)
      obtain ⟨u, rfl⟩ : ∃ u, t = u + 1 := ⟨t - 1, by omega⟩
      have hu := hI u (by omega)
      have hnx := rd_next P u
      have hb2 := rd_le2 P hP.1 (u + 1) u (by omega)
      have x1 : (2 * nI (u + 1)) - 2 = nI (2 * u) := by rw [li2, pk_mul, pk_sub (by omega)]; congr 1
      have x2 : (2 * nI (u + 1)) - 1 = nI (2 * u + 1) := by rw [li2, pk_mul, show (1 : Int32) = nI 1 from rfl, pk_sub (by omega)]; congr 1
      rw [if_neg c1, if_neg c1, x1, x2, nI_pred, nIc (by omega), nIc (by omega), nIc (by omega), nIc (by omega), hu.1, hu.2.1, hu.2.2.1, hu.2.2.2.1]
      have v1 : vp_in (nI (2 * u)) 80 := vnI (by omega) (by omega)
      have v2 : vp_in (nI (2 * u + 1)) 80 := vnI (by omega) (by omega)
      have v3 : vp_in (nI u) 40 := vnI (by omega) (by omega)
      have v4 : vp_in (nI (u + 1)) 40 := vnI (by omega) (by omega)
      -- all three ways lead here
      have way : ∀ z : Int32, f_X9_within σ (nI ((rd P (u + 1)).2.2.2.1 u) + z) 20 = nI (rd P (u + 1)).2.2.2.2.2.1 →
          bl_X9_lives_106 (bl_X9_lives_6 n) (fu 1) (nI (u + 1)) (mst σ 13 (u + 1) (f_X9_within σ (nI ((rd P (u + 1)).2.2.2.1 u) + z) 20)) ∧ EM P (l_X9_lives_106 (l_X9_lives_6 n) (fu 1) (nI (u + 1)) (mst σ 13 (u + 1) (f_X9_within σ (nI ((rd P (u + 1)).2.2.2.1 u) + z) 20))) ∧ IM P 40 (l_X9_lives_106 (l_X9_lives_6 n) (fu 1) (nI (u + 1)) (mst σ 13 (u + 1) (f_X9_within σ (nI ((rd P (u + 1)).2.2.2.1 u) + z) 20))) ∧ ∀ q, q ≠ 12 → q ≠ 13 → q ≠ 14 → q ≠ 15 → (l_X9_lives_106 (l_X9_lives_6 n) (fu 1) (nI (u + 1)) (mst σ 13 (u + 1) (f_X9_within σ (nI ((rd P (u + 1)).2.2.2.1 u) + z) 20))) q = σ q := by
        intro z hz
        rw [hz]
        have ef : (mst σ 13 (u + 1) (nI (rd P (u + 1)).2.2.2.2.2.1)) 14 u + (mst σ 13 (u + 1) (nI (rd P (u + 1)).2.2.2.2.2.1)) 13 u = nI (rd P (u + 1)).2.2.2.2.2.2 := by
          rw [hnx.2, ← nI_add, ← hu.2.2.2.1, ← hu.2.2.2.2]
          simp [mst, upd]
        obtain ⟨τ, e1, e2, e3, e4, e5⟩ := tail129 hP (t := u + 1) (by omega) (σ := mst (mst σ 13 (u + 1) (nI (rd P (u + 1)).2.2.2.2.2.1)) 14 (u + 1) (nI (rd P (u + 1)).2.2.2.2.2.2)) (hE.fr (by simp [mst]) (by simp [mst]) (by simp [mst]) (by simp [mst]))
          (fun j hj => by
            have := hI j hj
            simp [mst, upd, show ¬ j = u + 1 by omega, this.1, this.2.1, this.2.2.1, this.2.2.2.1, this.2.2.2.2]) (by simp [mst, upd]) (by simp [mst, upd])
        have e0 : ∀ K, l_X9_lives_106 K (fu 1) (nI (u + 1)) (mst σ 13 (u + 1) (nI (rd P (u + 1)).2.2.2.2.2.1)) = K (nI (u + 1 + 1)) τ := by
          intro K
          rw [fu_eq, show (1 : Nat) = 0 + 1 from rfl, l_X9_lives_106, nI_pred, nIc (by omega), nIc (by omega), ef]
          exact e1 K
        have b0 : ∀ bK : Int32 → Mem → Prop, bK (nI (u + 1 + 1)) τ → bl_X9_lives_106 bK (fu 1) (nI (u + 1)) (mst σ 13 (u + 1) (nI (rd P (u + 1)).2.2.2.2.2.1)) := by
          intro bK h
          rw [fu_eq, show (1 : Nat) = 0 + 1 from rfl, bl_X9_lives_106, nI_pred, nIc (by omega), nIc (by omega), ef]
          exact ⟨v3, v3, v4, e2 bK h⟩
        rw [e0]
        obtain ⟨a1, a2, a3, a4⟩ := ih (u + 1 + 1) n τ (by omega) (by omega) e3 e4
        refine ⟨b0 _ a1, a2, a3, fun q h12 h13 h14 h15 => ?_⟩
        rw [a4 q h12 h13 h14 h15, e5 q h12 h15]; simp [mst, h13, h14]
      have hw := within20 (σ := σ) (m := (rd P (u + 1)).1 u + (rd P (u + 1)).2.1 u - (rd P (u + 1)).2.2.1 u) hb2.1
      rw [← hnx.1] at hw
      by_cases h1 : (rd P (u + 1)).1 u + (rd P (u + 1)).2.1 u - (rd P (u + 1)).2.2.1 u ≤ 0
      · rw [if_pos h1] at hw
        rw [if_pos h1, if_pos h1]
        by_cases h2 : 0 ≤ (rd P (u + 1)).1 u + (rd P (u + 1)).2.1 u - (rd P (u + 1)).2.2.1 u
        · rw [if_pos h2] at hw
          rw [if_pos h2, if_pos h2]
          obtain ⟨w1, w2⟩ := way 0 hw
          exact ⟨⟨v1, v2, v3, v3, v4, w1⟩, w2⟩
        · rw [if_neg h2] at hw
          rw [if_neg h2, if_neg h2]
          obtain ⟨w1, w2⟩ := way (-1) hw
          exact ⟨⟨v1, v2, v3, v3, v4, w1⟩, w2⟩
      · rw [if_neg h1] at hw
        rw [if_neg h1, if_neg h1]
        obtain ⟨w1, w2⟩ := way 1 hw
        exact ⟨⟨v1, v2, v3, v3, v4, w1⟩, w2⟩
