theorem lesser_eq {σ : Mem} {F p : Nat} (hp : 0 < p) (hp16 : p ≤ 16) (hF : F < 100000) : f_X9_lesser σ (nI F / 10) (nI p - 1) = nI (if p - 1 < F / 10 then p - 1 else F / 10) := by
  rw [div10 (by omega), nI_m1 hp]
  unfold f_X9_lesser
  by_cases h : p - 1 ≤ F / 10
  · have c : nI (p - 1) ≤ nI (F / 10) := by rw [nIle (by omega) (by omega)]; exact h
    rw [if_pos c]
    by_cases h2 : p - 1 < F / 10
    · rw [if_pos h2]
    · rw [if_neg h2]; congr 1; omega
  · have c : ¬ nI (p - 1) ≤ nI (F / 10) := by rw [nIle (by omega) (by omega)]; exact h
    rw [if_neg c, if_neg (by omega)]
theorem two_t {t : Nat} : 2 * nI t = nI (2 * t) := by rw [li2, pk_mul]
theorem tail129 {P : Rp} (hP : Pok P) {t : Nat} (ht : t < 40) {σ : Mem} (hE : EM P σ) (hI : IM P t σ) (hs : σ 13 t = nI (rd P t).2.2.2.2.2.1) (hf : σ 14 t = nI (rd P t).2.2.2.2.2.2) :
    ∃ τ : Mem, (∀ K, l_X9_lives_129 K (fu 1) (nI t) σ = K (nI (t + 1)) τ) ∧ (∀ bK : Int32 → Mem → Prop, bK (nI (t + 1)) τ → bl_X9_lives_129 bK (fu 1) (nI t) σ) ∧ EM P τ ∧ IM P (t + 1) τ ∧ ∀ q, q ≠ 12 → q ≠ 15 → τ q = σ q := by
  have hle := rd_le P hP.1 t
  obtain ⟨he, hs0, hp, hst, hw⟩ := id hE
  obtain ⟨-, hp16, ⟨hl0, hl01, hl05⟩, ⟨hl1, hl11, hl15⟩, hr0, hr1⟩ := id hP
  -- the three stores
  have hnd : (if σ 0 10 = 0 then (0 : Int32) else (σ 8 ((f_X9_lesser σ ((σ 14 ((nI t).toNatClampNeg)) / 10) ((σ 0 10) - 1)).toNatClampNeg)) * (σ 0 9)) = ndv P (rd P t).2.2.2.2.2.2 := by
    rw [hp, nIc (by omega), hf, hw]
    unfold ndv
    by_cases h0 : P.2.1 = 0
    · rw [if_pos (by rw [h0]; rfl), if_pos h0]
    · have c : ¬ nI P.2.1 = 0 := nI_ne0 (by omega) (by omega)
      rw [if_neg c, if_neg h0, lesser_eq (by omega) hp16 (by omega), nIc (by split <;> omega), hst _ (by split <;> omega)]
  have g0 := givesOf0 (σ := mst σ 15 t (ndv P (rd P t).2.2.2.2.2.2)) (lag := lag0 P) (t := t) (pl := (rd P t).1) (ps := (rd P t).2.1) (nd := ndv P (rd P t).2.2.2.2.2.2) (g := P.2.2.2.1 0) (r := P.2.2.2.1 1) ht (by simp [mst, he 0 (by omega)]) (by simp [mst, he 1 (by omega)]) (by simp [mst, he 2 (by omega)]; exact hl0) hl01 hl05 hr0 (by intro j hj; simp [mst, (hI j hj).1]) (by intro j hj; simp [mst, (hI j hj).2.1]) (by simp [mst, upd])
  have g1 := givesOf1 (σ := mst (mst σ 15 t (ndv P (rd P t).2.2.2.2.2.2)) 12 (2 * t) (gf P (rd P t) t)) (lag := lag1 P) (t := t) (pl := (rd P t).1) (ps := (rd P t).2.1) (nd := ndv P (rd P t).2.2.2.2.2.2) (g := P.2.2.2.1 3) (r := P.2.2.2.1 4) ht (by simp [mst, he 3 (by omega)]) (by simp [mst, he 4 (by omega)]) (by simp [mst, he 5 (by omega)]; exact hl1) hl11 hl15 hr1 (by intro j hj; simp [mst, upd, show ¬ 2 * j = 2 * t by omega, (hI j hj).1]) (by intro j hj; simp [mst, upd, show ¬ 2 * j + 1 = 2 * t by omega, (hI j hj).2.1]) (by simp [mst, upd])
  refine ⟨mst (mst (mst σ 15 t (ndv P (rd P t).2.2.2.2.2.2)) 12 (2 * t) (gf P (rd P t) t)) 12 (2 * t + 1) (gb P (rd P t) t), ?_, ?_, ?_, ?_, ?_⟩
  · intro K
    have e1 : l_X9_lives_129 K (fu 1) (nI t) σ = l_X9_lives_174 K (fu 1) (nI t) (mst σ 15 t (ndv P (rd P t).2.2.2.2.2.2)) := by
      rw [← hnd]
      rw [show l_X9_lives_129 K (fu 1) (nI t) σ = l_X9_lives_129 K (0 + 1) (nI t) σ by rw [fu_eq], l_X9_lives_129]
      by_cases c : σ 0 10 = 0
      · rw [if_pos c, if_pos c, nIc (by omega)]
      · rw [if_neg c, if_neg c, nIc (show t < 2147483648 by omega)]
    rw [e1, show l_X9_lives_174 K (fu 1) (nI t) (mst σ 15 t (ndv P (rd P t).2.2.2.2.2.2)) = l_X9_lives_174 K (0 + 1) (nI t) (mst σ 15 t (ndv P (rd P t).2.2.2.2.2.2)) by rw [fu_eq], l_X9_lives_174, g0.1, two_t, nIc (by omega)]
    show l_X9_lives_188 K (fu 1) (nI t) (mst (mst σ 15 t (ndv P (rd P t).2.2.2.2.2.2)) 12 (2 * t) (gf P (rd P t) t)) = _
    rw [show l_X9_lives_188 K (fu 1) (nI t) (mst (mst σ 15 t (ndv P (rd P t).2.2.2.2.2.2)) 12 (2 * t) (gf P (rd P t) t)) = l_X9_lives_188 K (0 + 1) (nI t) (mst (mst σ 15 t (ndv P (rd P t).2.2.2.2.2.2)) 12 (2 * t) (gf P (rd P t) t)) by rw [fu_eq], l_X9_lives_188, g1.1, two_t, nI_1, nI_1, nIc (by omega)]
    rfl
  · intro bK hK
    have v0 : vp_in (nI t) 40 := vnI (by omega) (by omega)
    have b174 : bl_X9_lives_174 bK (fu 1) (nI t) (mst σ 15 t (ndv P (rd P t).2.2.2.2.2.2)) := by
      rw [fu_eq, show (1 : Nat) = 0 + 1 from rfl, bl_X9_lives_174, g0.1, two_t, nIc (by omega)]
      refine ⟨g0.2, vnI (by omega) (by omega), ?_⟩
      rw [fu_eq, show (1 : Nat) = 0 + 1 from rfl, bl_X9_lives_188]
      refine ⟨g1.2, by rw [two_t, nI_1]; exact vnI (by omega) (by omega), ?_⟩
      have := g1.1
      rw [show (mst (mst σ 15 t (ndv P (rd P t).2.2.2.2.2.2)) 12 (2 * t) (rl (P.2.2.2.1 0) (P.2.2.2.1 1) (lag0 P) (rd P t).1 (rd P t).2.1 (ndv P (rd P t).2.2.2.2.2.2) t)) = (mst (mst σ 15 t (ndv P (rd P t).2.2.2.2.2.2)) 12 (2 * t) (gf P (rd P t) t)) from rfl, g1.1, two_t, nI_1, nI_1, nIc (by omega)]
      exact hK
    rw [fu_eq, show (1 : Nat) = 0 + 1 from rfl, bl_X9_lives_129]
    rw [← hnd] at b174
    by_cases c : σ 0 10 = 0
    · rw [if_pos c] at b174 ⊢
      rw [nIc (by omega)]
      exact ⟨v0, b174⟩
    · rw [if_neg c] at b174 ⊢
      have hp0 : 0 < P.2.1 := by
        rcases Nat.eq_zero_or_pos P.2.1 with z | z
        · exact absurd (by rw [hp, z]; rfl) c
        · exact z
      have v3 : vp_in (f_X9_lesser σ ((σ 14 ((nI t).toNatClampNeg)) / 10) ((σ 0 10) - 1)) 16 := by
        rw [hp, nIc (by omega), hf, lesser_eq hp0 hp16 (by omega)]
        exact vnI (by split <;> omega) (by omega)
      refine ⟨v0, v3, v0, ?_⟩
      rw [nIc (show t < 2147483648 by omega)] at b174 ⊢
      exact b174
  · exact hE.fr (by simp [mst]) (by simp [mst]) (by simp [mst]) (by simp [mst])
  · intro j hj
    show _ = upd _ _ _ j ∧ _ = upd _ _ _ j ∧ _ = upd _ _ _ j ∧ _ = nI (updN _ _ _ j) ∧ _ = nI (updN _ _ _ j)
    by_cases e : j = t
    · subst e; simp [mst, upd, updN, hs, hf]
    · have := hI j (by omega)
      simp [mst, upd, updN, e, show ¬ 2 * j = 2 * t by omega, show ¬ 2 * j = 2 * t + 1 by omega, show ¬ 2 * j + 1 = 2 * t by omega, this.1, this.2.1, this.2.2.1, this.2.2.2.1, this.2.2.2.2]
  · intro q h1 h2
    simp [mst, h1, h2]
theorem within20 {σ : Mem} {s : Nat} {m : Int32} (h : s ≤ 20) : f_X9_within σ (nI s + (if m ≤ 0 then (if 0 ≤ m then 0 else -1) else 1)) 20 = nI (nsp s m) := by
  unfold f_X9_within f_X9_lesser nsp
  have t20 : (20 : Int32) = nI 20 := rfl
  by_cases h1 : m ≤ 0
  · rw [if_pos h1, if_neg (nlt_of_le h1)]
    by_cases h2 : 0 ≤ m
    · rw [if_pos h2, if_neg (nlt_of_le h2), Int32.add_zero, if_pos (nI_pos' (by omega)), t20]
      by_cases h3 : nI 20 ≤ nI s
      · rw [if_pos h3]
        rw [nIle (by omega) (by omega)] at h3
        congr 1; omega
      · rw [if_neg h3]
    · rw [if_neg h2, if_pos (lt_of_nle h2)]
      by_cases h3 : 0 < s
      · rw [sb_m1 h3, if_pos (nI_pos' (by omega)), t20, if_neg (by rw [nIle (by omega) (by omega)]; omega)]
      · have e : s = 0 := by omega
        subst e
        rw [if_neg (by decide)]; rfl
  · rw [if_neg h1, if_pos (lt_of_nle h1), nI_1, if_pos (nI_pos' (by omega)), t20]
    by_cases h2 : 20 < s + 1
    · rw [if_pos h2, if_pos (by rw [nIle (by omega) (by omega)]; omega)]
    · rw [if_neg h2]
      by_cases h3 : nI 20 ≤ nI (s + 1)
      · rw [if_pos h3]
        rw [nIle (by omega) (by omega)] at h3
        congr 1; omega
      · rw [if_neg h3]
