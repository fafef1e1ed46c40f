/-! the model unfolds a number -/
def r16 (σ : Mem) (lo n : Nat) (ρ : List Nat) (B : Nat) : Prop := σ 0 7 = nI n ∧ ρ.length = 6 ∧ ∀ j, lo ≤ j → j < n → σ 16 j = nI (pg ρ j) ∧ pg ρ j ≤ B
theorem un58 (K : Int32 → Mem → Mem) (bK : Int32 → Mem → Prop) {n k : Nat} (hn : n ≤ 6) (hk : k < n) : ∀ (r j f B : Nat) (σ : Mem) (ρ : List Nat), j + r = n → k < j → r < f → B + r < 1000 → r16 σ 0 n ρ B →
    ∃ τ : Mem, l_X9_unfolds_58 K f (nI k) (nI j) σ = K (nI k + -1) τ ∧ (bK (nI k + -1) τ → bl_X9_unfolds_58 bK f (nI k) (nI j) σ) ∧ r16 τ 0 n (ph3 k r j ρ) (B + r) ∧ ∀ q, q ≠ 16 → τ q = σ q := by
  intro r
  induction r with
  | zero =>
    intro j f B σ ρ hj hkj hf hB h
    obtain ⟨f, rfl⟩ : ∃ f', f = f' + 1 := ⟨f - 1, by omega⟩
    have c1 : nI n ≤ nI j := by rw [nIle (by omega) (by omega)]; omega
    refine ⟨σ, ?_, ?_, h, fun _ _ => rfl⟩
    · rw [l_X9_unfolds_58, h.1, if_pos c1]
    · rw [bl_X9_unfolds_58, h.1, if_pos c1]; exact id
  | succ r ih =>
    intro j f B σ ρ hj hkj hf hB h
    obtain ⟨f, rfl⟩ : ∃ f', f = f' + 1 := ⟨f - 1, by omega⟩
    have c1 : ¬ nI n ≤ nI j := by rw [nIle (by omega) (by omega)]; omega
    have b1 := h.2.2 j (by omega) (by omega)
    have b2 := h.2.2 k (by omega) hk
    have v1 : vp_in (nI j) 6 := vnI (by omega) (by omega)
    have v2 : vp_in (nI k) 6 := vnI (by omega) (by omega)
    have key : ∀ x : Nat, x = pg ρ j + (if pg ρ j < pg ρ k then 0 else 1) → r16 (mst σ 16 j (nI x)) 0 n (ps ρ j (pg ρ j + (if pg ρ j < pg ρ k then 0 else 1))) (B + 1) := by
      intro x hx
      refine ⟨by simp [mst, h.1], by rw [ps_len]; exact h.2.1, fun i h0 hi => ?_⟩
      rw [pg_ps _ _ _ _ (by rw [h.2.1]; omega)]
      by_cases e : i = j
      · rw [if_pos e, e, ← hx]
        refine ⟨by simp [mst, upd], ?_⟩
        rw [hx]; split <;> omega
      · rw [if_neg e]
        have := h.2.2 i h0 hi
        exact ⟨by simp [mst, upd, e]; exact this.1, by omega⟩
    have nx : ∀ x : Nat, x = pg ρ j + (if pg ρ j < pg ρ k then 0 else 1) → ∃ τ : Mem, l_X9_unfolds_58 K f (nI k) (nI (j + 1)) (mst σ 16 j (nI x)) = K (nI k + -1) τ ∧ (bK (nI k + -1) τ → bl_X9_unfolds_58 bK f (nI k) (nI (j + 1)) (mst σ 16 j (nI x))) ∧ r16 τ 0 n (ph3 k (r + 1) j ρ) (B + (r + 1)) ∧ ∀ q, q ≠ 16 → τ q = σ q := by
      intro x hx
      obtain ⟨τ, a1, a2, a3, a4⟩ := ih (j + 1) f (B + 1) (mst σ 16 j (nI x)) _ (by omega) (by omega) (by omega) (by omega) (key x hx)
      refine ⟨τ, a1, a2, ?_, fun q hq => by rw [a4 q hq]; exact mst_ne _ _ _ hq⟩
      rw [ph3, show B + (r + 1) = B + 1 + r by omega]; exact a3
    by_cases z : pg ρ j < pg ρ k
    · have c2 : nI (pg ρ j) < nI (pg ρ k) := by rw [nIlt (by omega) (by omega)]; exact z
      obtain ⟨τ, a1, a2, a3, a4⟩ := nx (pg ρ j) (by rw [if_pos z]; rfl)
      refine ⟨τ, ?_, fun hk => ?_, a3, a4⟩
      · rw [l_X9_unfolds_58, h.1, if_neg c1, nIc (by omega), nIc (by omega), b1.1, b2.1, if_pos c2, Int32.add_zero, nI_1]; exact a1
      · rw [bl_X9_unfolds_58, h.1, if_neg c1, nIc (by omega), nIc (by omega), b1.1, b2.1, if_pos c2, Int32.add_zero, nI_1]; exact ⟨v1, v1, v2, v1, a2 hk⟩
    · have c2 : ¬ nI (pg ρ j) < nI (pg ρ k) := by rw [nIlt (by omega) (by omega)]; exact z
      obtain ⟨τ, a1, a2, a3, a4⟩ := nx (pg ρ j + 1) (by rw [if_neg z])
      refine ⟨τ, ?_, fun hk => ?_, a3, a4⟩
      · rw [l_X9_unfolds_58, h.1, if_neg c1, nIc (by omega), nIc (by omega), b1.1, b2.1, if_neg c2, nI_1, nI_1]; exact a1
      · rw [bl_X9_unfolds_58, h.1, if_neg c1, nIc (by omega), nIc (by omega), b1.1, b2.1, if_neg c2, nI_1, nI_1]; exact ⟨v1, v1, v2, v1, a2 hk⟩
theorem un49 {n : Nat} (hn : n ≤ 6) : ∀ (k f B : Nat) (σ : Mem) (ρ : List Nat), k ≤ n → k < f → B + 6 * k < 1000 → r16 σ 0 n ρ B →
    bl_X9_unfolds_49 f (nI k + -1) σ ∧ r16 (l_X9_unfolds_49 f (nI k + -1) σ) 0 n (ph2 n k ρ) (B + 6 * k) ∧ ∀ q, q ≠ 16 → (l_X9_unfolds_49 f (nI k + -1) σ) q = σ q := by
  intro k
  induction k with
  | zero =>
    intro f B σ ρ hk hf hB h
    obtain ⟨f, rfl⟩ : ∃ f', f = f' + 1 := ⟨f - 1, by omega⟩
    have c1 : nI 0 + -1 < (0 : Int32) := by decide
    rw [l_X9_unfolds_49, bl_X9_unfolds_49, if_pos c1, if_pos c1]
    exact ⟨trivial, h, fun _ _ => rfl⟩
  | succ k ih =>
    intro f B σ ρ hk hf hB h
    obtain ⟨f, rfl⟩ : ∃ f', f = f' + 1 := ⟨f - 1, by omega⟩
    have c1 : ¬ nI k < (0 : Int32) := nInn (by omega)
    obtain ⟨τ, a1, a2, a3, a4⟩ := un58 (l_X9_unfolds_49 f) (bl_X9_unfolds_49 f) hn (k := k) (by omega) (n - (k + 1)) (k + 1) (fu 8) B σ ρ (by omega) (by omega) (by rw [fu_eq]; omega) (by omega) h
    have h2 : r16 τ 0 n (ph3 k (n - (k + 1)) (k + 1) ρ) (B + 6) := ⟨a3.1, a3.2.1, fun j h0 hj => ⟨(a3.2.2 j h0 hj).1, by have := (a3.2.2 j h0 hj).2; omega⟩⟩
    obtain ⟨b1, b2, b3⟩ := ih f (B + 6) τ _ (by omega) (by omega) (by omega) h2
    rw [pk_m1, l_X9_unfolds_49, bl_X9_unfolds_49, if_neg c1, if_neg c1, nI_1, a1, ph2]
    refine ⟨a2 b1, ?_, fun q hq => by rw [b3 q hq, a4 q hq]⟩
    rw [show B + 6 * (k + 1) = B + 6 + 6 * k by omega]; exact b2
theorem un9 {n : Nat} (hn1 : 1 ≤ n) (hn : n ≤ 6) : ∀ (k f code : Nat) (σ : Mem) (ρ : List Nat), k ≤ n → k < f → code < 1000 → r16 σ k n ρ 6 →
    bl_X9_unfolds_9 f (nI code) (nI k + -1) σ ∧ r16 (l_X9_unfolds_9 f (nI code) (nI k + -1) σ) 0 n (ph2 n n (ph1 n k code ρ)) 100 ∧ ∀ q, q ≠ 16 → (l_X9_unfolds_9 f (nI code) (nI k + -1) σ) q = σ q := by
  intro k
  induction k with
  | zero =>
    intro f code σ ρ hk hf hc h
    obtain ⟨f, rfl⟩ : ∃ f', f = f' + 1 := ⟨f - 1, by omega⟩
    have c1 : nI 0 + -1 < (0 : Int32) := by decide
    obtain ⟨b1, b2, b3⟩ := un49 hn n (fu 8) 6 σ ρ (Nat.le_refl _) (by rw [fu_eq]; omega) (by omega) h
    rw [l_X9_unfolds_9, bl_X9_unfolds_9, if_pos c1, if_pos c1, h.1, nI_m1 (by omega), ← sb_m1 (by omega), ph1]
    exact ⟨b1, ⟨b2.1, b2.2.1, fun j h0 hj => ⟨(b2.2.2 j h0 hj).1, by have := (b2.2.2 j h0 hj).2; omega⟩⟩, b3⟩
  | succ k ih =>
    intro f code σ ρ hk hf hc h
    obtain ⟨f, rfl⟩ : ∃ f', f = f' + 1 := ⟨f - 1, by omega⟩
    have c1 : ¬ nI k < (0 : Int32) := nInn (by omega)
    have v1 : vp_in (nI k) 6 := vnI (by omega) (by omega)
    have nz : ¬ nI (n - k) = 0 := nI_ne0 (by omega) (by omega)
    have hd : code / (n - k) ≤ code := Nat.div_le_self _ _
    have hm : code % (n - k) < n - k := Nat.mod_lt _ (by omega)
    obtain ⟨b1, b2, b3⟩ := ih f (code / (n - k)) (mst σ 16 k (nI (code % (n - k)))) (ps ρ k (code % (n - k))) (by omega) (by omega) (by omega)
      ⟨by simp [mst, h.1], by rw [ps_len]; exact h.2.1, fun j hkj hj => by
        rw [pg_ps _ _ _ _ (by rw [h.2.1]; omega)]
        by_cases e : j = k
        · rw [if_pos e, e]; exact ⟨by simp [mst, upd], by omega⟩
        · rw [if_neg e]
          have := h.2.2 j (by omega) hj
          exact ⟨by simp [mst, upd, e]; exact this.1, this.2⟩⟩
    rw [pk_m1, l_X9_unfolds_9, bl_X9_unfolds_9, if_neg c1, if_neg c1, h.1, pk_sub (by omega), pk_rem (by omega) (by omega) (by omega), pk_div (by omega) (by omega) (by omega), nIc (by omega), ph1]
    exact ⟨⟨nz, v1, nz, b1⟩, b2, fun q hq => by rw [b3 q hq]; exact mst_ne _ _ _ hq⟩
theorem unf_b {n code : Nat} (hn1 : 1 ≤ n) (hn : n ≤ 6) (hc : code < 1000) {σ : Mem} (h : σ 0 7 = nI n) : b_X9_unfolds σ (nI code) ∧ (∀ j, j < n → (f_X9_unfolds σ (nI code)) 16 j = nI (pg (pU n code) j)) ∧ ∀ q, q ≠ 16 → (f_X9_unfolds σ (nI code)) q = σ q := by
  obtain ⟨b1, b2, b3⟩ := un9 hn1 hn n (fu 8) code σ [0, 0, 0, 0, 0, 0] (Nat.le_refl _) (by rw [fu_eq]; omega) hc ⟨h, rfl, fun j h1 h2 => absurd h2 (by omega)⟩
  unfold b_X9_unfolds f_X9_unfolds
  rw [h, nI_m1 (by omega), ← sb_m1 (by omega)]
  exact ⟨b1, fun j hj => (b2.2.2 j (Nat.zero_le _) hj).1, b3⟩
/-! how much a row squeezes -/
/-- the weights that both know -/
def wts (c m : Mem) (n : Nat) (w : Nat → Nat) (p q : Nat) : Prop := c 5 2 = nI n ∧ (∀ j, j < n → c 6 j = nI (w j) ∧ m 7 j = nI (w j) ∧ 1 ≤ w j ∧ w j ≤ 9) ∧ m 10 0 = nI p ∧ m 10 3 = nI q ∧ p ≤ 999 ∧ q ≤ 999
theorem sqz_l {n W p q : Nat} {w : Nat → Nat} {ρ : List Nat} (hn : n ≤ 6) (hW : W ≤ 54) (hρ : ∀ j, j < n → pg ρ j < n) : ∀ (r d f1 f2 a A Bl : Nat) (c m : Mem), d + r = n → r < f1 → r < f2 → wts c m n w p q → c 23 2 = nI n → m 0 7 = nI n → c 23 7 = nI W → m 0 9 = nI W → (∀ j, j < n → c 24 j = nI (pg ρ j)) → (∀ j, j < n → m 16 j = nI (pg ρ j)) → a ≤ 9 * d → A ≤ 110000 → 1 ≤ Bl → Bl ≤ 9 → c 23 3 = nI A → m 0 23 = nI A → c 23 4 = nI Bl → m 0 24 = nI Bl →
    bl_X9_squeezes_14 f2 (nI a) (nI d) m ∧ ∃ A' Bl' : Nat, A' ≤ 110000 ∧ 1 ≤ Bl' ∧ Bl' ≤ 9 ∧ (l_X0_weigh_16 f1 (nI p) (nI q) (nI a) (nI d) c) 23 3 = nI A' ∧ (l_X9_squeezes_14 f2 (nI a) (nI d) m) 0 23 = nI A' ∧ (l_X0_weigh_16 f1 (nI p) (nI q) (nI a) (nI d) c) 23 4 = nI Bl' ∧ (l_X9_squeezes_14 f2 (nI a) (nI d) m) 0 24 = nI Bl' ∧
      (∀ s, s ≠ 3 → s ≠ 4 → (l_X0_weigh_16 f1 (nI p) (nI q) (nI a) (nI d) c) 23 s = c 23 s) ∧ (∀ s, s ≠ 23 → s ≠ 24 → (l_X9_squeezes_14 f2 (nI a) (nI d) m) 0 s = m 0 s) ∧ (∀ s, s ≠ 0 → (l_X9_squeezes_14 f2 (nI a) (nI d) m) s = m s) := by
  intro r
  induction r with
  | zero =>
    intro d f1 f2 a A Bl c m hd h1 h2 hw c2 m7 c7 m9 c24 m16 ha hA hB1 hB9 cA mA cB mB
    obtain ⟨f1, rfl⟩ : ∃ f', f1 = f' + 1 := ⟨f1 - 1, by omega⟩
    obtain ⟨f2, rfl⟩ : ∃ f', f2 = f' + 1 := ⟨f2 - 1, by omega⟩
    have c1 : nI n ≤ nI d := by rw [nIle (by omega) (by omega)]; omega
    rw [l_X0_weigh_16, l_X9_squeezes_14, bl_X9_squeezes_14, c2, m7, if_pos c1, if_pos c1, if_pos c1]
    exact ⟨trivial, A, Bl, hA, hB1, hB9, cA, mA, cB, mB, fun _ _ _ => rfl, fun _ _ _ => rfl, fun _ _ => rfl⟩
  | succ r ih =>
    intro d f1 f2 a A Bl c m hd h1 h2 hw c2 m7 c7 m9 c24 m16 ha hA hB1 hB9 cA mA cB mB
    obtain ⟨f1, rfl⟩ : ∃ f', f1 = f' + 1 := ⟨f1 - 1, by omega⟩
    obtain ⟨f2, rfl⟩ : ∃ f', f2 = f' + 1 := ⟨f2 - 1, by omega⟩
    obtain ⟨w1, w2, w3, w4, w5, w6⟩ := id hw
    have k1 : ¬ nI n ≤ nI d := by rw [nIle (by omega) (by omega)]; omega
    have k2 : ¬ (6 : Int32) ≤ nI d := by rw [show (6 : Int32) = nI 6 from rfl, nIle (by omega) (by omega)]; omega
    have hr := hρ d (by omega)
    have hwd := w2 (pg ρ d) hr
    have k3 : ¬ nI n ≤ nI (pg ρ d) := by rw [nIle (by omega) (by omega)]; omega
    have k4 : ¬ (12 : Int32) ≤ nI (pg ρ d) := by rw [show (12 : Int32) = nI 12 from rfl, nIle (by omega) (by omega)]; omega
    have ew : f_X1_weightOf c (nI (pg ρ d)) = nI (w (pg ρ d)) := by
      unfold f_X1_weightOf
      rw [if_neg (nInn (by omega)), w1, if_neg k3, if_neg k4, nIc (by omega)]; exact hwd.1
    have v1 : vp_in (nI d) 6 := vnI (by omega) (by omega)
    have v2 : vp_in (nI (pg ρ d)) 12 := vnI (by omega) (by omega)
    rw [l_X0_weigh_16, l_X9_squeezes_14, bl_X9_squeezes_14, c2, m7, if_neg k1, if_neg k1, if_neg k1, if_neg k2, nIc (by omega), c24 d (by omega), m16 d (by omega), ew, nIc (show pg ρ d < 2147483648 by omega), hwd.2.1, c7, m9, cA, mA, cB, mB, cl0, cl3, w3, w4, nI_1, nI_add a]
    -- both sides: s, the squeeze
    have hpa : (p + q) * a ≤ 1998 * 54 := Nat.mul_le_mul (by omega) (by omega)
    have hpw : p * W ≤ 999 * 54 := Nat.mul_le_mul w5 hW
    have es : ((nI p + nI q) * nI a - nI p * nI W).toInt = ((p + q) * a : Nat) - ((p * W : Nat) : Int) := by
      rw [nI_add, pk_mul, pk_mul, subT (by rw [nI_t (by omega), nI_t (by omega)]; omega) (by rw [nI_t (by omega), nI_t (by omega)]; omega), nI_t (by omega), nI_t (by omega)]
    have hx : w (pg ρ d) ≤ 9 := hwd.2.2.2
    have hx1 : 1 ≤ w (pg ρ d) := hwd.2.2.1
    have hAw : A * w (pg ρ d) ≤ 110000 * 9 := Nat.mul_le_mul hA hx
    -- no more: both go on as they are
    have stay := ih (d + 1) f1 f2 (a + w (pg ρ d)) A Bl c (mst (mst m 0 23 (nI A)) 0 24 (nI Bl)) (by omega) (by omega) (by omega) (by unfold wts; simp [mst]; exact hw) c2 (by simp [mst, upd, m7]) c7 (by simp [mst, upd, m9]) c24 (fun j hj => by simp [mst, m16 j hj]) (by omega) hA hB1 hB9 cA (by simp [mst, upd]) cB (by simp [mst, upd])
    by_cases z : (p + q) * a ≤ p * W
    · -- nothing squeezes
      have g0 : f_X9_greater m ((nI p + nI q) * nI a - nI p * nI W) 0 = 0 := by
        unfold f_X9_greater
        rw [if_pos (by rw [Int32.le_iff_toInt_le, es, Int32.toInt_zero]; omega)]
      have q2 : f_X9_greater m ((nI p + nI q) * nI a - nI p * nI W) 0 * nI Bl ≤ nI A * nI (w (pg ρ d)) := by
        rw [g0, Int32.zero_mul, pk_mul]; exact nI_pos' (by omega)
      have hsB : ((((p + q) * a : Nat) : Int) - ((p * W : Nat) : Int)) * (Bl : Int) ≤ 0 := Int.mul_nonpos_of_nonpos_of_nonneg (by omega) (by omega)
      have hsB2 : -(53946 * 9 : Int) ≤ ((((p + q) * a : Nat) : Int) - ((p * W : Nat) : Int)) * (Bl : Int) := by
        have t1 : -(53946 : Int) ≤ (((p + q) * a : Nat) : Int) - ((p * W : Nat) : Int) := by omega
        have t2 : -(53946 : Int) * (Bl : Int) ≤ ((((p + q) * a : Nat) : Int) - ((p * W : Nat) : Int)) * (Bl : Int) := Int.mul_le_mul_of_nonneg_right t1 (by omega)
        omega
      have q1 : ((nI p + nI q) * nI a - nI p * nI W) * nI Bl ≤ nI A * nI (w (pg ρ d)) := by
        rw [Int32.le_iff_toInt_le, pk_mul A, nI_t (by omega), mulT (by rw [es, nI_t (by omega)]; omega) (by rw [es, nI_t (by omega)]; omega), es, nI_t (by omega)]
        omega
      rw [if_pos q1, if_pos q2, if_pos q2]
      obtain ⟨b1, A', Bl', b2, b3, b4, b5, b6, b7, b8, b9, b10, b11⟩ := stay
      refine ⟨⟨v1, v2, b1⟩, A', Bl', b2, b3, b4, b5, b6, b7, b8, b9, fun s h3 h4 => ?_, fun s hs => ?_⟩
      · rw [b10 s h3 h4]; simp [mst, upd, h3, h4]
      · rw [b11 s hs]; simp [mst, hs]
    · have eg : (nI p + nI q) * nI a - nI p * nI W = nI ((p + q) * a - p * W) := by rw [nI_add, pk_mul, pk_mul, pk_sub (by omega)]
      have g0 : f_X9_greater m (nI ((p + q) * a - p * W)) 0 = nI ((p + q) * a - p * W) := by
        unfold f_X9_greater
        rw [if_neg (nI_nle (by omega) (by omega))]
      rw [eg, g0]
      by_cases y : nI ((p + q) * a - p * W) * nI Bl ≤ nI A * nI (w (pg ρ d))
      · rw [if_pos y, if_pos y, if_pos y]
        obtain ⟨b1, A', Bl', b2, b3, b4, b5, b6, b7, b8, b9, b10, b11⟩ := stay
        refine ⟨⟨v1, v2, b1⟩, A', Bl', b2, b3, b4, b5, b6, b7, b8, b9, fun s h3 h4 => ?_, fun s hs => ?_⟩
        · rw [b10 s h3 h4]; simp [mst, upd, h3, h4]
        · rw [b11 s hs]; simp [mst, hs]
      · rw [if_neg y, if_neg y, if_neg y]
        obtain ⟨b1, A', Bl', b2, b3, b4, b5, b6, b7, b8, b9, b10, b11⟩ := ih (d + 1) f1 f2 (a + w (pg ρ d)) ((p + q) * a - p * W) (w (pg ρ d)) (mst (mst c 23 3 (nI ((p + q) * a - p * W))) 23 4 (nI (w (pg ρ d)))) (mst (mst m 0 23 (nI ((p + q) * a - p * W))) 0 24 (nI (w (pg ρ d)))) (by omega) (by omega) (by omega) (by unfold wts; simp [mst]; exact hw) (by simp [mst, upd, c2]) (by simp [mst, upd, m7]) (by simp [mst, upd, c7]) (by simp [mst, upd, m9]) (fun j hj => by simp [mst, c24 j hj]) (fun j hj => by simp [mst, m16 j hj]) (by omega) (by omega) hx1 hx (by simp [mst, upd]) (by simp [mst, upd]) (by simp [mst, upd]) (by simp [mst, upd])
        refine ⟨⟨v1, v2, b1⟩, A', Bl', b2, b3, b4, b5, b6, b7, b8, fun s h3 h4 => ?_, fun s h3 h4 => ?_, fun s hs => ?_⟩
        · rw [b9 s h3 h4]; simp [mst, upd, h3, h4]
        · rw [b10 s h3 h4]; simp [mst, upd, h3, h4]
        · rw [b11 s hs]; simp [mst, hs]
