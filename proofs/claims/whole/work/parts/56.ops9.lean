/-! what both give lies within 0..999 -/
def g9 (x : Int32) : Prop := ∃ a : Nat, a ≤ 999 ∧ x = nI a
theorem g9_0 : g9 0 := ⟨0, by omega, rfl⟩
theorem g9_of {x : Int32} (h : rng x 0 999) : g9 x := by
  have k := rngN h (by decide)
  refine ⟨x.toNatClampNeg, ?_, k.1⟩
  have := h.2; have := k.2; omega
theorem g9_lea (x : Int32) : g9 (lea x) := by
  unfold lea
  by_cases h : 0 ≤ x
  · rw [if_pos h]
    by_cases h2 : 999 ≤ x
    · rw [if_pos h2]; exact ⟨999, by omega, rfl⟩
    · rw [if_neg h2]
      rw [Int32.le_iff_toInt_le] at h h2
      rw [Int32.toInt_zero] at h
      rw [show (999 : Int32).toInt = 999 by decide] at h2
      exact g9_of ⟨h, by omega⟩
  · rw [if_neg h]; exact g9_0
theorem g9_rl {g r nd : Int32} {lag t : Nat} {own oth : Nat → Int32} (hg : g9 g) (h1 : ∀ j, g9 (own j)) (h2 : ∀ j, g9 (oth j)) : g9 (rl g r lag own oth nd t) := by
  unfold rl
  split
  · exact hg
  · split
    · exact h2 _
    · split
      · exact g9_lea _
      · obtain ⟨a, ha, ea⟩ := h1 (t - 1)
        obtain ⟨b, hb, eb⟩ := g9_lea (nd - oth (t - lag))
        refine ⟨(a + b) / 2, by omega, ?_⟩
        rw [ea, eb, nI_add]
        exact pk_div (show a + b < 2147483648 by omega) (by decide) (by decide)
theorem g9_rd {P : Rp} (h0 : g9 (P.2.2.2.1 0)) (h3 : g9 (P.2.2.2.1 3)) : ∀ t j, g9 ((rd P t).1 j) ∧ g9 ((rd P t).2.1 j) := by
  intro t
  induction t with
  | zero => intro j; exact ⟨g9_0, g9_0⟩
  | succ t ih =>
    intro j
    show g9 (upd _ _ _ j) ∧ g9 (upd _ _ _ j)
    unfold upd
    by_cases e : j = t
    · rw [if_pos e, if_pos e]
      exact ⟨g9_rl h0 (fun i => (ih i).1) (fun i => (ih i).2), g9_rl h3 (fun i => (ih i).2) (fun i => (ih i).1)⟩
    · rw [if_neg e, if_neg e]; exact ih j
/-! does -/
def sS (g : Nat → Nat) : Nat → Nat
  | 0 => 0
  | k + 1 => sS g k + g k
theorem sS_le {g : Nat → Nat} (h : ∀ j, g j ≤ 999) : ∀ k, sS g k ≤ 999 * k := by
  intro k
  induction k with
  | zero => exact Nat.le_refl _
  | succ k ih => rw [sS]; have := h k; omega
theorem allG {c : Mem} {w : Int32} {g : Nat → Nat} (hg : ∀ t, t < 40 → f_X4_given c w (nI t) = nI (g t)) : ∀ (r t f : Nat), t + r = 40 → r < f → l_X4_allGiven_4 f w (nI (sS g t)) (nI t) c = nI (sS g 40) := by
  intro r
  induction r with
  | zero =>
    intro t f ht hf
    obtain ⟨f, rfl⟩ : ∃ f', f = f' + 1 := ⟨f - 1, by omega⟩
    have e : t = 40 := by omega
    subst e
    rw [l_X4_allGiven_4, if_pos (by decide)]
  | succ r ih =>
    intro t f ht hf
    obtain ⟨f, rfl⟩ : ∃ f', f = f' + 1 := ⟨f - 1, by omega⟩
    have c1 : ¬ (40 : Int32) ≤ nI t := by rw [show (40 : Int32) = nI 40 from rfl, nIle (by omega) (by omega)]; omega
    rw [l_X4_allGiven_4, if_neg c1, hg t (by omega), nI_add, nI_1]
    exact ih (t + 1) f (by omega) (by omega)
theorem doesEnd (m c : Mem) {x y : Nat} (hx : x < 100000) (hy : y < 100000) (w : Int32) : (if nI (x + y) = 0 then b_X9_part m 0 1 w ∧ True else b_X9_part m (nI x).toInt64 (nI (x + y)).toInt64 w ∧ True) ∧
    (f_X8_inLowestTerms c (nI x).toInt64 (nI (x + y)).toInt64 w).toInt32 = (if nI (x + y) = 0 then (f_X9_part m 0 1 w).toInt32 else (f_X9_part m (nI x).toInt64 (nI (x + y)).toInt64 w).toInt32) := by
  rw [nI_l (show x + y < 2147483648 by omega)]
  have ex : (nI x).toInt64.toInt = (x : Int) := by rw [Int32.toInt_toInt64, nI_t (by omega)]
  by_cases e : x + y = 0
  · have ex0 : x = 0 := by omega
    have ey0 : y = 0 := by omega
    subst ex0; subst ey0
    rw [if_pos (show nI (0 + 0) = 0 from rfl), if_pos (show nI (0 + 0) = 0 from rfl)]
    have p := part_eq m c (X := 0) (y := 1) w (by decide) (by decide) (by omega) (by omega)
    refine ⟨⟨p.1, trivial⟩, ?_⟩
    rw [show (1 : Int64) = lN 1 from rfl, p.2]
    congr 1
    unfold f_X8_inLowestTerms f_X8_commonDivisor
    have z : (if (0 : Int64) < 0 then (0 : Int64) else -0) = lN 0 := by decide
    have z2 : (if (0 : Int64) < (nI 0).toInt64 then (nI 0).toInt64 else -(nI 0).toInt64) = lN 0 := by decide
    rw [z, z2, show (0 : Int32) = nI 0 from rfl, cd_l c 1 0 1 (fu 201) 0 (by decide) (by decide) (by decide) (by rw [fu_eq]; omega) (by omega), cd_l c 1 0 0 (fu 201) 0 (by decide) (by decide) (by decide) (by rw [fu_eq]; omega) (by omega)]
    have k1 : lg_cmp (lN (Nat.gcd 0 (0 + 0))) 0 = nI 0 := by decide
    have k2 : ¬ lg_cmp (lN (Nat.gcd 0 1)) 0 = nI 0 := by decide
    rw [if_pos k1, if_neg k2]
    by_cases w0 : w = nI 0
    · rw [if_pos w0, if_pos w0]; decide
    · rw [if_neg w0, if_neg w0]; decide
  · have c1 : ¬ nI (x + y) = 0 := nI_ne0 (by omega) (by omega)
    rw [if_neg c1, if_neg c1]
    have p := part_eq m c (X := (nI x).toInt64) (y := x + y) w (by rw [ex]; omega) (by rw [ex]; omega) (by omega) (by omega)
    exact ⟨⟨p.1, trivial⟩, by rw [p.2]⟩
theorem does_l {m c : Mem} {g k : Nat → Nat} (hg : ∀ j, g j ≤ 999) (hk : ∀ j, k j ≤ 999) (h1 : ∀ t, t < 40 → m 12 (2 * t) = nI (g t)) (h2 : ∀ t, t < 40 → m 12 (2 * t + 1) = nI (k t)) (w : Int32) : ∀ (r t f : Nat), t + r = 40 → r < f →
    bl_X9_doesOf_7 f w (nI (sS g t)) (nI (sS g t + sS k t)) (nI t) m ∧ (f_X8_inLowestTerms c (nI (sS g 40)).toInt64 (nI (sS g 40 + sS k 40)).toInt64 w).toInt32 = l_X9_doesOf_7 f w (nI (sS g t)) (nI (sS g t + sS k t)) (nI t) m := by
  intro r
  induction r with
  | zero =>
    intro t f ht hf
    obtain ⟨f, rfl⟩ : ∃ f', f = f' + 1 := ⟨f - 1, by omega⟩
    have e : t = 40 := by omega
    subst e
    have b1 := sS_le hg 40
    have b2 := sS_le hk 40
    have c1 : (40 : Int32) ≤ nI 40 := by decide
    rw [l_X9_doesOf_7, bl_X9_doesOf_7, if_pos c1, if_pos c1]
    exact doesEnd m c (by omega) (by omega) w
  | succ r ih =>
    intro t f ht hf
    obtain ⟨f, rfl⟩ : ∃ f', f = f' + 1 := ⟨f - 1, by omega⟩
    have c1 : ¬ (40 : Int32) ≤ nI t := by rw [show (40 : Int32) = nI 40 from rfl, nIle (by omega) (by omega)]; omega
    have v1 : vp_in (nI (2 * t)) 80 := vnI (by omega) (by omega)
    have v2 : vp_in (nI (2 * t + 1)) 80 := vnI (by omega) (by omega)
    rw [l_X9_doesOf_7, bl_X9_doesOf_7, if_neg c1, if_neg c1, two_t, nI_1, nI_1, nIc (by omega), nIc (by omega), h1 t (by omega), h2 t (by omega), nI_add, nI_add, nI_add]
    have nx := ih (t + 1) f (by omega) (by omega)
    rw [sS, sS, show sS g t + g t + (sS k t + k t) = sS g t + sS k t + (g t + k t) by omega] at nx
    exact ⟨⟨v1, v1, v2, nx.1⟩, nx.2⟩
theorem doesOf_eq {c m : Mem} {p : Nat} {F : Nat → Nat} (v : VR c m p F) (hg : ∀ t, t < 40 → g9 (m 12 (2 * t)) ∧ g9 (m 12 (2 * t + 1))) (w : Int32) : b_X9_doesOf m w ∧ (f_X8_inLowestTerms c ((f_X4_allGiven c 0).toInt64) (((f_X4_allGiven c 0) + (f_X4_allGiven c 1)).toInt64) w).toInt32 = f_X9_doesOf m w := by
  have k1 : ∀ t, ∃ a, a ≤ 999 ∧ (t < 40 → m 12 (2 * t) = nI a) := fun t => by
    by_cases h : t < 40
    · obtain ⟨a, h1, h2⟩ := (hg t h).1; exact ⟨a, h1, fun _ => h2⟩
    · exact ⟨0, by omega, fun z => absurd z h⟩
  have k2 : ∀ t, ∃ a, a ≤ 999 ∧ (t < 40 → m 12 (2 * t + 1) = nI a) := fun t => by
    by_cases h : t < 40
    · obtain ⟨a, h1, h2⟩ := (hg t h).2; exact ⟨a, h1, fun _ => h2⟩
    · exact ⟨0, by omega, fun z => absurd z h⟩
  obtain ⟨g, hg1⟩ := Classical.axiomOfChoice k1
  obtain ⟨k, hk1⟩ := Classical.axiomOfChoice k2
  have a0 := allG (c := c) (w := 0) (g := g) (fun t ht => by rw [given0 ht, (v.2.2.2.2.2 t ht).1]; exact (hg1 t).2 ht) 40 0 (fu 41) (by omega) (by rw [fu_eq]; omega)
  have a1 := allG (c := c) (w := 1) (g := k) (fun t ht => by rw [given1 ht, (v.2.2.2.2.2 t ht).2.1]; exact (hk1 t).2 ht) 40 0 (fu 41) (by omega) (by rw [fu_eq]; omega)
  have q := does_l (m := m) (c := c) (g := g) (k := k) (fun j => (hg1 j).1) (fun j => (hk1 j).1) (fun t ht => (hg1 t).2 ht) (fun t ht => (hk1 t).2 ht) w 40 0 (fu 41) (by omega) (by rw [fu_eq]; omega)
  unfold f_X4_allGiven b_X9_doesOf f_X9_doesOf
  rw [show l_X4_allGiven_4 (fu 41) 0 0 0 c = nI (sS g 40) from a0, show l_X4_allGiven_4 (fu 41) 1 0 0 c = nI (sS k 40) from a1, nI_add]
  exact q
theorem gives9 {c m m' : Mem} (hE : RE c m) (l2 : LM m m') : ∀ t, t < 40 → g9 (m' 12 (2 * t)) ∧ g9 (m' 12 (2 * t + 1)) := by
  intro t ht
  have q := g9_rd (P := PM m) (g9_of hE.2.1) (g9_of hE.2.2.2.2.1) 40 t
  rw [(l2.2.2.1 t ht).1, (l2.2.2.1 t ht).2.1]; exact q
theorem op_does {c m : Mem} (h : R c m) (a : Int32) : OP (f_X8_does c a, c) (f_X9_does m a) (b_X9_does m a) := by
  obtain ⟨hT, hE, hG, hD, hS, hF, hV, hB⟩ := id h
  obtain ⟨l1, l2⟩ := lives_eq hT hE hG
  have hp := h.prim l2.2.2.2.1
  have q := doesOf_eq (vr_of hV hE hG l2) (gives9 hE l2) a
  unfold f_X8_does f_X9_does b_X9_does
  rw [z01, isTwo_eq]
  by_cases h0 : a = 0 ∨ a = 1
  · rw [if_pos h0, if_neg i10, if_neg i10, if_neg i10]; exact ⟨⟨l1, q.1, trivial⟩, q.2, hp⟩
  · rw [if_neg h0, if_pos rfl, if_pos rfl, if_pos rfl]; exact ⟨⟨l1, trivial⟩, rfl, hp⟩
/-! start, safe -/
theorem startOf_eq {c m : Mem} {n : Nat} (v : VW c m n) (h12 : c 12 0 = m 10 0) (h14 : c 14 0 = m 10 3) (a b : Int32) : b_X9_startOf m a b ∧ f_X8_startOf c a b = f_X9_startOf m a b := by
  have e0 : f_X3_at c 15 3 4 5 0 = m 11 0 := by rw [show (0 : Int32) = nI 0 from rfl, at_eq (by omega) (by omega)]; exact v.2.2.2.2.2.2.2.2 0 (by omega)
  have e1 : f_X3_at c 15 3 4 5 1 = m 11 1 := by rw [show (1 : Int32) = nI 1 from rfl, at_eq (by omega) (by omega)]; exact v.2.2.2.2.2.2.2.2 1 (by omega)
  have e2 : f_X3_at c 11 0 1 3 0 = m 10 0 := by rw [show (0 : Int32) = nI 0 from rfl, at_eq (by omega) (by omega)]; exact h12
  have e3 : f_X3_at c 13 0 1 3 0 = m 10 3 := by rw [show (0 : Int32) = nI 0 from rfl, at_eq (by omega) (by omega)]; exact h14
  have key : ∀ X Y : Int32, (b_X9_isTorn m X Y ∧ (if f_X9_isTorn m X Y = 0 then b_X9_squeezedOff m X Y ∧ (if f_X9_squeezedOff m X Y = (-1) then True else True) else True)) ∧
      (if f_X1_tears c X Y (m 11 0) = 0 then (if f_X1_firstSqueezed c X Y (m 11 1) = (-1) then (0 : Int32) else 2) else 1) = (if f_X9_isTorn m X Y = 0 then if f_X9_squeezedOff m X Y = (-1) then 0 else 2 else 1) := by
    intro X Y
    have t := tears_eq v X Y
    have s := squ_eq v X Y
    rw [t.2, s.2]
    refine ⟨⟨t.1, ?_⟩, rfl⟩
    split
    · refine ⟨s.1, ?_⟩; split <;> trivial
    · trivial
  unfold f_X8_startOf f_X9_startOf b_X9_startOf
  rw [e0, e1, e2, e3, cl0, cl3]
  by_cases h1 : b < a
  · have n1 : ¬ a < b := by rw [Int32.lt_iff_toInt_lt] at *; omega
    have n2 : b ≤ a := by rw [Int32.lt_iff_toInt_lt] at *; rw [Int32.le_iff_toInt_le]; omega
    have n3 : ¬ a = b := by rintro rfl; exact n1 h1
    have n4 : ¬ a ≤ b := by rw [Int32.lt_iff_toInt_lt] at *; rw [Int32.le_iff_toInt_le]; omega
    simp only [if_pos h1, if_neg n1, if_pos n2, if_neg n3, if_neg n4]
    exact key _ _
  · by_cases h2 : a < b
    · have n2 : ¬ b ≤ a := by rw [Int32.lt_iff_toInt_lt] at *; rw [Int32.le_iff_toInt_le]; omega
      have n3 : ¬ a = b := by rintro rfl; exact h1 h2
      have n4 : a ≤ b := by rw [Int32.lt_iff_toInt_lt] at *; rw [Int32.le_iff_toInt_le]; omega
      simp only [if_neg h1, if_pos h2, if_neg n2, if_pos n4, if_neg n3]
      exact key _ _
    · have n3 : a = b := by rw [Int32.lt_iff_toInt_lt] at *; exact Int32.toInt_inj.mp (by omega)
      subst n3
      have n2 : a ≤ a := by rw [Int32.le_iff_toInt_le]; omega
      have z : ∀ x : Int32, x + 10 * (a - a) = x := by intro x; rw [Int32.sub_self, Int32.mul_zero, Int32.add_zero]
      rw [if_neg h1, if_neg h1, if_pos n2, if_pos n2, if_pos rfl, if_pos rfl, if_pos n2, if_pos n2, if_pos rfl, if_pos rfl, z, z]
      exact key _ _
theorem isSec (σ τ : Mem) (a : Int32) : f_X9_in σ a.toInt64 0 9 = f_X8_isSecond τ a := by
  rw [inLR σ a 0 9 (by decide) (by decide)]
  unfold f_X8_isSecond
  by_cases h : a < 0
  · rw [if_pos h, if_pos h]
  · rw [if_neg h, if_neg h]
    have e : (9 : Int32) < a ↔ (10 : Int32) ≤ a := by rw [Int32.lt_iff_toInt_lt, Int32.le_iff_toInt_le, show (9 : Int32).toInt = 9 by decide, show (10 : Int32).toInt = 10 by decide]; omega
    by_cases h2 : (10 : Int32) ≤ a
    · rw [if_pos h2, if_pos (e.mpr h2)]
    · rw [if_neg h2, if_neg (fun z => h2 (e.mp z))]
theorem op_start {c m : Mem} (h : R c m) (a b : Int32) : OP (f_X8_start c a b, c) (f_X9_start m a b) (b_X9_start m a b) := by
  obtain ⟨hT, hE, hG, hD, hS, hF, hV, hB⟩ := id h
  obtain ⟨r1, r2, r3, r4, r5⟩ := reads_eq hT
  have hp := reads_prim hT
  have v := vw_of hV hG hT r2 hp.2.2.2.2.2.2.1
  have q := startOf_eq v (by rw [hp.2.2.2.2.2.1]; exact (hE.1 0 (by omega)).1) (by rw [hp.2.2.2.2.2.1]; exact (hE.1 0 (by omega)).2) a b
  unfold f_X8_start f_X9_start b_X9_start
  rw [isSec _ c, isSec _ c]
  by_cases h1 : f_X8_isSecond c a = 0
  · rw [if_pos h1, if_pos h1, if_pos h1]; exact ⟨⟨r1, trivial⟩, rfl, h.prim hp⟩
  · rw [if_neg h1, if_neg h1, if_neg h1]
    by_cases h2 : f_X8_isSecond c b = 0
    · rw [if_pos h2, if_pos h2, if_pos h2]; exact ⟨⟨r1, trivial⟩, rfl, h.prim hp⟩
    · rw [if_neg h2, if_neg h2, if_neg h2]; exact ⟨⟨r1, q.1, trivial⟩, q.2, h.prim hp⟩
def sfc (W : Nat → Bool) : Nat → Nat
  | 0 => 0
  | k + 1 => sfc W k + (if W k then 1 else 0)
def sfl (W : Nat → Bool) : Nat → Int32
  | 0 => -1
  | k + 1 => if sfl W k = -1 then (if W k then nI k else -1) else sfl W k
theorem safeC {c : Mem} {W : Nat → Bool} (hW : ∀ d, d < 100 → (W d = true ↔ f_X8_startOf c (nI d / 10) (nI d - nI d / 10 * 10) = 0)) (a : Int32) : ∀ (r d f : Nat), d + r = 100 → r < f → l_X8_safe_17 f a (nI (sfc W d)) (sfl W d) (nI d) c = if a = 0 then nI (sfc W 100) else sfl W 100 := by
  intro r
  induction r with
  | zero =>
    intro t f ht hf
    obtain ⟨f, rfl⟩ : ∃ f', f = f' + 1 := ⟨f - 1, by omega⟩
    have e : t = 100 := by omega
    subst e
    rw [l_X8_safe_17, if_pos (by decide)]
  | succ r ih =>
    intro t f ht hf
    obtain ⟨f, rfl⟩ : ∃ f', f = f' + 1 := ⟨f - 1, by omega⟩
    have c1 : ¬ (100 : Int32) ≤ nI t := by rw [show (100 : Int32) = nI 100 from rfl, nIle (by omega) (by omega)]; omega
    have nx := ih (t + 1) f (by omega) (by omega)
    rw [sfc, sfl] at nx
    rw [l_X8_safe_17, if_neg c1, nI_1, nI_1]
    by_cases w : W t = true
    · rw [if_pos ((hW t (by omega)).mp w)]
      rw [if_pos w, if_pos w] at nx
      by_cases q : sfl W t = -1
      · rw [if_pos q]; rw [if_pos q] at nx; exact nx
      · rw [if_neg q]; rw [if_neg q] at nx; exact nx
    · rw [if_neg (fun z => w ((hW t (by omega)).mpr z))]
      rw [if_neg w, if_neg w] at nx
      by_cases q : sfl W t = -1
      · rw [if_pos q] at nx; rw [q]; exact nx
      · rw [if_neg q] at nx; exact nx
theorem safeM {m : Mem} {W : Nat → Bool} (hW : ∀ d, d < 100 → (W d = true ↔ f_X9_startOf m (nI d / 10) (nI d - nI d / 10 * 10) = 0)) (hb : ∀ x y, b_X9_startOf m x y) (a : Int32) : ∀ (d f : Nat) (b e : Int32), d ≤ 100 → d < f →
    bl_X9_safeOf_8 f a b e (nI d + -1) m ∧ l_X9_safeOf_8 f a b e (nI d + -1) m = if a = 0 then b + nI (sfc W d) else if sfl W d = -1 then e else sfl W d := by
  intro d
  induction d with
  | zero =>
    intro f b e _ hf
    obtain ⟨f, rfl⟩ : ∃ f', f = f' + 1 := ⟨f - 1, by omega⟩
    have c1 : nI 0 + -1 < (0 : Int32) := by decide
    rw [l_X9_safeOf_8, bl_X9_safeOf_8, if_pos c1, if_pos c1]
    refine ⟨by split <;> trivial, ?_⟩
    rw [sfc, sfl, if_pos rfl, show nI 0 = (0 : Int32) from rfl, Int32.add_zero]
  | succ d ih =>
    intro f b e hd hf
    obtain ⟨f, rfl⟩ : ∃ f', f = f' + 1 := ⟨f - 1, by omega⟩
    rw [pk_m1]
    have c1 : ¬ nI d < (0 : Int32) := nInn (by omega)
    rw [l_X9_safeOf_8, bl_X9_safeOf_8, if_neg c1, if_neg c1, sfc, sfl]
    by_cases w : W d = true
    · have z := (hW d (by omega)).mp w
      rw [if_pos z, if_pos z, if_pos w, if_pos w]
      have nx := ih f (b + 1) (nI d) (by omega) (by omega)
      refine ⟨⟨hb _ _, nx.1⟩, ?_⟩
      rw [nx.2]
      by_cases a0 : a = 0
      · rw [if_pos a0, if_pos a0, show b + 1 + nI (sfc W d) = b + (nI (sfc W d) + nI 1) by rw [Int32.add_assoc, Int32.add_comm (1 : Int32)]; rfl, nI_add]
      · rw [if_neg a0, if_neg a0]
        by_cases q : sfl W d = -1
        · have ne : ¬ nI d = -1 := m1ne (by omega)
          rw [if_pos q, if_neg ne]
        · rw [if_neg q, if_neg q]
    · have z : ¬ f_X9_startOf m (nI d / 10) (nI d - nI d / 10 * 10) = 0 := fun z => w ((hW d (by omega)).mpr z)
      rw [if_neg z, if_neg z, if_neg w, if_neg w, Int32.add_zero]
      have nx := ih f b e (by omega) (by omega)
      refine ⟨⟨hb _ _, nx.1⟩, ?_⟩
      rw [nx.2]
      by_cases a0 : a = 0
      · rw [if_pos a0, if_pos a0]; rfl
      · rw [if_neg a0, if_neg a0]
        by_cases q : sfl W d = -1
        · rw [if_pos q, if_pos q, if_pos rfl]
        · rw [if_neg q, if_neg q, if_neg q]
theorem safeOf_eq {c m : Mem} {n : Nat} (v : VW c m n) (h12 : c 12 0 = m 10 0) (h14 : c 14 0 = m 10 3) (a : Int32) : b_X9_safeOf m a ∧ l_X8_safe_17 (fu 101) a 0 (-1) 0 c = f_X9_safeOf m a := by
  have q := startOf_eq v h12 h14
  have e1 := safeC (c := c) (W := fun d => decide (f_X8_startOf c (nI d / 10) (nI d - nI d / 10 * 10) = 0)) (fun d _ => decide_eq_true_iff) a 100 0 (fu 101) (by omega) (by rw [fu_eq]; omega)
  have e2 := safeM (m := m) (W := fun d => decide (f_X8_startOf c (nI d / 10) (nI d - nI d / 10 * 10) = 0)) (fun d _ => by rw [decide_eq_true_iff, (q _ _).2]) (fun x y => (q x y).1) a 100 (fu 101) 0 (-1) (by omega) (by rw [fu_eq]; omega)
  rw [show nI 100 + -1 = (99 : Int32) by decide] at e2
  unfold b_X9_safeOf f_X9_safeOf
  refine ⟨e2.1, ?_⟩
  rw [e2.2, Int32.zero_add]
  refine Eq.trans e1 ?_
  by_cases a0 : a = 0
  · rw [if_pos a0, if_pos a0]
  · rw [if_neg a0, if_neg a0]
    split
    · assumption
    · rfl
theorem op_safe {c m : Mem} (h : R c m) (a : Int32) : OP (f_X8_safe c a, c) (f_X9_safe m a) (b_X9_safe m a) := by
  obtain ⟨hT, hE, hG, hD, hS, hF, hV, hB⟩ := id h
  obtain ⟨r1, r2, r3, r4, r5⟩ := reads_eq hT
  have hp := reads_prim hT
  have v := vw_of hV hG hT r2 hp.2.2.2.2.2.2.1
  have q := safeOf_eq v (by rw [hp.2.2.2.2.2.1]; exact (hE.1 0 (by omega)).1) (by rw [hp.2.2.2.2.2.1]; exact (hE.1 0 (by omega)).2) a
  unfold f_X8_safe f_X9_safe b_X9_safe
  rw [z01, isTwo_eq]
  by_cases h0 : a = 0 ∨ a = 1
  · rw [if_pos h0, if_neg i10, if_neg i10, if_neg i10]; exact ⟨⟨r1, q.1, trivial⟩, q.2, h.prim hp⟩
  · rw [if_neg h0, if_pos rfl, if_pos rfl, if_pos rfl]; exact ⟨⟨r1, trivial⟩, rfl, h.prim hp⟩
