/-! the best row -/
theorem cpy109 (K : Int32 → Int32 → Mem → Mem) (bK : Int32 → Int32 → Mem → Prop) {n : Nat} (hn : n ≤ 6) (a b : Int32) : ∀ (r t f : Nat) (m : Mem), t + r = n → r < f → m 0 7 = nI n → ∃ τ : Mem, l_X9_findOrder_109 K f a b (nI t) m = K a (b + 1) τ ∧ (bK a (b + 1) τ → bl_X9_findOrder_109 bK f a b (nI t) m) ∧ (∀ q, q ≠ 17 → τ q = m q) ∧ (∀ j, t ≤ j → j < n → τ 17 j = m 16 j) ∧ (∀ j, j < t → τ 17 j = m 17 j) := by
  intro r
  induction r with
  | zero =>
    intro t f m ht hf h7
    obtain ⟨f, rfl⟩ : ∃ f', f = f' + 1 := ⟨f - 1, by omega⟩
    have c1 : nI n ≤ nI t := by rw [nIle (by omega) (by omega)]; omega
    refine ⟨m, ?_, ?_, fun _ _ => rfl, fun j h1 h2 => absurd h2 (by omega), fun _ _ => rfl⟩
    · rw [l_X9_findOrder_109, h7, if_pos c1]
    · rw [bl_X9_findOrder_109, h7, if_pos c1]; exact id
  | succ r ih =>
    intro t f m ht hf h7
    obtain ⟨f, rfl⟩ : ∃ f', f = f' + 1 := ⟨f - 1, by omega⟩
    have c1 : ¬ nI n ≤ nI t := by rw [nIle (by omega) (by omega)]; omega
    have v : vp_in (nI t) 6 := vnI (by omega) (by omega)
    obtain ⟨τ, a1, a2, a3, a4, a5⟩ := ih (t + 1) f (mst m 17 t (m 16 t)) (by omega) (by omega) (by simp [mst, h7])
    refine ⟨τ, ?_, fun hk => ?_, fun q hq => by rw [a3 q hq]; simp [mst, hq], fun j h1 h2 => ?_, fun j hj => ?_⟩
    · rw [l_X9_findOrder_109, h7, if_neg c1, nIc (by omega), nI_1]; exact a1
    · rw [bl_X9_findOrder_109, h7, if_neg c1, nIc (by omega), nI_1]; exact ⟨v, v, a2 hk⟩
    · by_cases e : j = t
      · rw [a5 j (by omega), e]; simp [mst, upd]
      · rw [a4 j (by omega) h2]; simp [mst]
    · rw [a5 j (by omega)]; simp [mst, upd, show ¬ j = t by omega]
theorem wts.fr {c m c' m' : Mem} {n p q : Nat} {w : Nat → Nat} (h : wts c m n w p q) (h5 : c' 5 = c 5) (h6 : c' 6 = c 6) (h7 : m' 7 = m 7) (h10 : m' 10 = m 10) : wts c' m' n w p q := by unfold wts; rw [h5, h6, h7, h10]; exact h
/-- what stands behind the search -/
def found1 (c m : Mem) (n W : Nat) : Prop := c 23 2 = nI n ∧ c 23 7 = nI W ∧ m 0 7 = nI n ∧ m 0 9 = nI W ∧ ∃ A Bl : Nat, A ≤ 110000 ∧ 1 ≤ Bl ∧ Bl ≤ 9 ∧ c 23 5 = nI A ∧ m 0 21 = nI A ∧ c 23 6 = nI Bl ∧ m 0 22 = nI Bl ∧ ∀ j, j < n → c 25 j = m 17 j
def frO (m m' : Mem) : Prop := (∀ q, q ≠ 0 → q ≠ 16 → q ≠ 17 → m' q = m q) ∧ ∀ s, s < 21 ∨ 24 < s → m' 0 s = m 0 s
theorem frO.rf (m : Mem) : frO m m := ⟨fun _ _ _ _ => rfl, fun _ _ => rfl⟩
theorem frO.tr {m m' m'' : Mem} (h : frO m m') (h2 : frO m' m'') : frO m m'' := ⟨fun q a b c => by rw [h2.1 q a b c, h.1 q a b c], fun s hs => by rw [h2.2 s hs, h.2 s hs]⟩
theorem find_l {n W p q : Nat} {w : Nat → Nat} (hn1 : 1 ≤ n) (hn : n ≤ 6) (hW : W ≤ 54) : ∀ (r d f1 f2 : Nat) (c m : Mem) (fl : Int32), d + r = fct n → r < f1 → r < f2 → (fl = if d < fct n then 1 else 0) → wts c m n w p q → c 23 2 = nI n → m 0 7 = nI n → c 23 7 = nI W → m 0 9 = nI W → (d < fct n → r24 c n (pU n d)) → (d = 0 → m 0 22 = 0) → (0 < d → found1 c m n W) →
    bl_X9_findOrder_49 f2 (nI (fct n)) (nI d) m ∧ found1 (l_X0_find_22 f1 (nI p) (nI q) fl (nI d) c) (l_X9_findOrder_49 f2 (nI (fct n)) (nI d) m) n W ∧ frO m (l_X9_findOrder_49 f2 (nI (fct n)) (nI d) m) := by
  have hf := fct_le hn
  intro r
  induction r with
  | zero =>
    intro d f1 f2 c m fl hd h1 h2 hfl hw c2 m7 c7 m9 hr h0 hfd
    obtain ⟨f1, rfl⟩ : ∃ f', f1 = f' + 1 := ⟨f1 - 1, by omega⟩
    obtain ⟨f2, rfl⟩ : ∃ f', f2 = f' + 1 := ⟨f2 - 1, by omega⟩
    have k1 : nI (fct n) ≤ nI d := by rw [nIle (by omega) (by omega)]; omega
    rw [if_neg (show ¬ d < fct n by omega)] at hfl
    have e1 : l_X0_find_22 (f1 + 1) (nI p) (nI q) fl (nI d) c = c := by
      rw [l_X0_find_22]
      by_cases y : (720 : Int32) ≤ nI d
      · rw [if_pos y]
      · rw [if_neg y, if_pos hfl]
    rw [e1, l_X9_findOrder_49, bl_X9_findOrder_49, if_pos k1, if_pos k1]
    exact ⟨trivial, hfd (by omega), frO.rf m⟩
  | succ r ih =>
    intro d f1 f2 c m fl hd h1 h2 hfl hw c2 m7 c7 m9 hr h0 hfd
    obtain ⟨f1, rfl⟩ : ∃ f', f1 = f' + 1 := ⟨f1 - 1, by omega⟩
    obtain ⟨f2, rfl⟩ : ∃ f', f2 = f' + 1 := ⟨f2 - 1, by omega⟩
    have hdl : d < fct n := by omega
    rw [if_pos hdl] at hfl
    subst hfl
    have k1 : ¬ nI (fct n) ≤ nI d := by rw [nIle (by omega) (by omega)]; omega
    have k2 : ¬ (720 : Int32) ≤ nI d := by rw [show (720 : Int32) = nI 720 from rfl, nIle (by omega) (by omega)]; omega
    obtain ⟨pl, pn⟩ := p_at hn1 hn hdl
    obtain ⟨ub, u16, ufr⟩ := unf_b hn1 hn (code := d) (by omega) m7
    have r24d := hr hdl
    -- how much this row squeezes
    obtain ⟨sb, A, Bl, sA, sB1, sB9, s1, s2, s3, s4, s5, s6, s7⟩ := sqz_l (n := n) (W := W) (p := p) (q := q) (w := w) (ρ := pU n d) hn hW pl n 0 (fu 7) (fu 8) 0 0 1 (mst (mst c 23 3 0) 23 4 1) (mst (mst (f_X9_unfolds m (nI d)) 0 23 0) 0 24 1) (by omega) (by rw [fu_eq]; omega) (by rw [fu_eq]; omega)
      (hw.fr (by simp [mst]) (by simp [mst]) (by simp [mst]; exact ufr 7 (by decide)) (by simp [mst]; exact ufr 10 (by decide)))
      (by simp [mst, upd, c2]) (by simp [mst, upd]; rw [ufr 0 (by decide)]; exact m7) (by simp [mst, upd, c7]) (by simp [mst, upd]; rw [ufr 0 (by decide)]; exact m9)
      (fun j hj => by simp [mst]; exact (r24d.2.2 j hj).1) (fun j hj => by simp [mst]; exact u16 j hj) (by omega) (by omega) (by omega) (by omega) (by simp [mst, upd]; rfl) (by simp [mst, upd]; rfl) (by simp [mst, upd]; rfl) (by simp [mst, upd]; rfl)
    have es : f_X9_squeezes (f_X9_unfolds m (nI d)) = l_X9_squeezes_14 (fu 8) (nI 0) (nI 0) (mst (mst (f_X9_unfolds m (nI d)) 0 23 0) 0 24 1) := rfl
    have ec : f_X0_weigh c (nI p) (nI q) = l_X0_weigh_16 (fu 7) (nI p) (nI q) (nI 0) (nI 0) (mst (mst c 23 3 0) 23 4 1) := rfl
    have sb' : b_X9_squeezes (f_X9_unfolds m (nI d)) := sb
    rw [← es] at s2 s4 s6 s7
    rw [← ec] at s1 s3 s5
    generalize em1 : f_X9_squeezes (f_X9_unfolds m (nI d)) = m1 at s2 s4 s6 s7
    have g1 : ∀ x, x ≠ 23 → (f_X0_weigh c (nI p) (nI q)) x = c x := fun x hx => fr_X0_weigh c _ _ hx
    generalize ec1 : f_X0_weigh c (nI p) (nI q) = c1 at s1 s3 s5 g1
    have m10 : ∀ s, s ≠ 23 → s ≠ 24 → m1 0 s = m 0 s := fun s h3 h4 => by rw [s6 s h3 h4]; simp [mst, upd, h3, h4]; rw [ufr 0 (by decide)]
    have m1q : ∀ x, x ≠ 0 → x ≠ 16 → m1 x = m x := fun x h3 h4 => by rw [s7 x h3]; simp [mst, h3]; exact ufr x h4
    have m16 : ∀ j, j < n → m1 16 j = nI (pg (pU n d) j) := fun j hj => by rw [s7 16 (by decide)]; simp [mst]; exact u16 j hj
    have c123 : ∀ s, s ≠ 3 → s ≠ 4 → c1 23 s = c 23 s := fun s h3 h4 => by rw [s5 s h3 h4]; simp [mst, upd, h3, h4]
    have fm1 : frO m m1 := ⟨fun x a b _ => m1q x a b, fun s hs => m10 s (by omega) (by omega)⟩
    -- on from a class memory c2 with this row, and the model's m2
    have go : ∀ (cc mm : Mem), r24 cc n (pU n d) → wts cc mm n w p q → mm 0 7 = nI n → cc 23 7 = nI W → mm 0 9 = nI W → found1 cc mm n W → frO m mm →
        bl_X9_findOrder_49 f2 (nI (fct n)) (nI (d + 1)) mm ∧ found1 (l_X0_find_22 f1 (nI p) (nI q) ((f_X0_stepOn cc).1) (nI (d + 1)) (f_X0_stepOn cc).2) (l_X9_findOrder_49 f2 (nI (fct n)) (nI (d + 1)) mm) n W ∧ frO m (l_X9_findOrder_49 f2 (nI (fct n)) (nI (d + 1)) mm) := by
      intro cc mm hrc hwc hm7 hc7 hm9 hfo hfr
      have stp := step_b hn1 hn hrc
      have fr := fun (x : Nat) (hx : x ≠ 24) => fr_X0_stepOn cc (q := x) hx
      have fo2 : found1 (f_X0_stepOn cc).2 mm n W := by unfold found1; rw [fr 23 (by decide), fr 25 (by decide)]; exact hfo
      have hw2 : wts (f_X0_stepOn cc).2 mm n w p q := hwc.fr (fr 5 (by decide)) (fr 6 (by decide)) rfl rfl
      have nx := ih (d + 1) f1 f2 (f_X0_stepOn cc).2 mm ((f_X0_stepOn cc).1) (by omega) (by omega) (by omega)
        (by
          rcases pn with ⟨e1, e2⟩ | ⟨e1, e2⟩
          · rw [stp.1 e2, if_neg (by omega)]
          · rw [(stp.2 _ e2).1, if_pos e1]) hw2 (by rw [fr 23 (by decide)]; exact hrc.1) hm7 (by rw [fr 23 (by decide)]; exact hc7) hm9
        (fun hlt => by
          rcases pn with ⟨e1, e2⟩ | ⟨e1, e2⟩
          · omega
          · exact (stp.2 _ e2).2) (fun z => absurd z (by omega)) (fun _ => fo2)
      exact ⟨nx.1, nx.2.1, hfr.tr nx.2.2⟩
    have m107 : m1 0 7 = nI n := by rw [m10 7 (by decide) (by decide)]; exact m7
    have m109 : m1 0 9 = nI W := by rw [m10 9 (by decide) (by decide)]; exact m9
    have r24c : r24 c1 n (pU n d) := ⟨by rw [c123 2 (by decide) (by decide)]; exact c2, r24d.2.1, fun j hj => ⟨by rw [g1 24 (by decide)]; exact (r24d.2.2 j hj).1, (r24d.2.2 j hj).2⟩⟩
    have wc : wts c1 m1 n w p q := hw.fr (g1 5 (by decide)) (g1 6 (by decide)) (m1q 7 (by decide) (by decide)) (m1q 10 (by decide) (by decide))
    -- the row is kept
    have keep : bl_X9_findOrder_109 (bl_X9_findOrder_49 f2) (fu 8) (nI (fct n)) (nI d) 0 (mst (mst m1 0 21 (nI A)) 0 22 (nI Bl)) ∧ found1 (l_X0_find_22 f1 (nI p) (nI q) ((f_X0_stepOn (f_X0_keep c1)).1) (nI (d + 1)) (f_X0_stepOn (f_X0_keep c1)).2) (l_X9_findOrder_109 (l_X9_findOrder_49 f2) (fu 8) (nI (fct n)) (nI d) 0 (mst (mst m1 0 21 (nI A)) 0 22 (nI Bl))) n W ∧ frO m (l_X9_findOrder_109 (l_X9_findOrder_49 f2) (fu 8) (nI (fct n)) (nI d) 0 (mst (mst m1 0 21 (nI A)) 0 22 (nI Bl))) := by
      obtain ⟨τ, a1, a2, a3, a4, a5⟩ := cpy109 (l_X9_findOrder_49 f2) (bl_X9_findOrder_49 f2) hn (nI (fct n)) (nI d) n 0 (fu 8) (mst (mst m1 0 21 (nI A)) 0 22 (nI Bl)) (by omega) (by rw [fu_eq]; omega) (by simp [mst, upd, m107])
      rw [show nI 0 = (0 : Int32) from rfl, nI_1] at a1 a2
      rw [a1]
      have kc : ∀ x, x ≠ 23 → x ≠ 25 → (f_X0_keep c1) x = c1 x := fun x h3 h4 => fr_X0_keep c1 h3 h4
      have k23 : ∀ s, (f_X0_keep c1) 23 s = if s = 6 then c1 23 4 else if s = 5 then c1 23 3 else c1 23 s := by
        intro s
        unfold f_X0_keep
        simp only [mst, mcp]
        simp
        rfl
      have k25 : ∀ j, j < 6 → (f_X0_keep c1) 25 j = c1 24 j := by
        intro j hj
        unfold f_X0_keep
        simp only [mst, mcp]
        have : ((6 : Int32).toNatClampNeg) = 6 := by decide
        simp [cl0, this]
        unfold va_cpy
        rw [if_pos (by omega)]; congr 1; omega
      have hfo : found1 (f_X0_keep c1) τ n W := by
        refine ⟨by rw [k23]; simp; exact r24c.1, by rw [k23]; simp; rw [c123 7 (by decide) (by decide)]; exact c7, by rw [a3 0 (by decide)]; simp [mst, upd, m107], by rw [a3 0 (by decide)]; simp [mst, upd, m109], A, Bl, sA, sB1, sB9, by rw [k23]; simp; exact s1, by rw [a3 0 (by decide)]; simp [mst, upd], by rw [k23]; simp; exact s3, by rw [a3 0 (by decide)]; simp [mst, upd], fun j hj => ?_⟩
        rw [k25 j (by omega), a4 j (by omega) hj, (r24c.2.2 j hj).1]; simp [mst]; exact (m16 j hj).symm
      have gg := go (f_X0_keep c1) τ ⟨hfo.1, r24c.2.1, fun j hj => ⟨by rw [kc 24 (by decide) (by decide)]; exact (r24c.2.2 j hj).1, (r24c.2.2 j hj).2⟩⟩
        (wc.fr (kc 5 (by decide) (by decide)) (kc 6 (by decide) (by decide)) (by rw [a3 7 (by decide)]; simp [mst]) (by rw [a3 10 (by decide)]; simp [mst]))
        hfo.2.2.1 hfo.2.1 hfo.2.2.2.1 hfo
        (fm1.tr ⟨fun x h3 h4 h5 => by rw [a3 x h5]; simp [mst, h3], fun s hs => by rw [a3 0 (by decide)]; simp [mst, upd, show ¬ s = 21 by omega, show ¬ s = 22 by omega]⟩)
      exact ⟨a2 gg.1, gg.2⟩
    rw [l_X9_findOrder_49, bl_X9_findOrder_49, if_neg k1, if_neg k1, l_X0_find_22, if_neg k2, if_neg i10]
    rw [em1, ec1, s2, s4]
    by_cases d0 : d = 0
    · have z1 : m1 0 22 = 0 := by rw [m10 22 (by decide) (by decide)]; exact h0 d0
      have z2 : nI d = 0 := by rw [d0]; rfl
      rw [if_pos z1, if_pos z1, if_pos z2, nI_1]
      exact ⟨⟨ub, sb', keep.1⟩, keep.2⟩
    · obtain ⟨-, -, -, -, A0, Bl0, y1, y2, y3, y4, y5, y6, y7, y8⟩ := hfd (by omega)
      have e22 : m1 0 22 = nI Bl0 := by rw [m10 22 (by decide) (by decide)]; exact y7
      have e21 : m1 0 21 = nI A0 := by rw [m10 21 (by decide) (by decide)]; exact y5
      have e5 : c1 23 5 = nI A0 := by rw [c123 5 (by decide) (by decide)]; exact y4
      have e6 : c1 23 6 = nI Bl0 := by rw [c123 6 (by decide) (by decide)]; exact y6
      have z1 : ¬ nI Bl0 = 0 := nI_ne0 (by omega) (by omega)
      have z2 : ¬ nI d = 0 := nI_ne0 (by omega) (by omega)
      rw [e22, if_neg z1, if_neg z1, if_neg z2, e21, e5, e6, s1, s3, nI_1]
      by_cases y : nI A0 * nI Bl ≤ nI A * nI Bl0
      · rw [if_pos y, if_pos y, if_pos y]
        have fo : found1 c1 m1 n W := ⟨r24c.1, by rw [c123 7 (by decide) (by decide)]; exact c7, m107, m109, A0, Bl0, y1, y2, y3, e5, e21, e6, e22, fun j hj => by rw [g1 25 (by decide), m1q 17 (by decide) (by decide)]; exact y8 j hj⟩
        have gg := go c1 m1 r24c wc m107 fo.2.1 m109 fo fm1
        exact ⟨⟨ub, sb', gg.1⟩, gg.2⟩
      · rw [if_neg y, if_neg y, if_neg y]
        exact ⟨⟨ub, sb', keep.1⟩, keep.2⟩
theorem codes_l {n : Nat} (hn1 : 1 ≤ n) (hn : n ≤ 6) {m : Mem} (h7 : m 0 7 = nI n) : ∀ (r t f : Nat), 1 ≤ t → t + r = n + 1 → r < f → l_X9_findOrder_24 f (nI (fct (t - 1))) (nI t) m = l_X9_findOrder_49 (fu 721) (nI (fct n)) 0 (mst m 0 22 0) ∧ (bl_X9_findOrder_49 (fu 721) (nI (fct n)) 0 (mst m 0 22 0) → bl_X9_findOrder_24 f (nI (fct (t - 1))) (nI t) m) := by
  intro r
  induction r with
  | zero =>
    intro t f h1 ht hf
    obtain ⟨f, rfl⟩ : ∃ f', f = f' + 1 := ⟨f - 1, by omega⟩
    have c1 : nI n < nI t := by rw [nIlt (by omega) (by omega)]; omega
    rw [l_X9_findOrder_24, bl_X9_findOrder_24, h7, if_pos c1, if_pos c1, show t - 1 = n by omega]; exact ⟨rfl, id⟩
  | succ r ih =>
    intro t f h1 ht hf
    obtain ⟨f, rfl⟩ : ∃ f', f = f' + 1 := ⟨f - 1, by omega⟩
    have c1 : ¬ nI n < nI t := by rw [nIlt (by omega) (by omega)]; omega
    rw [l_X9_findOrder_24, bl_X9_findOrder_24, h7, if_neg c1, if_neg c1, pk_mul, nI_1]
    have nx := ih (t + 1) f (by omega) (by omega) (by omega)
    have e : fct (t - 1) * t = fct (t + 1 - 1) := by
      obtain ⟨u, rfl⟩ : ∃ u, t = u + 1 := ⟨t - 1, by omega⟩
      rw [show u + 1 - 1 = u by omega, show u + 1 + 1 - 1 = u + 1 by omega, fct]
    rw [e]; exact nx
theorem codes0_l {n : Nat} (hn : n ≤ 12) {m : Mem} (h7 : m 0 7 = nI n) : ∀ (r t f : Nat), n + 1 ≤ t + r → t + r < 100 → r < f → l_X9_findOrder_24 f 0 (nI t) m = mst m 0 22 0 ∧ bl_X9_findOrder_24 f 0 (nI t) m := by
  have stop : ∀ (t f : Nat), n < t → t < 100 → l_X9_findOrder_24 (f + 1) 0 (nI t) m = mst m 0 22 0 ∧ bl_X9_findOrder_24 (f + 1) 0 (nI t) m := by
    intro t f h1 h2
    have c1 : nI n < nI t := by rw [nIlt (by omega) (by omega)]; omega
    have c2 : (0 : Int32) ≤ 0 := by decide
    rw [l_X9_findOrder_24, bl_X9_findOrder_24, h7, if_pos c1, if_pos c1, fu_eq, show (721 : Nat) = 720 + 1 from rfl, l_X9_findOrder_49, bl_X9_findOrder_49, if_pos c2, if_pos c2]; exact ⟨rfl, trivial⟩
  intro r
  induction r with
  | zero =>
    intro t f ht hb hf
    obtain ⟨f, rfl⟩ : ∃ f', f = f' + 1 := ⟨f - 1, by omega⟩
    exact stop t f (by omega) (by omega)
  | succ r ih =>
    intro t f ht hb hf
    obtain ⟨f, rfl⟩ : ∃ f', f = f' + 1 := ⟨f - 1, by omega⟩
    by_cases z : n < t
    · exact stop t f z (by omega)
    · have c1 : ¬ nI n < nI t := by rw [nIlt (by omega) (by omega)]; omega
      rw [l_X9_findOrder_24, bl_X9_findOrder_24, h7, if_neg c1, if_neg c1, Int32.zero_mul, nI_1]
      exact ih (t + 1) f (by omega) (by omega) (by omega)
theorem begin_l : ∀ (r t f : Nat) (σ : Mem), t + r = 6 → r < f → (∀ j, t ≤ j → j < 6 → (l_X0_begin_52 f (nI t) σ) 24 j = nI j) ∧ (∀ j, j < t → (l_X0_begin_52 f (nI t) σ) 24 j = σ 24 j) := by
  intro r
  induction r with
  | zero =>
    intro t f σ ht hf
    obtain ⟨f, rfl⟩ : ∃ f', f = f' + 1 := ⟨f - 1, by omega⟩
    have e : t = 6 := by omega
    subst e
    have c1 : (6 : Int32) ≤ nI 6 := by decide
    rw [l_X0_begin_52, if_pos c1]
    exact ⟨fun j h1 h2 => absurd h2 (by omega), fun _ _ => rfl⟩
  | succ r ih =>
    intro t f σ ht hf
    obtain ⟨f, rfl⟩ : ∃ f', f = f' + 1 := ⟨f - 1, by omega⟩
    have c1 : ¬ (6 : Int32) ≤ nI t := by rw [show (6 : Int32) = nI 6 from rfl, nIle (by omega) (by omega)]; omega
    rw [l_X0_begin_52, if_neg c1, nIc (by omega), nI_1]
    obtain ⟨a1, a2⟩ := ih (t + 1) f (mst σ 24 t (nI t)) (by omega) (by omega)
    refine ⟨fun j h1 h2 => ?_, fun j hj => ?_⟩
    · by_cases e : j = t
      · rw [a2 j (by omega), e]; simp [mst, upd]
      · exact a1 j (by omega) h2
    · rw [a2 j (by omega)]; simp [mst, upd, show ¬ j = t by omega]
