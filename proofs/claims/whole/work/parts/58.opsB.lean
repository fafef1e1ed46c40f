/-! sheets -/
theorem sh_cases (a : Int32) : (∃ s : Nat, s < 4 ∧ a = nI s ∧ (∀ σ, ¬ f_X9_isSheet σ a = 0) ∧ (0 ≤ a ∧ a < 4) ∧ shk a = 31 + 2 * s ∧ a.toNatClampNeg = s ∧ vp_in a 4) ∨ ((∀ σ, f_X9_isSheet σ a = 0) ∧ ¬ (0 ≤ a ∧ a < 4)) := by
  have e : ∀ σ, f_X9_isSheet σ a = if a < 0 then 0 else if 3 < a then 0 else 1 := fun σ => inLR σ a 0 3 (by decide) (by decide)
  by_cases h1 : a < 0
  · right
    refine ⟨fun σ => by rw [e, if_pos h1], fun z => ?_⟩
    have := z.1
    rw [Int32.le_iff_toInt_le] at this; rw [Int32.lt_iff_toInt_lt] at h1; omega
  · by_cases h2 : 3 < a
    · right
      refine ⟨fun σ => by rw [e, if_neg h1, if_pos h2], fun z => ?_⟩
      have := z.2
      rw [Int32.lt_iff_toInt_lt] at this h2
      rw [show (3 : Int32).toInt = 3 by decide] at h2
      rw [show (4 : Int32).toInt = 4 by decide] at this
      omega
    · left
      obtain ⟨s, hs, rfl⟩ := nI_of h1
      have h4 : s < 4 := by rw [show (3 : Int32) = nI 3 from rfl, nIlt (by omega) hs] at h2; omega
      refine ⟨s, h4, rfl, fun σ => by rw [e, if_neg h1, if_neg h2]; exact i10, ⟨?_, ?_⟩, ?_, nIc hs, vnI h4 (by omega)⟩
      · rw [show (0 : Int32) = nI 0 from rfl, nIle (by omega) hs]; omega
      · rw [show (4 : Int32) = nI 4 from rfl, nIlt hs (by omega)]; exact h4
      · unfold shk; rw [nIc hs]
theorem isFrm (σ τ : Mem) (b : Int32) : f_X9_in σ b.toInt64 0 2 = f_X8_isForm τ b := by
  rw [inLR σ b 0 2 (by decide) (by decide)]
  unfold f_X8_isForm
  by_cases h : b < 0
  · rw [if_pos h, if_pos h]
  · rw [if_neg h, if_neg h]
    have e : (2 : Int32) < b ↔ (3 : Int32) ≤ b := by rw [Int32.lt_iff_toInt_lt, Int32.le_iff_toInt_le, show (2 : Int32).toInt = 2 by decide, show (3 : Int32).toInt = 3 by decide]; omega
    by_cases h2 : (3 : Int32) ≤ b
    · rw [if_pos h2, if_pos (e.mpr h2)]
    · rw [if_neg h2, if_neg (fun z => h2 (e.mp z))]
theorem frm_rng {τ : Mem} {b : Int32} (h : ¬ f_X8_isForm τ b = 0) : rng b 0 2 := by
  unfold f_X8_isForm at h
  by_cases h1 : b < 0
  · rw [if_pos h1] at h; exact absurd rfl h
  · rw [if_neg h1] at h
    by_cases h2 : (3 : Int32) ≤ b
    · rw [if_pos h2] at h; exact absurd rfl h
    · rw [Int32.lt_iff_toInt_lt] at h1
      rw [Int32.le_iff_toInt_le, show (3 : Int32).toInt = 3 by decide] at h2
      rw [Int32.toInt_zero] at h1
      exact ⟨by omega, by omega⟩
theorem lost_iff {c m : Mem} (hS : RS c m) {s : Nat} (hs : s < 4) : f_X5_isLost c (31 + 2 * s) = 0 ↔ 0 ≤ m 1 s := by
  obtain ⟨a1, a2, -⟩ := hS s hs
  unfold f_X5_isLost
  rw [a1]
  have e : (m 1 s = -1) ↔ ¬ 0 ≤ m 1 s := by
    rw [Int32.le_iff_toInt_le, Int32.toInt_zero]
    constructor
    · intro z; rw [z]; decide
    · intro z; exact Int32.toInt_inj.mp (by rw [show (-1 : Int32).toInt = -1 by decide]; have := a2.1; omega)
  by_cases q : m 1 s = -1
  · rw [if_pos q]; exact ⟨fun z => absurd z i10, fun z => absurd z (e.mp q)⟩
  · rw [if_neg q]; exact ⟨fun _ => Classical.byContradiction fun z => q (e.mpr z), fun _ => rfl⟩
/-- one sheet changes -/
theorem RS.one {c m c' m' : Mem} (h : RS c m) {s : Nat} (hs : s < 4) (hc : ∀ q, q ≠ 31 + 2 * s → q ≠ 32 + 2 * s → c' q = c q) (h1 : ∀ j, j ≠ s → m' 1 j = m 1 j ∧ m' 2 j = m 2 j) (h3 : ∀ j, (j < 60 * s ∨ 60 * s + 60 ≤ j) → m' 3 j = m 3 j)
    (hn : c' (31 + 2 * s) 1 = m' 1 s ∧ rng (m' 1 s) (-1) 2 ∧ rng (c' (31 + 2 * s) 2) 0 60 ∧ rng (m' 2 s) 0 60 ∧ (0 ≤ m' 1 s → c' (31 + 2 * s) 2 = m' 2 s ∧ ∀ j, j < (m' 2 s).toNatClampNeg → c' (32 + 2 * s) j = m' 3 (60 * s + j))) : RS c' m' := by
  intro t ht
  by_cases e : t = s
  · rw [e]; exact hn
  · rw [hc (31 + 2 * t) (by omega) (by omega), hc (32 + 2 * t) (by omega) (by omega), (h1 t e).1, (h1 t e).2]
    obtain ⟨a1, a2, a3, a4, a5⟩ := h t ht
    refine ⟨a1, a2, a3, a4, fun z => ⟨(a5 z).1, fun j hj => ?_⟩⟩
    have := rngN a4 (by decide)
    have h60 := a4.2
    rw [h3 (60 * t + j) (by omega)]; exact (a5 z).2 j hj
theorem n60 {x : Int32} (h : rng x 0 60) : x = nI x.toNatClampNeg ∧ x.toNatClampNeg ≤ 60 := by
  have := rngN h (by decide)
  have h2 := h.2
  exact ⟨this.1, by omega⟩
theorem ix60 {s j : Nat} (hs : s < 4) (hj : j < 60) : (60 : Int32) * nI s + nI j = nI (60 * s + j) ∧ vp_in (nI (60 * s + j)) 240 := ⟨by rw [show (60 : Int32) = nI 60 from rfl, pk_mul, nI_add], vnI (by omega) (by omega)⟩
/-! sheet -/
theorem renew_l (k : Nat) : ∀ (r t f : Nat) (σ : Mem), t + r = 60 → r < f → (∀ q, q ≠ k + 1 → (l_X5_renew_21 k f (nI t) σ) q = σ q) ∧ (∀ j, t ≤ j → j < 60 → (l_X5_renew_21 k f (nI t) σ) (k + 1) j = 0) ∧ (∀ j, j < t → (l_X5_renew_21 k f (nI t) σ) (k + 1) j = σ (k + 1) j) := by
  intro r
  induction r with
  | zero =>
    intro t f σ ht hf
    obtain ⟨f, rfl⟩ : ∃ f', f = f' + 1 := ⟨f - 1, by omega⟩
    have e : t = 60 := by omega
    subst e
    have c1 : (60 : Int32) ≤ nI 60 := by decide
    rw [l_X5_renew_21, if_pos c1]
    exact ⟨fun _ _ => rfl, fun j h1 h2 => absurd h2 (by omega), fun _ _ => rfl⟩
  | succ r ih =>
    intro t f σ ht hf
    obtain ⟨f, rfl⟩ : ∃ f', f = f' + 1 := ⟨f - 1, by omega⟩
    have c1 : ¬ (60 : Int32) ≤ nI t := by rw [show (60 : Int32) = nI 60 from rfl, nIle (by omega) (by omega)]; omega
    rw [l_X5_renew_21, if_neg c1, nI_1, nIc (by omega)]
    obtain ⟨a1, a2, a3⟩ := ih (t + 1) f (mst σ (k + 1) t 0) (by omega) (by omega)
    refine ⟨fun q hq => by rw [a1 q hq]; simp [mst, hq], fun j h1 h2 => ?_, fun j hj => ?_⟩
    · by_cases e : j = t
      · rw [a3 j (by omega), e]; simp [mst, upd]
      · exact a2 j (by omega) h2
    · rw [a3 j (by omega)]; simp [mst, upd, show ¬ j = t by omega]
theorem sheet_l {s : Nat} (hs : s < 4) (b : Int32) {n : Nat} (hn : n ≤ 60) : ∀ (r t f : Nat) (σ : Mem), t + r = n → r < f → bl_X9_sheet_55 f (nI s) b (nI n) (nI t) σ ∧ (l_X9_sheet_55 f (nI s) b (nI n) (nI t) σ).1 = nI n ∧ (∀ q, q ≠ 3 → (l_X9_sheet_55 f (nI s) b (nI n) (nI t) σ).2 q = σ q) ∧ (∀ j, t ≤ j → j < n → (l_X9_sheet_55 f (nI s) b (nI n) (nI t) σ).2 3 (60 * s + j) = 0) ∧ (∀ j, (j < 60 * s + t ∨ 60 * s + 60 ≤ j) → (l_X9_sheet_55 f (nI s) b (nI n) (nI t) σ).2 3 j = σ 3 j) := by
  intro r
  induction r with
  | zero =>
    intro t f σ ht hf
    obtain ⟨f, rfl⟩ : ∃ f', f = f' + 1 := ⟨f - 1, by omega⟩
    have e : t = n := by omega
    subst e
    have c1 : nI t ≤ nI t := by rw [nIle (by omega) (by omega)]; omega
    rw [l_X9_sheet_55, bl_X9_sheet_55, if_pos c1, if_pos c1]
    exact ⟨trivial, rfl, fun _ _ => rfl, fun j h1 h2 => absurd h2 (by omega), fun _ _ => rfl⟩
  | succ r ih =>
    intro t f σ ht hf
    obtain ⟨f, rfl⟩ : ∃ f', f = f' + 1 := ⟨f - 1, by omega⟩
    have c1 : ¬ nI n ≤ nI t := by rw [nIle (by omega) (by omega)]; omega
    have x := ix60 hs (j := t) (by omega)
    rw [l_X9_sheet_55, bl_X9_sheet_55, if_neg c1, if_neg c1, nI_1, x.1, nIc (by omega)]
    obtain ⟨a1, a2, a3, a4, a5⟩ := ih (t + 1) f (mst σ 3 (60 * s + t) 0) (by omega) (by omega)
    refine ⟨⟨x.2, a1⟩, a2, fun q hq => by rw [a3 q hq]; simp [mst, hq], fun j h1 h2 => ?_, fun j hj => ?_⟩
    · by_cases e : j = t
      · rw [a5 (60 * s + j) (by omega), e]; simp [mst, upd]
      · exact a4 j (by omega) h2
    · rw [a5 j (by omega)]; simp [mst, upd, show ¬ j = 60 * s + t by omega]
theorem op_sheet {c m : Mem} (h : R c m) (a b n : Int32) : OP (f_X8_sheet c a b n) (f_X9_sheet m a b n) (b_X9_sheet m a b n) := by
  have hS := h.2.2.2.2.1
  unfold f_X8_sheet f_X9_sheet b_X9_sheet
  rw [isFrm m c]
  rcases sh_cases a with ⟨s, hs, rfl, q1, q2, q3, q4, q5⟩ | ⟨q1, q2⟩
  · rw [if_pos q2, if_neg (q1 m), if_neg (q1 m), q3, q4]
    by_cases h1 : f_X8_isForm c b = 0
    · rw [if_pos h1, if_pos h1, if_pos h1]; exact ⟨trivial, rfl, h⟩
    · rw [if_neg h1, if_neg h1, if_neg h1]
      have hb := frm_rng h1
      by_cases h2 : n ≤ 60
      · rw [if_pos h2, if_pos h2, if_pos h2]
        by_cases h3 : 0 ≤ n
        · rw [if_pos h3, if_pos h3, if_pos h3]
          have hnr : rng n 0 60 := by
            rw [Int32.le_iff_toInt_le] at h2 h3
            rw [show (60 : Int32).toInt = 60 by decide] at h2
            rw [Int32.toInt_zero] at h3
            exact ⟨h3, h2⟩
          obtain ⟨k, hk, en⟩ : ∃ k : Nat, k ≤ 60 ∧ n = nI k := ⟨n.toNatClampNeg, (n60 hnr).2, (n60 hnr).1⟩
          subst en
          have ew : (if 0 < (if 60 < nI k then 60 else nI k) then (if 60 < nI k then 60 else nI k) else 0) = nI k := by
            have c1 : ¬ (60 : Int32) < nI k := by rw [show (60 : Int32) = nI 60 from rfl, nIlt (by omega) (by omega)]; omega
            rw [if_neg c1]
            by_cases z : k = 0
            · subst z; decide
            · have c2 : (0 : Int32) < nI k := by rw [show (0 : Int32) = nI 0 from rfl, nIlt (by omega) (by omega)]; omega
              rw [if_pos c2]
          obtain ⟨a1, a2, a3⟩ := renew_l (31 + 2 * s) 60 0 (fu 61) (mst (mst c (31 + 2 * s) 1 b) (31 + 2 * s) 2 (nI k)) (by omega) (by rw [fu_eq]; omega)
          obtain ⟨b1, b2, b3, b4, b5⟩ := sheet_l hs b hk k 0 (fu 61) (mst (mst m 1 s b) 2 s (nI k)) (by omega) (by rw [fu_eq]; omega)
          rw [show nI 0 = (0 : Int32) from rfl] at a1 a2 a3 b1 b2 b3 b4 b5
          unfold f_X5_renew
          rw [ew]
          refine ⟨⟨q5, q5, b1⟩, b2.symm, ?_⟩
          show R (l_X5_renew_21 (31 + 2 * s) (fu 61) 0 (mst (mst c (31 + 2 * s) 1 b) (31 + 2 * s) 2 (nI k))) (l_X9_sheet_55 (fu 61) (nI s) b (nI k) 0 (mst (mst m 1 s b) 2 s (nI k))).2
          have hk2 : rng (nI k) 0 60 := hnr
          refine R_sheet h (fun q h0 h1 => ?_) (fun q h5 => ?_) ?_ ?_ ?_ (RS.one hS hs (fun q h1 h2 => ?_) (fun j hj => ?_) (fun j hj => ?_) ?_)
          · rw [a1 q (by omega)]; simp [mst, show ¬ q = 31 + 2 * s by omega]
          · rw [b3 q (by omega)]; simp [mst, show ¬ q = 1 by omega, show ¬ q = 2 by omega]
          · rw [a1 0 (by omega)]; simp [mst, show ¬ 0 = 31 + 2 * s by omega]
          · rw [a1 0 (by omega), b3 0 (by omega)]; simp [mst, show ¬ 0 = 31 + 2 * s by omega]; exact h.2.2.2.2.2.1
          · rw [b3 0 (by omega)]; simp [mst]
          · rw [a1 q (by omega)]; simp [mst, h1]
          · rw [b3 1 (by omega), b3 2 (by omega)]; simp [mst, upd, hj]
          · rw [b5 j (by omega)]; simp [mst]
          · have x1 : (l_X5_renew_21 (31 + 2 * s) (fu 61) 0 (mst (mst c (31 + 2 * s) 1 b) (31 + 2 * s) 2 (nI k))) (31 + 2 * s) 1 = b := by rw [a1 _ (by omega)]; simp [mst, upd]
            have x2 : (l_X5_renew_21 (31 + 2 * s) (fu 61) 0 (mst (mst c (31 + 2 * s) 1 b) (31 + 2 * s) 2 (nI k))) (31 + 2 * s) 2 = nI k := by rw [a1 _ (by omega)]; simp [mst, upd]
            have x3 : (l_X9_sheet_55 (fu 61) (nI s) b (nI k) 0 (mst (mst m 1 s b) 2 s (nI k))).2 1 s = b := by rw [b3 1 (by omega)]; simp [mst, upd]
            have x4 : (l_X9_sheet_55 (fu 61) (nI s) b (nI k) 0 (mst (mst m 1 s b) 2 s (nI k))).2 2 s = nI k := by rw [b3 2 (by omega)]; simp [mst, upd]
            rw [x1, x2, x3, x4]
            refine ⟨rfl, ⟨by have := hb.1; omega, hb.2⟩, hk2, hk2, fun _ => ⟨rfl, fun j hj => ?_⟩⟩
            rw [nIc (by omega)] at hj
            rw [b4 j (by omega) hj]
            rw [show 32 + 2 * s = 31 + 2 * s + 1 by omega]
            exact a2 j (by omega) (by omega)
        · rw [if_neg h3, if_neg h3, if_neg h3]; exact ⟨trivial, rfl, R_found h 5⟩
      · rw [if_neg h2, if_neg h2, if_neg h2]; exact ⟨trivial, rfl, h⟩
  · rw [if_neg q2, if_pos (q1 m), if_pos (q1 m)]; exact ⟨trivial, rfl, h⟩
theorem op_lose {c m : Mem} (h : R c m) (a : Int32) : OP (f_X8_lose c a) (f_X9_lose m a) (b_X9_lose m a) := by
  have hS := h.2.2.2.2.1
  unfold f_X8_lose f_X9_lose b_X9_lose
  rcases sh_cases a with ⟨s, hs, rfl, q1, q2, q3, q4, q5⟩ | ⟨q1, q2⟩
  · rw [if_pos q2, if_neg (q1 m), if_neg (q1 m), q3, q4]
    have hl := lost_iff hS hs
    by_cases h1 : 0 ≤ m 1 s
    · rw [if_pos (hl.mpr h1), if_pos h1, if_pos h1]
      obtain ⟨a1, a2, a3, a4, a5⟩ := hS s hs
      refine ⟨⟨q5, q5, q5, trivial⟩, (a5 h1).1, ?_⟩
      show R (mst (mst c (31 + 2 * s) 1 (-1)) (31 + 2 * s) 2 0) (mst m 1 s (-1))
      refine R_sheet h (fun q h0 h1 => by simp [mst, show ¬ q = 31 + 2 * s by omega]) (fun q h5 => by simp [mst, show ¬ q = 1 by omega]) (by simp [mst, show ¬ 0 = 31 + 2 * s by omega]) (by simp [mst, show ¬ 0 = 31 + 2 * s by omega]; exact h.2.2.2.2.2.1) (by simp [mst]) (RS.one hS hs (fun q h1 h2 => by simp [mst, h1]) (fun j hj => by simp [mst, upd, hj]) (fun j hj => by simp [mst]) ?_)
      have x1 : (mst (mst c (31 + 2 * s) 1 (-1)) (31 + 2 * s) 2 0) (31 + 2 * s) 1 = -1 := by simp [mst, upd]
      have x2 : (mst (mst c (31 + 2 * s) 1 (-1)) (31 + 2 * s) 2 0) (31 + 2 * s) 2 = 0 := by simp [mst, upd]
      have x3 : (mst m 1 s (-1)) 1 s = -1 := by simp [mst, upd]
      have x4 : (mst m 1 s (-1)) 2 s = m 2 s := by simp [mst]
      rw [x1, x2, x3, x4]
      exact ⟨rfl, by unfold rng; decide, by unfold rng; decide, a4, fun z => absurd z (by decide)⟩
    · rw [if_neg (fun z => h1 (hl.mp z)), if_neg h1, if_neg h1]; exact ⟨⟨q5, trivial⟩, rfl, R_found h 1⟩
  · rw [if_neg q2, if_pos (q1 m), if_pos (q1 m)]; exact ⟨trivial, rfl, h⟩
/-- an item of a sheet: the class' finding, the model's -/
theorem lacks_eq {c m : Mem} (h : R c m) {s : Nat} (hs : s < 4) (b i : Int32) : b_X9_lacks m (nI s) b i ∧
    ((f_X8_findingOfItem c (31 + 2 * s) b i = 0 ∧ f_X9_lacks m (nI s) b i = (0, m) ∧ 0 ≤ m 1 s ∧ m 1 s = b ∧ ∃ j, j < (m 2 s).toNatClampNeg ∧ i = nI j) ∨
     (∃ k : Int32, (k = 1 ∨ k = 2 ∨ k = 3) ∧ f_X8_findingOfItem c (31 + 2 * s) b i = k ∧ f_X9_lacks m (nI s) b i = (-10 - k, mst m 0 4 k))) := by
  have hS := h.2.2.2.2.1
  have hl := lost_iff hS hs
  obtain ⟨a1, a2, a3, a4, a5⟩ := hS s hs
  have v : vp_in (nI s) 4 := vnI hs (by omega)
  unfold b_X9_lacks f_X9_lacks f_X8_findingOfItem
  rw [nIc (by omega)]
  by_cases h1 : 0 ≤ m 1 s
  · rw [if_pos h1, if_pos h1, if_pos (hl.mpr h1)]
    unfold f_X5_isOfForm
    rw [a1]
    by_cases h2 : m 1 s = b
    · rw [if_pos h2, if_pos h2, if_pos h2, if_neg i10]
      have n6 := n60 a4
      rw [show m 2 s = nI (m 2 s).toNatClampNeg from n6.1, inN m i (by omega), nIc (by omega)]
      have hh : f_X5_hasItems c (31 + 2 * s) i 1 = if i < 0 then 0 else if nI (m 2 s).toNatClampNeg ≤ i then 0 else 1 := by
        unfold f_X5_hasItems
        rw [(a5 h1).1, n6.1, nIc (by omega)]
        by_cases i0 : i < 0
        · rw [if_pos i0, if_pos i0]
        · rw [if_neg i0, if_neg i0, if_neg (by decide)]
          have e : (nI (m 2 s).toNatClampNeg - 1 < i) ↔ (nI (m 2 s).toNatClampNeg ≤ i) := by
            rw [Int32.lt_iff_toInt_lt, Int32.le_iff_toInt_le, nI_t (by omega), subT (by rw [nI_t (by omega), t1]; omega) (by rw [nI_t (by omega), t1]; omega), nI_t (by omega), t1]; omega
          by_cases z : nI (m 2 s).toNatClampNeg ≤ i
          · rw [if_pos z, if_pos (e.mpr z)]
          · rw [if_neg z, if_neg (fun y => z (e.mp y))]
      rw [hh]
      by_cases i0 : i < 0
      · rw [if_pos i0, if_pos rfl, if_pos rfl, if_pos rfl]; exact ⟨⟨v, v, v, trivial⟩, Or.inr ⟨2, Or.inr (Or.inl rfl), rfl, rfl⟩⟩
      · rw [if_neg i0]
        by_cases z : nI (m 2 s).toNatClampNeg ≤ i
        · rw [if_pos z, if_pos rfl, if_pos rfl, if_pos rfl]; exact ⟨⟨v, v, v, trivial⟩, Or.inr ⟨2, Or.inr (Or.inl rfl), rfl, rfl⟩⟩
        · rw [if_neg z, if_neg i10, if_neg i10, if_neg i10]; exact ⟨⟨v, v, v, trivial⟩, Or.inl ⟨rfl, rfl, h1, h2, asN (by omega) i0 z⟩⟩
    · rw [if_neg h2, if_neg h2, if_neg h2, if_pos rfl]; exact ⟨⟨v, v, trivial⟩, Or.inr ⟨3, Or.inr (Or.inr rfl), rfl, rfl⟩⟩
  · rw [if_neg h1, if_neg h1, if_neg (fun z => h1 (hl.mp z))]; exact ⟨⟨v, trivial⟩, Or.inr ⟨1, Or.inl rfl, rfl, rfl⟩⟩
theorem cut_eq {c m : Mem} (hS : RS c m) (σ : Mem) {s : Nat} (hs : s < 4) (x : Int32) : f_X5_cut c (31 + 2 * s) x = f_X9_cut σ (m 1 s) x := by
  unfold f_X5_cut f_X9_cut
  rw [(hS s hs).1]
/-- an item is put -/
theorem put_R {c m : Mem} (h : R c m) {s : Nat} (hs : s < 4) (h1 : 0 ≤ m 1 s) {j : Nat} (hj : j < (m 2 s).toNatClampNeg) (x : Int32) (σ : Mem) : R (f_X5_put c (31 + 2 * s) (nI j) x) (mst m 3 (60 * s + j) (f_X9_cut σ (m 1 s) x)) ∧ f_X5_put c (31 + 2 * s) (nI j) x = mst c (32 + 2 * s) j (f_X9_cut σ (m 1 s) x) := by
  have hS := h.2.2.2.2.1
  obtain ⟨a1, a2, a3, a4, a5⟩ := id (hS s hs)
  have n6 := n60 a4
  have e : f_X5_put c (31 + 2 * s) (nI j) x = mst c (32 + 2 * s) j (f_X9_cut σ (m 1 s) x) := by
    unfold f_X5_put
    have c1 : ¬ nI (m 2 s).toNatClampNeg ≤ nI j := by rw [nIle (by omega) (by omega)]; omega
    have c2 : ¬ (60 : Int32) ≤ nI j := by rw [show (60 : Int32) = nI 60 from rfl, nIle (by omega) (by omega)]; omega
    rw [if_neg (nInn (by omega)), (a5 h1).1, n6.1, if_neg c1, if_neg c2, nIc (by omega), cut_eq hS σ hs]
    rw [show 31 + 2 * s + 1 = 32 + 2 * s by omega]
  refine ⟨?_, e⟩
  rw [e]
  refine R_sheet h (fun q h0 h1 => by simp [mst, show ¬ q = 32 + 2 * s by omega]) (fun q h5 => by simp [mst, show ¬ q = 3 by omega]) (by simp [mst, show ¬ 0 = 32 + 2 * s by omega]) (by simp [mst, show ¬ 0 = 32 + 2 * s by omega]; exact h.2.2.2.2.2.1) (by simp [mst]) (RS.one hS hs (fun q h1 h2 => by simp [mst, h2]) (fun j hj => by simp [mst]) (fun i hi => by simp [mst, upd, show ¬ i = 60 * s + j by omega]) ?_)
  have x1 : ∀ i, (mst c (32 + 2 * s) j (f_X9_cut σ (m 1 s) x)) (31 + 2 * s) i = c (31 + 2 * s) i := fun i => by simp [mst, show ¬ 31 + 2 * s = 32 + 2 * s by omega]
  have x3 : ∀ i, (mst m 3 (60 * s + j) (f_X9_cut σ (m 1 s) x)) 1 i = m 1 i := fun i => by simp [mst]
  have x4 : ∀ i, (mst m 3 (60 * s + j) (f_X9_cut σ (m 1 s) x)) 2 i = m 2 i := fun i => by simp [mst]
  rw [x1, x1, x3, x4]
  refine ⟨a1, a2, a3, a4, fun z => ⟨(a5 z).1, fun i hi => ?_⟩⟩
  by_cases e : i = j
  · subst e; simp [mst, upd]
  · simp [mst, upd, e, show ¬ 60 * s + i = 60 * s + j by omega, (a5 z).2 i hi]
theorem k123 {k : Int32} (h : k = 1 ∨ k = 2 ∨ k = 3) : ¬ k = 0 ∧ ¬ (-10 - k) = 0 := by rcases h with rfl | rfl | rfl <;> decide
theorem op_lay {c m : Mem} (h : R c m) (a b i x : Int32) : OP (f_X8_lay c a b i x) (f_X9_lay m a b i x) (b_X9_lay m a b i x) := by
  have hS := h.2.2.2.2.1
  unfold f_X8_lay f_X9_lay b_X9_lay
  rw [isFrm m c]
  rcases sh_cases a with ⟨s, hs, rfl, q1, q2, q3, q4, q5⟩ | ⟨q1, q2⟩
  · rw [if_pos q2, if_neg (q1 m), if_neg (q1 m), q3]
    by_cases h1 : f_X8_isForm c b = 0
    · rw [if_pos h1, if_pos h1, if_pos h1]; exact ⟨trivial, rfl, h⟩
    · rw [if_neg h1, if_neg h1, if_neg h1]
      obtain ⟨lb, ⟨f1, f2, f3, f4, j, hj, rfl⟩ | ⟨k, hk, f1, f2⟩⟩ := lacks_eq h hs b i
      · have n6 := n60 (hS s hs).2.2.2.1
        have x6 := ix60 hs (j := j) (by omega)
        rw [if_pos f1, f2, if_pos rfl, if_pos rfl, x6.1, nIc (by omega)]
        subst f4
        exact ⟨⟨lb, x6.2, trivial⟩, rfl, (put_R h hs f3 hj x m).1⟩
      · rw [f1, if_neg (k123 hk).1, f2, if_neg (k123 hk).2, if_neg (k123 hk).2]
        exact ⟨⟨lb, trivial⟩, rfl, R_found h k⟩
  · rw [if_neg q2, if_pos (q1 m), if_pos (q1 m)]; exact ⟨trivial, rfl, h⟩
theorem itemAt_eq {c m : Mem} (hS : RS c m) {s j : Nat} (hs : s < 4) (h1 : 0 ≤ m 1 s) (hj : j < (m 2 s).toNatClampNeg) : f_X5_itemAt c (31 + 2 * s) (nI j) = m 3 (60 * s + j) := by
  obtain ⟨a1, a2, a3, a4, a5⟩ := id (hS s hs)
  have n6 := n60 a4
  unfold f_X5_itemAt
  have c1 : ¬ nI (m 2 s).toNatClampNeg ≤ nI j := by rw [nIle (by omega) (by omega)]; omega
  have c2 : ¬ (60 : Int32) ≤ nI j := by rw [show (60 : Int32) = nI 60 from rfl, nIle (by omega) (by omega)]; omega
  rw [if_neg (nInn (by omega)), (a5 h1).1, n6.1, if_neg c1, if_neg c2, nIc (by omega), show 31 + 2 * s + 1 = 32 + 2 * s by omega]
  exact (a5 h1).2 j hj
theorem op_get {c m : Mem} (h : R c m) (a b i : Int32) : OP (f_X8_get c a b i) (f_X9_get m a b i) (b_X9_get m a b i) := by
  have hS := h.2.2.2.2.1
  unfold f_X8_get f_X9_get b_X9_get
  rw [isFrm m c]
  rcases sh_cases a with ⟨s, hs, rfl, q1, q2, q3, q4, q5⟩ | ⟨q1, q2⟩
  · rw [if_pos q2, if_neg (q1 m), if_neg (q1 m), q3]
    by_cases h1 : f_X8_isForm c b = 0
    · rw [if_pos h1, if_pos h1, if_pos h1]; exact ⟨trivial, rfl, h⟩
    · rw [if_neg h1, if_neg h1, if_neg h1]
      obtain ⟨lb, ⟨f1, f2, f3, f4, j, hj, rfl⟩ | ⟨k, hk, f1, f2⟩⟩ := lacks_eq h hs b i
      · have n6 := n60 (hS s hs).2.2.2.1
        have x6 := ix60 hs (j := j) (by omega)
        rw [if_pos f1, f2, if_pos rfl, if_pos rfl, x6.1, nIc (by omega)]
        exact ⟨⟨lb, x6.2, trivial⟩, itemAt_eq hS hs f3 hj, h⟩
      · rw [f1, if_neg (k123 hk).1, f2, if_neg (k123 hk).2, if_neg (k123 hk).2]
        exact ⟨⟨lb, trivial⟩, rfl, R_found h k⟩
  · rw [if_neg q2, if_pos (q1 m), if_pos (q1 m)]; exact ⟨trivial, rfl, h⟩
/-! read -/
theorem sgn_train {c m : Mem} (h : R c m) (x : Int32) : (f_X9_train m x).1 < 0 ↔ ¬ (f_X2_isFull c = 0 ∧ ¬ f_X8_isFootMinute c x = 0) := by
  have hD := h.2.2.2.1
  have hf := full_iff hD
  unfold f_X9_train
  rw [isFoot m c]
  by_cases h1 : f_X8_isFootMinute c x = 0
  · rw [if_pos h1]; exact ⟨fun _ z => z.2 h1, fun _ => show (-2 : Int32) < 0 by decide⟩
  · rw [if_neg h1]
    by_cases h2 : m 0 25 = 12
    · rw [if_pos h2]; exact ⟨fun _ z => (hf.1.mp z.1) h2, fun _ => show (-4 : Int32) < 0 by decide⟩
    · have hn := hf.2.mp (hf.1.mpr h2)
      rw [if_neg h2, hD.1, nI_1]
      exact ⟨fun z => absurd z (nInn (by omega)), fun z => absurd ⟨hf.1.mpr h2, h1⟩ z⟩
theorem read_l {s : Nat} (hs : s < 4) : ∀ (r t f1 f2 : Nat) (c m : Mem), R c m → 0 ≤ m 1 s → t + r = (m 2 s).toNatClampNeg → r < f1 → r < f2 → bl_X9_read_27 f2 (nI s) (nI t) m ∧ (l_X8_read_28 f1 (nI s) (nI t) c).1 = (l_X9_read_27 f2 (nI s) (nI t) m).1 ∧ R (l_X8_read_28 f1 (nI s) (nI t) c).2 (l_X9_read_27 f2 (nI s) (nI t) m).2 := by
  intro r
  induction r with
  | zero =>
    intro t f1 f2 c m h hl ht h1 h2
    obtain ⟨f1, rfl⟩ : ∃ f', f1 = f' + 1 := ⟨f1 - 1, by omega⟩
    obtain ⟨f2, rfl⟩ : ∃ f', f2 = f' + 1 := ⟨f2 - 1, by omega⟩
    obtain ⟨a1, a2, a3, a4, a5⟩ := h.2.2.2.2.1 s hs
    have n6 := n60 a4
    have c1 : m 2 s ≤ nI t := by rw [n6.1, nIle (by omega) (by omega)]; omega
    have es : f_X5_size c (shk (nI s)) = m 2 s := by unfold f_X5_size shk; rw [nIc (by omega)]; exact (a5 hl).1
    rw [l_X8_read_28, l_X9_read_27, bl_X9_read_27, es, nIc (by omega), if_pos c1, if_pos c1, if_pos c1]
    exact ⟨⟨vnI hs (by omega), trivial⟩, rfl, h⟩
  | succ r ih =>
    intro t f1 f2 c m h hl ht h1 h2
    obtain ⟨f1, rfl⟩ : ∃ f', f1 = f' + 1 := ⟨f1 - 1, by omega⟩
    obtain ⟨f2, rfl⟩ : ∃ f', f2 = f' + 1 := ⟨f2 - 1, by omega⟩
    obtain ⟨a1, a2, a3, a4, a5⟩ := id (h.2.2.2.2.1 s hs)
    have n6 := n60 a4
    have c1 : ¬ m 2 s ≤ nI t := by rw [n6.1, nIle (by omega) (by omega)]; omega
    have ek : shk (nI s) = 31 + 2 * s := by unfold shk; rw [nIc (by omega)]
    have es : f_X5_size c (31 + 2 * s) = m 2 s := (a5 hl).1
    have x6 := ix60 hs (j := t) (by omega)
    have it := itemAt_eq h.2.2.2.2.1 hs hl (j := t) (by omega)
    have ot := op_train h (m 3 (60 * s + t))
    have sg := sgn_train h (m 3 (60 * s + t))
    have v : vp_in (nI s) 4 := vnI hs (by omega)
    rw [l_X8_read_28, l_X9_read_27, bl_X9_read_27, ek, es, nIc (show s < 2147483648 by omega), if_neg c1, if_neg c1, if_neg c1, it, x6.1, nIc (show 60 * s + t < 2147483648 by omega), nI_1]
    by_cases z : f_X2_isFull c = 0 ∧ ¬ f_X8_isFootMinute c (m 3 (60 * s + t)) = 0
    · have sn : ¬ (f_X9_train m (m 3 (60 * s + t))).1 < 0 := fun y => (sg.mp y) z
      rw [if_neg sn, if_neg sn, if_pos z.1, if_neg z.2]
      have hn := (full_iff h.2.2.2.1).2.mp z.1
      have n12 : ¬ m 0 25 = 12 := (full_iff h.2.2.2.1).1.mp z.1
      have et : (f_X9_train m (m 3 (60 * s + t))).2 = mst (mst m 18 (Nt m) (m 3 (60 * s + t))) 0 25 (nI (Nt m + 1)) := by
        unfold f_X9_train
        rw [isFoot m c, if_neg z.2, if_neg n12, h.2.2.2.1.1, nIc (by omega), nI_1]
      have hR := (tell_R h hn (m 3 (60 * s + t))).1
      rw [et]
      have nx := ih (t + 1) f1 f2 _ _ hR (by simpa [mst] using hl) (by simp [mst]; omega) (by omega) (by omega)
      exact ⟨⟨v, x6.2, ot.1, nx.1⟩, nx.2⟩
    · have sn := sg.mpr z
      rw [if_pos sn, if_pos sn]
      have e1 : (if f_X2_isFull c = 0 then if f_X8_isFootMinute c (m 3 (60 * s + t)) = 0 then (nI t, c) else l_X8_read_28 f1 (nI s) (nI (t + 1)) (f_X2_tell c (m 3 (60 * s + t))) else (nI t, c)) = (nI t, c) := by
        by_cases y1 : f_X2_isFull c = 0
        · rw [if_pos y1]
          by_cases y2 : f_X8_isFootMinute c (m 3 (60 * s + t)) = 0
          · rw [if_pos y2]
          · exact absurd ⟨y1, y2⟩ z
        · rw [if_neg y1]
      rw [e1]
      have e2 : (f_X9_train m (m 3 (60 * s + t))).2 = m := by
        unfold f_X9_train
        rw [isFoot m c]
        by_cases y2 : f_X8_isFootMinute c (m 3 (60 * s + t)) = 0
        · rw [if_pos y2]
        · rw [if_neg y2]
          have y1 : ¬ f_X2_isFull c = 0 := fun y => z ⟨y, y2⟩
          have y3 : m 0 25 = 12 := Classical.byContradiction fun y => y1 ((full_iff h.2.2.2.1).1.mpr y)
          rw [if_pos y3]
      refine ⟨⟨v, x6.2, ot.1, trivial⟩, rfl, ?_⟩
      show R c (f_X9_train m (m 3 (60 * s + t))).2
      rw [e2]; exact h
theorem op_read {c m : Mem} (h : R c m) (a : Int32) : OP (f_X8_read c a) (f_X9_read m a) (b_X9_read m a) := by
  have hS := h.2.2.2.2.1
  unfold f_X8_read f_X9_read b_X9_read
  rcases sh_cases a with ⟨s, hs, rfl, q1, q2, q3, q4, q5⟩ | ⟨q1, q2⟩
  · rw [if_pos q2, if_neg (q1 m), if_neg (q1 m), q3, q4]
    have hl := lost_iff hS hs
    by_cases h1 : 0 ≤ m 1 s
    · rw [if_pos (hl.mpr h1), if_pos h1, if_pos h1]
      obtain ⟨a1, a2, a3, a4, a5⟩ := id (hS s hs)
      have n6 := n60 a4
      have es : f_X5_size c (31 + 2 * s) = nI (m 2 s).toNatClampNeg := by rw [← n6.1]; exact (a5 h1).1
      have q := read_l hs (m 2 s).toNatClampNeg 0 (fu ((f_X5_size c (31 + 2 * s)).toInt.toNat + 1)) (fu 61) c m h h1 (by omega) (by rw [fu_eq, es, nI_t (by omega)]; omega) (by rw [fu_eq]; omega)
      exact ⟨⟨q5, q.1⟩, q.2.1, q.2.2⟩
    · rw [if_neg (fun z => h1 (hl.mp z)), if_neg h1, if_neg h1]; exact ⟨⟨q5, trivial⟩, rfl, R_found h 1⟩
  · rw [if_neg q2, if_pos (q1 m), if_pos (q1 m)]; exact ⟨trivial, rfl, h⟩
