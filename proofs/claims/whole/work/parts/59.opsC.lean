/-! copy -/
theorem has_iff {c m : Mem} (hS : RS c m) {s : Nat} (hs : s < 4) (h1 : 0 ≤ m 1 s) (i n : Int32) : f_X5_hasItems c (31 + 2 * s) i n = if i < 0 then 0 else if n < 0 then 0 else if 0 < (lg_cmp (i.toInt64 + n.toInt64) ((m 2 s).toInt64)) then 0 else 1 := by
  obtain ⟨a1, a2, a3, a4, a5⟩ := id (hS s hs)
  have n6 := n60 a4
  unfold f_X5_hasItems
  rw [(a5 h1).1]
  by_cases i0 : i < 0
  · rw [if_pos i0, if_pos i0]
  · rw [if_neg i0, if_neg i0]
    by_cases n0 : n < 0
    · rw [if_pos n0, if_pos n0]
    · rw [if_neg n0, if_neg n0]
      have e : (m 2 s - n < i) ↔ (0 < lg_cmp (i.toInt64 + n.toInt64) ((m 2 s).toInt64)) := by
        rw [lg_cmp_gt, Int64.lt_iff_toInt_lt, Int32.lt_iff_toInt_lt]
        rw [Int32.lt_iff_toInt_lt, Int32.toInt_zero] at i0 n0
        have hi := Int32.toInt_lt i
        have hn := Int32.toInt_lt n
        have hm := a4.1
        have hm2 := a4.2
        rw [subT (by omega) (by omega)]
        have e2 : (i.toInt64 + n.toInt64).toInt = i.toInt + n.toInt := by
          rw [Int64.toInt_add, Int32.toInt_toInt64, Int32.toInt_toInt64]
          unfold Int.bmod; dsimp only; split <;> omega
        rw [e2, Int32.toInt_toInt64]; omega
      by_cases z : m 2 s - n < i
      · rw [if_pos z, if_pos (e.mp z)]
      · rw [if_neg z, if_neg (fun y => z (e.mpr y))]
theorem cpy1_l {s : Nat} (hs : s < 4) (c' : Int32) {i n : Nat} (hin : i + n ≤ 60) (d : Int32) (hK : ∀ σ : Mem, bl_X9_copy_157 (fu 61) c' d (nI n) 0 σ) : ∀ (r t f : Nat) (σ : Mem), t + r = n → r < f → ∃ τ : Mem, bl_X9_copy_120 f (nI s) (nI i) c' d (nI n) (nI t) σ ∧ l_X9_copy_120 f (nI s) (nI i) c' d (nI n) (nI t) σ = l_X9_copy_157 (fu 61) c' d (nI n) 0 τ ∧ (∀ q, q ≠ 4 → τ q = σ q) ∧ (∀ j, t ≤ j → j < n → τ 4 j = σ 3 (60 * s + i + j)) ∧ (∀ j, j < t → τ 4 j = σ 4 j) := by
  intro r
  induction r with
  | zero =>
    intro t f σ ht hf
    obtain ⟨f, rfl⟩ : ∃ f', f = f' + 1 := ⟨f - 1, by omega⟩
    have e : t = n := by omega
    subst e
    have c1 : nI t ≤ nI t := by rw [nIle (by omega) (by omega)]; omega
    refine ⟨σ, ?_⟩
    rw [l_X9_copy_120, bl_X9_copy_120, if_pos c1, if_pos c1]
    exact ⟨hK σ, rfl, fun _ _ => rfl, fun j h1 h2 => absurd h2 (by omega), fun _ _ => rfl⟩
  | succ r ih =>
    intro t f σ ht hf
    obtain ⟨f, rfl⟩ : ∃ f', f = f' + 1 := ⟨f - 1, by omega⟩
    have c1 : ¬ nI n ≤ nI t := by rw [nIle (by omega) (by omega)]; omega
    have ex : (60 : Int32) * nI s + nI i + nI t = nI (60 * s + i + t) := by rw [show (60 : Int32) = nI 60 from rfl, pk_mul, nI_add, nI_add]
    have v1 : vp_in (nI (60 * s + i + t)) 240 := vnI (by omega) (by omega)
    have v2 : vp_in (nI t) 60 := vnI (by omega) (by omega)
    obtain ⟨τ, a1, a2, a3, a4, a5⟩ := ih (t + 1) f (mst σ 4 t (σ 3 (60 * s + i + t))) (by omega) (by omega)
    refine ⟨τ, ?_⟩
    rw [l_X9_copy_120, bl_X9_copy_120, if_neg c1, if_neg c1, ex, nIc (by omega), nIc (by omega), nI_1]
    refine ⟨⟨v1, v2, a1⟩, a2, fun q hq => by rw [a3 q hq]; simp [mst, hq], fun j h1 h2 => ?_, fun j hj => ?_⟩
    · by_cases e : j = t
      · rw [a5 j (by omega), e]; simp [mst, upd]
      · rw [a4 j (by omega) h2]; simp [mst]
    · rw [a5 j (by omega)]; simp [mst, upd, show ¬ j = t by omega]
theorem cpy2_l {s : Nat} (hs : s < 4) {i n : Nat} (hin : i + n ≤ 60) : ∀ (r t f : Nat) (σ : Mem), t + r = n → r < f → bl_X9_copy_157 f (nI s) (nI i) (nI n) (nI t) σ ∧ (l_X9_copy_157 f (nI s) (nI i) (nI n) (nI t) σ).1 = 1 ∧ (∀ q, q ≠ 3 → (l_X9_copy_157 f (nI s) (nI i) (nI n) (nI t) σ).2 q = σ q) ∧ (∀ j, t ≤ j → j < n → (l_X9_copy_157 f (nI s) (nI i) (nI n) (nI t) σ).2 3 (60 * s + i + j) = σ 4 j) ∧ (∀ j, (j < 60 * s + i + t ∨ 60 * s + i + n ≤ j) → (l_X9_copy_157 f (nI s) (nI i) (nI n) (nI t) σ).2 3 j = σ 3 j) := by
  intro r
  induction r with
  | zero =>
    intro t f σ ht hf
    obtain ⟨f, rfl⟩ : ∃ f', f = f' + 1 := ⟨f - 1, by omega⟩
    have e : t = n := by omega
    subst e
    have c1 : nI t ≤ nI t := by rw [nIle (by omega) (by omega)]; omega
    rw [l_X9_copy_157, bl_X9_copy_157, if_pos c1, if_pos c1]
    exact ⟨trivial, rfl, fun _ _ => rfl, fun j h1 h2 => absurd h2 (by omega), fun _ _ => rfl⟩
  | succ r ih =>
    intro t f σ ht hf
    obtain ⟨f, rfl⟩ : ∃ f', f = f' + 1 := ⟨f - 1, by omega⟩
    have c1 : ¬ nI n ≤ nI t := by rw [nIle (by omega) (by omega)]; omega
    have ex : (60 : Int32) * nI s + nI i + nI t = nI (60 * s + i + t) := by rw [show (60 : Int32) = nI 60 from rfl, pk_mul, nI_add, nI_add]
    have v1 : vp_in (nI (60 * s + i + t)) 240 := vnI (by omega) (by omega)
    have v2 : vp_in (nI t) 60 := vnI (by omega) (by omega)
    obtain ⟨a1, a2, a3, a4, a5⟩ := ih (t + 1) f (mst σ 3 (60 * s + i + t) (σ 4 t)) (by omega) (by omega)
    rw [l_X9_copy_157, bl_X9_copy_157, if_neg c1, if_neg c1, ex, nIc (by omega), nIc (by omega), nI_1]
    refine ⟨⟨v2, v1, a1⟩, a2, fun q hq => by rw [a3 q hq]; simp [mst, hq], fun j h1 h2 => ?_, fun j hj => ?_⟩
    · by_cases e : j = t
      · rw [a5 _ (by omega), e]; simp [mst, upd]
      · rw [a4 j (by omega) h2]; simp [mst]
    · rw [a5 j (by omega)]; simp [mst, upd, show ¬ j = 60 * s + i + t by omega]
theorem has_N {c m : Mem} (hS : RS c m) {s : Nat} (hs : s < 4) (h1 : 0 ≤ m 1 s) {i n : Int32} (h : ¬ f_X5_hasItems c (31 + 2 * s) i n = 0) : ∃ i' n' : Nat, i = nI i' ∧ n = nI n' ∧ i' + n' ≤ (m 2 s).toNatClampNeg := by
  obtain ⟨a1, a2, a3, a4, a5⟩ := id (hS s hs)
  have n6 := n60 a4
  unfold f_X5_hasItems at h
  rw [(a5 h1).1, n6.1] at h
  by_cases i0 : i < 0
  · rw [if_pos i0] at h; exact absurd rfl h
  · rw [if_neg i0] at h
    by_cases n0 : n < 0
    · rw [if_pos n0] at h; exact absurd rfl h
    · rw [if_neg n0] at h
      obtain ⟨i', hi, rfl⟩ := nI_of i0
      obtain ⟨n', hn, rfl⟩ := nI_of n0
      refine ⟨i', n', rfl, rfl, ?_⟩
      by_cases z : nI (m 2 s).toNatClampNeg - nI n' < nI i'
      · rw [if_pos z] at h; exact absurd rfl h
      · rw [Int32.lt_iff_toInt_lt, subT (by rw [nI_t (by omega), nI_t hn]; omega) (by rw [nI_t (by omega), nI_t hn]; omega), nI_t (by omega), nI_t hn, nI_t hi] at z; omega
theorem op_copy {c m : Mem} (h : R c m) (a i b j n : Int32) : OP (f_X8_copy c a i b j n) (f_X9_copy m a i b j n) (b_X9_copy m a i b j n) := by
  have hS := h.2.2.2.2.1
  unfold f_X8_copy f_X9_copy b_X9_copy
  rcases sh_cases a with ⟨s, hs, rfl, q1, q2, q3, q4, q5⟩ | ⟨q1, q2⟩
  · rw [if_pos q2, if_neg (q1 m), if_neg (q1 m), q3, q4]
    rcases sh_cases b with ⟨u, hu, rfl, r1, r2, r3, r4, r5⟩ | ⟨r1, r2⟩
    · rw [if_pos r2, if_neg (r1 m), if_neg (r1 m), r3, r4]
      have ls := lost_iff hS hs
      have lu := lost_iff hS hu
      by_cases h1 : 0 ≤ m 1 s
      · have h1' : ¬ m 1 s < 0 := by rw [Int32.lt_iff_toInt_lt]; rw [Int32.le_iff_toInt_le] at h1; omega
        rw [if_pos (ls.mpr h1), if_neg h1', if_neg h1']
        by_cases h2 : 0 ≤ m 1 u
        · rw [if_pos (lu.mpr h2), if_pos h2, if_pos h2]
          unfold f_X5_isOfForm f_X5_formNumber
          rw [(hS s hs).1, (hS u hu).1]
          by_cases h3 : m 1 s = m 1 u
          · rw [if_pos h3, if_pos h3, if_pos h3, if_neg i10]
            have e1 := has_iff hS hs h1 i n
            have e2 := has_iff hS hu h2 j n
            by_cases g1 : f_X5_hasItems c (31 + 2 * s) i n = 0
            · -- the model refuses too
              rw [if_pos g1]
              rw [e1] at g1
              by_cases i0 : i < 0
              · rw [if_pos i0, if_pos i0]; exact ⟨⟨q5, r5, q5, r5, trivial⟩, rfl, R_found h 2⟩
              · rw [if_neg i0] at g1
                rw [if_neg i0, if_neg i0]
                by_cases j0 : j < 0
                · rw [if_pos j0, if_pos j0]; exact ⟨⟨q5, r5, q5, r5, trivial⟩, rfl, R_found h 2⟩
                · rw [if_neg j0, if_neg j0]
                  by_cases n0 : n < 0
                  · rw [if_pos n0, if_pos n0]; exact ⟨⟨q5, r5, q5, r5, trivial⟩, rfl, R_found h 2⟩
                  · rw [if_neg n0] at g1
                    rw [if_neg n0, if_neg n0]
                    by_cases z : 0 < lg_cmp (i.toInt64 + n.toInt64) ((m 2 s).toInt64)
                    · rw [if_pos z, if_pos z]; exact ⟨⟨q5, r5, q5, r5, q5, trivial⟩, rfl, R_found h 2⟩
                    · rw [if_neg z] at g1; exact absurd g1 i10
            · rw [if_neg g1]
              obtain ⟨i', n', ei, en, hin⟩ := has_N hS hs h1 g1
              have i0 : ¬ i < 0 := by
                intro z; apply g1; rw [e1, if_pos z]
              have n0 : ¬ n < 0 := by
                intro z; apply g1; rw [e1, if_neg i0, if_pos z]
              have z1 : ¬ 0 < lg_cmp (i.toInt64 + n.toInt64) ((m 2 s).toInt64) := by
                intro z; apply g1; rw [e1, if_neg i0, if_neg n0, if_pos z]
              rw [if_neg i0, if_neg i0]
              by_cases g2 : f_X5_hasItems c (31 + 2 * u) j n = 0
              · rw [if_pos g2]
                rw [e2] at g2
                by_cases j0 : j < 0
                · rw [if_pos j0, if_pos j0]; exact ⟨⟨q5, r5, q5, r5, trivial⟩, rfl, R_found h 2⟩
                · rw [if_neg j0, if_neg n0] at g2
                  rw [if_neg j0, if_neg j0, if_neg n0, if_neg n0, if_neg z1, if_neg z1]
                  by_cases z : 0 < lg_cmp (j.toInt64 + n.toInt64) ((m 2 u).toInt64)
                  · have z' : ¬ lg_cmp (j.toInt64 + n.toInt64) ((m 2 u).toInt64) ≤ 0 := by rw [Int32.le_iff_toInt_le]; rw [Int32.lt_iff_toInt_lt] at z; omega
                    rw [if_neg z', if_neg z']; exact ⟨⟨q5, r5, q5, r5, q5, r5, trivial⟩, rfl, R_found h 2⟩
                  · rw [if_neg z] at g2; exact absurd g2 i10
              · rw [if_neg g2]
                obtain ⟨j', n'', ej, en', hjn⟩ := has_N hS hu h2 g2
                have j0 : ¬ j < 0 := by
                  intro z; apply g2; rw [e2, if_pos z]
                have z2 : lg_cmp (j.toInt64 + n.toInt64) ((m 2 u).toInt64) ≤ 0 := by
                  have : ¬ 0 < lg_cmp (j.toInt64 + n.toInt64) ((m 2 u).toInt64) := by
                    intro z; apply g2; rw [e2, if_neg j0, if_neg n0, if_pos z]
                  rw [Int32.lt_iff_toInt_lt] at this; rw [Int32.le_iff_toInt_le]; omega
                rw [if_neg j0, if_neg j0, if_neg n0, if_neg n0, if_neg z1, if_neg z1, if_pos z2, if_pos z2]
                have ns := n60 (hS s hs).2.2.2.1
                have nu := n60 (hS u hu).2.2.2.1
                subst ei; subst ej; subst en
                have enn : n' = n'' := (nI_eq (by omega) (by omega)).mp en'
                subst enn
                have k2 : ∀ σ, bl_X9_copy_157 (fu 61) (nI u) (nI j') (nI n') 0 σ := fun σ => (cpy2_l hu (i := j') (n := n') (by omega) n' 0 (fu 61) σ (by omega) (by rw [fu_eq]; omega)).1
                obtain ⟨τ, a1, a2, a3, a4, a5⟩ := cpy1_l hs (nI u) (i := i') (n := n') (by omega) (nI j') k2 n' 0 (fu 61) m (by omega) (by rw [fu_eq]; omega)
                obtain ⟨b1, b2, b3, b4, b5⟩ := cpy2_l hu (i := j') (n := n') (by omega) n' 0 (fu 61) τ (by omega) (by rw [fu_eq]; omega)
                rw [show nI 0 = (0 : Int32) from rfl] at a1 a2 b1 b2 b3 b4 b5
                rw [a2]
                refine ⟨⟨q5, r5, q5, r5, q5, r5, a1⟩, b2.symm, ?_⟩
                show R (f_X5_takeOver c (31 + 2 * u) (31 + 2 * s) (nI i') (nI j') (nI n')) (l_X9_copy_157 (fu 61) (nI u) (nI j') (nI n') 0 τ).2
                have et : f_X5_takeOver c (31 + 2 * u) (31 + 2 * s) (nI i') (nI j') (nI n') = mcp c (32 + 2 * s) (32 + 2 * u) i' j' n' := by
                  unfold f_X5_takeOver
                  rw [if_neg g1, if_neg g2, nIc (by omega), nIc (by omega), nIc (by omega), show 31 + 2 * s + 1 = 32 + 2 * s by omega, show 31 + 2 * u + 1 = 32 + 2 * u by omega]
                rw [et]
                have mq : ∀ q, q ≠ 32 + 2 * u → (mcp c (32 + 2 * s) (32 + 2 * u) i' j' n') q = c q := fun q hq => by unfold mcp; rw [if_neg hq]
                have me : ∀ q, q ≠ 3 → q ≠ 4 → (l_X9_copy_157 (fu 61) (nI u) (nI j') (nI n') 0 τ).2 q = m q := fun q h3 h4 => by rw [b3 q h3, a3 q h4]
                refine R_sheet h (fun q h0 h1 => mq q (by omega)) (fun q h5 => me q (by omega) (by omega)) (by rw [mq 0 (by omega)]) (by rw [mq 0 (by omega), me 0 (by omega) (by omega)]; exact h.2.2.2.2.2.1) (by rw [me 0 (by omega) (by omega)]) (RS.one hS hu (fun q h1 h2 => mq q h2) (fun j hj => by rw [me 1 (by omega) (by omega), me 2 (by omega) (by omega)]; exact ⟨rfl, rfl⟩) (fun j hj => by rw [b5 j (by omega), a3 3 (by omega)]) ?_)
                obtain ⟨d1, d2, d3, d4, d5⟩ := id (hS u hu)
                rw [mq (31 + 2 * u) (by omega), me 1 (by omega) (by omega), me 2 (by omega) (by omega)]
                refine ⟨d1, d2, d3, d4, fun z => ⟨(d5 z).1, fun k hk => ?_⟩⟩
                have ek : (mcp c (32 + 2 * s) (32 + 2 * u) i' j' n') (32 + 2 * u) k = if j' ≤ k ∧ k < j' + n' then c (32 + 2 * s) (i' + (k - j')) else c (32 + 2 * u) k := by unfold mcp; rw [if_pos rfl]; rfl
                rw [ek]
                by_cases y : j' ≤ k ∧ k < j' + n'
                · rw [if_pos y, ((hS s hs).2.2.2.2 h1).2 (i' + (k - j')) (by omega)]
                  have := b4 (k - j') (by omega) (by omega)
                  rw [show 60 * u + j' + (k - j') = 60 * u + k by omega] at this
                  rw [this, a4 (k - j') (by omega) (by omega)]
                  congr 1; omega
                · rw [if_neg y, b5 (60 * u + k) (by omega), a3 3 (by omega)]
                  exact (d5 z).2 k hk
          · rw [if_neg h3, if_neg h3, if_neg h3, if_pos rfl]; exact ⟨⟨q5, r5, q5, r5, trivial⟩, rfl, R_found h 4⟩
        · rw [if_neg (fun z => h2 (lu.mp z)), if_neg h2, if_neg h2]; exact ⟨⟨q5, r5, trivial⟩, rfl, R_found h 1⟩
      · have h1' : m 1 s < 0 := by rw [Int32.lt_iff_toInt_lt]; rw [Int32.le_iff_toInt_le] at h1; omega
        rw [if_neg (fun z => h1 (ls.mp z)), if_pos h1', if_pos h1']; exact ⟨⟨q5, trivial⟩, rfl, R_found h 1⟩
    · rw [if_neg r2, if_pos (r1 m), if_pos (r1 m)]; exact ⟨trivial, rfl, h⟩
  · rw [if_neg q2, if_pos (q1 m), if_pos (q1 m)]
    refine ⟨trivial, ?_, ?_⟩ <;> (split <;> first | rfl | exact h)
/-! write -/
theorem write_l {s e : Nat} (hs : s < 4) (he : e < 2) {n : Nat} (g : Nat → Int32) (hn : n ≤ 40) : ∀ (r t f1 f2 : Nat) (c m : Mem), R c m → 0 ≤ m 1 s → n ≤ (m 2 s).toNatClampNeg → (∀ j, j < 40 → f_X4_given c (nI e) (nI j) = g j) → (∀ j, j < 40 → m 12 (2 * j + e) = g j) → t + r = n → r < f1 → r < f2 →
    bl_X9_write_51 f2 (nI e) (nI s) (nI n) (nI t) m ∧ (l_X8_write_47 f1 (nI e) (nI s) (nI n) (nI t) c).1 = (l_X9_write_51 f2 (nI e) (nI s) (nI n) (nI t) m).1 ∧ R (l_X8_write_47 f1 (nI e) (nI s) (nI n) (nI t) c).2 (l_X9_write_51 f2 (nI e) (nI s) (nI n) (nI t) m).2 := by
  intro r
  induction r with
  | zero =>
    intro t f1 f2 c m h hl hsz hc hm ht h1 h2
    obtain ⟨f1, rfl⟩ : ∃ f', f1 = f' + 1 := ⟨f1 - 1, by omega⟩
    obtain ⟨f2, rfl⟩ : ∃ f', f2 = f' + 1 := ⟨f2 - 1, by omega⟩
    have e : t = n := by omega
    subst e
    have c1 : nI t ≤ nI t := by rw [nIle (by omega) (by omega)]; omega
    rw [l_X8_write_47, l_X9_write_51, bl_X9_write_51, if_pos c1, if_pos c1, if_pos c1]; exact ⟨trivial, rfl, h⟩
  | succ r ih =>
    intro t f1 f2 c m h hl hsz hc hm ht h1 h2
    obtain ⟨f1, rfl⟩ : ∃ f', f1 = f' + 1 := ⟨f1 - 1, by omega⟩
    obtain ⟨f2, rfl⟩ : ∃ f', f2 = f' + 1 := ⟨f2 - 1, by omega⟩
    have c1 : ¬ nI n ≤ nI t := by rw [nIle (by omega) (by omega)]; omega
    have ek : shk (nI s) = 31 + 2 * s := by unfold shk; rw [nIc (by omega)]
    have x6 := ix60 hs (j := t) (by omega)
    have x2 : (2 : Int32) * nI t + nI e = nI (2 * t + e) := by rw [two_t, nI_add]
    have v2 : vp_in (nI (2 * t + e)) 80 := vnI (by omega) (by omega)
    have pt := put_R h hs hl (j := t) (by omega) (g t) m
    rw [l_X8_write_47, l_X9_write_51, bl_X9_write_51, if_neg c1, if_neg c1, if_neg c1, ek, hc t (by omega), x6.1, x2, nIc (show 60 * s + t < 2147483648 by omega), nIc (show 2 * t + e < 2147483648 by omega), nIc (show s < 2147483648 by omega), hm t (by omega), nI_1]
    have nx := ih (t + 1) f1 f2 _ _ pt.1 (by simpa [mst] using hl) (by simpa [mst] using hsz)
      (fun j hj => by
        rw [pt.2, ← hc j hj]
        unfold f_X4_given
        simp [mst, show ¬ 18 = 32 + 2 * s by omega, show ¬ 19 = 32 + 2 * s by omega])
      (fun j hj => by rw [← hm j hj]; simp [mst]) (by omega) (by omega) (by omega)
    exact ⟨⟨vnI hs (by omega), v2, x6.2, nx.1⟩, nx.2⟩
theorem op_write {c m : Mem} (h : R c m) (a b : Int32) : OP (f_X8_write c a b) (f_X9_write m a b) (b_X9_write m a b) := by
  obtain ⟨hT, hE, hG, hD, hS, hF, hV, hB⟩ := id h
  obtain ⟨l1, l2⟩ := lives_eq hT hE hG
  have pr := l2.2.2.2.1
  have hp := h.prim pr
  have v := vr_of hV hE hG l2
  have ee : f_X8_isEngine c a = if a = 0 ∨ a = 1 then 1 else 0 := z01 c a
  unfold f_X8_write f_X9_write b_X9_write
  rw [isTwo_eq, ee]
  rcases sh_cases b with ⟨s, hs, rfl, q1, q2, q3, q4, q5⟩ | ⟨q1, q2⟩
  · rw [if_pos q2, if_neg (q1 m), if_neg (q1 m), q3, q4]
    by_cases h0 : a = 0 ∨ a = 1
    · rw [if_pos h0, if_neg i10, if_neg i10, if_neg i10]
      have hl := lost_iff hS hs
      by_cases h1 : 0 ≤ m 1 s
      · rw [if_pos (hl.mpr h1), if_pos h1, if_pos h1]
        obtain ⟨a1, a2, a3, a4, a5⟩ := id (hS s hs)
        have n6 := n60 a4
        have es : f_X5_size c (31 + 2 * s) = nI (m 2 s).toNatClampNeg := by rw [← n6.1]; exact (a5 h1).1
        have em : (f_X9_lives m) 2 s = nI (m 2 s).toNatClampNeg := by rw [pr.2.1, ← n6.1]
        obtain ⟨n, hn40, hnn, en1, en2⟩ : ∃ n : Nat, n ≤ 40 ∧ n ≤ (m 2 s).toNatClampNeg ∧ (if 40 < nI (m 2 s).toNatClampNeg then 40 else nI (m 2 s).toNatClampNeg) = nI n ∧ f_X9_lesser (f_X9_lives m) (nI (m 2 s).toNatClampNeg) 40 = nI n := by
          unfold f_X9_lesser
          by_cases z : 40 < (m 2 s).toNatClampNeg
          · have z1 : (40 : Int32) < nI (m 2 s).toNatClampNeg := by rw [show (40 : Int32) = nI 40 from rfl, nIlt (by omega) (by omega)]; exact z
            have z2 : (40 : Int32) ≤ nI (m 2 s).toNatClampNeg := by rw [show (40 : Int32) = nI 40 from rfl, nIle (by omega) (by omega)]; omega
            rw [if_pos z1, if_pos z2]; exact ⟨40, by omega, by omega, rfl, rfl⟩
          · have z1 : ¬ (40 : Int32) < nI (m 2 s).toNatClampNeg := by rw [show (40 : Int32) = nI 40 from rfl, nIlt (by omega) (by omega)]; exact z
            rw [if_neg z1]
            by_cases y : (m 2 s).toNatClampNeg = 40
            · rw [y, if_pos (by decide)]; exact ⟨40, by omega, by omega, rfl, rfl⟩
            · have z2 : ¬ (40 : Int32) ≤ nI (m 2 s).toNatClampNeg := by rw [show (40 : Int32) = nI 40 from rfl, nIle (by omega) (by omega)]; omega
              rw [if_neg z2]; exact ⟨(m 2 s).toNatClampNeg, by omega, by omega, rfl, rfl⟩
        rw [es, em, en1, en2]
        obtain ⟨e, he, rfl⟩ : ∃ e : Nat, e < 2 ∧ a = nI e := by
          rcases h0 with rfl | rfl
          · exact ⟨0, by omega, rfl⟩
          · exact ⟨1, by omega, rfl⟩
        have q := write_l hs he (n := n) (fun j => (f_X9_lives m) 12 (2 * j + e)) hn40 n 0 (fu ((nI n).toInt.toNat + 1)) (fu 41) c (f_X9_lives m) hp (by rw [pr.1]; exact h1) (by rw [pr.2.1]; exact hnn)
          (fun j hj => by
            rcases (show e = 0 ∨ e = 1 by omega) with rfl | rfl
            · rw [show nI 0 = (0 : Int32) from rfl, given0 hj]; exact (v.2.2.2.2.2 j hj).1
            · rw [show nI 1 = (1 : Int32) from rfl, given1 hj]; exact (v.2.2.2.2.2 j hj).2.1)
          (fun j hj => rfl) (by omega) (by rw [fu_eq, nI_t (by omega)]; omega) (by rw [fu_eq]; omega)
        exact ⟨⟨q5, l1, q5, q.1⟩, q.2.1, q.2.2⟩
      · rw [if_neg (fun z => h1 (hl.mp z)), if_neg h1, if_neg h1]; exact ⟨⟨q5, trivial⟩, rfl, R_found h 1⟩
    · rw [if_neg h0, if_pos rfl, if_pos rfl, if_pos rfl]; exact ⟨trivial, rfl, h⟩
  · rw [if_neg q2, if_pos (q1 m), if_pos (q1 m)]
    refine ⟨?_, ?_, ?_⟩ <;> (split <;> first | trivial | rfl | exact h)
