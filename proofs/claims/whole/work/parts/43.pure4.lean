/-! the ride, minute by minute -/
def lea (x : Int32) : Int32 := if 0 ≤ x then (if 999 ≤ x then 999 else x) else 0
def rl (g r : Int32) (lag : Nat) (own oth : Nat → Int32) (nd : Int32) (t : Nat) : Int32 :=
  if r = 0 ∨ t < lag then g else if r = 2 then oth (t - lag) else if r = 1 then lea (nd - oth (t - lag)) else (own (t - 1) + lea (nd - oth (t - lag))) / 2
def nsp (s : Nat) (more : Int32) : Nat := if 0 < more then (if 20 < s + 1 then 20 else s + 1) else if more < 0 then s - 1 else s
/-- the weight W, p places, how steep st, the engines e, the first speed s0 -/
abbrev Rp : Type := Int32 × Nat × (Nat → Int32) × (Nat → Int32) × Nat
def ndv (P : Rp) (F : Nat) : Int32 := if P.2.1 = 0 then 0 else P.2.2.1 (if P.2.1 - 1 < F / 10 then P.2.1 - 1 else F / 10) * P.1
/-- what both gave, what was needed, speeds, how far; the next speed and how far -/
abbrev Rs : Type := (Nat → Int32) × (Nat → Int32) × (Nat → Int32) × (Nat → Nat) × (Nat → Nat) × Nat × Nat
def lag0 (P : Rp) : Nat := (P.2.2.2.1 2).toNatClampNeg
def lag1 (P : Rp) : Nat := (P.2.2.2.1 5).toNatClampNeg
def gf (P : Rp) (r : Rs) (t : Nat) : Int32 := rl (P.2.2.2.1 0) (P.2.2.2.1 1) (lag0 P) r.1 r.2.1 (ndv P r.2.2.2.2.2.2) t
def gb (P : Rp) (r : Rs) (t : Nat) : Int32 := rl (P.2.2.2.1 3) (P.2.2.2.1 4) (lag1 P) r.2.1 r.1 (ndv P r.2.2.2.2.2.2) t
def updN (f : Nat → Nat) (k x : Nat) : Nat → Nat := fun j => if j = k then x else f j
def rd (P : Rp) : Nat → Rs
  | 0 => (fun _ => 0, fun _ => 0, fun _ => 0, fun _ => 0, fun _ => 0, P.2.2.2.2, 0)
  | t + 1 => (upd (rd P t).1 t (gf P (rd P t) t), upd (rd P t).2.1 t (gb P (rd P t) t), upd (rd P t).2.2.1 t (ndv P (rd P t).2.2.2.2.2.2), updN (rd P t).2.2.2.1 t (rd P t).2.2.2.2.2.1, updN (rd P t).2.2.2.2.1 t (rd P t).2.2.2.2.2.2, nsp (rd P t).2.2.2.2.2.1 (gf P (rd P t) t + gb P (rd P t) t - ndv P (rd P t).2.2.2.2.2.2), (rd P t).2.2.2.2.2.2 + (rd P t).2.2.2.2.2.1)
theorem nsp_le {s : Nat} {m : Int32} (h : s ≤ 20) : nsp s m ≤ 20 := by unfold nsp; (repeat' split) <;> omega
theorem rd_le (P : Rp) (h : P.2.2.2.2 ≤ 20) : ∀ t, (rd P t).2.2.2.2.2.1 ≤ 20 ∧ (rd P t).2.2.2.2.2.2 ≤ 20 * t := by
  intro t
  induction t with
  | zero => exact ⟨h, Nat.le_refl _⟩
  | succ t ih =>
    refine ⟨nsp_le ih.1, ?_⟩
    show (rd P t).2.2.2.2.2.2 + (rd P t).2.2.2.2.2.1 ≤ _
    omega
theorem rd_le2 (P : Rp) (h : P.2.2.2.2 ≤ 20) : ∀ t j, j < t → (rd P t).2.2.2.1 j ≤ 20 ∧ (rd P t).2.2.2.2.1 j ≤ 20 * j := by
  intro t
  induction t with
  | zero => intro j hj; omega
  | succ t ih =>
    intro j hj
    show updN _ _ _ j ≤ 20 ∧ updN _ _ _ j ≤ 20 * j
    unfold updN
    by_cases e : j = t
    · rw [if_pos e, if_pos e, e]; exact rd_le P h t
    · rw [if_neg e, if_neg e]; exact ih j (by omega)
/-- what the rides have in common: the rules are rules -/
def Pok (P : Rp) : Prop := P.2.2.2.2 ≤ 20 ∧ P.2.1 ≤ 16 ∧ (P.2.2.2.1 2 = nI (lag0 P) ∧ 1 ≤ lag0 P ∧ lag0 P ≤ 5) ∧ (P.2.2.2.1 5 = nI (lag1 P) ∧ 1 ≤ lag1 P ∧ lag1 P ≤ 5) ∧ (P.2.2.2.1 1 = 0 ∨ P.2.2.2.1 1 = 1 ∨ P.2.2.2.1 1 = 2 ∨ P.2.2.2.1 1 = 3) ∧ (P.2.2.2.1 4 = 0 ∨ P.2.2.2.1 4 = 1 ∨ P.2.2.2.1 4 = 2 ∨ P.2.2.2.1 4 = 3)
theorem pk_subN {a b : Nat} (h : b ≤ a) : nI a - nI b = nI (a - b) := pk_sub h
theorem lea_eq (x : Int32) : (if 0 < (if 999 < x then 999 else x) then (if 999 < x then 999 else x) else 0) = lea x := by
  unfold lea
  have t9 : (999 : Int32).toInt = 999 := by decide
  by_cases h : 999 < x
  · have h1 : 999 ≤ x := by rw [Int32.lt_iff_toInt_lt] at h; rw [Int32.le_iff_toInt_le]; omega
    have h2 : 0 ≤ x := by rw [Int32.le_iff_toInt_le] at *; rw [t9] at h1; rw [Int32.toInt_zero]; omega
    rw [if_pos h, if_pos (by decide), if_pos h2, if_pos h1]
  · rw [if_neg h]
    rw [Int32.lt_iff_toInt_lt, t9] at h
    by_cases h2 : 0 < x
    · have h3 : 0 ≤ x := by rw [Int32.lt_iff_toInt_lt] at h2; rw [Int32.le_iff_toInt_le]; omega
      rw [if_pos h2, if_pos h3]
      by_cases h4 : 999 ≤ x
      · rw [if_pos h4]
        rw [Int32.le_iff_toInt_le, t9] at h4
        exact Int32.toInt_inj.mp (by rw [t9]; omega)
      · rw [if_neg h4]
    · rw [if_neg h2]
      rw [Int32.lt_iff_toInt_lt, Int32.toInt_zero] at h2
      by_cases h3 : 0 ≤ x
      · rw [if_pos h3]
        rw [Int32.le_iff_toInt_le, Int32.toInt_zero] at h3
        have : x = 0 := Int32.toInt_inj.mp (by rw [Int32.toInt_zero]; omega)
        rw [this, if_neg (by decide)]
      · rw [if_neg h3]
theorem at_eq {σ : Mem} {k ja jb n i : Nat} (hi : i < n) (hn : n < 100) : f_X3_at σ k ja jb n (nI i) = σ (k + 1) i := by
  unfold f_X3_at
  have c1 : ¬ nI i < 0 := nInn (by omega)
  have c2 : ¬ Int32.ofNat n ≤ nI i := by rw [show Int32.ofNat n = nI n from rfl, nIle (by omega) (by omega)]; omega
  rw [if_neg c1, if_neg c2, nIc (by omega)]
theorem byRule_eq {σ : Mem} {e ow ot lag t : Nat} {own oth : Nat → Int32} {nd g r : Int32} (ht : t < 40) (hg : σ (e + 1) 0 = g) (hr : σ (e + 1) 1 = r) (hl : σ (e + 1) 2 = nI lag) (hl1 : 1 ≤ lag) (hl5 : lag ≤ 5) (hrr : r = 0 ∨ r = 1 ∨ r = 2 ∨ r = 3) (hown : ∀ j, j < t → σ ow j = own j) (hoth : ∀ j, j < t → σ ot j = oth j) (hnd : σ 20 t = nd) :
    f_X4_byRule σ e ow ot (nI t) = rl g r lag own oth nd t := by
  have a0 : f_X3_at σ e 0 1 3 0 = g := by rw [show (0 : Int32) = nI 0 from rfl, at_eq (by omega) (by omega), hg]
  have a1 : f_X3_at σ e 0 1 3 1 = r := by rw [show (1 : Int32) = nI 1 from rfl, at_eq (by omega) (by omega), hr]
  have a2 : f_X3_at σ e 0 1 3 2 = nI lag := by rw [show (2 : Int32) = nI 2 from rfl, at_eq (by omega) (by omega), hl]
  unfold f_X4_byRule rl
  rw [a0, a1, a2]
  by_cases h : t < lag
  · have c1 : nI t - nI lag < 0 := pk_sneg (by omega) h
    rw [if_pos c1, if_pos (Or.inr h)]
  · have e1 : nI t - nI lag = nI (t - lag) := pk_sub (by omega)
    have c1 : ¬ nI (t - lag) < 0 := nInn (by omega)
    have c2 : ¬ (40 : Int32) ≤ nI (t - lag) := by rw [show (40 : Int32) = nI 40 from rfl, nIle (by omega) (by omega)]; omega
    have c3 : ¬ nI t < 1 := by rw [show (1 : Int32) = nI 1 from rfl, nIlt (by omega) (by omega)]; omega
    have c4 : nI t < 40 := by rw [show (40 : Int32) = nI 40 from rfl, nIlt (by omega) (by omega)]; omega
    rw [e1, if_neg c1, if_neg c2, if_neg c3, if_pos c4, nIc (by omega), nIc (by omega), nI_m1 (by omega), nIc (by omega), lea_eq, hnd, hoth (t - lag) (by omega), hown (t - 1) (by omega)]
    rcases hrr with rfl | rfl | rfl | rfl
    · rw [if_neg (by decide), if_neg (by decide), if_neg (by decide), if_pos (Or.inl rfl)]
    · rw [if_pos rfl, if_neg (show ¬ ((1 : Int32) = 0 ∨ t < lag) from fun z => z.elim (by decide) h), if_neg (by decide), if_pos rfl]
    · rw [if_neg (by decide), if_pos rfl, if_neg (show ¬ ((2 : Int32) = 0 ∨ t < lag) from fun z => z.elim (by decide) h), if_pos rfl]
    · rw [if_neg (by decide), if_neg (by decide), if_pos rfl, if_neg (show ¬ ((3 : Int32) = 0 ∨ t < lag) from fun z => z.elim (by decide) h), if_neg (by decide), if_neg (by decide)]
theorem div10 {F : Nat} (h : F < 2147483648) : nI F / 10 = nI (F / 10) := pk_div h (by decide) (by decide)
theorem steepAt_eq {σ : Mem} {P : Rp} {F : Nat} (hp : P.2.1 ≤ 16) (hF : F < 100000) (h1 : σ 8 2 = nI P.2.1) (h2 : ∀ j, j < P.2.1 → σ 9 j = P.2.2.1 j) : f_X6_steepAt σ (nI F / 10) * P.1 = ndv P F := by
  obtain ⟨W, p, st, e, s0⟩ := P
  dsimp only at hp h1 h2 ⊢
  rw [div10 (by omega)]
  unfold f_X6_steepAt ndv
  dsimp only
  rw [h1]
  by_cases h0 : p = 0
  · subst h0
    have c1 : nI 0 - 1 < nI (F / 10) := by
      rw [Int32.lt_iff_toInt_lt, nI_t (by omega), show (nI 0 - 1 : Int32).toInt = -1 by decide]; omega
    rw [if_pos c1, if_pos (by decide), if_pos rfl, Int32.zero_mul]
  · rw [nI_m1 (by omega), if_neg h0]
    by_cases h3 : p - 1 < F / 10
    · have c1 : nI (p - 1) < nI (F / 10) := by rw [nIlt (by omega) (by omega)]; exact h3
      have c2 : ¬ nI (p - 1) < 0 := nInn (by omega)
      have c3 : ¬ (16 : Int32) ≤ nI (p - 1) := by rw [show (16 : Int32) = nI 16 from rfl, nIle (by omega) (by omega)]; omega
      rw [if_pos c1, if_neg c2, if_neg c3, nIc (by omega), h2 (p - 1) (by omega), if_pos h3]
    · have c1 : ¬ nI (p - 1) < nI (F / 10) := by rw [nIlt (by omega) (by omega)]; exact h3
      have c2 : ¬ nI (F / 10) < 0 := nInn (by omega)
      have c3 : ¬ (16 : Int32) ≤ nI (F / 10) := by rw [show (16 : Int32) = nI 16 from rfl, nIle (by omega) (by omega)]; omega
      rw [if_neg c1, if_neg c2, if_neg c3, nIc (by omega), h2 (F / 10) (by omega), if_neg h3]
theorem nextSpeed_eq {σ : Mem} {s : Nat} (m : Int32) (h : s ≤ 20) : f_X4_nextSpeed σ (nI s) m = nI (nsp s m) := by
  unfold f_X4_nextSpeed nsp
  by_cases h1 : m ≤ 0
  · have c1 : ¬ 0 < m := nlt_of_le h1
    rw [if_pos h1, if_neg c1]
    by_cases h2 : 0 ≤ m
    · rw [if_pos h2, if_neg (nlt_of_le h2)]
    · rw [if_neg h2, if_pos (lt_of_nle h2)]
      by_cases h3 : 0 < s
      · rw [nI_m1 h3, if_neg (nInn (by omega))]
      · have e : s = 0 := by omega
        subst e
        rw [if_pos (by decide)]; rfl
  · rw [if_neg h1, if_pos (lt_of_nle h1), nI_1]
    by_cases h2 : 20 < s + 1
    · have c1 : (20 : Int32) < nI (s + 1) := by rw [show (20 : Int32) = nI 20 from rfl, nIlt (by omega) (by omega)]; exact h2
      rw [if_pos c1, if_pos h2]; rfl
    · have c1 : ¬ (20 : Int32) < nI (s + 1) := by rw [show (20 : Int32) = nI 20 from rfl, nIlt (by omega) (by omega)]; exact h2
      rw [if_neg c1, if_neg h2]
