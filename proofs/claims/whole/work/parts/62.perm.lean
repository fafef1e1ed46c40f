/-! rows of up to six wagons, in their order: the class steps on, the model unfolds a number -/
def pg : List Nat → Nat → Nat
  | [], _ => 0
  | x :: _, 0 => x
  | _ :: t, k + 1 => pg t k
def ps : List Nat → Nat → Nat → List Nat
  | [], _, _ => []
  | _ :: t, 0, v => v :: t
  | x :: t, k + 1, v => x :: ps t k v
def ph1 (n : Nat) : Nat → Nat → List Nat → List Nat
  | 0, _, ρ => ρ
  | k + 1, code, ρ => ph1 n k (code / (n - k)) (ps ρ k (code % (n - k)))
def ph3 (k : Nat) : Nat → Nat → List Nat → List Nat
  | 0, _, ρ => ρ
  | r + 1, j, ρ => ph3 k r (j + 1) (ps ρ j (pg ρ j + if pg ρ j < pg ρ k then 0 else 1))
def ph2 (n : Nat) : Nat → List Nat → List Nat
  | 0, ρ => ρ
  | k + 1, ρ => ph2 n k (ph3 k (n - (k + 1)) (k + 1) ρ)
def pU (n code : Nat) : List Nat := ph2 n n (ph1 n n code [0, 0, 0, 0, 0, 0])
def pfi (ρ : List Nat) : Nat → Option Nat
  | 0 => none
  | k + 1 => if pg ρ k ≤ pg ρ (k + 1) then some k else pfi ρ k
def pfj (ρ : List Nat) (i : Nat) : Nat → Nat
  | 0 => 0
  | k + 1 => if k + 1 ≤ i then k + 1 else if pg ρ i ≤ pg ρ (k + 1) then k + 1 else pfj ρ i k
def psw (ρ : List Nat) (a b : Nat) : List Nat := ps (ps ρ a (pg ρ b)) b (pg ρ a)
def prv : Nat → Nat → Nat → List Nat → List Nat
  | 0, _, _, ρ => ρ
  | r + 1, a, b, ρ => if b ≤ a then ρ else prv r (a + 1) (b - 1) (psw ρ a b)
def pSn (n : Nat) (ρ : List Nat) : Option (List Nat) := match pfi ρ (n - 1) with
  | none => none
  | some i => some (prv 6 (i + 1) (n - 1) (psw ρ i (pfj ρ i (n - 1))))
def fct : Nat → Nat
  | 0 => 1
  | k + 1 => fct k * (k + 1)
def alN (p : Nat → Bool) : Nat → Bool
  | 0 => true
  | k + 1 => p k && alN p k
def leq : List Nat → List Nat → Bool
  | [], [] => true
  | x :: t, y :: u => Nat.beq x y && leq t u
  | _, _ => false
def pchk (n code : Nat) : Bool := (match pSn n (pU n code) with
  | none => Nat.beq (code + 1) (fct n)
  | some ρ' => Nat.blt (code + 1) (fct n) && leq ρ' (pU n (code + 1))) && alN (fun j => Nat.blt (pg (pU n code) j) n) n
theorem pchk_all : alN (fun n => alN (pchk (n + 1)) (fct (n + 1))) 6 = true := by decide +kernel
theorem pchk_0 : alN (fun n => alN (fun j => Nat.beq (pg (pU (n + 1) 0) j) j) (n + 1)) 6 = true := by decide +kernel
theorem alN_at {p : Nat → Bool} : ∀ {n : Nat}, alN p n = true → ∀ k, k < n → p k = true := by
  intro n
  induction n with
  | zero => intro _ k hk; omega
  | succ n ih =>
    intro h k hk
    rw [alN, Bool.and_eq_true] at h
    by_cases e : k = n
    · rw [e]; exact h.1
    · exact ih h.2 k (by omega)
theorem leq_eq : ∀ {a b : List Nat}, leq a b = true → a = b := by
  intro a
  induction a with
  | nil => intro b h; cases b with
    | nil => rfl
    | cons y u => simp [leq] at h
  | cons x t ih => intro b h; cases b with
    | nil => simp [leq] at h
    | cons y u =>
      rw [leq, Bool.and_eq_true] at h
      rw [Nat.eq_of_beq_eq_true h.1, ih h.2]
theorem p_at {n code : Nat} (hn : 1 ≤ n) (hn6 : n ≤ 6) (hc : code < fct n) : (∀ j, j < n → pg (pU n code) j < n) ∧ ((code + 1 = fct n ∧ pSn n (pU n code) = none) ∨ (code + 1 < fct n ∧ pSn n (pU n code) = some (pU n (code + 1)))) := by
  obtain ⟨n, rfl⟩ : ∃ n', n = n' + 1 := ⟨n - 1, by omega⟩
  have h := alN_at (alN_at pchk_all n (by omega)) code hc
  unfold pchk at h
  rw [Bool.and_eq_true] at h
  obtain ⟨h1, h2⟩ := h
  refine ⟨fun j hj => ?_, ?_⟩
  · have := alN_at h2 j hj
    exact (Nat.blt_eq).mp this
  · cases e : pSn (n + 1) (pU (n + 1) code) with
    | none => rw [e] at h1; exact Or.inl ⟨Nat.eq_of_beq_eq_true h1, rfl⟩
    | some ρ' =>
      rw [e] at h1
      dsimp only at h1
      rw [Bool.and_eq_true] at h1
      exact Or.inr ⟨(Nat.blt_eq).mp h1.1, by rw [leq_eq h1.2]⟩
theorem p_0 {n : Nat} (hn : 1 ≤ n) (hn6 : n ≤ 6) : ∀ j, j < n → pg (pU n 0) j = j := by
  obtain ⟨n, rfl⟩ : ∃ n', n = n' + 1 := ⟨n - 1, by omega⟩
  intro j hj
  exact Nat.eq_of_beq_eq_true (alN_at (alN_at pchk_0 n (by omega)) j hj)
theorem fct_le {n : Nat} (h : n ≤ 6) : 1 ≤ fct n ∧ fct n ≤ 720 := by
  rcases (show n = 0 ∨ n = 1 ∨ n = 2 ∨ n = 3 ∨ n = 4 ∨ n = 5 ∨ n = 6 by omega) with rfl | rfl | rfl | rfl | rfl | rfl | rfl <;> decide
theorem ps_len : ∀ (ρ : List Nat) (a v : Nat), (ps ρ a v).length = ρ.length := by
  intro ρ
  induction ρ with
  | nil => intro a v; rfl
  | cons x t ih =>
    intro a v
    cases a with
    | zero => rfl
    | succ a => rw [ps, List.length_cons, ih, List.length_cons]
theorem pg_ps : ∀ (ρ : List Nat) (a v i : Nat), a < ρ.length → pg (ps ρ a v) i = if i = a then v else pg ρ i := by
  intro ρ
  induction ρ with
  | nil => intro a v i h; exact absurd h (Nat.not_lt_zero _)
  | cons x t ih =>
    intro a v i h
    cases a with
    | zero =>
      cases i with
      | zero => rw [if_pos rfl]; rfl
      | succ i => rw [if_neg (by omega)]; rfl
    | succ a =>
      cases i with
      | zero => rw [if_neg (by omega)]; rfl
      | succ i =>
        rw [List.length_cons] at h
        show pg (ps t a v) i = if i + 1 = a + 1 then v else pg t i
        rw [ih a v i (by omega)]
        by_cases e : i = a
        · rw [if_pos e, if_pos (by omega)]
        · rw [if_neg e, if_neg (by omega)]
theorem psw_len (ρ : List Nat) (a b : Nat) : (psw ρ a b).length = ρ.length := by unfold psw; rw [ps_len, ps_len]
theorem pg_psw {ρ : List Nat} {a b : Nat} (ha : a < ρ.length) (hb : b < ρ.length) (i : Nat) : pg (psw ρ a b) i = if i = b then pg ρ a else if i = a then pg ρ b else pg ρ i := by
  unfold psw
  rw [pg_ps _ _ _ _ (by rw [ps_len]; exact hb), pg_ps _ _ _ _ ha]
