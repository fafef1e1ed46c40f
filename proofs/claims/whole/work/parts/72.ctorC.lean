/-! ===== a world that is a shape's world ===== -/
theorem wl_fst {X : Amb} {σ : Mem} {sh : List Shc} {k : Nat} {q : Nat × va_E} (h : (wl X σ 0 sh)[k]? = some q) : k < sh.length ∧ q.1 = adr X k := by
  rw [wl_get] at h
  cases hs : sh[k]? with
  | none => rw [hs] at h; cases h
  | some c =>
    rw [hs] at h
    refine ⟨(List.getElem?_eq_some_iff.mp hs).1, ?_⟩
    have := Option.some.inj h
    rw [← this, Nat.zero_add]
theorem wl_in {X : Amb} {σ : Mem} {sh : List Shc} {k : Nat} (h : k < sh.length) : ∃ e : va_E, (wl X σ 0 sh)[k]? = some (adr X k, e) := ⟨_, wl_at (List.getElem?_eq_getElem h)⟩
theorem dok_of {X : Amb} {A : Nat → Prop} {sh : List Shc} {σ : Mem} (h : va_D A (wl X σ 0 sh)) : Dok X sh := by
  intro τ
  refine ⟨fun i j p q hi hj hpq => ?_, fun k q hk => ⟨k, (wl_fst hk).1, (wl_fst hk).2⟩⟩
  obtain ⟨i1, i2⟩ := wl_fst hi
  obtain ⟨j1, j2⟩ := wl_fst hj
  obtain ⟨ei, hei⟩ := wl_in (X := X) (σ := σ) i1
  obtain ⟨ej, hej⟩ := wl_in (X := X) (σ := σ) j1
  exact h.1 i j _ _ hei hej (by show adr X i = adr X j; rw [← i2, ← j2]; exact hpq)
theorem ax_in {X : Amb} {A : Nat → Prop} {sh : List Shc} {σ : Mem} (h : va_D A (wl X σ 0 sh)) : ∀ q, AX X sh q → A q := by
  rintro q ⟨k, hk, rfl⟩
  obtain ⟨e, he⟩ := wl_in (X := X) (σ := σ) hk
  exact h.2 k _ he
theorem d_any {X : Amb} {A : Nat → Prop} {sh : List Shc} {σ : Mem} (h : va_D A (wl X σ 0 sh)) (τ : Mem) : va_D A (wl X τ 0 sh) := ⟨(dok_of h τ).1, fun k q hk => ax_in h _ ((dok_of h τ).2 k q hk)⟩
theorem stc_of {X : Amb} {ad : Nat → Nat} {z0 : Nat} {sh : List Shc} {U : State} {H : Heap} (h : StT X z0 U H) (had : ∀ j, j < 7 → ad (100 + j) = adr X (100 + j)) (hz : ∀ q, AX (X.1, ad, X.2.2) sh q → z0 ≤ q) : Stc (X.1, ad, X.2.2) sh U H := by
  intro _ j hj
  have e : adr (X.1, ad, X.2.2) (100 + j) = adr X (100 + j) := had j hj
  rw [e]
  exact ⟨va_Z.narrow (h j hj).1 hz, va_T.narrow (h j hj).2.1 hz⟩
section CROWS2
variable {X : Amb} {z0 : Nat} {M : MT} {mc ms : Nat} {e0 : Nat × va_E} {pc : Nat} {L : List (Nat × Value)} {S : List Value} {ws : va_W} {kc kn : Nat} {post : va_W → Prop}
theorem cp_top {x y : Int32} (h : x = y) (k : CP X z0 M mc ms e0 pc L (.int y :: S) ws kc kn post) : CP X z0 M mc ms e0 pc L (.int x :: S) ws kc kn post := h ▸ k
theorem cp_ref {N : MT} {ad : Nat → Nat} {idx : Nat} {σ τ : Mem} {rest : List Value} (hd : decode (mtC M) pc = .ok (.invokevirtual idx, 3)) (hk : Cond.methodLink (mtY M).cls idx (mtY N) ∈ gtb) (hM : MokV N 0) (hN : mtS N = shC) (hC : (mtY N).cls = RX8) (had : ∀ j, j < 7 → ad (100 + j) = adr X (100 + j)) (hR : Nat.ble (mtF N + 1) (mtF M) = true) (hR2 : Nat.ble (8 + (mtN N + 11) + mtLo N) (mtLo M) = true) (hw : Nat.ble ((rest.map fun v => v.category).sum) 8 = true) (h1 : Nat.ble kc mc = true) (h2 : Nat.ble kn ms = true) (hSp : SpV (X.1, ad, X.2.2) N [.ref (ad 0)] σ τ)
    (kk : CP X z0 M mc ms e0 (pc + 3) L rest (wl (X.1, ad, X.2.2) τ 0 shC) kc kn post) : CP X z0 M mc ms e0 pc L (.ref (ad 0) :: rest) (wl (X.1, ad, X.2.2) σ 0 shC) kc kn post := by
  intro p e s m args below meth c H locs ls B hP hD hS hl
  have hts := B.2.2.2.2.1
  obtain ⟨-, -, -, -, -, -, -, hK, -, -, hT, hz1, hz2⟩ := id B
  have he := wl_at (X := (X.1, ad, X.2.2)) (σ := σ) (sh := shC) (k := 0) rfl
  rw [cel_obj (by decide)] at he
  have hrec := va_recv hK hP (ci := 8) (q := (RX8, TX8, 13)) rfl he
  rw [← hC] at hrec
  have hzA : ∀ q, AX (X.1, ad, X.2.2) shC q → z0 ≤ q := fun q hq => ac_z0 hz1 hz2 q (ax_in hD q hq)
  have hpre : ∀ U : State, U.heap = H → s.WarmedH U.vm → PcM (X.1, ad, X.2.2) N [.ref (ad 0)] σ (Value.ref (ad 0) :: []).toArray U := by
    intro U hU hW
    refine ⟨rfl, ?_, va_K.moved hW.alike hK, ?_, ?_⟩
    · rw [hU, hN]; exact hP
    · rw [hN]; exact dok_of hD
    · rw [hU, hN]
      exact stc_of (StT.moved hW.alike (StT.kept hT (fun a g1 g2 => hS.2.1 a g1 (fun z => g2 (ac_z0 hz1 hz2 a z))))) had hzA
  have hr := va_runV (p := p) (e := e) (below := below) (meth := meth) (locs := locs) (cells := kc) (slots := kn) (g := F0 m pc ls (.ref (ad 0) :: rest)) (R := rmC M mc ms) (As := []) (rest := rest) ⟨B.1, B.2.1, B.2.2.1, B.2.2.2.1, hts⟩ hSp ⟨callB_of 0 hts (mok_good hM.1) rfl rfl rfl (hts _ hM.1.2.1) (hts _ hk) hM.1.2.2 ⟨Nat.le_of_ble_eq_true hR, Nat.le_of_ble_eq_true hR2⟩, hts _ hM.2.1, hts _ hM.2.2⟩ ⟨pcm_blind, hrec, hpre⟩ rfl rfl hl.1 rfl (lv_room (Nat.le_of_ble_eq_true hw)) hd ⟨Nat.le_of_ble_eq_true h1, Nat.le_of_ble_eq_true h2⟩
  intro T hTT XX
  obtain ⟨v, st₀, t, T', L1, h0, X', hL, e1, e2, ⟨v', σ', hv, ⟨hp1, hp2⟩, hPn, hz, hkk⟩, st⟩ := hr T hTT XX
  cases hv
  subst hp1
  subst hp2
  rw [h0] at hz hkk
  rw [hN] at hPn hkk hL
  obtain ⟨t2, a1, b1⟩ := kk p e s m args below meth c T'.heap (locs ++ L1) ls B (by rw [e1]; exact hPn) (d_any hD _)
    ⟨Nat.le_trans hS.1 (by rw [e1]; exact hz), fun x g1 g2 => by rw [e1, hkk x (Nat.lt_of_lt_of_le g1 hS.1) (fun z => g2 (ax_in hD x z))]; exact hS.2.1 x g1 g2, fun x hx => by
      rcases List.mem_append.mp hx with h | h
      · exact hS.2.2 x h
      · exact ax_in hD _ (hL x h)⟩ hl T' rfl X'
  exact ⟨t2, st t2 a1, b1⟩
end CROWS2
theorem up4 (ad : Nat → Nat) : va_up (va_up (va_up (va_up (fun _ => none) 0 (some (ad 31))) 1 (some (ad 33))) 2 (some (ad 35))) 3 (some (ad 37)) = fun i => (([some 31, some 33, some 35, some 37] : List (Option Nat)).getD i none).map ad := by
  funext i
  match i with
  | 0 => rfl
  | 1 => rfl
  | 2 => rfl
  | 3 => rfl
  | n + 4 => simp [va_up]
