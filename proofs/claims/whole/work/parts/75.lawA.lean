def R_law : String := "PushedOverLaw"
def lw_P (b : Addr) (xs : List Int32) (args : Array Value) (s : State) : Prop := args = #[.ref b] ∧ s.IntsAt b xs ∧ xs.length ≤ 3072 ∧ (Jvm.Cond.and given_1 narrow_1).before args s = true
def lw_Q (_ : Array Value) (s : State) (o : Outcome) (t : State) : Prop := o = .returned (some (.int 1)) ∧ Framed s o t [] 600000 7302250
def lw_Z (below : List Frame) (a : Array Value) (s : State) : State → Prop := fun t => ∃ o, t.status = .running ∧ Ended t below o ∧ lw_Q a s o t
/-- the law's own end, with 1 on the stack, nothing written that was there before, its room as the claim has it -/
theorem lw_ret {p : Program} {l : Launch} {e : Env} {s : State} {m : MethodId} {below : List Frame} {meth : Method} {c : Code} {b : Nat} (hx : p.tables.exec = Jvm.exec) (hb : c.code = code) (hr : meth.sig.returnType = ret) (hlocks : meth.locks = false) {pc : Nat} {H : Heap} {ls : Array Slot} (hdg : decode code pc = .ok (.ireturn, 1)) : W p l e room_1 s m #[Value.ref b] below meth c H [] 600000 7302250 (lw_Z below #[Value.ref b] s) (F0 m pc ls [.int 1]) := by
  intro T hT X
  obtain ⟨fs, hret, hrun, hended, hW, hframe⟩ := X.leave (v := some (.int 1)) (hlocks := hlocks) (fun h => by rw [hr] at h; cases h)
  have hmeth' : T.vm.method? m = some meth := X.method'
  refine ⟨T.setFrames fs, ?_, .returned (some (.int 1)), hrun, hended, rfl, ⟨_, rfl⟩, hW, hframe⟩
  jvm_step X.here [X.here.top, hx, hb, hdg, hmeth', hr, ret, narrow_b1]
  (try refine ⟨rfl, ?_⟩); (try refine ⟨rfl, ?_⟩)
  first | (intro acts; rw [hret _ acts rfl rfl rfl]) | rw [hret _ _ rfl rfl rfl]
  exact Steps.refl _
/-- what holds at the law's entry: the machine, the code, the tables' words (any of lw_tbl by 'hts w (by decide +kernel)'), the script of L ints xs at the cell b, what the Statement gives of the start (any of its parts by flat_of_before) -/
def lw_At (p : Program) (s : State) (m : MethodId) (meth : Method) (c : Code) (b L : Nat) (xs : Nat → Int32) : Prop :=
  p.tables.exec = Jvm.exec ∧ c.code = code ∧ meth.sig.returnType = ret ∧ c.maxLocals = 4 ∧ s.vm.findClass R_law = some m.cls ∧ (∀ w ∈ lw_tbl, w.before #[Value.ref b] s = true) ∧ va_X b L xs s s.heap ∧ b < s.heap.size ∧ meth.locks = false ∧ (Jvm.Cond.and given_1 narrow_1).before #[Value.ref b] s = true
/-! ===== the law's judgement: both worlds side by side ===== -/
abbrev YY (X : Amb) (ad : Nat → Nat) : Amb := (X.1, ad, X.2.2)
def LWB (X : Amb) (ad : Nat → Nat) (b Ln : Nat) (xs : Nat → Int32) (p : Program) (s : State) (m : MethodId) (meth : Method) (c : Code) : Prop :=
  p.tables.exec = Jvm.exec ∧ c.code = code ∧ c.maxLocals = 4 ∧ s.vm.findClass R_law = some m.cls ∧ (∀ w ∈ gtb, w.before #[Value.ref b] s = true) ∧ meth.locks = false ∧ meth.sig.returnType = ret ∧ va_K X.2.2.2 cls (tysX X) s ∧ va_X b Ln xs s s.heap ∧ b < s.heap.size ∧ Stc X shC s s.heap ∧ Dok X shC ∧ Dok (YY X ad) shM ∧ (∀ q, AX X shC q → s.heap.size ≤ q) ∧ (∀ q, AX (YY X ad) shM q → s.heap.size ≤ q) ∧ (∀ q, AX X shC q → ¬ AX (YY X ad) shM q)
def LWP (X : Amb) (ad : Nat → Nat) (b Ln : Nat) (xs : Nat → Int32) (pc : Nat) (L : List (Nat × Value)) (S : List Value) (σ τ : Mem) : Prop :=
  ∀ (p : Program) (e : Env) (s : State) (m : MethodId) (below : List Frame) (meth : Method) (c : Code) (H : Heap) (locs : List Loc) (ls : Array Slot), LWB X ad b Ln xs p s m meth c → va_P X.2.2.2 cls (wl X σ 0 shC) H → va_P X.2.2.2 cls (wl (YY X ad) τ 0 shM) H → va_S (fun q => s.heap.size ≤ q) s.heap H locs → lv_has ls 4 L →
    W p X.1 e room_1 s m #[Value.ref b] below meth c H locs 600000 7302250 (lw_Z below #[Value.ref b] s) (F0 m pc ls S)
section LROWS
variable {X : Amb} {ad : Nat → Nat} {b Ln : Nat} {xs : Nat → Int32} {pc : Nat} {L : List (Nat × Value)} {S : List Value} {σ τ : Mem}
theorem lq_iconst {n : Int} {v : Int32} (hd : decode code pc = .ok (.iconst n, 1)) (hv : Int32.ofInt n = v) (k : LWP X ad b Ln xs (pc + 1) L (.int v :: S) σ τ) : LWP X ad b Ln xs pc L (S) σ τ := fun p e s m below meth c H locs ls B hP hQ hS hl => lv_iconst B.1 B.2.1 hd hv (k p e s m below meth c H locs ls B hP hQ hS hl)
theorem lq_bipush {n : Int} {v : Int32} (hd : decode code pc = .ok (.bipush n, 2)) (hv : (Int8.ofInt n).toInt32 = v) (k : LWP X ad b Ln xs (pc + 2) L (.int v :: S) σ τ) : LWP X ad b Ln xs pc L (S) σ τ := fun p e s m below meth c H locs ls B hP hQ hS hl => lv_bipush B.1 B.2.1 hd hv (k p e s m below meth c H locs ls B hP hQ hS hl)
theorem lq_iload_n {n : Fin 4} {x : Int32} (hd : decode code pc = .ok (.iload_n n, 1)) (i : Nat) (hL : L[i]? = some ((n : Nat), .int x)) (k : LWP X ad b Ln xs (pc + 1) L (.int x :: S) σ τ) : LWP X ad b Ln xs pc L (S) σ τ := fun p e s m below meth c H locs ls B hP hQ hS hl => lv_iload_n B.1 B.2.1 hd rfl (lv_at hl i hL) (k p e s m below meth c H locs ls B hP hQ hS hl)
theorem lq_aload_n {n : Fin 4} {x : Nat} (hd : decode code pc = .ok (.aload_n n, 1)) (i : Nat) (hL : L[i]? = some ((n : Nat), .ref x)) (k : LWP X ad b Ln xs (pc + 1) L (.ref x :: S) σ τ) : LWP X ad b Ln xs pc L (S) σ τ := fun p e s m below meth c H locs ls B hP hQ hS hl => lv_aload_n B.1 B.2.1 hd rfl (lv_at hl i hL) (k p e s m below meth c H locs ls B hP hQ hS hl)
theorem lq_iinc {i : Nat} {n : Int} {x v : Int32} {L' : List (Nat × Value)} (hd : decode code pc = .ok (.iinc i n, 3)) (hn : Nat.ble (i + 1) 4 = true) (j : Nat) (hj : L[j]? = some (i, .int x)) (hv : x + Int32.ofInt n = v) (hL : (i, Value.int v) :: L.filter (fun q => !(q.1 == i) && !(q.1 + 1 == i && q.2.category == 2)) = L') (k : LWP X ad b Ln xs (pc + 3) L' S σ τ) : LWP X ad b Ln xs pc L S σ τ := fun p e s m below meth c H locs ls B hP hQ hS hl => lv_iinc B.1 B.2.1 hd hl hj hv (Nat.le_of_ble_eq_true hn) hL (fun ls hl => k p e s m below meth c H locs ls B hP hQ hS hl)
theorem lq_iadd {x y : Int32} (hd : decode code pc = .ok (.iadd, 1))  (k : LWP X ad b Ln xs (pc + 1) L (.int (x + y) :: S) σ τ) : LWP X ad b Ln xs pc L (.int y :: .int x :: S) σ τ := fun p e s m below meth c H locs ls B hP hQ hS hl => lv_iadd B.1 B.2.1 hd  (k p e s m below meth c H locs ls B hP hQ hS hl)
theorem lq_isub {x y : Int32} (hd : decode code pc = .ok (.isub, 1))  (k : LWP X ad b Ln xs (pc + 1) L (.int (x - y) :: S) σ τ) : LWP X ad b Ln xs pc L (.int y :: .int x :: S) σ τ := fun p e s m below meth c H locs ls B hP hQ hS hl => lv_isub B.1 B.2.1 hd  (k p e s m below meth c H locs ls B hP hQ hS hl)
theorem lq_iand {x y : Int32} (hd : decode code pc = .ok (.iand, 1))  (k : LWP X ad b Ln xs (pc + 1) L (.int (x &&& y) :: S) σ τ) : LWP X ad b Ln xs pc L (.int y :: .int x :: S) σ τ := fun p e s m below meth c H locs ls B hP hQ hS hl => lv_iand B.1 B.2.1 hd  (k p e s m below meth c H locs ls B hP hQ hS hl)
theorem lq_icmp_eq {x y : Int32} {off : Int} (tgt : Nat) (hd : decode code pc = .ok (.if_icmp .eq off, 3)) (ht : (pc : Int) + off = (tgt : Int)) (kt : x = y → LWP X ad b Ln xs tgt L S σ τ) (kf : ¬ (x = y) → LWP X ad b Ln xs (pc + 3) L S σ τ) : LWP X ad b Ln xs pc L (.int y :: .int x :: S) σ τ := fun p e s m below meth c H locs ls B hP hQ hS hl => lv_icmp_eq B.1 B.2.1 hd ht (fun h => kt h p e s m below meth c H locs ls B hP hQ hS hl) (fun h => kf h p e s m below meth c H locs ls B hP hQ hS hl)
theorem lq_icmp_gt {x y : Int32} {off : Int} (tgt : Nat) (hd : decode code pc = .ok (.if_icmp .gt off, 3)) (ht : (pc : Int) + off = (tgt : Int)) (kt : y < x → LWP X ad b Ln xs tgt L S σ τ) (kf : ¬ (y < x) → LWP X ad b Ln xs (pc + 3) L S σ τ) : LWP X ad b Ln xs pc L (.int y :: .int x :: S) σ τ := fun p e s m below meth c H locs ls B hP hQ hS hl => lv_icmp_gt B.1 B.2.1 hd ht (fun h => kt h p e s m below meth c H locs ls B hP hQ hS hl) (fun h => kf h p e s m below meth c H locs ls B hP hQ hS hl)
theorem lq_if_eq {x : Int32} {off : Int} (tgt : Nat) (hd : decode code pc = .ok (.ifCond .eq off, 3)) (ht : (pc : Int) + off = (tgt : Int)) (kt : x = 0 → LWP X ad b Ln xs tgt L S σ τ) (kf : ¬ (x = 0) → LWP X ad b Ln xs (pc + 3) L S σ τ) : LWP X ad b Ln xs pc L (.int x :: S) σ τ := fun p e s m below meth c H locs ls B hP hQ hS hl => lv_if_eq B.1 B.2.1 hd ht (fun h => kt h p e s m below meth c H locs ls B hP hQ hS hl) (fun h => kf h p e s m below meth c H locs ls B hP hQ hS hl)
theorem lq_lcmp {x y : Int64} (hd : decode code pc = .ok (.lcmp, 1))  (k : LWP X ad b Ln xs (pc + 1) L (.int (lg_cmp x y) :: S) σ τ) : LWP X ad b Ln xs pc L (.long y :: .long x :: S) σ τ := fun p e s m below meth c H locs ls B hP hQ hS hl => W.lcmp B.1 B.2.1 hd  (k p e s m below meth c H locs ls B hP hQ hS hl)
theorem lq_goto {off : Int} (tgt : Nat) (hd : decode code pc = .ok (.goto off, 3)) (ht : (pc : Int) + off = (tgt : Int)) (k : LWP X ad b Ln xs tgt L S σ τ) : LWP X ad b Ln xs pc L S σ τ := fun p e s m below meth c H locs ls B hP hQ hS hl => lv_goto B.1 B.2.1 hd ht (k p e s m below meth c H locs ls B hP hQ hS hl)
theorem lq_tableOut {dflt lo hi : Int} {offs : Array Int} {len : Nat} {x : Int32} (tgt : Nat) (hd : decode code pc = .ok (.tableswitch dflt lo hi offs, len)) (h : x.toInt < lo ∨ hi < x.toInt) (ht : (pc : Int) + dflt = (tgt : Int)) (k : LWP X ad b Ln xs tgt L S σ τ) : LWP X ad b Ln xs pc L (.int x :: S) σ τ := fun p e s m below meth c H locs ls B hP hQ hS hl => lv_tableOut B.1 B.2.1 hd h ht (k p e s m below meth c H locs ls B hP hQ hS hl)
theorem lq_tableIn {dflt lo hi : Int} {offs : Array Int} {len : Nat} {x : Int32} {off : Int} (tgt : Nat) (hd : decode code pc = .ok (.tableswitch dflt lo hi offs, len)) (h1 : ¬ x.toInt < lo) (h2 : ¬ hi < x.toInt) (ho : offs[(x.toInt - lo).toNat]? = some off) (ht : (pc : Int) + off = (tgt : Int)) (k : LWP X ad b Ln xs tgt L S σ τ) : LWP X ad b Ln xs pc L (.int x :: S) σ τ := fun p e s m below meth c H locs ls B hP hQ hS hl => lv_tableIn B.1 B.2.1 hd h1 h2 ho ht (k p e s m below meth c H locs ls B hP hQ hS hl)
theorem lq_sld {i : Int32} (hd : decode code pc = .ok (.iaload, 1)) (hi : vp_in i Ln) (k : LWP X ad b Ln xs (pc + 1) L (.int (xs i.toNatClampNeg) :: S) σ τ) : LWP X ad b Ln xs pc L (.int i :: .ref b :: S) σ τ := by
  intro p e s m below meth c H locs ls B hP hQ hS hl
  obtain ⟨-, -, -, -, -, -, -, -, hX, hbl, -⟩ := id B
  exact va_sld B.1 B.2.1 hX hbl (Nat.not_le.mpr hbl) hS hi hd (k p e s m below meth c H locs ls B hP hQ hS hl)
theorem lq_slen (hd : decode code pc = .ok (.arraylength, 1)) (k : LWP X ad b Ln xs (pc + 1) L (.int (Int32.ofNat Ln) :: S) σ τ) : LWP X ad b Ln xs pc L (.ref b :: S) σ τ := by
  intro p e s m below meth c H locs ls B hP hQ hS hl
  obtain ⟨-, -, -, -, -, -, -, -, hX, hbl, -⟩ := id B
  exact va_slen B.1 B.2.1 hX hbl (Nat.not_le.mpr hbl) hS hd (k p e s m below meth c H locs ls B hP hQ hS hl)
theorem lq_ret (hd : decode code pc = .ok (.ireturn, 1)) : LWP X ad b Ln xs pc L [.int 1] σ τ := by
  intro p e s m below meth c H locs ls B hP hQ hS hl
  refine va_forget (fun q hq => hS.2.2 q hq) ?_
  exact lw_ret B.1 B.2.1 B.2.2.2.2.2.2.1 B.2.2.2.2.2.1 hd
/-- behind a call: the world Z is the callee's, what lies outside it stays -/
theorem lcore {Z : Amb} {sh : List Shc} {N : MT} {w : Value} {μ : Mem} {rest st0 : List Value} {Q : State → Prop} {p : Program} {e : Env} {s : State} {m : MethodId} {below : List Frame} {meth : Method} {c : Code} {H : Heap} {locs : List Loc} {ls : Array Slot} {a : Array Value} {l : Launch}
    (hr : va_Run p l e room_1 s m #[Value.ref b] below meth c H locs 600000 7302250 0 0 (F0 m pc ls st0) rest (QcM Z (mtS N) (fun v σ' => v = some w ∧ σ' = μ) a) (AX Z (mtS N))) (hN : mtS N = sh) (hS : va_S (fun q => s.heap.size ≤ q) s.heap H locs) (hA : ∀ q, AX Z sh q → s.heap.size ≤ q)
    (kk : ∀ (H1 : Heap) (locs1 : List Loc), va_P Z.2.2.2 cls (wl Z μ 0 sh) H1 → (∀ q : Nat, q < H.size → ¬ AX Z sh q → H1[q]? = H[q]?) → va_S (fun q => s.heap.size ≤ q) s.heap H1 locs1 → W p l e room_1 s m #[Value.ref b] below meth c H1 locs1 600000 7302250 Q (F0 m (pc + 3) ls (w :: rest))) : W p l e room_1 s m #[Value.ref b] below meth c H locs 600000 7302250 Q (F0 m pc ls st0) := by
  intro T hT XX
  obtain ⟨v, st₀, t, T', L1, h0, X', hL, e1, e2, ⟨v', σ', hv, ⟨hp1, hp2⟩, hPn, hz, hk⟩, st⟩ := hr T hT XX
  cases hv
  subst hp1
  subst hp2
  rw [h0] at hz hk
  rw [hN] at hPn hk hL
  obtain ⟨t2, a1, b1⟩ := kk T'.heap (locs ++ L1) (by rw [e1]; exact hPn) (fun q h1 h2 => by rw [e1]; exact hk q h1 h2)
    ⟨Nat.le_trans hS.1 (by rw [e1]; exact hz), fun q h1 h2 => by rw [e1, hk q (Nat.lt_of_lt_of_le h1 hS.1) (fun z => h2 (hA q z))]; exact hS.2.1 q h1 h2, fun q hq => by
      rcases List.mem_append.mp hq with h | h
      · exact hS.2.2 q h
      · exact hA _ (hL q h)⟩ T' rfl X'
  exact ⟨t2, st t2 a1, b1⟩
theorem lq_callX {N : MT} {idx n : Nat} {As rest : List Value} {w : Value} {σ' : Mem} (hd : decode code pc = .ok (.invokevirtual idx, 3)) (hk : Cond.methodLink R_law idx (mtY N) ∈ gtb) (hM : MokV N n) (hn : As.length = n) (hN : mtS N = shC) (hC : (mtY N).cls = RX8) (hR : Nat.ble (mtF N + 1) 9 = true) (hR2 : Nat.ble (8 + (mtN N + 11) + mtLo N) 324 = true) (hw : Nat.ble ((rest.map fun v => v.category).sum) 8 = true) (hSp : SpW X N (.ref (adr X 0) :: As) σ w σ')
    (kk : LWP X ad b Ln xs (pc + 3) L (w :: rest) σ' τ) : LWP X ad b Ln xs pc L (As.reverse ++ .ref (adr X 0) :: rest) σ τ := by
  intro p e s m below meth c H locs ls B hP hQ hS hl
  have hts := B.2.2.2.2.1
  obtain ⟨-, -, -, -, -, -, -, hK, -, -, hSt, hDX, hDY, hAX, hAY, hXY⟩ := id B
  have he := wl_at (X := X) (σ := σ) (sh := shC) (k := 0) rfl
  rw [cel_obj (by decide)] at he
  have hrec := va_recv hK hP (ci := 8) (q := (RX8, TX8, 13)) rfl he
  rw [← hC] at hrec
  have hpre : ∀ U : State, U.heap = H → s.WarmedH U.vm → PcM X N (.ref (adr X 0) :: As) σ (Value.ref (adr X 0) :: As).toArray U := by
    intro U hU hW
    refine ⟨rfl, ?_, va_K.moved hW.alike hK, ?_, ?_⟩
    · rw [hU, hN]; exact hP
    · rw [hN]; exact hDX
    · rw [hU, hN]
      refine Stc.moved hW.alike (fun h39 j hj => ?_)
      obtain ⟨z1, z2⟩ := hSt h39 j hj
      have hb1 : ∀ a : Nat, a < s.heap.size → ¬ AX X shC a → H[a]? = s.heap[a]? := fun a g1 _ => hS.2.1 a g1 (Nat.not_le.mpr g1)
      exact ⟨va_Z.kept z1 hb1, va_T.kept z2 hb1⟩
  refine lcore (Z := X) (sh := shC) (N := N) (va_runV (As := As) (rest := rest) ⟨B.1, B.2.1, B.2.2.1, B.2.2.2.1, hts⟩ hSp ⟨callB_of n hts (mok_good hM.1) rfl rfl rfl (hts _ hM.1.2.1) (hts _ hk) hM.1.2.2 ⟨Nat.le_of_ble_eq_true hR, Nat.le_of_ble_eq_true hR2⟩, hts _ hM.2.1, hts _ hM.2.2⟩ ⟨pcm_blind, hrec, hpre⟩ rfl hn hl.1 rfl (lv_room (Nat.le_of_ble_eq_true hw)) hd ⟨Nat.le_refl _, Nat.le_refl _⟩) hN hS hAX (fun H1 locs1 hP1 hk1 hS1 => ?_)
  exact kk p e s m below meth c H1 locs1 ls B hP1 (hQ.kept (fun k q hq => hk1 q.1 ((hQ k q hq).lt) (fun z => hXY q.1 z ⟨k, (wl_fst hq).1, (wl_fst hq).2⟩))) hS1 hl
theorem lq_callY {N : MT} {idx n : Nat} {As rest : List Value} {w : Value} {τ' : Mem} (hd : decode code pc = .ok (.invokevirtual idx, 3)) (hk : Cond.methodLink R_law idx (mtY N) ∈ gtb) (hM : MokV N n) (hn : As.length = n) (hN : mtS N = shM) (hC : (mtY N).cls = RX9) (hR : Nat.ble (mtF N + 1) 9 = true) (hR2 : Nat.ble (8 + (mtN N + 11) + mtLo N) 324 = true) (hw : Nat.ble ((rest.map fun v => v.category).sum) 8 = true) (hSp : SpW (YY X ad) N (.ref (adr (YY X ad) 0) :: As) τ w τ')
    (kk : LWP X ad b Ln xs (pc + 3) L (w :: rest) σ τ') : LWP X ad b Ln xs pc L (As.reverse ++ .ref (ad 0) :: rest) σ τ := by
  intro p e s m below meth c H locs ls B hP hQ hS hl
  have hts := B.2.2.2.2.1
  obtain ⟨-, -, -, -, -, -, -, hK, -, -, hSt, hDX, hDY, hAX, hAY, hXY⟩ := id B
  have he := wl_at (X := YY X ad) (σ := τ) (sh := shM) (k := 0) rfl
  rw [cel_obj (by decide)] at he
  have hrec := va_recv hK hQ (ci := 9) (q := (RX9, TX9, 29)) rfl he
  rw [← hC] at hrec
  have hpre : ∀ U : State, U.heap = H → s.WarmedH U.vm → PcM (YY X ad) N (.ref (adr (YY X ad) 0) :: As) τ (Value.ref (adr (YY X ad) 0) :: As).toArray U := by
    intro U hU hW
    refine ⟨rfl, ?_, va_K.moved hW.alike hK, ?_, ?_⟩
    · rw [hU, hN]; exact hQ
    · rw [hN]; exact hDY
    · rw [hU, hN]
      exact fun h39 => absurd h39 (by decide)
  refine lcore (Z := YY X ad) (sh := shM) (N := N) (va_runV (As := As) (rest := rest) ⟨B.1, B.2.1, B.2.2.1, B.2.2.2.1, hts⟩ hSp ⟨callB_of n hts (mok_good hM.1) rfl rfl rfl (hts _ hM.1.2.1) (hts _ hk) hM.1.2.2 ⟨Nat.le_of_ble_eq_true hR, Nat.le_of_ble_eq_true hR2⟩, hts _ hM.2.1, hts _ hM.2.2⟩ ⟨pcm_blind, hrec, hpre⟩ rfl hn hl.1 rfl (lv_room (Nat.le_of_ble_eq_true hw)) hd ⟨Nat.le_refl _, Nat.le_refl _⟩) hN hS hAY (fun H1 locs1 hQ1 hk1 hS1 => ?_)
  exact kk p e s m below meth c H1 locs1 ls B (hP.kept (fun k q hq => hk1 q.1 ((hP k q hq).lt) (fun z => hXY q.1 ⟨k, (wl_fst hq).1, (wl_fst hq).2⟩ z))) hQ1 hS1 hl
theorem law_in {i t : Nat} {v : Int32} (hv : v = nI t) (h : i + t < Ln) (hL : Ln ≤ 3072) : vp_in (nI i + v) Ln := by
  rw [hv, nI_add]
  exact vp_in_nI h (by omega)
theorem cmp_same (x : Int64) : lg_cmp x x = 0 := by
  unfold lg_cmp
  rw [if_neg (by rw [gt_iff_lt, Int64.lt_iff_toInt_lt]; omega), if_pos rfl]
theorem cmp_eq {x y : Int64} (h : x = y) : lg_cmp x y = 0 := by rw [h]; exact cmp_same y
end LROWS
