theorem tac_I : Cond.arrayClass .int ∈ gtb := gtb_in (List.mem_append_right _ (List.mem_of_getElem? (i := 37) (by decide +kernel))) rfl
theorem tac_Z : Cond.arrayClass .boolean ∈ gtb := gtb_in (List.mem_append_right _ (List.mem_of_getElem? (i := 82) (by decide +kernel))) rfl
theorem tob_i : Cond.instanceMethod Lib.objectInit ∈ gtb := gtb_in (List.mem_append_right _ (List.mem_of_getElem? (i := 19) (by decide +kernel))) rfl
theorem tob_c : Cond.code Lib.objectInit ⟨#[0xb1]⟩ 1 none ∈ gtb := gtb_in (List.mem_append_right _ (List.mem_of_getElem? (i := 20) rfl)) rfl
theorem tcl_s : Cond.sameMethod "[I" "java/lang/Object" "clone" "()Ljava/lang/Object;" ∈ gtb := gtb_in (List.mem_append_right _ (List.mem_of_getElem? (i := 96) (by decide +kernel))) rfl
theorem tcl_n : Cond.native ⟨"java/lang/Object", "clone", "()Ljava/lang/Object;"⟩ ∈ gtb := gtb_in (List.mem_append_right _ (List.mem_of_getElem? (i := 97) (by decide +kernel))) rfl
theorem tcl_i : Cond.instanceMethod ⟨"java/lang/Object", "clone", "()Ljava/lang/Object;"⟩ ∈ gtb := gtb_in (List.mem_append_right _ (List.mem_of_getElem? (i := 98) (by decide +kernel))) rfl
theorem tcl_e : Cond.selects "[I" ⟨"[I", "clone", "()Ljava/lang/Object;"⟩ ⟨"java/lang/Object", "clone", "()Ljava/lang/Object;"⟩ ∈ gtb := gtb_in (List.mem_append_right _ (List.mem_of_getElem? (i := 99) (by decide +kernel))) rfl
/-! ===== constructors: worlds of explicit cells that grow; one judgement CP over them ===== -/
def nwl : List (Nat × MethodName) := [(23, yX1_init), (30, yX6_init), (71, yX4_init), (78, yX0_init), (85, yX2_init), (96, yX5_init)]
/-- words of the tables that a callee doesn't take over by itself -/
def NW (U : State) : Prop := (∀ q ∈ nwl, va_Nw (.methodLinkNest RX8 q.1 q.2 RX8) U) ∧ va_Nw (.castable "[I" "java/lang/Cloneable") U ∧ va_AO "PushedOver$Sheet" U
theorem NW.warm {s U : State} (hW : s.WarmedH U.vm) (h : NW s) : NW U := ⟨fun q hq => va_Nw.warmM hW (h.1 q hq), va_Nw.warmC hW h.2.1, va_AO.moved hW.alike h.2.2⟩
theorem NW.call {U : State} (h : NW U) (g : JFrame) (mk : MethodId) (a : Array Value) : NW (U.calling g mk a) := ⟨fun q hq => va_Nw.same (u := U) rfl rfl (h.1 q hq), va_Nw.same (u := U) rfl rfl h.2.1, va_AO.moved (u := U) (U := U.calling g mk a) (Vm.Alike.refl U.vm) h.2.2⟩
/-- the static tables, from z0 on the cells are new -/
def StT (X : Amb) (z0 : Nat) (U : State) (H : Heap) : Prop := ∀ j : Nat, j < 7 →
  va_Z RX8 (stn j) "[I" (.ref (adr X (100 + j))) (fun q => z0 ≤ q) U H ∧ va_T .int (adr X (100 + j)) (stv j).length (fun i => .int ((stv j).getD i 0)) (fun q => z0 ≤ q) U H ∧ ∃ cell : Cell, H[adr X (100 + j)]? = some cell ∧ cell.cls = X.2.2.1 0 ∧ cell.slots.size = (stv j).length
theorem StT.moved {X : Amb} {z0 : Nat} {u U : State} {H : Heap} (hvm : u.vm.Alike U.vm) (h : StT X z0 u H) : StT X z0 U H := fun j hj => ⟨va_Z.moved hvm (h j hj).1, va_T.moved hvm (h j hj).2.1, (h j hj).2.2⟩
theorem StT.kept {X : Amb} {z0 : Nat} {U : State} {H H1 : Heap} (h : StT X z0 U H) (hq : ∀ a : Nat, a < H.size → ¬ z0 ≤ a → H1[a]? = H[a]?) : StT X z0 U H1 := by
  intro j hj
  obtain ⟨h1, h2, cell, h3, h4⟩ := h j hj
  have hn : ¬ z0 ≤ adr X (100 + j) := by
    obtain ⟨_, _, _, _, _, _, _, h7⟩ := h2
    exact h7
  exact ⟨va_Z.kept h1 hq, va_T.kept h2 hq, cell, by rw [hq _ (Array.getElem?_eq_some_iff.mp h3).1 hn]; exact h3, h4⟩
def Bc (X : Amb) (z0 : Nat) (e0 : Nat × va_E) (M : MT) (p : Program) (s : State) (m : MethodId) (args : Array Value) (meth : Method) (c : Code) : Prop :=
  p.tables.exec = Jvm.exec ∧ c.code = mtC M ∧ c.maxLocals = mtN M ∧ s.vm.findClass (mtY M).cls = some m.cls ∧ (∀ w ∈ gtb, w.before args s = true) ∧ meth.locks = false ∧ meth.sig.returnType = mtR M ∧ va_K X.2.2.2 cls (tysX X) s ∧ meth.name = "<init>" ∧ NW s ∧ StT X z0 s s.heap ∧ z0 ≤ e0.1 ∧ z0 ≤ s.heap.size
def rmC (M : MT) (mc ms : Nat) : Room := { frames := mtF M, cells := mc, slots := ms, locals := mtLo M }
def QcC (X : Amb) (e0 : Nat × va_E) (post : va_W → Prop) : Array Value → State → Outcome → State → Prop := fun _ st oc t => ∃ w1 : va_W, oc = .returned none ∧ post w1 ∧ va_P X.2.2.2 cls w1 t.heap ∧ va_D (va_A [e0] st.heap.size) w1 ∧ va_F (va_A [e0] st.heap.size) st t
def PcC (X : Amb) (z0 : Nat) (e0 : Nat × va_E) (As : List Value) (sz : Nat) : Array Value → State → Prop := va_Pc As (fun U => U.heap.size = sz ∧ va_P X.2.2.2 cls [e0] U.heap ∧ va_K X.2.2.2 cls (tysX X) U ∧ NW U ∧ StT X z0 U U.heap ∧ z0 ≤ e0.1)
/-- a constructor's contract: over the one cell e0 it returns, its world then is one of post -/
def SpC (X : Amb) (z0 : Nat) (M : MT) (mc ms : Nat) (e0 : Nat × va_E) (As : List Value) (sz : Nat) (post : va_W → Prop) : Prop := Met X.1 (mtY M) (wsM M) (rmC M mc ms) (PcC X z0 e0 As sz) (QcC X e0 post) mc ms (va_A [e0] sz)
def CP (X : Amb) (z0 : Nat) (M : MT) (mc ms : Nat) (e0 : Nat × va_E) (pc : Nat) (L : List (Nat × Value)) (S : List Value) (ws : va_W) (kc kn : Nat) (post : va_W → Prop) : Prop :=
  ∀ (p : Program) (e : Env) (s : State) (m : MethodId) (args : Array Value) (below : List Frame) (meth : Method) (c : Code) (H : Heap) (locs : List Loc) (ls : Array Slot), Bc X z0 e0 M p s m args meth c → va_P X.2.2.2 cls ws H → va_D (va_A [e0] s.heap.size) ws → va_S (va_A [e0] s.heap.size) s.heap H locs → lv_has ls (mtN M) L →
    W p X.1 e (rmC M mc ms) s m args below meth c H locs kc kn (MQ below (QcC X e0 post) args s mc ms (va_A [e0] s.heap.size)) (F0 m pc ls S)
theorem va_D1 (e0 : Nat × va_E) (z : Nat) : va_D (va_A [e0] z) [e0] := by
  refine ⟨fun i j p q hi hj _ => ?_, fun k q hk => va_A.in hk⟩
  have h1 := (List.getElem?_eq_some_iff.mp hi).1
  have h2 := (List.getElem?_eq_some_iff.mp hj).1
  simp only [List.length_cons, List.length_nil] at h1 h2
  omega
theorem spc_of {X : Amb} {z0 : Nat} {M : MT} {mc ms : Nat} {e0 : Nat × va_E} {As : List Value} {sz : Nat} {post : va_W → Prop} (hy : plainName (mtY M).cls = true) (hi : (mtY M).name = "<init>") (hn : Nat.ble (lg_sl As).length (mtN M) = true) (h : CP X z0 M mc ms e0 0 (lv_args 0 As) [] [e0] 0 0 post) : SpC X z0 M mc ms e0 As sz post := by
  refine Met.ofW (cc := mtC M) (maxL := mtN M) (ret := mtR M) hy rfl ?_
  intro p e s m args below meth c s₁ B hml hv
  obtain ⟨rfl, hsz, hP, hK, hN, hSt, hz⟩ := hv
  subst hsz
  have hts := atoms_spec (ws := wsM M) B.pre
  have hown : s.vm.findClass (mtY M).cls = some m.cls := findClass_of_methodNamed B.named
  have hin : meth.name = "<init>" := (name_of_methodNamed B.named B.method).1.trans hi
  have hlt : e0.1 < s.heap.size := (hP 0 e0 rfl).lt
  have hl := lv_entry As (n := mtN M) (Nat.le_of_ble_eq_true hn)
  rw [lg_entry_eq]
  exact h p e s m As.toArray below meth c s.heap [] _ ⟨B.exec, B.bytes, hml, hown, fun w hw => hts w (List.mem_cons_of_mem _ hw), B.notSynchronized, B.returns, hK, hin, hN, hSt, hz, by omega⟩ hP (va_D1 e0 _) va_S.rf hl
/-- entry idx of class own's pool names field j of class ci, final, and v may stand there -/
def FIv (own : String) (idx ci j : Nat) (v : Value) : Prop := ∃ (C : String) (T : u_T) (N : Nat) (ty : FieldType), Cok ci C T N ∧ j < N ∧ Cond.fieldLink own idx (T j).1 (T j).2.1 (T j).2.2.1 ∈ gtb ∧ (T j).2.2.2 = true ∧ (T j).1 = own ∧ parseFieldDescriptor (T j).2.2.1 = some ty ∧ narrow ty v = v ∧ fits ty v = true
def FNv (own : String) (idx ci j : Nat) (v : Value) : Prop := ∃ (C : String) (T : u_T) (N : Nat) (ty : FieldType), Cok ci C T N ∧ j < N ∧ Cond.fieldLink own idx (T j).1 (T j).2.1 (T j).2.2.1 ∈ gtb ∧ (T j).2.2.2 = false ∧ parseFieldDescriptor (T j).2.2.1 = some ty ∧ narrow ty v = v ∧ fits ty v = true
/-- entry idx of class own's pool names class ci, whose new object has the fields fs -/
def CNw (own : String) (idx ci N : Nat) (fs : List Value) : Prop := ∃ (C : String) (T : u_T) (ty : Nat → FieldType), cls[ci]? = some (C, T, N) ∧ (∀ w ∈ u_ws C T N, w ∈ gtb) ∧ (∀ k, k < N → parseFieldDescriptor (T k).2.2.1 = some (ty k)) ∧ Cond.classLink own idx C ∈ gtb ∧ Cond.instantiable C N ∈ gtb ∧ Cond.initialized C ∈ gtb ∧ ∀ j, j < N → defaultValue (ty j) = vp_V fs j
section CROWS
variable {X : Amb} {z0 : Nat} {M : MT} {mc ms : Nat} {e0 : Nat × va_E} {pc : Nat} {L : List (Nat × Value)} {S : List Value} {ws : va_W} {kc kn : Nat} {post : va_W → Prop}
theorem cp_iconst {n : Int} {v : Int32} (hd : decode (mtC M) pc = .ok (.iconst n, 1)) (hv : Int32.ofInt n = v) (k : CP X z0 M mc ms e0 (pc + 1) L (.int v :: S) ws kc kn post) : CP X z0 M mc ms e0 pc L (S) ws kc kn post := fun p e s m args below meth c H locs ls B hP hD hS hl => lv_iconst B.1 B.2.1 hd hv (k p e s m args below meth c H locs ls B hP hD hS hl)
theorem cp_bipush {n : Int} {v : Int32} (hd : decode (mtC M) pc = .ok (.bipush n, 2)) (hv : (Int8.ofInt n).toInt32 = v) (k : CP X z0 M mc ms e0 (pc + 2) L (.int v :: S) ws kc kn post) : CP X z0 M mc ms e0 pc L (S) ws kc kn post := fun p e s m args below meth c H locs ls B hP hD hS hl => lv_bipush B.1 B.2.1 hd hv (k p e s m args below meth c H locs ls B hP hD hS hl)
theorem cp_sipush {n : Int} {v : Int32} (hd : decode (mtC M) pc = .ok (.sipush n, 3)) (hv : (Int16.ofInt n).toInt32 = v) (k : CP X z0 M mc ms e0 (pc + 3) L (.int v :: S) ws kc kn post) : CP X z0 M mc ms e0 pc L (S) ws kc kn post := fun p e s m args below meth c H locs ls B hP hD hS hl => lv_sipush B.1 B.2.1 hd hv (k p e s m args below meth c H locs ls B hP hD hS hl)
theorem cp_iload_n {n : Fin 4} {x : Int32} (hd : decode (mtC M) pc = .ok (.iload_n n, 1)) (i : Nat) (hL : L[i]? = some ((n : Nat), .int x)) (k : CP X z0 M mc ms e0 (pc + 1) L (.int x :: S) ws kc kn post) : CP X z0 M mc ms e0 pc L (S) ws kc kn post := fun p e s m args below meth c H locs ls B hP hD hS hl => lv_iload_n B.1 B.2.1 hd rfl (lv_at hl i hL) (k p e s m args below meth c H locs ls B hP hD hS hl)
theorem cp_aload_n {n : Fin 4} {x : Nat} (hd : decode (mtC M) pc = .ok (.aload_n n, 1)) (i : Nat) (hL : L[i]? = some ((n : Nat), .ref x)) (k : CP X z0 M mc ms e0 (pc + 1) L (.ref x :: S) ws kc kn post) : CP X z0 M mc ms e0 pc L (S) ws kc kn post := fun p e s m args below meth c H locs ls B hP hD hS hl => lv_aload_n B.1 B.2.1 hd rfl (lv_at hl i hL) (k p e s m args below meth c H locs ls B hP hD hS hl)
theorem cp_istore_n {n : Fin 4} {x : Int32} {L' : List (Nat × Value)} (hd : decode (mtC M) pc = .ok (.istore_n n, 1)) (hn : Nat.ble ((n : Nat) + 1) (mtN M) = true) (hL : ((n : Nat), Value.int x) :: L.filter (fun q => !(q.1 == (n : Nat)) && !(q.1 + 1 == (n : Nat) && q.2.category == 2)) = L') (k : CP X z0 M mc ms e0 (pc + 1) L' S ws kc kn post) : CP X z0 M mc ms e0 pc L (Value.int x :: S) ws kc kn post := fun p e s m args below meth c H locs ls B hP hD hS hl => lv_istore_n B.1 B.2.1 hd rfl hl (Nat.le_of_ble_eq_true hn) hL (fun ls hl => k p e s m args below meth c H locs ls B hP hD hS hl)
theorem cp_iinc {i : Nat} {n : Int} {x v : Int32} {L' : List (Nat × Value)} (hd : decode (mtC M) pc = .ok (.iinc i n, 3)) (hn : Nat.ble (i + 1) (mtN M) = true) (j : Nat) (hj : L[j]? = some (i, .int x)) (hv : x + Int32.ofInt n = v) (hL : (i, Value.int v) :: L.filter (fun q => !(q.1 == i) && !(q.1 + 1 == i && q.2.category == 2)) = L') (k : CP X z0 M mc ms e0 (pc + 3) L' S ws kc kn post) : CP X z0 M mc ms e0 pc L S ws kc kn post := fun p e s m args below meth c H locs ls B hP hD hS hl => lv_iinc B.1 B.2.1 hd hl hj hv (Nat.le_of_ble_eq_true hn) hL (fun ls hl => k p e s m args below meth c H locs ls B hP hD hS hl)
theorem cp_iadd {x y : Int32} (hd : decode (mtC M) pc = .ok (.iadd, 1))  (k : CP X z0 M mc ms e0 (pc + 1) L (.int (x + y) :: S) ws kc kn post) : CP X z0 M mc ms e0 pc L (.int y :: .int x :: S) ws kc kn post := fun p e s m args below meth c H locs ls B hP hD hS hl => lv_iadd B.1 B.2.1 hd  (k p e s m args below meth c H locs ls B hP hD hS hl)
theorem cp_imul {x y : Int32} (hd : decode (mtC M) pc = .ok (.imul, 1))  (k : CP X z0 M mc ms e0 (pc + 1) L (.int (x * y) :: S) ws kc kn post) : CP X z0 M mc ms e0 pc L (.int y :: .int x :: S) ws kc kn post := fun p e s m args below meth c H locs ls B hP hD hS hl => lv_imul B.1 B.2.1 hd  (k p e s m args below meth c H locs ls B hP hD hS hl)
theorem cp_dup {v : Value} (hd : decode (mtC M) pc = .ok (.dup, 1)) (hv : v.category = 1) (k : CP X z0 M mc ms e0 (pc + 1) L (v :: v :: S) ws kc kn post) : CP X z0 M mc ms e0 pc L (v :: S) ws kc kn post := fun p e s m args below meth c H locs ls B hP hD hS hl => lv_dup B.1 B.2.1 hd hv (k p e s m args below meth c H locs ls B hP hD hS hl)
theorem cp_icmp_ge {x y : Int32} {off : Int} (tgt : Nat) (hd : decode (mtC M) pc = .ok (.if_icmp .ge off, 3)) (ht : (pc : Int) + off = (tgt : Int)) (kt : y ≤ x → CP X z0 M mc ms e0 tgt L S ws kc kn post) (kf : ¬ (y ≤ x) → CP X z0 M mc ms e0 (pc + 3) L S ws kc kn post) : CP X z0 M mc ms e0 pc L (.int y :: .int x :: S) ws kc kn post := fun p e s m args below meth c H locs ls B hP hD hS hl => lv_icmp_ge B.1 B.2.1 hd ht (fun h => kt h p e s m args below meth c H locs ls B hP hD hS hl) (fun h => kf h p e s m args below meth c H locs ls B hP hD hS hl)
theorem cp_goto {off : Int} (tgt : Nat) (hd : decode (mtC M) pc = .ok (.goto off, 3)) (ht : (pc : Int) + off = (tgt : Int)) (k : CP X z0 M mc ms e0 tgt L S ws kc kn post) : CP X z0 M mc ms e0 pc L S ws kc kn post := fun p e s m args below meth c H locs ls B hP hD hS hl => lv_goto B.1 B.2.1 hd ht (k p e s m args below meth c H locs ls B hP hD hS hl)
theorem cp_new {idx ci N : Nat} {fs : List Value} (hd : decode (mtC M) pc = .ok (.new idx, 3)) (hC : CNw (mtY M).cls idx ci N fs) (h1 : Nat.ble (kc + 1) mc = true) (h2 : Nat.ble (kn + N) ms = true) (k : ∀ q : Nat, CP X z0 M mc ms e0 (pc + 3) L (.ref q :: S) (ws ++ [(q, .inr (ci, fs))]) (kc + 1) (kn + N) post) : CP X z0 M mc ms e0 pc L S ws kc kn post := by
  intro p e s m args below meth c H locs ls B hP hD hS hl
  obtain ⟨C, T, ty, c1, c2, c3, c4, c5, c6, c7⟩ := hC
  have hts := B.2.2.2.2.1
  exact va_new (D := X.2.2.2) (ci := ci) (fs := fs) (C := C) (T := T) (N := N) B.1 B.2.1 hts c2 ty c3 B.2.2.2.1 (hts _ c4) (hts _ c5) (hts _ c6) B.2.2.2.2.2.2.2.1 hP hD hS (fun q h => Or.inr h) c1 c7 (Nat.le_of_ble_eq_true h1) (Nat.le_of_ble_eq_true h2) hd (fun q H1 hP1 hD1 hS1 => k q p e s m args below meth c H1 locs ls B hP1 hD1 hS1 hl)
theorem cp_newI {v : Int32} {N : Nat} (hd : decode (mtC M) pc = .ok (.newarray .int, 2)) (hv : ¬ v < 0) (hN : v.toNatClampNeg = N) (hb : Nat.ble N 1000 = true) (h1 : Nat.ble (kc + 1) mc = true) (h2 : Nat.ble (kn + N) ms = true) (k : ∀ q : Nat, CP X z0 M mc ms e0 (pc + 2) L (.ref q :: S) (ws ++ [(q, .inl (X.2.2.1 0, N, .inl (fun _ => 0)))]) (kc + 1) (kn + N) post) : CP X z0 M mc ms e0 pc L (.int v :: S) ws kc kn post := by
  intro p e s m args below meth c H locs ls B hP hD hS hl
  have hb2 : N * componentBytes .int ≤ 536870912 := by
    have := Nat.le_of_ble_eq_true hb
    show N * 4 ≤ 536870912
    omega
  refine va_newa (D := X.2.2.2) (atype := .int) (ty := .int) (a0 := (N, .inl (fun _ => 0))) B.1 B.2.1 (B.2.2.2.2.1 _ tac_I) rfl B.2.2.2.2.2.2.2.1 hP hD hS (fun q h => Or.inr h) (fun _ => rfl) hv hN hb2 (Nat.le_of_ble_eq_true h1) (Nat.le_of_ble_eq_true h2) hd (fun q cA H1 hK1 hP1 hD1 hS1 => ?_)
  have g1 : s.vm.findClass ("[" ++ FieldType.int.toString) = some cA := (hK1.2 3 (cA, .int) rfl).2
  have g2 : s.vm.findClass ("[" ++ FieldType.int.toString) = some (X.2.2.1 0) := (B.2.2.2.2.2.2.2.1.2 0 (X.2.2.1 0, .int) rfl).2
  have g3 : cA = X.2.2.1 0 := Option.some.inj (g1.symm.trans g2)
  subst g3
  exact k q p e s m args below meth c H1 locs ls B hP1 hD1 hS1 hl
theorem cp_newZ {v : Int32} {N : Nat} (hd : decode (mtC M) pc = .ok (.newarray .boolean, 2)) (hv : ¬ v < 0) (hN : v.toNatClampNeg = N) (hb : Nat.ble N 1000 = true) (h1 : Nat.ble (kc + 1) mc = true) (h2 : Nat.ble (kn + N) ms = true) (k : ∀ q : Nat, CP X z0 M mc ms e0 (pc + 2) L (.ref q :: S) (ws ++ [(q, .inl (X.2.2.1 1, N, .inl (fun _ => 0)))]) (kc + 1) (kn + N) post) : CP X z0 M mc ms e0 pc L (.int v :: S) ws kc kn post := by
  intro p e s m args below meth c H locs ls B hP hD hS hl
  have hb2 : N * componentBytes .boolean ≤ 536870912 := by
    have := Nat.le_of_ble_eq_true hb
    show N * 1 ≤ 536870912
    omega
  refine va_newa (D := X.2.2.2) (atype := .boolean) (ty := .boolean) (a0 := (N, .inl (fun _ => 0))) B.1 B.2.1 (B.2.2.2.2.1 _ tac_Z) rfl B.2.2.2.2.2.2.2.1 hP hD hS (fun q h => Or.inr h) (fun _ => rfl) hv hN hb2 (Nat.le_of_ble_eq_true h1) (Nat.le_of_ble_eq_true h2) hd (fun q cA H1 hK1 hP1 hD1 hS1 => ?_)
  have g1 : s.vm.findClass ("[" ++ FieldType.boolean.toString) = some cA := (hK1.2 3 (cA, .boolean) rfl).2
  have g2 : s.vm.findClass ("[" ++ FieldType.boolean.toString) = some (X.2.2.1 1) := (B.2.2.2.2.2.2.2.1.2 1 (X.2.2.1 1, .boolean) rfl).2
  have g3 : cA = X.2.2.1 1 := Option.some.inj (g1.symm.trans g2)
  subst g3
  exact k q p e s m args below meth c H1 locs ls B hP1 hD1 hS1 hl
theorem cp_newS {idx : Nat} {v : Int32} {N : Nat} (hd : decode (mtC M) pc = .ok (.anewarray idx, 3)) (hk : Cond.classLink (mtY M).cls idx "PushedOver$Sheet" ∈ gtb) (hv : ¬ v < 0) (hN : v.toNatClampNeg = N) (hb : Nat.ble N 1000 = true) (h1 : Nat.ble (kc + 1) mc = true) (h2 : Nat.ble (kn + N) ms = true) (k : ∀ q : Nat, CP X z0 M mc ms e0 (pc + 3) L (.ref q :: S) (ws ++ [(q, .inl (X.2.2.1 2, N, .inr (.inr (.inr (.inr (fun _ => none))))))]) (kc + 1) (kn + N) post) : CP X z0 M mc ms e0 pc L (.int v :: S) ws kc kn post := by
  intro p e s m args below meth c H locs ls B hP hD hS hl
  have hb2 : N * 4 ≤ 536870912 := by
    have := Nat.le_of_ble_eq_true hb
    omega
  refine va_newq (D := X.2.2.2) (C := "PushedOver$Sheet") B.1 B.2.1 B.2.2.2.1 (B.2.2.2.2.1 _ hk) B.2.2.2.2.2.2.2.2.2.1.2.2 B.2.2.2.2.2.2.2.1 hP hD hS (fun q h => Or.inr h) hv hN hb2 (Nat.le_of_ble_eq_true h1) (Nat.le_of_ble_eq_true h2) hd (fun q cA H1 hK1 hP1 hD1 hS1 => ?_)
  obtain ⟨_, _, _, _, _, g1⟩ : va_RA s cA (.object "PushedOver$Sheet") := (hK1.2 3 (cA, .object "PushedOver$Sheet") rfl).2
  obtain ⟨_, _, _, _, _, g2⟩ : va_RA s (X.2.2.1 2) (.object "PushedOver$Sheet") := (B.2.2.2.2.2.2.2.1.2 2 (X.2.2.1 2, .object "PushedOver$Sheet") rfl).2
  have g3 : cA = X.2.2.1 2 := Option.some.inj (g1.symm.trans g2)
  subst g3
  exact k q p e s m args below meth c H1 locs ls B hP1 hD1 hS1 hl
theorem cp_putF {idx ci j a : Nat} {v : Value} {fs : List Value} (hd : decode (mtC M) pc = .ok (.putfield idx, 3)) (hF : FIv (mtY M).cls idx ci j v) (hj : Nat.ble (j + 1) fs.length = true) (k : CP X z0 M mc ms e0 (pc + 3) L S ((a, .inr (ci, fs.set j v)) :: ws) kc kn post) : CP X z0 M mc ms e0 pc L (v :: .ref a :: S) ((a, .inr (ci, fs)) :: ws) kc kn post := by
  intro p e s m args below meth c H locs ls B hP hD hS hl
  obtain ⟨C, T, N, ty, ⟨c1, c2, c3, ty0, c4⟩, hjN, hw, hfin, hdecl, hty, hn, hfit⟩ := hF
  have hts := B.2.2.2.2.1
  exact va_putF (D := X.2.2.2) (ci := ci) (v := v) (ty := ty) (C := C) (T := T) (N := N) B.1 B.2.1 hts c2 ty0 c4 c3 B.2.2.2.1 B.2.2.2.2.2.2.2.1 hP hD hS 0 rfl c1 j hjN (hts _ hw) (fun _ h9 => h9) hfin B.2.2.2.2.2.2.2.2.1 hdecl hty hn hfit (Nat.le_of_ble_eq_true hj) hd (fun H1 locs1 hP1 hD1 hS1 => k p e s m args below meth c H1 locs1 ls B hP1 hD1 hS1 hl)
theorem cp_putN {idx ci j a : Nat} {v : Value} {fs : List Value} (hd : decode (mtC M) pc = .ok (.putfield idx, 3)) (hF : FNv (mtY M).cls idx ci j v) (hj : Nat.ble (j + 1) fs.length = true) (k : CP X z0 M mc ms e0 (pc + 3) L S ((a, .inr (ci, fs.set j v)) :: ws) kc kn post) : CP X z0 M mc ms e0 pc L (v :: .ref a :: S) ((a, .inr (ci, fs)) :: ws) kc kn post := by
  intro p e s m args below meth c H locs ls B hP hD hS hl
  obtain ⟨C, T, N, ty, ⟨c1, c2, c3, ty0, c4⟩, hjN, hw, hfin, hty, hn, hfit⟩ := hF
  have hts := B.2.2.2.2.1
  exact va_put (D := X.2.2.2) (ci := ci) (v := v) (ty := ty) (C := C) (T := T) (N := N) B.1 B.2.1 hts c2 ty0 c4 c3 B.2.2.2.1 B.2.2.2.2.2.2.2.1 hP hD hS 0 rfl c1 j hjN (hts _ hw) (fun _ h9 => h9) hfin hty hn hfit (Nat.le_of_ble_eq_true hj) hd (fun H1 locs1 hP1 hD1 hS1 => k p e s m args below meth c H1 locs1 ls B hP1 hD1 hS1 hl)
theorem cp_get {idx ci j a : Nat} {v : Value} {fs : List Value} (hd : decode (mtC M) pc = .ok (.getfield idx, 3)) (hf : FA (mtY M).cls idx ci j) (hj : fs[j]? = some v) (k : CP X z0 M mc ms e0 (pc + 3) L (v :: S) ((a, .inr (ci, fs)) :: ws) kc kn post) : CP X z0 M mc ms e0 pc L (.ref a :: S) ((a, .inr (ci, fs)) :: ws) kc kn post := by
  intro p e s m args below meth c H locs ls B hP hD hS hl
  obtain ⟨C, T, N, ⟨c1, c2, c3, ty, c4⟩, hjN, h99, hw⟩ := hf
  exact va_get (D := X.2.2.2) (ci := ci) (v := v) (C := C) (T := T) (N := N) B.1 B.2.1 B.2.2.2.2.1 c2 B.2.2.2.1 B.2.2.2.2.2.2.2.1 hP 0 rfl c1 j hjN (B.2.2.2.2.1 _ hw) (fun _ h9 => h9) hj hd (k p e s m args below meth c H locs ls B hP hD hS hl)
theorem cp_iast {a N : Nat} {f : Nat → Int32} {i x : Int32} (q0 : Nat) (hd : decode (mtC M) pc = .ok (.iastore, 1)) (hs : ws[q0]? = some (a, .inl (X.2.2.1 0, N, .inl f))) (hi : vp_in i N) (k : CP X z0 M mc ms e0 (pc + 1) L S (ws.set q0 (a, .inl (X.2.2.1 0, N, .inl (upd f i.toNatClampNeg x)))) kc kn post) : CP X z0 M mc ms e0 pc L (.int x :: .int i :: .ref a :: S) ws kc kn post :=
  fun p e s m args below meth c H locs ls B hP hD hS hl => va_iast (D := X.2.2.2) B.1 B.2.1 B.2.2.2.2.2.2.2.1 hP hD hS q0 0 hs rfl hi hd (fun H1 locs1 hP1 hD1 hS1 => k p e s m args below meth c H1 locs1 ls B hP1 hD1 hS1 hl)
theorem cp_alenS {a N : Nat} {f : Nat → Option Nat} {v : Int32} (q0 : Nat) (hd : decode (mtC M) pc = .ok (.arraylength, 1)) (hs : ws[q0]? = some (a, .inl (X.2.2.1 2, N, .inr (.inr (.inr (.inr f)))))) (hv : Int32.ofNat N = v) (k : CP X z0 M mc ms e0 (pc + 1) L (.int v :: S) ws kc kn post) : CP X z0 M mc ms e0 pc L (.ref a :: S) ws kc kn post :=
  fun p e s m args below meth c H locs ls B hP hD hS hl => va_alen (D := X.2.2.2) B.1 B.2.1 B.2.2.2.2.2.2.2.1 hP q0 2 hs rfl hv hd (k p e s m args below meth c H locs ls B hP hD hS hl)
theorem cp_astS {a v N : Nat} {f : Nat → Option Nat} {vs : List Value} {i : Int32} (q0 qk : Nat) (hd : decode (mtC M) pc = .ok (.aastore, 1)) (hs : ws[q0]? = some (a, .inl (X.2.2.1 2, N, .inr (.inr (.inr (.inr f)))))) (hv : ws[qk]? = some (v, .inr (5, vs))) (hi : vp_in i N) (k : CP X z0 M mc ms e0 (pc + 1) L S (ws.set q0 (a, .inl (X.2.2.1 2, N, .inr (.inr (.inr (.inr (va_up f i.toNatClampNeg (some v)))))))) kc kn post) : CP X z0 M mc ms e0 pc L (.ref v :: .int i :: .ref a :: S) ws kc kn post :=
  fun p e s m args below meth c H locs ls B hP hD hS hl => va_astq (D := X.2.2.2) (r := (RX5, TX5, 3)) B.1 B.2.1 B.2.2.2.2.2.2.2.1 hP hD hS q0 2 qk 5 hs rfl hv rfl hi hd (fun H1 locs1 hP1 hD1 hS1 => k p e s m args below meth c H1 locs1 ls B hP1 hD1 hS1 hl)
theorem ac_z0 {e0 : Nat × va_E} {z z0 : Nat} (h0 : z0 ≤ e0.1) (h1 : z0 ≤ z) : ∀ q, va_A [e0] z q → z0 ≤ q := by
  intro q h
  rcases h with ⟨k, e, h⟩ | h
  · have h2 := (List.getElem?_eq_some_iff.mp h).1
    simp only [List.length_cons, List.length_nil] at h2
    rw [show k = 0 by omega] at h
    simp at h
    rw [h] at h0
    exact h0
  · omega
theorem cp_gets {idx : Nat} (j : Nat) (hd : decode (mtC M) pc = .ok (.getstatic idx, 3)) (hj : Nat.ble (j + 1) 7 = true) (hw : Cond.fieldLink (mtY M).cls idx RX8 (stn j) "[I" ∈ gtb) (k : CP X z0 M mc ms e0 (pc + 3) L (.ref (adr X (100 + j)) :: S) ws kc kn post) : CP X z0 M mc ms e0 pc L S ws kc kn post := by
  intro p e s m args below meth c H locs ls B hP hD hS hl
  obtain ⟨-, -, -, -, -, -, -, -, -, -, hT, hz1, hz2⟩ := id B
  exact va_gets B.1 B.2.1 (va_Z.narrow (hT j (Nat.le_of_ble_eq_true hj)).1 (ac_z0 hz1 hz2)) hS B.2.2.2.1 (B.2.2.2.2.1 _ hw) (fun _ h9 => h9) hd (k p e s m args below meth c H locs ls B hP hD hS hl)
theorem cp_obj {idx a : Nat} (hd : decode (mtC M) pc = .ok (.invokespecial idx, 3)) (hk : Cond.methodLink (mtY M).cls idx Lib.objectInit ∈ gtb) (hf : Nat.ble 1 (mtF M) = true) (hw : Nat.ble ((S.map fun v => v.category).sum + 12) (mtLo M) = true) (k : CP X z0 M mc ms e0 (pc + 3) L S ws kc kn post) : CP X z0 M mc ms e0 pc L (.ref a :: S) ws kc kn post := by
  intro p e s m args below meth c H locs ls B hP hD hS hl
  have hts := B.2.2.2.2.1
  refine W.objInit B.1 B.2.1 B.2.2.2.1 (hts _ hk) (hts _ tob_i) (hts _ tob_c) rfl (by rw [B.2.2.1]; exact hl.1) rfl hd (Nat.le_of_ble_eq_true hf) ?_ (k p e s m args below meth c H locs ls B hP hD hS hl)
  have := Nat.le_of_ble_eq_true hw
  show 2 * 0 + (S.map fun v => v.category).sum + 12 ≤ mtLo M
  omega
theorem cp_ret {w1 : va_W} (hd : decode (mtC M) pc = .ok (.return_, 1)) (hr : mtR M = none) (h1 : Nat.ble kc mc = true) (h2 : Nat.ble kn ms = true) (hw : ws = w1) (h : post w1) : CP X z0 M mc ms e0 pc L [] ws kc kn post := by
  intro p e s m args below meth c H locs ls B hP hD hS hl
  subst hw
  refine W.widen (Nat.le_of_ble_eq_true h1) (Nat.le_of_ble_eq_true h2) ?_
  exact W.vret B.1 B.2.1 (B.2.2.2.2.2.2.1.trans hr) (fun t ht _ => ⟨_, rfl, h, by rw [ht]; exact hP, hD, hS.F ht⟩) hS.2.2 hd B.2.2.2.2.2.1
theorem pcc_blind {X : Amb} {z0 : Nat} {e0 : Nat × va_E} {As : List Value} {sz : Nat} : FrameBlind (PcC X z0 e0 As sz) := by
  intro a U g mk q
  obtain ⟨q0, q1, qP, qK, qN, qS, qz⟩ := q
  exact ⟨q0, q1, qP, va_K.moved (u := U) (U := U.calling g mk a) (Vm.Alike.refl U.vm) qK, qN.call g mk a, StT.moved (u := U) (U := U.calling g mk a) (Vm.Alike.refl U.vm) qS, qz⟩
/-- behind a constructor's call: the new cell's world stands in its place -/
theorem ccall {N : MT} {nc ns : Nat} {q : Nat × va_E} {rest st0 : List Value} {post1 : va_W → Prop} {p : Program} {e : Env} {s : State} {m : MethodId} {args : Array Value} {below : List Frame} {meth : Method} {c : Code} {H : Heap} {locs : List Loc} {ls : Array Slot} {a : Array Value}
    (hr : va_Run p X.1 e (rmC M mc ms) s m args below meth c H locs kc kn nc ns (F0 m pc ls st0) rest (QcC X q post1 a) (va_A [q] H.size)) (B : Bc X z0 e0 M p s m args meth c) (hP : va_P X.2.2.2 cls (ws ++ [q]) H) (hD : va_D (va_A [e0] s.heap.size) (ws ++ [q])) (hS : va_S (va_A [e0] s.heap.size) s.heap H locs) (hl : lv_has ls (mtN M) L)
    (kk : ∀ w1, post1 w1 → CP X z0 M mc ms e0 (pc + 3) L rest (ws ++ w1) (kc + nc) (kn + ns) post) : W p X.1 e (rmC M mc ms) s m args below meth c H locs kc kn (MQ below (QcC X e0 post) args s mc ms (va_A [e0] s.heap.size)) (F0 m pc ls st0) := by
  intro T hT XX
  obtain ⟨v, st₀, t, T', L1, h0, X', hL, e1, e2, ⟨w1, hv, hp, hPn, hDn, hz, hk⟩, st⟩ := hr T hT XX
  cases hv
  rw [h0] at hz hk hDn
  have hq : va_A [e0] s.heap.size q.1 := hD.2 ws.length q (by simp)
  have hF : ∀ x, va_A [q] H.size x → va_A [e0] s.heap.size x := by
    intro x hx
    rcases hx with ⟨k, e, hx⟩ | hx
    · have h2 := (List.getElem?_eq_some_iff.mp hx).1
      simp only [List.length_cons, List.length_nil] at h2
      rw [show k = 0 by omega] at hx
      simp at hx
      rw [hx] at hq
      exact hq
    · exact Or.inr (Nat.le_trans hS.1 hx)
  have hap : ∀ (k : Nat) (x : Nat × va_E), ws[k]? = some x → x.1 < H.size ∧ ¬ va_A [q] H.size x.1 := by
    intro k x hx
    have hkl := (List.getElem?_eq_some_iff.mp hx).1
    have hx' : (ws ++ [q])[k]? = some x := by rw [List.getElem?_append_left hkl]; exact hx
    have hlt := (hP k x hx').lt
    refine ⟨hlt, fun h => ?_⟩
    rcases h with ⟨j, e, h⟩ | h
    · have h2 := (List.getElem?_eq_some_iff.mp h).1
      simp only [List.length_cons, List.length_nil] at h2
      rw [show j = 0 by omega] at h
      simp at h
      have := hD.1 k ws.length x q hx' (by simp) (by rw [h])
      omega
    · omega
  have hPw : va_P X.2.2.2 cls ws H := fun k x hx => hP k x (by rw [List.getElem?_append_left (List.getElem?_eq_some_iff.mp hx).1]; exact hx)
  have hDw : va_D (va_A [e0] s.heap.size) ws := ⟨fun i j x y hx hy hxy => hD.1 i j x y (by rw [List.getElem?_append_left (List.getElem?_eq_some_iff.mp hx).1]; exact hx) (by rw [List.getElem?_append_left (List.getElem?_eq_some_iff.mp hy).1]; exact hy) hxy, fun k x hx => hD.2 k x (by rw [List.getElem?_append_left (List.getElem?_eq_some_iff.mp hx).1]; exact hx)⟩
  obtain ⟨t2, a1, b1⟩ := kk w1 hp p e s m args below meth c T'.heap (locs ++ L1) ls B (by rw [e1]; exact va_P.app (hPw.kept (fun k x hx => hk x.1 (hap k x hx).1 (hap k x hx).2)) hPn)
    (va_D.app hDw (hDn.weaken (fun k x _ h => hF x.1 h)) (fun i j x y hx hy hxy => (hap i x hx).2 (by rw [hxy]; exact hDn.2 j y hy)))
    ⟨Nat.le_trans hS.1 (by rw [e1]; exact hz), fun x h1 h2 => by rw [e1, hk x (Nat.lt_of_lt_of_le h1 hS.1) (fun z => h2 (hF x z))]; exact hS.2.1 x h1 h2, fun x hx => by
      rcases List.mem_append.mp hx with h | h
      · exact hS.2.2 x h
      · exact hF _ (hL x h)⟩ hl T' rfl X'
  exact ⟨t2, st t2 a1, b1⟩
theorem pcc_at {N : MT} {q : Nat × va_E} {As : List Value} {p : Program} {s : State} {m : MethodId} {args : Array Value} {meth : Method} {c : Code} {H : Heap} {locs : List Loc} (B : Bc X z0 e0 M p s m args meth c) (hP : va_P X.2.2.2 cls (ws ++ [q]) H) (hD : va_D (va_A [e0] s.heap.size) (ws ++ [q])) (hS : va_S (va_A [e0] s.heap.size) s.heap H locs) : ∀ U : State, U.heap = H → s.WarmedH U.vm → PcC X z0 q As H.size As.toArray U := by
  intro U hU hW
  obtain ⟨-, -, -, -, -, -, -, hK, -, hN, hT, hz1, hz2⟩ := B
  have hq : va_A [e0] s.heap.size q.1 := hD.2 ws.length q (by simp)
  refine ⟨rfl, by rw [hU], ?_, va_K.moved hW.alike hK, hN.warm hW, ?_, ac_z0 hz1 hz2 _ hq⟩
  · rw [hU]
    intro k x hx
    have h2 := (List.getElem?_eq_some_iff.mp hx).1
    simp only [List.length_cons, List.length_nil] at h2
    rw [show k = 0 by omega] at hx
    simp at hx
    exact hP ws.length x (by rw [← hx]; simp)
  · rw [hU]
    exact StT.moved hW.alike (StT.kept hT (fun a h1 h2 => hS.2.1 a h1 (fun z => h2 (ac_z0 hz1 hz2 a z))))
/-- a constructor that can be called: n its arguments -/
def MokI (N : MT) (n : Nat) : Prop := Mok N n ∧ Cond.instanceMethod (mtY N) ∈ gtb ∧ (mtY N).name = "<init>" ∧ mtR N = none
theorem cp_ctor {N : MT} {nc ns idx n : Nat} {a : Nat} {ee : va_E} {As rest : List Value} {post1 : va_W → Prop} (hd : decode (mtC M) pc = .ok (.invokespecial idx, 3)) (hk : Cond.methodLink (mtY M).cls idx (mtY N) ∈ gtb) (hM : MokI N n) (hn : As.length = n)
    (hR : Nat.ble (mtF N + 1) (mtF M) = true) (hR2 : Nat.ble (8 + (mtN N + 11) + mtLo N) (mtLo M) = true) (hw : Nat.ble ((rest.map fun v => v.category).sum) 8 = true) (h1 : Nat.ble (kc + nc) mc = true) (h2 : Nat.ble (kn + ns) ms = true) (hSp : ∀ sz, SpC X z0 N nc ns (a, ee) (.ref a :: As) sz post1)
    (kk : ∀ w1, post1 w1 → CP X z0 M mc ms e0 (pc + 3) L rest (ws ++ w1) (kc + nc) (kn + ns) post) : CP X z0 M mc ms e0 pc L (As.reverse ++ .ref a :: rest) (ws ++ [(a, ee)]) kc kn post := by
  intro p e s m args below meth c H locs ls B hP hD hS hl
  have hts := B.2.2.2.2.1
  obtain ⟨hM1, hM2, hM3, hM4⟩ := hM
  have hww : wsM N = Cond.code (mtY N) (mtC N) (mtN N) none :: gtb := by unfold wsM; rw [hM4]
  exact ccall (N := N) (va_runI (As := As) (rest := rest) ⟨B.1, B.2.1, B.2.2.1, B.2.2.2.1, hts⟩ (hSp H.size) (cwI n hts (mok_good hM1) hww rfl rfl (hts _ hM1.2.1) (hts _ hk) (hts _ hM2) hM3 hM1.2.2 ⟨Nat.le_of_ble_eq_true hR, Nat.le_of_ble_eq_true hR2⟩) ⟨pcc_blind, pcc_at (N := N) B hP hD hS⟩ rfl hn hl.1 rfl (lv_room (Nat.le_of_ble_eq_true hw)) hd ⟨Nat.le_of_ble_eq_true h1, Nat.le_of_ble_eq_true h2⟩) B hP hD hS hl kk
theorem cp_ctorN {N : MT} {nc ns idx n : Nat} {a : Nat} {ee : va_E} {As rest : List Value} {post1 : va_W → Prop} (hd : decode (mtC M) pc = .ok (.invokespecial idx, 3)) (hown : (mtY M).cls = RX8) (hk : (idx, mtY N) ∈ nwl) (hM : MokI N n) (hn : As.length = n)
    (hR : Nat.ble (mtF N + 1) (mtF M) = true) (hR2 : Nat.ble (8 + (mtN N + 11) + mtLo N) (mtLo M) = true) (hw : Nat.ble ((rest.map fun v => v.category).sum) 8 = true) (h1 : Nat.ble (kc + nc) mc = true) (h2 : Nat.ble (kn + ns) ms = true) (hSp : ∀ sz, SpC X z0 N nc ns (a, ee) (.ref a :: As) sz post1)
    (kk : ∀ w1, post1 w1 → CP X z0 M mc ms e0 (pc + 3) L rest (ws ++ w1) (kc + nc) (kn + ns) post) : CP X z0 M mc ms e0 pc L (As.reverse ++ .ref a :: rest) (ws ++ [(a, ee)]) kc kn post := by
  intro p e s m args below meth c H locs ls B hP hD hS hl
  have hts := B.2.2.2.2.1
  obtain ⟨hM1, hM2, hM3, hM4⟩ := hM
  have hww : wsM N = Cond.code (mtY N) (mtC N) (mtN N) none :: gtb := by unfold wsM; rw [hM4]
  have hnw : va_Nw (.methodLinkNest (mtY M).cls idx (mtY N) RX8) s := by rw [hown]; exact B.2.2.2.2.2.2.2.2.2.1.1 (idx, mtY N) hk
  exact ccall (N := N) (va_runIN (As := As) (rest := rest) ⟨B.1, B.2.1, B.2.2.1, B.2.2.2.1, hts⟩ (hSp H.size) ⟨va_cnB n hts (mok_good hM1) hww rfl rfl hnw (hts _ hM1.2.1) hM1.2.2 ⟨Nat.le_of_ble_eq_true hR, Nat.le_of_ble_eq_true hR2⟩, hM3, hts _ hM2⟩ ⟨pcc_blind, pcc_at (N := N) B hP hD hS⟩ rfl hn hl.1 rfl (lv_room (Nat.le_of_ble_eq_true hw)) hd ⟨Nat.le_of_ble_eq_true h1, Nat.le_of_ble_eq_true h2⟩) B hP hD hS hl kk
theorem cp_wld {ws' : va_W} (h : ws = ws') (k : CP X z0 M mc ms e0 pc L S ws' kc kn post) : CP X z0 M mc ms e0 pc L S ws kc kn post := h ▸ k
theorem cp_cast {idx a : Nat} {x : vp_A} (q0 : Nat) (hd : decode (mtC M) pc = .ok (.checkcast idx, 3)) (hk : Cond.classLink (mtY M).cls idx "[I" ∈ gtb) (hs : ws[q0]? = some (a, .inl (X.2.2.1 0, x))) (k : CP X z0 M mc ms e0 (pc + 3) L (.ref a :: S) ws kc kn post) : CP X z0 M mc ms e0 pc L (.ref a :: S) ws kc kn post := by
  intro p e s m args below meth c H locs ls B hP hD hS hl
  have g2 : s.vm.findClass ("[" ++ FieldType.int.toString) = some (X.2.2.1 0) := (B.2.2.2.2.2.2.2.1.2 0 (X.2.2.1 0, .int) rfl).2
  exact va_castA (D := X.2.2.2) B.1 B.2.1 B.2.2.2.1 (B.2.2.2.2.1 _ hk) hP q0 hs g2 hd (k p e s m args below meth c H locs ls B hP hD hS hl)
theorem cp_clone {idx : Nat} (j : Nat) (hj : Nat.ble (j + 1) 7 = true) (hd : decode (mtC M) pc = .ok (.invokevirtual idx, 3)) (hk : Cond.methodLink (mtY M).cls idx ⟨"[I", "clone", "()Ljava/lang/Object;"⟩ ∈ gtb) (hf : Nat.ble 1 (mtF M) = true) (hw : Nat.ble ((S.map fun v => v.category).sum + 14) (mtLo M) = true) (h1 : Nat.ble (kc + 1) mc = true) (h2 : Nat.ble (kn + (stv j).length) ms = true)
    (k : ∀ q : Nat, CP X z0 M mc ms e0 (pc + 3) L (.ref q :: S) (ws ++ [(q, .inl (X.2.2.1 0, (stv j).length, .inl (fun i => (stv j).getD i 0)))]) (kc + 1) (kn + (stv j).length) post) : CP X z0 M mc ms e0 pc L (.ref (adr X (100 + j)) :: S) ws kc kn post := by
  intro p e s m args below meth c H locs ls B hP hD hS hl
  have hts := B.2.2.2.2.1
  obtain ⟨hex, hb, hml, hown, -, -, -, hK, -, hN, hT, hz1, hz2⟩ := id B
  have g2 : s.vm.findClass "[I" = some (X.2.2.1 0) := (hK.2 0 (X.2.2.1 0, .int) rfl).2
  obtain ⟨-, ⟨cell, c1, c2, c3, c4, c5, c6, c7⟩, cell', d1, d2, d3⟩ := hT j (Nat.le_of_ble_eq_true hj)
  cases c1.symm.trans d1
  obtain ⟨cC, tC, f1, f2, f3⟩ := Cond.castable_spec (va_Nw.use (A := args) rfl hN.2.1)
  cases g2.symm.trans f1
  have hcH : H[adr X (100 + j)]? = some cell := by rw [hS.2.1 _ (Array.getElem?_eq_some_iff.mp c1).1 (fun z => c7 (ac_z0 hz1 hz2 _ z))]; exact c1
  obtain ⟨hst, kS, hkS, compS, hkindS⟩ := c2
  have hsl : ({ cls := cell.cls, slots := cell.slots } : Cell) = vp_cell (X.2.2.1 0) ((stv j).length, .inl (fun i => (stv j).getD i 0)) := by
    rw [d2, vp_cell_i]
    unfold arrV
    congr 1
    apply Array.ext
    · rw [d3]; simp
    · intro i hi1 hi2
      have h6 := c6 i (by rw [← d3]; exact hi1)
      rw [Array.getElem?_eq_getElem hi1] at h6
      have h7 := Option.some.inj h6
      rw [h7, Array.getElem_ofFn]
  intro T hTT XX
  obtain ⟨-, kA, hkA, comp, hkind⟩ := State.isArrayOf_alike XX.warmed.alike ((hK.2 0 (X.2.2.1 0, .int) rfl).1 0 (fun _ => .null))
  obtain ⟨vm', X', st⟩ := XX.cloneArray hex hown (hts _ hk) (hts _ tcl_s) (hts _ tcl_n) (hts _ tcl_i) (hts _ tcl_e) (a := adr X (100 + j)) (cell := cell) (by rw [hTT]; exact hcH) hst c3 (by rw [d2]; exact g2) f2 (by rw [d2]; exact f3)
    (fun i v hv => by
      rw [d2]
      have hk' : T.vm.classes[X.2.2.1 0]? = some kA := hkA
      have hi : i < cell.slots.size := (Array.getElem?_eq_some_iff.mp hv).1
      rw [c6 i (by rw [← d3]; exact hi)] at hv
      cases hv
      simp [State.fitsSlot, State.slotType?, hk', hkind, fits])
    (g := F0 m pc ls (.ref (adr X (100 + j)) :: S)) rfl (by rw [hml]; exact hl.1) rfl (by rw [hb]; exact hd) (Nat.le_of_ble_eq_true hf) (by have := Nat.le_of_ble_eq_true hw; show 2 * 0 + _ + 14 ≤ mtLo M; omega) (Nat.le_of_ble_eq_true h1) (by rw [d3]; exact Nat.le_of_ble_eq_true h2) (hloader := Vm.clonesLoader_of_array hkS hkindS)
  rw [hsl, d3] at X'
  generalize hH1 : H.push (vp_cell (X.2.2.1 0) ((stv j).length, .inl (fun i => (stv j).getD i 0))) = H1
  have z1 : H1.size = H.size + 1 := by rw [← hH1, Array.size_push]
  have e1 : H1[H.size]? = some (vp_cell (X.2.2.1 0) ((stv j).length, .inl (fun i => (stv j).getD i 0))) := by rw [← hH1, Array.getElem?_push_size]
  have o1 : ∀ q : Nat, q < H.size → H1[q]? = H[q]? := fun q hq => by rw [← hH1, Array.getElem?_push, if_neg (Nat.ne_of_lt hq)]
  have hkp : ∀ (k : Nat) (y : Nat × va_E), ws[k]? = some y → H1[y.1]? = H[y.1]? := fun k y hy => o1 y.1 ((hP k y hy).lt)
  obtain ⟨t, b1, b2⟩ := k H.size p e s m args below meth c H1 locs ls B ((hP.kept hkp).app (fun k y hy => by
      have hz : k < 1 := (List.getElem?_eq_some_iff.mp hy).1
      rw [show k = 0 by omega] at hy
      cases hy
      exact e1)) (hD.push hP rfl (Or.inr hS.1)) ⟨Nat.le_trans hS.1 (by omega), fun y h1 h2 => (o1 y (Nat.lt_of_lt_of_le h1 hS.1)).trans (hS.2.1 y h1 h2), hS.2.2⟩ hl
    ((T.setVm vm').pushCell (vp_cell (X.2.2.1 0) ((stv j).length, .inl (fun i => (stv j).getD i 0)))) (by rw [← hH1, ← hTT]; rfl) X'
  refine ⟨t, st t ?_, b2⟩
  rw [hsl, hTT]
  exact b1
end CROWS
