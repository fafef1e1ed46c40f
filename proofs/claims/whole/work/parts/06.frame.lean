/-! ===== the frame of the whole proof: a world by its shape, memory as a function, one judgement WP over it ===== -/
abbrev Mem : Type := Nat → Nat → Int32
def mst (σ : Mem) (a j : Nat) (v : Int32) : Mem := fun b => if b = a then upd (σ a) j v else σ b
theorem mst_eq (σ : Mem) (a j : Nat) (v : Int32) : mst σ a j v a j = v := by simp [mst, upd]
theorem mst_ne (σ : Mem) {a b : Nat} (j : Nat) (v : Int32) (h : b ≠ a) : mst σ a j v b = σ b := by simp [mst, h]
theorem mst_at (σ : Mem) (a j b i : Nat) (v : Int32) : mst σ a j v b i = if b = a ∧ i = j then v else σ b i := by
  unfold mst upd
  by_cases h : b = a
  · subst h; by_cases h2 : i = j <;> simp [h2]
  · simp [h]
/-- a cell's shape: an object of a class (by its number), each field an int or a reference to a cell; or an array (0: int, 1: boolean) of a length; class number 99: the row of sheets -/
abbrev Shc : Type := (Nat × List (Option Nat)) ⊕ (Nat × Nat)
/-- what stays over a whole run: the launch, the cells' addresses, the array classes, the classes' numbers and slots -/
abbrev Amb : Type := Launch × (Nat → Nat) × (Nat → ClassId) × va_G
def adr (X : Amb) (k : Nat) : Nat := X.2.1 k
def flds (X : Amb) (f : Nat → Int32) : Nat → List (Option Nat) → List Value
  | _, [] => []
  | j, none :: r => .int (f j) :: flds X f (j + 1) r
  | j, some k :: r => .ref (adr X k) :: flds X f (j + 1) r
theorem flds_get (X : Amb) (f : Nat → Int32) (fl : List (Option Nat)) : ∀ i j : Nat, (flds X f i fl)[j]? = fl[j]?.map (fun o => match o with | none => Value.int (f (i + j)) | some k => Value.ref (adr X k)) := by
  induction fl with
  | nil => intro i j; simp [flds]
  | cons o r ih =>
    intro i j
    cases o with
    | none =>
      cases j with
      | zero => simp [flds]
      | succ j => simp only [flds, List.getElem?_cons_succ, ih (i + 1) j]; rw [show i + 1 + j = i + (j + 1) by omega]
    | some k =>
      cases j with
      | zero => simp [flds]
      | succ j => simp only [flds, List.getElem?_cons_succ, ih (i + 1) j]; rw [show i + 1 + j = i + (j + 1) by omega]
theorem flds_len (X : Amb) (f : Nat → Int32) (fl : List (Option Nat)) : ∀ i : Nat, (flds X f i fl).length = fl.length := by
  induction fl with
  | nil => intro i; rfl
  | cons o r ih => intro i; cases o <;> simp [flds, ih]
theorem flds_above (X : Amb) (f : Nat → Int32) (v : Int32) (fl : List (Option Nat)) : ∀ (i j : Nat), j < i → flds X (upd f j v) i fl = flds X f i fl := by
  induction fl with
  | nil => intro i j h; rfl
  | cons o r ih =>
    intro i j h
    cases o with
    | none => simp only [flds, ih (i + 1) j (by omega)]; simp [upd, show ¬ i = j by omega]
    | some k => simp only [flds, ih (i + 1) j (by omega)]
theorem flds_set (X : Amb) (f : Nat → Int32) (v : Int32) (fl : List (Option Nat)) : ∀ (i j : Nat), fl[j]? = some none → (flds X f i fl).set j (.int v) = flds X (upd f (i + j) v) i fl := by
  induction fl with
  | nil => intro i j h; simp at h
  | cons o r ih =>
    intro i j h
    cases j with
    | zero =>
      simp at h
      subst h
      simp only [flds, List.set_cons_zero, Nat.add_zero, flds_above X f v r (i + 1) i (by omega)]
      simp [upd]
    | succ j =>
      rw [List.getElem?_cons_succ] at h
      have h2 := ih (i + 1) j h
      rw [show i + 1 + j = i + (j + 1) by omega] at h2
      cases o with
      | none => simp only [flds, List.set_cons_succ, h2]; simp [upd]
      | some k => simp only [flds, List.set_cons_succ, h2]
def cel (X : Amb) (f : Nat → Int32) (c : Shc) : va_E := match c with
  | .inl q => if q.1 = 99 then .inl (X.2.2.1 2, q.2.length, .inr (.inr (.inr (.inr (fun i => (q.2.getD i none).map (adr X)))))) else .inr (q.1, flds X f 0 q.2)
  | .inr q => .inl (X.2.2.1 q.1, q.2, .inl f)
def wl (X : Amb) (σ : Mem) : Nat → List Shc → va_W
  | _, [] => []
  | k, c :: r => (adr X k, cel X (σ k) c) :: wl X σ (k + 1) r
theorem wl_get (X : Amb) (σ : Mem) (sh : List Shc) : ∀ i k : Nat, (wl X σ i sh)[k]? = sh[k]?.map (fun c => (adr X (i + k), cel X (σ (i + k)) c)) := by
  induction sh with
  | nil => intro i k; simp [wl]
  | cons o r ih =>
    intro i k
    cases k with
    | zero => simp [wl]
    | succ k => simp only [wl, List.getElem?_cons_succ, ih (i + 1) k]; rw [show i + 1 + k = i + (k + 1) by omega]
theorem wl_at {X : Amb} {σ : Mem} {sh : List Shc} {k : Nat} {c : Shc} (h : sh[k]? = some c) : (wl X σ 0 sh)[k]? = some (adr X k, cel X (σ k) c) := by
  rw [wl_get, h, Nat.zero_add]; rfl
theorem wl_above (X : Amb) (σ τ : Mem) (sh : List Shc) : ∀ i : Nat, (∀ b, i ≤ b → τ b = σ b) → wl X τ i sh = wl X σ i sh := by
  induction sh with
  | nil => intro i h; rfl
  | cons o r ih => intro i h; simp only [wl, ih (i + 1) (fun b hb => h b (by omega)), h i (Nat.le_refl i)]
theorem wl_set_aux (X : Amb) (σ : Mem) (f' : Nat → Int32) (sh : List Shc) : ∀ (i k : Nat) (c : Shc), sh[k]? = some c → (wl X σ i sh).set k (adr X (i + k), cel X f' c) = wl X (fun b => if b = i + k then f' else σ b) i sh := by
  induction sh with
  | nil => intro i k c h; simp at h
  | cons o r ih =>
    intro i k c h
    cases k with
    | zero =>
      simp at h
      subst h
      simp only [wl, List.set_cons_zero, Nat.add_zero, if_true]
      congr 1
      exact (wl_above X σ _ r (i + 1) (fun b hb => if_neg (by omega))).symm
    | succ k =>
      rw [List.getElem?_cons_succ] at h
      have h2 := ih (i + 1) k c h
      rw [show i + 1 + k = i + (k + 1) by omega] at h2
      simp only [wl, List.set_cons_succ, h2]
      rw [if_neg (by omega)]
theorem wl_set {X : Amb} {σ : Mem} {sh : List Shc} {k : Nat} {c : Shc} (h : sh[k]? = some c) (j : Nat) (v : Int32) : (wl X σ 0 sh).set k (adr X k, cel X (upd (σ k) j v) c) = wl X (mst σ k j v) 0 sh := by
  have := wl_set_aux X σ (upd (σ k) j v) sh 0 k c h
  rw [Nat.zero_add] at this
  rw [this]
  rfl
/-! the classes whose objects the worlds hold; the static tables -/
abbrev cls : List vw_C := [(RX0, TX0, 8), (RX1, TX1, 5), (RX2, TX2, 6), (RX3, TX3, 3), (RX4, TX4, 5), (RX5, TX5, 3), (RX6, TX6, 5), (RX7, TX7, 3), (RX8, TX8, 13), (RX9, TX9, 29)]
def shC : List Shc := [
  .inl (8, [some 1, some 3, some 5, some 8, some 11, some 13, some 15, some 17, some 23, some 26, some 30, none, none]),
  .inl (7, [some 2, none, none]), .inr (0, 32), .inl (7, [some 4, none, none]), .inr (0, 32),
  .inl (1, [some 6, some 7, none, none, none]), .inr (0, 12), .inr (0, 13),
  .inl (6, [some 9, some 10, none, none, none]), .inr (0, 16), .inr (1, 16),
  .inl (3, [some 100, some 101, some 12]), .inr (0, 3), .inl (3, [some 100, some 101, some 14]), .inr (0, 3), .inl (3, [some 103, some 104, some 16]), .inr (0, 5),
  .inl (4, [some 18, some 19, some 20, some 21, some 22]), .inr (0, 40), .inr (0, 40), .inr (0, 40), .inr (0, 40), .inr (0, 40),
  .inl (0, [some 24, some 25, none, none, none, none, none, none]), .inr (0, 6), .inr (0, 6),
  .inl (2, [some 27, some 28, some 29, none, none, none]), .inr (0, 12), .inr (0, 12), .inr (0, 6),
  .inl (99, [some 31, some 33, some 35, some 37]),
  .inl (5, [some 32, none, none]), .inr (0, 60), .inl (5, [some 34, none, none]), .inr (0, 60), .inl (5, [some 36, none, none]), .inr (0, 60), .inl (5, [some 38, none, none]), .inr (0, 60)]
def shM : List Shc := [
  .inl (9, [some 1, some 2, some 3, some 4, none, some 5, some 6, none, some 7, none, none, some 8, some 9, some 10, some 11, some 12, some 13, some 14, some 15, some 16, some 17, none, none, none, none, none, some 18, some 19, some 20]),
  .inr (0, 4), .inr (0, 4), .inr (0, 240), .inr (0, 60), .inr (0, 44), .inr (0, 2), .inr (0, 12), .inr (0, 16), .inr (1, 16), .inr (0, 6), .inr (0, 5), .inr (0, 80), .inr (0, 40), .inr (0, 40), .inr (0, 40), .inr (0, 6), .inr (0, 6), .inr (0, 12), .inr (0, 12), .inr (0, 6)]
/-- static table j of the class: its name, its values -/
def stn (j : Nat) : String := match j with
  | 0 => "ENGINE_LEAST" | 1 => "ENGINE_MOST" | 2 => "ENGINE_FIRST" | 3 => "SETTING_LEAST" | 4 => "SETTING_MOST" | 5 => "SETTING_FIRST" | _ => "DIGEST_MINUTES"
def stv (j : Nat) : List Int32 := match j with
  | 0 => [0, 0, 1] | 1 => [999, 3, 5] | 2 => [100, 0, 1] | 3 => [1, 1, 1, 1, 0] | 4 => [999, 99, 99, 99, 20] | 5 => [300, 20, 10, 5, 5] | _ => [0, 1, 7, 39]
def AX (X : Amb) (sh : List Shc) : Nat → Prop := fun q => ∃ k, k < sh.length ∧ q = adr X k
def tysX (X : Amb) : List (ClassId × FieldType) := [(X.2.2.1 0, .int), (X.2.2.1 1, .boolean), (X.2.2.1 2, .object "PushedOver$Sheet")]
def Dok (X : Amb) (sh : List Shc) : Prop := ∀ σ : Mem, va_D (AX X sh) (wl X σ 0 sh)
def Stc (X : Amb) (sh : List Shc) (U : State) (H : Heap) : Prop := sh.length = 39 → ∀ j : Nat, j < 7 →
  va_Z RX8 (stn j) "[I" (.ref (adr X (100 + j))) (AX X sh) U H ∧ va_T .int (adr X (100 + j)) (stv j).length (fun i => .int ((stv j).getD i 0)) (AX X sh) U H
theorem Stc.moved {X : Amb} {sh : List Shc} {u U : State} {H : Heap} (hvm : u.vm.Alike U.vm) (h : Stc X sh u H) : Stc X sh U H := fun hl j hj => ⟨va_Z.moved hvm (h hl j hj).1, va_T.moved hvm (h hl j hj).2⟩
theorem Stc.kept {X : Amb} {sh : List Shc} {U : State} {H H1 : Heap} (h : Stc X sh U H) (hq : ∀ a : Nat, a < H.size → ¬ AX X sh a → H1[a]? = H[a]?) : Stc X sh U H1 := fun hl j hj => ⟨va_Z.kept (h hl j hj).1 hq, va_T.kept (h hl j hj).2 hq⟩
/-! methods: name, code, locals, answer, frames and words below it, the shape of its world -/
abbrev MT : Type := MethodName × ByteArray × Nat × Option FieldType × Nat × Nat × List Shc
abbrev mtY (M : MT) : MethodName := M.1
abbrev mtC (M : MT) : ByteArray := M.2.1
abbrev mtN (M : MT) : Nat := M.2.2.1
abbrev mtR (M : MT) : Option FieldType := M.2.2.2.1
abbrev mtF (M : MT) : Nat := M.2.2.2.2.1
abbrev mtLo (M : MT) : Nat := M.2.2.2.2.2.1
abbrev mtS (M : MT) : List Shc := M.2.2.2.2.2.2
def rmM (M : MT) : Room := { frames := mtF M, cells := 0, slots := 0, locals := mtLo M }
/-- the tables' words that a callee may take over -/
def gtb : List Cond := lw_tbl.filter goodWord
def wsM (M : MT) : List Cond := Cond.code (mtY M) (mtC M) (mtN M) (mtR M) :: gtb
def PcM (X : Amb) (M : MT) (As : List Value) (σ : Mem) : Array Value → State → Prop := va_Pc As (fun U => va_P X.2.2.2 cls (wl X σ 0 (mtS M)) U.heap ∧ va_K X.2.2.2 cls (tysX X) U ∧ Dok X (mtS M) ∧ Stc X (mtS M) U U.heap)
def QcM (X : Amb) (sh : List Shc) (post : Option Value → Mem → Prop) : Array Value → State → Outcome → State → Prop := fun _ st oc t => ∃ (v : Option Value) (σ' : Mem), oc = .returned v ∧ post v σ' ∧ va_P X.2.2.2 cls (wl X σ' 0 sh) t.heap ∧ va_F (AX X sh) st t
/-- a method's contract: called with As over the memory σ it returns, and post holds of the answer and the memory then -/
def Sp (X : Amb) (M : MT) (As : List Value) (σ : Mem) (post : Option Value → Mem → Prop) : Prop := Met X.1 (mtY M) (wsM M) (rmM M) (PcM X M As σ) (QcM X (mtS M) post) 0 0 (AX X (mtS M))
/-- what holds in a method's body from its entry on -/
def Bd (X : Amb) (M : MT) (p : Program) (s : State) (m : MethodId) (args : Array Value) (meth : Method) (c : Code) : Prop :=
  p.tables.exec = Jvm.exec ∧ c.code = mtC M ∧ c.maxLocals = mtN M ∧ s.vm.findClass (mtY M).cls = some m.cls ∧ (∀ w ∈ gtb, w.before args s = true) ∧ meth.locks = false ∧ meth.sig.returnType = mtR M ∧ va_K X.2.2.2 cls (tysX X) s ∧ Dok X (mtS M) ∧ Stc X (mtS M) s s.heap
/-- THE JUDGEMENT: at pc, with locals L, operands S, memory σ the method comes to its end with post -/
def WP (X : Amb) (M : MT) (pc : Nat) (L : List (Nat × Value)) (S : List Value) (σ : Mem) (post : Option Value → Mem → Prop) : Prop :=
  ∀ (p : Program) (e : Env) (s : State) (m : MethodId) (args : Array Value) (below : List Frame) (meth : Method) (c : Code) (H : Heap) (locs : List Loc) (ls : Array Slot), Bd X M p s m args meth c → va_P X.2.2.2 cls (wl X σ 0 (mtS M)) H → va_S (AX X (mtS M)) s.heap H locs → lv_has ls (mtN M) L →
    W p X.1 e (rmM M) s m args below meth c H locs 0 0 (MQ below (QcM X (mtS M) post) args s 0 0 (AX X (mtS M))) (F0 m pc ls S)
theorem sp_of {X : Amb} {M : MT} {As : List Value} {σ : Mem} {post : Option Value → Mem → Prop} (hy : plainName (mtY M).cls = true) (hn : Nat.ble (lg_sl As).length (mtN M) = true) (h : WP X M 0 (lv_args 0 As) [] σ post) : Sp X M As σ post := by
  refine Met.ofW (cc := mtC M) (maxL := mtN M) (ret := mtR M) hy rfl ?_
  intro p e s m args below meth c s₁ B hml hv
  obtain ⟨rfl, hP, hK, hD, hSt⟩ := hv
  have hts := atoms_spec (ws := wsM M) B.pre
  have hown : s.vm.findClass (mtY M).cls = some m.cls := findClass_of_methodNamed B.named
  have hl := lv_entry As (n := mtN M) (Nat.le_of_ble_eq_true hn)
  rw [lg_entry_eq]
  exact h p e s m As.toArray below meth c s.heap [] _ ⟨B.exec, B.bytes, hml, hown, fun w hw => hts w (List.mem_cons_of_mem _ hw), B.notSynchronized, B.returns, hK, hD, hSt⟩ hP va_S.rf hl
/-- fewer known locals -/
theorem wp_drop {X : Amb} {M : MT} {pc : Nat} {L L' : List (Nat × Value)} {S : List Value} {σ : Mem} {post : Option Value → Mem → Prop} (ks : List Nat) (hL : lv_pick L ks = L') (k : WP X M pc L' S σ post) : WP X M pc L S σ post :=
  fun p e s m args below meth c H locs ls B hP hS hl => k p e s m args below meth c H locs ls B hP hS (lv_sub hl ks hL)
theorem wp_mono {X : Amb} {M : MT} {pc : Nat} {L : List (Nat × Value)} {S : List Value} {σ : Mem} {post post' : Option Value → Mem → Prop} (h : ∀ v σ', post v σ' → post' v σ') (k : WP X M pc L S σ post) : WP X M pc L S σ post' := by
  intro p e s m args below meth c H locs ls B hP hS hl T hT XX
  obtain ⟨t, a, o, b1, b2, ⟨v, σ', b3, b4, b5⟩, b6⟩ := k p e s m args below meth c H locs ls B hP hS hl T hT XX
  exact ⟨t, a, o, b1, b2, ⟨v, σ', b3, h v σ' b4, b5⟩, b6⟩
theorem wp_mem {X : Amb} {M : MT} {pc : Nat} {L : List (Nat × Value)} {S : List Value} {σ σ' : Mem} {post : Option Value → Mem → Prop} (e : σ = σ') (k : WP X M pc L S σ' post) : WP X M pc L S σ post := e ▸ k
theorem sp_mono {X : Amb} {M : MT} {As : List Value} {σ : Mem} {post post' : Option Value → Mem → Prop} (hq : ∀ v σ', post v σ' → post' v σ') (h : Sp X M As σ post) : Sp X M As σ post' := by
  intro p e ha hc hk s m args below hf hfit hP hK
  obtain ⟨k, o, h1, h2, h3, ⟨v, σ', b3, b4, b5⟩, h5⟩ := h p e ha hc hk s m args below hf hfit hP hK
  exact ⟨k, o, h1, h2, h3, ⟨v, σ', b3, hq v σ' b4, b5⟩, h5⟩
