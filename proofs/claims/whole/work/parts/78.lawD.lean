theorem tls_0 : Cond.laysStatic RX8 "ENGINE_LEAST" "[I" ∈ lw_tbl := List.mem_append_right _ (List.mem_of_getElem? (i := 86) (by decide +kernel))
theorem tls_1 : Cond.laysStatic RX8 "ENGINE_MOST" "[I" ∈ lw_tbl := List.mem_append_right _ (List.mem_of_getElem? (i := 88) (by decide +kernel))
theorem tls_2 : Cond.laysStatic RX8 "ENGINE_FIRST" "[I" ∈ lw_tbl := List.mem_append_right _ (List.mem_of_getElem? (i := 90) (by decide +kernel))
theorem tls_3 : Cond.laysStatic RX8 "SETTING_LEAST" "[I" ∈ lw_tbl := List.mem_append_right _ (List.mem_of_getElem? (i := 113) (by decide +kernel))
theorem tls_4 : Cond.laysStatic RX8 "SETTING_MOST" "[I" ∈ lw_tbl := List.mem_append_right _ (List.mem_of_getElem? (i := 115) (by decide +kernel))
theorem tls_5 : Cond.laysStatic RX8 "SETTING_FIRST" "[I" ∈ lw_tbl := List.mem_append_right _ (List.mem_of_getElem? (i := 117) (by decide +kernel))
theorem tls_6 : Cond.laysStatic RX8 "DIGEST_MINUTES" "[I" ∈ lw_tbl := List.mem_append_right _ (List.mem_of_getElem? (i := 793) (by decide +kernel))
theorem tckL_7 : Cond.classLink R_law 7 RX8 ∈ gtb := gtb_in (List.mem_append_right _ (List.mem_of_getElem? (i := 13) (by decide +kernel))) rfl
theorem tinX8 : Cond.instantiable RX8 13 ∈ gtb := gtb_in (List.mem_append_right _ (List.mem_of_getElem? (i := 14) (by decide +kernel))) rfl
theorem titX8 : Cond.initialized RX8 ∈ gtb := gtb_in (List.mem_append_right _ (List.mem_of_getElem? (i := 1) (by decide +kernel))) rfl
theorem cnL_7 : CNw R_law 7 8 13 [.null, .null, .null, .null, .null, .null, .null, .null, .null, .null, .null, .int 0, .int 0] := ⟨RX8, TX8, tyX8, cok8.1, cok8.2.1, tyX8_ok, tckL_7, tinX8, titX8, by decide +kernel⟩
theorem tckL_10 : Cond.classLink R_law 10 RX9 ∈ gtb := gtb_in (List.mem_append_right _ (List.mem_of_getElem? (i := 823) (by decide +kernel))) rfl
theorem tinX9 : Cond.instantiable RX9 29 ∈ gtb := gtb_in (List.mem_append_right _ (List.mem_of_getElem? (i := 824) (by decide +kernel))) rfl
theorem titX9 : Cond.initialized RX9 ∈ gtb := gtb_in (List.mem_append_right _ (List.mem_of_getElem? (i := 11) (by decide +kernel))) rfl
theorem cnL_10 : CNw R_law 10 9 29 [.null, .null, .null, .null, .int 0, .null, .null, .int 0, .null, .int 0, .int 0, .null, .null, .null, .null, .null, .null, .null, .null, .null, .null, .int 0, .int 0, .int 0, .int 0, .int 0, .null, .null, .null] := ⟨RX9, TX9, tyX9, cok9.1, cok9.2.1, tyX9_ok, tckL_10, tinX9, titX9, by decide +kernel⟩
theorem tmcL_9 : Cond.methodLink R_law 9 yX8_init ∈ gtb := gtb_in (List.mem_append_right _ (List.mem_of_getElem? (i := 15) (by decide +kernel))) rfl
theorem tmcL_12 : Cond.methodLink R_law 12 yX9_init ∈ gtb := gtb_in (List.mem_append_right _ (List.mem_of_getElem? (i := 825) (by decide +kernel))) rfl
theorem nwt_23 : Cond.methodLinkNest RX8 23 yX1_init RX8 ∈ lw_tbl := List.mem_append_right _ (List.mem_of_getElem? (i := 40) (by decide +kernel))
theorem nwt_30 : Cond.methodLinkNest RX8 30 yX6_init RX8 ∈ lw_tbl := List.mem_append_right _ (List.mem_of_getElem? (i := 62) (by decide +kernel))
theorem nwt_71 : Cond.methodLinkNest RX8 71 yX4_init RX8 ∈ lw_tbl := List.mem_append_right _ (List.mem_of_getElem? (i := 120) (by decide +kernel))
theorem nwt_78 : Cond.methodLinkNest RX8 78 yX0_init RX8 ∈ lw_tbl := List.mem_append_right _ (List.mem_of_getElem? (i := 142) (by decide +kernel))
theorem nwt_85 : Cond.methodLinkNest RX8 85 yX2_init RX8 ∈ lw_tbl := List.mem_append_right _ (List.mem_of_getElem? (i := 173) (by decide +kernel))
theorem nwt_96 : Cond.methodLinkNest RX8 96 yX5_init RX8 ∈ lw_tbl := List.mem_append_right _ (List.mem_of_getElem? (i := 199) (by decide +kernel))
theorem nwt_c : Cond.castable "[I" "java/lang/Cloneable" ∈ lw_tbl := List.mem_append_right _ (List.mem_of_getElem? (i := 100) (by decide +kernel))
theorem nwt_s : Cond.arrayOver (.object "PushedOver$Sheet") ∈ lw_tbl := List.mem_append_right _ (List.mem_of_getElem? (i := 197) (by decide +kernel))
theorem nw_start {b : Nat} {s : State} (hts : ∀ w ∈ lw_tbl, w.before #[Value.ref b] s = true) : NW s := by
  refine ⟨?_, va_Nw.of rfl (hts _ nwt_c), va_AO.of (hts _ nwt_s)⟩
  intro q hq
  simp only [nwl, List.mem_cons, List.not_mem_nil, or_false] at hq
  rcases hq with rfl | rfl | rfl | rfl | rfl | rfl
  · exact va_Nw.of rfl (hts _ nwt_23)
  · exact va_Nw.of rfl (hts _ nwt_30)
  · exact va_Nw.of rfl (hts _ nwt_71)
  · exact va_Nw.of rfl (hts _ nwt_78)
  · exact va_Nw.of rfl (hts _ nwt_85)
  · exact va_Nw.of rfl (hts _ nwt_96)
/-! ===== the first relation ===== -/
theorem R0 : R (f_X8_refresh sg0) tm0 := by
  refine R_refresh ?_ ?_ ?_ ?_ ?_ rfl
  · refine ⟨rfl, by decide, rfl, by decide, rfl, rfl, fun j hj => ?_, rfl, rfl, fun j hj => ?_⟩
    · exact absurd hj (Nat.not_lt_zero j)
    · exact absurd hj (Nat.not_lt_zero j)
  · refine ⟨fun j hj => ?_, by unfold rng; decide, by unfold rng; decide, by unfold rng; decide, by unfold rng; decide, by unfold rng; decide, by unfold rng; decide⟩
    rcases (show j = 0 ∨ j = 1 ∨ j = 2 by omega) with rfl | rfl | rfl <;> exact ⟨rfl, rfl⟩
  · refine ⟨fun j hj => ?_, by unfold rng; decide, by unfold rng; decide, by unfold rng; decide, by unfold rng; decide, by unfold rng; decide⟩
    rcases (show j = 0 ∨ j = 1 ∨ j = 2 ∨ j = 3 ∨ j = 4 by omega) with rfl | rfl | rfl | rfl | rfl <;> rfl
  · refine ⟨rfl, by decide, rfl, fun j hj => ?_⟩
    exact absurd hj (Nat.not_lt_zero j)
  · intro s hs
    rcases (show s = 0 ∨ s = 1 ∨ s = 2 ∨ s = 3 by omega) with rfl | rfl | rfl | rfl <;>
      exact ⟨rfl, by unfold rng; decide, by unfold rng; decide, by unfold rng; decide, fun h => absurd h (by decide)⟩
/-! ===== the static tables at the start ===== -/
theorem len_small {args : Array Value} {s : State} {tm : Term} {v : Value} {t : Nat} {cell : Cell} (hlen : (Term.length tm).eval args s none [] s = some v) (ht : tm.eval args s none [] s = some (.ref t)) (hc : s.arrayAt? t = some cell) : cell.slots.size < 2 ^ 31 := by
  apply Classical.byContradiction
  intro hn
  simp only [Term.eval, Option.bind_eq_bind, ht, hc, Option.bind_some, if_neg hn] at hlen
  cases hlen
theorem st_any {args : Array Value} {s : State} {nm : String} {vs : List Int32} (hN : vs.length < 2 ^ 31) (hl : (Cond.laysStatic RX8 nm "[I").before args s = true) (hini : (Cond.initialized RX8).before args s = true)
    (h1 : (Cond.arrayOf (.static RX8 nm "[I") .int).before args s = true) (h2 : (Cond.eq (.length (.static RX8 nm "[I")) (.int (Int32.ofNat vs.length))).before args s = true) (h3 : ∀ j : Nat, j < vs.length → (Cond.eq (.elem (.static RX8 nm "[I") (.int (Int32.ofNat j))) (.int (vs.getD j 0))).before args s = true) (h4 : (Cond.exactly (.static RX8 nm "[I") "[I").before args s = true) :
    ∃ t : Nat, va_Z RX8 nm "[I" (.ref t) (fun q => s.heap.size ≤ q) s s.heap ∧ va_T .int t vs.length (fun i => .int (vs.getD i 0)) (fun q => s.heap.size ≤ q) s s.heap ∧ ∃ cell : Cell, s.heap[t]? = some cell ∧ s.vm.findClass "[I" = some cell.cls ∧ cell.slots.size = vs.length := by
  have hlen := va_eqt h2
  obtain ⟨t, ht, hT⟩ := va_Tof (tm := .static RX8 nm "[I") (ty := .int) (N := vs.length) (f := fun i => .int (vs.getD i 0)) (A := fun q => s.heap.size ≤ q) hN h1 hlen (fun j hj => va_eqt (h3 j hj)) (fun a h => Nat.not_le.mpr h)
  refine ⟨t, va_Zof hl hini ht (fun a h => Nat.not_le.mpr h), hT, ?_⟩
  obtain ⟨a, c, cell, k, q1, q2, q3, q4, q5, q6, -⟩ := Cond.exactly_spec h4
  cases ht.symm.trans q1
  refine ⟨cell, q3, by rw [q6]; exact q2, ?_⟩
  obtain ⟨t2, cell2, g1, g2, g3⟩ := Term.length_spec hlen
  cases ht.symm.trans g1
  obtain ⟨g4, -⟩ := State.arrayAt?_spec g2
  cases q3.symm.trans g4
  have hsz : cell.slots.size < 2 ^ 31 := len_small hlen ht g2
  have e1 : (nI cell.slots.size).toInt = (nI vs.length).toInt := congrArg Int32.toInt (Value.int.inj g3).symm
  rw [nI_toInt hsz, nI_toInt hN] at e1
  omega

theorem st_0 {b : Nat} {s : State} (ht : ∀ w ∈ lw_tbl, w.before #[Value.ref b] s = true) (hg : ∀ w ∈ gtb, w.before #[Value.ref b] s = true) (hs : ∀ c ∈ flatC (Jvm.Cond.and given_1 narrow_1), c.before #[Value.ref b] s = true) : ∃ t : Nat, va_Z RX8 (stn 0) "[I" (.ref t) (fun q => s.heap.size ≤ q) s s.heap ∧ va_T .int t (stv 0).length (fun i => .int ((stv 0).getD i 0)) (fun q => s.heap.size ≤ q) s s.heap ∧ ∃ cell : Cell, s.heap[t]? = some cell ∧ s.vm.findClass "[I" = some cell.cls ∧ cell.slots.size = (stv 0).length := by
  refine st_any (nm := "ENGINE_LEAST") (vs := stv 0) (by decide) (ht _ tls_0) (hg _ titX8) (hs (.arrayOf (.static RX8 "ENGINE_LEAST" "[I") .int) (by decide +kernel)) (hs (.eq (.length (.static RX8 "ENGINE_LEAST" "[I")) (.int (Int32.ofNat 3))) (by decide +kernel)) (fun j hj => ?_) (hs (.exactly (.static RX8 "ENGINE_LEAST" "[I") "[I") (by decide +kernel))
  have hj : j < 3 := hj
  match j, hj with
  | 0, _ => exact hs (.eq (.elem (.static RX8 "ENGINE_LEAST" "[I") (.int (Int32.ofNat 0))) (.int 0)) (by decide +kernel)
  | 1, _ => exact hs (.eq (.elem (.static RX8 "ENGINE_LEAST" "[I") (.int (Int32.ofNat 1))) (.int 0)) (by decide +kernel)
  | 2, _ => exact hs (.eq (.elem (.static RX8 "ENGINE_LEAST" "[I") (.int (Int32.ofNat 2))) (.int 1)) (by decide +kernel)
  | n + 3, h => exact absurd h (by omega)
theorem st_1 {b : Nat} {s : State} (ht : ∀ w ∈ lw_tbl, w.before #[Value.ref b] s = true) (hg : ∀ w ∈ gtb, w.before #[Value.ref b] s = true) (hs : ∀ c ∈ flatC (Jvm.Cond.and given_1 narrow_1), c.before #[Value.ref b] s = true) : ∃ t : Nat, va_Z RX8 (stn 1) "[I" (.ref t) (fun q => s.heap.size ≤ q) s s.heap ∧ va_T .int t (stv 1).length (fun i => .int ((stv 1).getD i 0)) (fun q => s.heap.size ≤ q) s s.heap ∧ ∃ cell : Cell, s.heap[t]? = some cell ∧ s.vm.findClass "[I" = some cell.cls ∧ cell.slots.size = (stv 1).length := by
  refine st_any (nm := "ENGINE_MOST") (vs := stv 1) (by decide) (ht _ tls_1) (hg _ titX8) (hs (.arrayOf (.static RX8 "ENGINE_MOST" "[I") .int) (by decide +kernel)) (hs (.eq (.length (.static RX8 "ENGINE_MOST" "[I")) (.int (Int32.ofNat 3))) (by decide +kernel)) (fun j hj => ?_) (hs (.exactly (.static RX8 "ENGINE_MOST" "[I") "[I") (by decide +kernel))
  have hj : j < 3 := hj
  match j, hj with
  | 0, _ => exact hs (.eq (.elem (.static RX8 "ENGINE_MOST" "[I") (.int (Int32.ofNat 0))) (.int 999)) (by decide +kernel)
  | 1, _ => exact hs (.eq (.elem (.static RX8 "ENGINE_MOST" "[I") (.int (Int32.ofNat 1))) (.int 3)) (by decide +kernel)
  | 2, _ => exact hs (.eq (.elem (.static RX8 "ENGINE_MOST" "[I") (.int (Int32.ofNat 2))) (.int 5)) (by decide +kernel)
  | n + 3, h => exact absurd h (by omega)
theorem st_2 {b : Nat} {s : State} (ht : ∀ w ∈ lw_tbl, w.before #[Value.ref b] s = true) (hg : ∀ w ∈ gtb, w.before #[Value.ref b] s = true) (hs : ∀ c ∈ flatC (Jvm.Cond.and given_1 narrow_1), c.before #[Value.ref b] s = true) : ∃ t : Nat, va_Z RX8 (stn 2) "[I" (.ref t) (fun q => s.heap.size ≤ q) s s.heap ∧ va_T .int t (stv 2).length (fun i => .int ((stv 2).getD i 0)) (fun q => s.heap.size ≤ q) s s.heap ∧ ∃ cell : Cell, s.heap[t]? = some cell ∧ s.vm.findClass "[I" = some cell.cls ∧ cell.slots.size = (stv 2).length := by
  refine st_any (nm := "ENGINE_FIRST") (vs := stv 2) (by decide) (ht _ tls_2) (hg _ titX8) (hs (.arrayOf (.static RX8 "ENGINE_FIRST" "[I") .int) (by decide +kernel)) (hs (.eq (.length (.static RX8 "ENGINE_FIRST" "[I")) (.int (Int32.ofNat 3))) (by decide +kernel)) (fun j hj => ?_) (hs (.exactly (.static RX8 "ENGINE_FIRST" "[I") "[I") (by decide +kernel))
  have hj : j < 3 := hj
  match j, hj with
  | 0, _ => exact hs (.eq (.elem (.static RX8 "ENGINE_FIRST" "[I") (.int (Int32.ofNat 0))) (.int 100)) (by decide +kernel)
  | 1, _ => exact hs (.eq (.elem (.static RX8 "ENGINE_FIRST" "[I") (.int (Int32.ofNat 1))) (.int 0)) (by decide +kernel)
  | 2, _ => exact hs (.eq (.elem (.static RX8 "ENGINE_FIRST" "[I") (.int (Int32.ofNat 2))) (.int 1)) (by decide +kernel)
  | n + 3, h => exact absurd h (by omega)
theorem st_3 {b : Nat} {s : State} (ht : ∀ w ∈ lw_tbl, w.before #[Value.ref b] s = true) (hg : ∀ w ∈ gtb, w.before #[Value.ref b] s = true) (hs : ∀ c ∈ flatC (Jvm.Cond.and given_1 narrow_1), c.before #[Value.ref b] s = true) : ∃ t : Nat, va_Z RX8 (stn 3) "[I" (.ref t) (fun q => s.heap.size ≤ q) s s.heap ∧ va_T .int t (stv 3).length (fun i => .int ((stv 3).getD i 0)) (fun q => s.heap.size ≤ q) s s.heap ∧ ∃ cell : Cell, s.heap[t]? = some cell ∧ s.vm.findClass "[I" = some cell.cls ∧ cell.slots.size = (stv 3).length := by
  refine st_any (nm := "SETTING_LEAST") (vs := stv 3) (by decide) (ht _ tls_3) (hg _ titX8) (hs (.arrayOf (.static RX8 "SETTING_LEAST" "[I") .int) (by decide +kernel)) (hs (.eq (.length (.static RX8 "SETTING_LEAST" "[I")) (.int (Int32.ofNat 5))) (by decide +kernel)) (fun j hj => ?_) (hs (.exactly (.static RX8 "SETTING_LEAST" "[I") "[I") (by decide +kernel))
  have hj : j < 5 := hj
  match j, hj with
  | 0, _ => exact hs (.eq (.elem (.static RX8 "SETTING_LEAST" "[I") (.int (Int32.ofNat 0))) (.int 1)) (by decide +kernel)
  | 1, _ => exact hs (.eq (.elem (.static RX8 "SETTING_LEAST" "[I") (.int (Int32.ofNat 1))) (.int 1)) (by decide +kernel)
  | 2, _ => exact hs (.eq (.elem (.static RX8 "SETTING_LEAST" "[I") (.int (Int32.ofNat 2))) (.int 1)) (by decide +kernel)
  | 3, _ => exact hs (.eq (.elem (.static RX8 "SETTING_LEAST" "[I") (.int (Int32.ofNat 3))) (.int 1)) (by decide +kernel)
  | 4, _ => exact hs (.eq (.elem (.static RX8 "SETTING_LEAST" "[I") (.int (Int32.ofNat 4))) (.int 0)) (by decide +kernel)
  | n + 5, h => exact absurd h (by omega)
theorem st_4 {b : Nat} {s : State} (ht : ∀ w ∈ lw_tbl, w.before #[Value.ref b] s = true) (hg : ∀ w ∈ gtb, w.before #[Value.ref b] s = true) (hs : ∀ c ∈ flatC (Jvm.Cond.and given_1 narrow_1), c.before #[Value.ref b] s = true) : ∃ t : Nat, va_Z RX8 (stn 4) "[I" (.ref t) (fun q => s.heap.size ≤ q) s s.heap ∧ va_T .int t (stv 4).length (fun i => .int ((stv 4).getD i 0)) (fun q => s.heap.size ≤ q) s s.heap ∧ ∃ cell : Cell, s.heap[t]? = some cell ∧ s.vm.findClass "[I" = some cell.cls ∧ cell.slots.size = (stv 4).length := by
  refine st_any (nm := "SETTING_MOST") (vs := stv 4) (by decide) (ht _ tls_4) (hg _ titX8) (hs (.arrayOf (.static RX8 "SETTING_MOST" "[I") .int) (by decide +kernel)) (hs (.eq (.length (.static RX8 "SETTING_MOST" "[I")) (.int (Int32.ofNat 5))) (by decide +kernel)) (fun j hj => ?_) (hs (.exactly (.static RX8 "SETTING_MOST" "[I") "[I") (by decide +kernel))
  have hj : j < 5 := hj
  match j, hj with
  | 0, _ => exact hs (.eq (.elem (.static RX8 "SETTING_MOST" "[I") (.int (Int32.ofNat 0))) (.int 999)) (by decide +kernel)
  | 1, _ => exact hs (.eq (.elem (.static RX8 "SETTING_MOST" "[I") (.int (Int32.ofNat 1))) (.int 99)) (by decide +kernel)
  | 2, _ => exact hs (.eq (.elem (.static RX8 "SETTING_MOST" "[I") (.int (Int32.ofNat 2))) (.int 99)) (by decide +kernel)
  | 3, _ => exact hs (.eq (.elem (.static RX8 "SETTING_MOST" "[I") (.int (Int32.ofNat 3))) (.int 99)) (by decide +kernel)
  | 4, _ => exact hs (.eq (.elem (.static RX8 "SETTING_MOST" "[I") (.int (Int32.ofNat 4))) (.int 20)) (by decide +kernel)
  | n + 5, h => exact absurd h (by omega)
theorem st_5 {b : Nat} {s : State} (ht : ∀ w ∈ lw_tbl, w.before #[Value.ref b] s = true) (hg : ∀ w ∈ gtb, w.before #[Value.ref b] s = true) (hs : ∀ c ∈ flatC (Jvm.Cond.and given_1 narrow_1), c.before #[Value.ref b] s = true) : ∃ t : Nat, va_Z RX8 (stn 5) "[I" (.ref t) (fun q => s.heap.size ≤ q) s s.heap ∧ va_T .int t (stv 5).length (fun i => .int ((stv 5).getD i 0)) (fun q => s.heap.size ≤ q) s s.heap ∧ ∃ cell : Cell, s.heap[t]? = some cell ∧ s.vm.findClass "[I" = some cell.cls ∧ cell.slots.size = (stv 5).length := by
  refine st_any (nm := "SETTING_FIRST") (vs := stv 5) (by decide) (ht _ tls_5) (hg _ titX8) (hs (.arrayOf (.static RX8 "SETTING_FIRST" "[I") .int) (by decide +kernel)) (hs (.eq (.length (.static RX8 "SETTING_FIRST" "[I")) (.int (Int32.ofNat 5))) (by decide +kernel)) (fun j hj => ?_) (hs (.exactly (.static RX8 "SETTING_FIRST" "[I") "[I") (by decide +kernel))
  have hj : j < 5 := hj
  match j, hj with
  | 0, _ => exact hs (.eq (.elem (.static RX8 "SETTING_FIRST" "[I") (.int (Int32.ofNat 0))) (.int 300)) (by decide +kernel)
  | 1, _ => exact hs (.eq (.elem (.static RX8 "SETTING_FIRST" "[I") (.int (Int32.ofNat 1))) (.int 20)) (by decide +kernel)
  | 2, _ => exact hs (.eq (.elem (.static RX8 "SETTING_FIRST" "[I") (.int (Int32.ofNat 2))) (.int 10)) (by decide +kernel)
  | 3, _ => exact hs (.eq (.elem (.static RX8 "SETTING_FIRST" "[I") (.int (Int32.ofNat 3))) (.int 5)) (by decide +kernel)
  | 4, _ => exact hs (.eq (.elem (.static RX8 "SETTING_FIRST" "[I") (.int (Int32.ofNat 4))) (.int 5)) (by decide +kernel)
  | n + 5, h => exact absurd h (by omega)
theorem st_6 {b : Nat} {s : State} (ht : ∀ w ∈ lw_tbl, w.before #[Value.ref b] s = true) (hg : ∀ w ∈ gtb, w.before #[Value.ref b] s = true) (hs : ∀ c ∈ flatC (Jvm.Cond.and given_1 narrow_1), c.before #[Value.ref b] s = true) : ∃ t : Nat, va_Z RX8 (stn 6) "[I" (.ref t) (fun q => s.heap.size ≤ q) s s.heap ∧ va_T .int t (stv 6).length (fun i => .int ((stv 6).getD i 0)) (fun q => s.heap.size ≤ q) s s.heap ∧ ∃ cell : Cell, s.heap[t]? = some cell ∧ s.vm.findClass "[I" = some cell.cls ∧ cell.slots.size = (stv 6).length := by
  refine st_any (nm := "DIGEST_MINUTES") (vs := stv 6) (by decide) (ht _ tls_6) (hg _ titX8) (hs (.arrayOf (.static RX8 "DIGEST_MINUTES" "[I") .int) (by decide +kernel)) (hs (.eq (.length (.static RX8 "DIGEST_MINUTES" "[I")) (.int (Int32.ofNat 4))) (by decide +kernel)) (fun j hj => ?_) (hs (.exactly (.static RX8 "DIGEST_MINUTES" "[I") "[I") (by decide +kernel))
  have hj : j < 4 := hj
  match j, hj with
  | 0, _ => exact hs (.eq (.elem (.static RX8 "DIGEST_MINUTES" "[I") (.int (Int32.ofNat 0))) (.int 0)) (by decide +kernel)
  | 1, _ => exact hs (.eq (.elem (.static RX8 "DIGEST_MINUTES" "[I") (.int (Int32.ofNat 1))) (.int 1)) (by decide +kernel)
  | 2, _ => exact hs (.eq (.elem (.static RX8 "DIGEST_MINUTES" "[I") (.int (Int32.ofNat 2))) (.int 7)) (by decide +kernel)
  | 3, _ => exact hs (.eq (.elem (.static RX8 "DIGEST_MINUTES" "[I") (.int (Int32.ofNat 3))) (.int 39)) (by decide +kernel)
  | n + 4, h => exact absurd h (by omega)
/-- behind a constructor's call, in the law -/
theorem gcall {X : Amb} {A0 : Nat → Prop} {H0 : Heap} {Rm : Room} {l : Launch} {Q : State → Prop} {ws : va_W} {kc kn nc ns pc : Nat} {q : Nat × va_E} {rest st0 : List Value} {post1 : va_W → Prop} {p : Program} {e : Env} {s : State} {m : MethodId} {args : Array Value} {below : List Frame} {meth : Method} {c : Code} {H : Heap} {locs : List Loc} {ls : Array Slot} {a : Array Value}
    (hr : va_Run p l e Rm s m args below meth c H locs kc kn nc ns (F0 m pc ls st0) rest (QcC X q post1 a) (va_A [q] H.size)) (hP : va_P X.2.2.2 cls (ws ++ [q]) H) (hD : va_D A0 (ws ++ [q])) (hA : ∀ x, H0.size ≤ x → A0 x) (hS : va_S A0 H0 H locs)
    (kk : ∀ (w1 : va_W) (H1 : Heap) (locs1 : List Loc), post1 w1 → va_P X.2.2.2 cls (ws ++ w1) H1 → va_D A0 (ws ++ w1) → va_S A0 H0 H1 locs1 → W p l e Rm s m args below meth c H1 locs1 (kc + nc) (kn + ns) Q (F0 m (pc + 3) ls rest)) : W p l e Rm s m args below meth c H locs kc kn Q (F0 m pc ls st0) := by
  intro T hT XX
  obtain ⟨v, st₀, t, T', L1, h0, X', hL, e1, e2, ⟨w1, hv, hp, hPn, hDn, hz, hk⟩, st⟩ := hr T hT XX
  cases hv
  rw [h0] at hz hk hDn
  have hq : A0 q.1 := hD.2 ws.length q (by simp)
  have hF : ∀ x, va_A [q] H.size x → A0 x := by
    intro x hx
    rcases hx with ⟨k, e, hx⟩ | hx
    · have h2 := (List.getElem?_eq_some_iff.mp hx).1
      simp only [List.length_cons, List.length_nil] at h2
      rw [show k = 0 by omega] at hx
      simp at hx
      rw [hx] at hq
      exact hq
    · exact hA _ (Nat.le_trans hS.1 hx)
  have hap : ∀ (k : Nat) (x : Nat × va_E), ws[k]? = some x → x.1 < H.size ∧ ¬ va_A [q] H.size x.1 := by
    intro k x hx
    have hkl := (List.getElem?_eq_some_iff.mp hx).1
    have hx' : (ws ++ [q])[k]? = some x := by rw [List.getElem?_append_left hkl]; exact hx
    have hlt := (hP k x hx').lt
    refine ⟨hlt, fun h => ?_⟩
    rcases h with ⟨j, e, h⟩ | h
    · have h2 := (List.getElem?_eq_some_iff.mp h).1
      simp only [List.length_cons, List.length_nil] at h2
      rw [show j = 0 by omega] at h
      simp at h
      have := hD.1 k ws.length x q hx' (by simp) (by rw [h])
      omega
    · omega
  have hPw : va_P X.2.2.2 cls ws H := fun k x hx => hP k x (by rw [List.getElem?_append_left (List.getElem?_eq_some_iff.mp hx).1]; exact hx)
  have hDw : va_D A0 ws := ⟨fun i j x y hx hy hxy => hD.1 i j x y (by rw [List.getElem?_append_left (List.getElem?_eq_some_iff.mp hx).1]; exact hx) (by rw [List.getElem?_append_left (List.getElem?_eq_some_iff.mp hy).1]; exact hy) hxy, fun k x hx => hD.2 k x (by rw [List.getElem?_append_left (List.getElem?_eq_some_iff.mp hx).1]; exact hx)⟩
  obtain ⟨t2, a1, b1⟩ := kk w1 T'.heap (locs ++ L1) hp (by rw [e1]; exact va_P.app (hPw.kept (fun k x hx => hk x.1 (hap k x hx).1 (hap k x hx).2)) hPn)
    (va_D.app hDw (hDn.weaken (fun k x _ h => hF x.1 h)) (fun i j x y hx hy hxy => (hap i x hx).2 (by rw [hxy]; exact hDn.2 j y hy)))
    ⟨Nat.le_trans hS.1 (by rw [e1]; exact hz), fun x h1 h2 => by rw [e1, hk x (Nat.lt_of_lt_of_le h1 hS.1) (fun z => h2 (hF x z))]; exact hS.2.1 x h1 h2, fun x hx => by
      rcases List.mem_append.mp hx with h | h
      · exact hS.2.2 x h
      · exact hF _ (hL x h)⟩ T' rfl X'
  exact ⟨t2, st t2 a1, b1⟩
theorem pcc_law {X : Amb} {s : State} {q : Nat × va_E} {ws : va_W} {As : List Value} {H : Heap} {locs : List Loc} (hK : va_K X.2.2.2 cls (tysX X) s) (hN : NW s) (hT : StT X s.heap.size s s.heap) (hP : va_P X.2.2.2 cls (ws ++ [q]) H) (hD : va_D (fun q => s.heap.size ≤ q) (ws ++ [q])) (hS : va_S (fun q => s.heap.size ≤ q) s.heap H locs) : ∀ U : State, U.heap = H → s.WarmedH U.vm → PcC X s.heap.size q As H.size As.toArray U := by
  intro U hU hW
  refine ⟨rfl, by rw [hU], ?_, va_K.moved hW.alike hK, hN.warm hW, ?_, hD.2 ws.length q (by simp)⟩
  · rw [hU]
    intro k x hx
    have h2 := (List.getElem?_eq_some_iff.mp hx).1
    simp only [List.length_cons, List.length_nil] at h2
    rw [show k = 0 by omega] at hx
    simp at hx
    exact hP ws.length x (by rw [← hx]; simp)
  · rw [hU]
    exact StT.moved hW.alike (StT.kept hT (fun a h1 h2 => hS.2.1 a h1 h2))
set_option maxHeartbeats 8000000 in
set_option maxRecDepth 100000 in
theorem whole_start {p : Program} {e : Env} {s : State} {m : MethodId} {below : List Frame} {meth : Method} {c : Code} (l : Launch) {b L : Nat} {xs : Nat → Int32} (hL : L ≤ 3072) (C0 : lw_At p s m meth c b L xs) : W p l e room_1 s m #[Value.ref b] below meth c s.heap [] 0 0 (lw_Z below #[Value.ref b] s) (entryFrame m ([Value.ref b] : List Value).toArray 4) := by
  obtain ⟨hx, hb, hr, hml, hown, hts, hX, hbl, hlocks, hgv⟩ := id C0
  have hs := flat_of_before _ hgv
  have hg : ∀ w ∈ gtb, w.before #[Value.ref b] s = true := fun w hw => hts w (List.mem_filter.mp hw).1
  have hN : NW s := nw_start hts
  obtain ⟨c0, i0, hKn0⟩ := u_known (C := RX0) (T := TX0) (N := 8) (n := 8) hg cok0.2.1 (hg _ tinX0)
  obtain ⟨c1, i1, hKn1⟩ := u_known (C := RX1) (T := TX1) (N := 5) (n := 5) hg cok1.2.1 (hg _ tinX1)
  obtain ⟨c2, i2, hKn2⟩ := u_known (C := RX2) (T := TX2) (N := 6) (n := 6) hg cok2.2.1 (hg _ tinX2)
  obtain ⟨c3, i3, hKn3⟩ := u_known (C := RX3) (T := TX3) (N := 3) (n := 3) hg cok3.2.1 (hg _ tinX3)
  obtain ⟨c4, i4, hKn4⟩ := u_known (C := RX4) (T := TX4) (N := 5) (n := 5) hg cok4.2.1 (hg _ tinX4)
  obtain ⟨c5, i5, hKn5⟩ := u_known (C := RX5) (T := TX5) (N := 3) (n := 3) hg cok5.2.1 (hg _ tinX5)
  obtain ⟨c6, i6, hKn6⟩ := u_known (C := RX6) (T := TX6) (N := 5) (n := 5) hg cok6.2.1 (hg _ tinX6)
  obtain ⟨c7, i7, hKn7⟩ := u_known (C := RX7) (T := TX7) (N := 3) (n := 3) hg cok7.2.1 (hg _ tinX7)
  obtain ⟨c8, i8, hKn8⟩ := u_known (C := RX8) (T := TX8) (N := 13) (n := 13) hg cok8.2.1 (hg _ tinX8)
  obtain ⟨c9, i9, hKn9⟩ := u_known (C := RX9) (T := TX9) (N := 29) (n := 29) hg cok9.2.1 (hg _ tinX9)
  obtain ⟨dC, dI, hKc⟩ : ∃ (dC : Nat → ClassId) (dI : Nat → Nat → Nat), ∀ (k : Nat) (q : vw_C), cls[k]? = some q → u_Kn s q.1 q.2.1 q.2.2 (dC k) (dI k) := by
    refine ⟨fun k => ([c0, c1, c2, c3, c4, c5, c6, c7, c8, c9] : List ClassId).getD k c0, fun k => ([i0, i1, i2, i3, i4, i5, i6, i7, i8, i9] : List (Nat → Nat)).getD k i0, ?_⟩
    intro k q hq
    match k, hq with
    | 0, hq => cases hq; exact hKn0
    | 1, hq => cases hq; exact hKn1
    | 2, hq => cases hq; exact hKn2
    | 3, hq => cases hq; exact hKn3
    | 4, hq => cases hq; exact hKn4
    | 5, hq => cases hq; exact hKn5
    | 6, hq => cases hq; exact hKn6
    | 7, hq => cases hq; exact hKn7
    | 8, hq => cases hq; exact hKn8
    | 9, hq => cases hq; exact hKn9
    | k + 10, hq => simp [cls] at hq
  obtain ⟨cI, kI, mI, hI, hI2, hI3⟩ := Cond.arrayClass_spec (hg _ tac_I)
  obtain ⟨cZ, kZ, mZ, hZ, hZ2, hZ3⟩ := Cond.arrayClass_spec (hg _ tac_Z)
  obtain ⟨mS, cS, kS, hS1, hS2, hS3, hS4, hS5⟩ := Cond.arrayOver_spec (hts _ nwt_s)
  obtain ⟨t0, ta0, tb0, ce0, tc0, td0, te0⟩ := st_0 hts hg hs
  obtain ⟨t1, ta1, tb1, ce1, tc1, td1, te1⟩ := st_1 hts hg hs
  obtain ⟨t2, ta2, tb2, ce2, tc2, td2, te2⟩ := st_2 hts hg hs
  obtain ⟨t3, ta3, tb3, ce3, tc3, td3, te3⟩ := st_3 hts hg hs
  obtain ⟨t4, ta4, tb4, ce4, tc4, td4, te4⟩ := st_4 hts hg hs
  obtain ⟨t5, ta5, tb5, ce5, tc5, td5, te5⟩ := st_5 hts hg hs
  obtain ⟨t6, ta6, tb6, ce6, tc6, td6, te6⟩ := st_6 hts hg hs
  obtain ⟨X, hXe⟩ : ∃ X : Amb, X = (l, (fun k => ([t0, t1, t2, t3, t4, t5, t6] : List Nat).getD (k - 100) 0), (fun k => ([cI, cZ, cS] : List ClassId).getD k cI), (dC, dI)) := ⟨_, rfl⟩
  have hK : va_K X.2.2.2 cls (tysX X) s := by
    subst hXe
    refine ⟨hKc, ?_⟩
    intro k q hq
    match k, hq with
    | 0, hq => cases hq; exact ⟨fun n z => ⟨fun k h => (by cases h), kI, hI2, mI, hI3⟩, hI⟩
    | 1, hq => cases hq; exact ⟨fun n z => ⟨fun k h => (by cases h), kZ, hZ2, mZ, hZ3⟩, hZ⟩
    | 2, hq => cases hq; exact ⟨fun n z => ⟨fun k h => (by cases h), kS, hS3, mS, hS4⟩, kS, mS, hS3, hS4, hS1, hS5⟩
    | k + 3, hq => simp [tysX] at hq
  have hT : StT X s.heap.size s s.heap := by
    subst hXe
    intro j hj
    match j, hj with
    | 0, _ => exact ⟨ta0, tb0, ce0, tc0, Option.some.inj (td0.symm.trans hI), te0⟩
    | 1, _ => exact ⟨ta1, tb1, ce1, tc1, Option.some.inj (td1.symm.trans hI), te1⟩
    | 2, _ => exact ⟨ta2, tb2, ce2, tc2, Option.some.inj (td2.symm.trans hI), te2⟩
    | 3, _ => exact ⟨ta3, tb3, ce3, tc3, Option.some.inj (td3.symm.trans hI), te3⟩
    | 4, _ => exact ⟨ta4, tb4, ce4, tc4, Option.some.inj (td4.symm.trans hI), te4⟩
    | 5, _ => exact ⟨ta5, tb5, ce5, tc5, Option.some.inj (td5.symm.trans hI), te5⟩
    | 6, _ => exact ⟨ta6, tb6, ce6, tc6, Option.some.inj (td6.symm.trans hI), te6⟩
    | n + 7, h => exact absurd h (by omega)
  have hXl : X.1 = l := by rw [hXe]
  rw [← hXl]
  have hA : ∀ q : Nat, s.heap.size ≤ q → (fun q : Nat => s.heap.size ≤ q) q := fun _ h => h
  have hS : va_S (fun q : Nat => s.heap.size ≤ q) s.heap s.heap [] := va_S.rf
  have hP : va_P X.2.2.2 cls [] s.heap := fun k q h => by simp at h
  have hD : va_D (fun q : Nat => s.heap.size ≤ q) [] := ⟨fun i j p q h => by simp at h, fun k q h => by simp at h⟩
  have hl := lv_entry ([.ref b]) (n := 4) (Nat.le_of_ble_eq_true rfl)
  rw [lg_entry_eq]
  generalize (lg_sl ([.ref b]) ++ List.replicate (4 - (lg_sl ([.ref b])).length) Slot.unset).toArray = ls at hl ⊢
  have hl : lv_has ls 4 [(0, .ref b)] := hl
  obtain ⟨C, T, ty, n1, n2, n3, n4, n5, n6, n7⟩ := cnL_7
  refine va_new (D := X.2.2.2) (ci := 8) (fs := [.null, .null, .null, .null, .null, .null, .null, .null, .null, .null, .null, .int 0, .int 0]) (C := C) (T := T) (N := 13) hx hb hg n2 ty n3 hown (hg _ n4) (hg _ n5) (hg _ n6) hK hP hD hS hA n1 n7 (Nat.le_of_ble_eq_true rfl) (Nat.le_of_ble_eq_true rfl) dL_law_0 (fun q0 H hP hD hS => ?_)
  refine lv_dup hx hb dL_law_3 rfl ?_
  refine gcall (X := X) (ws := []) (q := (q0, .inr (8, [.null, .null, .null, .null, .null, .null, .null, .null, .null, .null, .null, .int 0, .int 0]))) (nc := 38) (ns := 674) (va_runI (As := []) (rest := [.ref q0]) ⟨hx, hb, hml, hown, hg⟩ (s_X8_init X s.heap.size q0 H.size) (cwI 0 hg (mok_good okX8_init.1) rfl rfl rfl (hg _ okX8_init.1.2.1) (hg _ tmcL_9) (hg _ okX8_init.2.1) rfl okX8_init.1.2.2 ⟨Nat.le_of_ble_eq_true rfl, Nat.le_of_ble_eq_true rfl⟩) ⟨pcc_blind, pcc_law (ws := []) hK hN hT hP hD hS⟩ rfl rfl hl.1 rfl (lv_room (Nat.le_of_ble_eq_true rfl)) dL_law_4 ⟨Nat.le_of_ble_eq_true rfl, Nat.le_of_ble_eq_true rfl⟩) hP hD hA hS ?_
  rintro w1 H1 locs1 ⟨ad, had0, had7, rfl⟩ hP hD hS
  refine lv_astore_n (lv' := [(1, .ref q0), (0, .ref b)]) hx hb dL_law_7 rfl hl (by decide) rfl (fun ls hl => ?_)
  obtain ⟨C, T, ty, n1, n2, n3, n4, n5, n6, n7⟩ := cnL_10
  refine va_new (D := X.2.2.2) (ci := 9) (fs := [.null, .null, .null, .null, .int 0, .null, .null, .int 0, .null, .int 0, .int 0, .null, .null, .null, .null, .null, .null, .null, .null, .null, .null, .int 0, .int 0, .int 0, .int 0, .int 0, .null, .null, .null]) (C := C) (T := T) (N := 29) hx hb hg n2 ty n3 hown (hg _ n4) (hg _ n5) (hg _ n6) hK hP hD hS hA n1 n7 (Nat.le_of_ble_eq_true rfl) (Nat.le_of_ble_eq_true rfl) dL_law_8 (fun q1 H2 hP hD hS => ?_)
  refine lv_dup hx hb dL_law_11 rfl ?_
  refine gcall (X := X) (ws := [] ++ wl (X.1, ad, X.2.2) (f_X8_refresh sg0) 0 shC) (q := (q1, .inr (9, [.null, .null, .null, .null, .int 0, .null, .null, .int 0, .null, .int 0, .int 0, .null, .null, .null, .null, .null, .null, .null, .null, .null, .null, .int 0, .int 0, .int 0, .int 0, .int 0, .null, .null, .null]))) (nc := 20) (ns := 651) (va_runI (As := []) (rest := [.ref q1]) ⟨hx, hb, hml, hown, hg⟩ (s_X9_init X s.heap.size q1 H2.size) (cwI 0 hg (mok_good okX9_init.1) rfl rfl rfl (hg _ okX9_init.1.2.1) (hg _ tmcL_12) (hg _ okX9_init.2.1) rfl okX9_init.1.2.2 ⟨Nat.le_of_ble_eq_true rfl, Nat.le_of_ble_eq_true rfl⟩) ⟨pcc_blind, pcc_law (ws := [] ++ wl (X.1, ad, X.2.2) (f_X8_refresh sg0) 0 shC) hK hN hT hP hD hS⟩ rfl rfl hl.1 rfl (lv_room (Nat.le_of_ble_eq_true rfl)) dL_law_12 ⟨Nat.le_of_ble_eq_true rfl, Nat.le_of_ble_eq_true rfl⟩) hP hD hA hS ?_
  rintro w2 H3 locs2 ⟨am, ham0, rfl⟩ hP hD hS
  rw [List.nil_append] at hP hD
  refine lv_astore_n (lv' := [(2, .ref q1), (1, .ref q0), (0, .ref b)]) hx hb dL_law_15 rfl hl (by decide) rfl (fun ls hl => ?_)
  refine lv_iconst (v := 0) hx hb dL_law_16 (by decide) ?_
  refine lv_istore_n (lv' := [(3, .int 0), (2, .ref q1), (1, .ref q0), (0, .ref b)]) hx hb dL_law_17 rfl hl (by decide) rfl (fun ls hl => ?_)
  have hlw : (wl (X.1, ad, X.2.2) (f_X8_refresh sg0) 0 shC).length = 39 := rfl
  have hP1 : va_P X.2.2.2 cls (wl (X.1, ad, X.2.2) (f_X8_refresh sg0) 0 shC) H3 := fun k q hq => hP k q (by rw [List.getElem?_append_left (List.getElem?_eq_some_iff.mp hq).1]; exact hq)
  have hP2 : va_P X.2.2.2 cls (wl (X.1, am, X.2.2) tm0 0 shM) H3 := fun k q hq => hP (39 + k) q (by rw [List.getElem?_append_right (by rw [hlw]; omega), hlw, show 39 + k - 39 = k by omega]; exact hq)
  have hD1 : va_D (fun q : Nat => s.heap.size ≤ q) (wl (X.1, ad, X.2.2) (f_X8_refresh sg0) 0 shC) := ⟨fun i j x y hx hy => hD.1 i j x y (by rw [List.getElem?_append_left (List.getElem?_eq_some_iff.mp hx).1]; exact hx) (by rw [List.getElem?_append_left (List.getElem?_eq_some_iff.mp hy).1]; exact hy), fun k q hq => hD.2 k q (by rw [List.getElem?_append_left (List.getElem?_eq_some_iff.mp hq).1]; exact hq)⟩
  have hD2 : va_D (fun q : Nat => s.heap.size ≤ q) (wl (X.1, am, X.2.2) tm0 0 shM) := ⟨fun i j x y hx hy h => by
      have := hD.1 (39 + i) (39 + j) x y (by rw [List.getElem?_append_right (by rw [hlw]; omega), hlw, show 39 + i - 39 = i by omega]; exact hx) (by rw [List.getElem?_append_right (by rw [hlw]; omega), hlw, show 39 + j - 39 = j by omega]; exact hy) h
      omega, fun k q hq => hD.2 (39 + k) q (by rw [List.getElem?_append_right (by rw [hlw]; omega), hlw, show 39 + k - 39 = k by omega]; exact hq)⟩
  have hXY : ∀ q, AX (X.1, ad, X.2.2) shC q → ¬ AX (X.1, am, X.2.2) shM q := by
    rintro q ⟨k, hk, hqk⟩ ⟨j, hj, hqj⟩
    obtain ⟨ek, hek⟩ := wl_in (X := (X.1, ad, X.2.2)) (σ := f_X8_refresh sg0) hk
    obtain ⟨ej, hej⟩ := wl_in (X := (X.1, am, X.2.2)) (σ := tm0) hj
    have hk39 : k < 39 := hk
    have := hD.1 k (39 + j) _ _ (by rw [List.getElem?_append_left (by rw [hlw]; exact hk39)]; exact hek) (by rw [List.getElem?_append_right (by rw [hlw]; omega), hlw, show 39 + j - 39 = j by omega]; exact hej) (by show adr (X.1, ad, X.2.2) k = adr (X.1, am, X.2.2) j; rw [← hqk, ← hqj])
    omega
  have hB : LWB (X.1, ad, X.2.2) am b L xs p s m meth c := ⟨hx, hb, hml, hown, hg, hlocks, hr, hK, hX, hbl, stc_of hT had7 (ax_in hD1), dok_of hD1, dok_of hD2, ax_in hD1, ax_in hD2, hXY⟩
  refine W.widen (k := 600000) (n := 7302250) (Nat.le_of_ble_eq_true rfl) (Nat.le_of_ble_eq_true rfl) ?_
  subst had0
  subst ham0
  have hl2 : lv_has ls 4 [(0, .ref b), (1, .ref (adr (X.1, ad, X.2.2) 0)), (2, .ref (am 0)), (3, .int (nI 0))] := lv_sub hl [3, 2, 1, 0] rfl
  exact law_loop (X := (X.1, ad, X.2.2)) (ad := am) (b := b) (Ln := L) (xs := xs) hL (L + 1) 0 _ _ R0 (Nat.zero_le _) (by omega) p e s m below meth c H3 locs2 ls hB hP1 hP2 hS hl2
