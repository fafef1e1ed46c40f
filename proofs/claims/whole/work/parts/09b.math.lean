theorem tw_iM : Cond.initialized "java/lang/Math" ∈ gtb := gtb_in (List.mem_append_right _ (List.mem_of_getElem? (i := 10) (by decide +kernel))) rfl
theorem tw_iS : Cond.initialized "java/lang/System" ∈ gtb := gtb_in (List.mem_append_right _ (List.mem_of_getElem? (i := 12) (by decide +kernel))) rfl
theorem tw_smax : Cond.static Lib.Math.max.name ∈ gtb := gtb_in (List.mem_append_right _ (List.mem_of_getElem? (i := 273) (by decide +kernel))) rfl
theorem tw_cmax : Cond.code Lib.Math.max.name Lib.Math.max.code 2 (some .int) ∈ gtb := gtb_in (List.mem_append_right _ (List.mem_of_getElem? (i := 274) (by decide +kernel))) rfl
theorem tw_smin : Cond.static Lib.Math.min.name ∈ gtb := gtb_in (List.mem_append_right _ (List.mem_of_getElem? (i := 233) (by decide +kernel))) rfl
theorem tw_cmin : Cond.code Lib.Math.min.name Lib.Math.min.code 2 (some .int) ∈ gtb := gtb_in (List.mem_append_right _ (List.mem_of_getElem? (i := 234) (by decide +kernel))) rfl
theorem tw_sabsl : Cond.static Lib.MathLoose.abs_long.x ∈ gtb := gtb_in (List.mem_append_right _ (List.mem_of_getElem? (i := 457) (by decide +kernel))) rfl
theorem tw_cabsl : Cond.code Lib.MathLoose.abs_long.x Lib.MathLoose.abs_long.code 2 (some .long) ∈ gtb := gtb_in (List.mem_append_right _ (List.mem_of_getElem? (i := 458) (by decide +kernel))) rfl
theorem tw_nac : Cond.native arraycopyName ∈ gtb := gtb_in (List.mem_append_right _ (List.mem_of_getElem? (i := 566) (by decide +kernel))) rfl
theorem tw_sac : Cond.static arraycopyName ∈ gtb := gtb_in (List.mem_append_right _ (List.mem_of_getElem? (i := 565) (by decide +kernel))) rfl
theorem tnX1_37 : Cond.methodLink RX1 37 Lib.Math.min.name ∈ gtb := gtb_in (List.mem_append_right _ (List.mem_of_getElem? (i := 232) (by decide +kernel))) rfl
theorem tnX6_46 : Cond.methodLink RX6 46 Lib.Math.min.name ∈ gtb := gtb_in (List.mem_append_right _ (List.mem_of_getElem? (i := 265) (by decide +kernel))) rfl
theorem tnX4_41 : Cond.methodLink RX4 41 Lib.Math.min.name ∈ gtb := gtb_in (List.mem_append_right _ (List.mem_of_getElem? (i := 271) (by decide +kernel))) rfl
theorem tnX4_46 : Cond.methodLink RX4 46 Lib.Math.max.name ∈ gtb := gtb_in (List.mem_append_right _ (List.mem_of_getElem? (i := 272) (by decide +kernel))) rfl
theorem tnX7_26 : Cond.methodLink RX7 26 Lib.Math.max.name ∈ gtb := gtb_in (List.mem_append_right _ (List.mem_of_getElem? (i := 344) (by decide +kernel))) rfl
theorem tnX8_430 : Cond.methodLink RX8 430 Lib.MathLoose.abs_long.x ∈ gtb := gtb_in (List.mem_append_right _ (List.mem_of_getElem? (i := 456) (by decide +kernel))) rfl
theorem tnX0_63 : Cond.methodLink RX0 63 arraycopyName ∈ gtb := gtb_in (List.mem_append_right _ (List.mem_of_getElem? (i := 564) (by decide +kernel))) rfl
theorem tnX0_69 : Cond.methodLink RX0 69 Lib.Math.min.name ∈ gtb := gtb_in (List.mem_append_right _ (List.mem_of_getElem? (i := 571) (by decide +kernel))) rfl
theorem tnX2_31 : Cond.methodLink RX2 31 Lib.Math.max.name ∈ gtb := gtb_in (List.mem_append_right _ (List.mem_of_getElem? (i := 619) (by decide +kernel))) rfl
theorem tnX5_22 : Cond.methodLink RX5 22 Lib.Math.min.name ∈ gtb := gtb_in (List.mem_append_right _ (List.mem_of_getElem? (i := 701) (by decide +kernel))) rfl
theorem tnX5_28 : Cond.methodLink RX5 28 Lib.Math.max.name ∈ gtb := gtb_in (List.mem_append_right _ (List.mem_of_getElem? (i := 702) (by decide +kernel))) rfl
theorem tnX5_39 : Cond.methodLink RX5 39 arraycopyName ∈ gtb := gtb_in (List.mem_append_right _ (List.mem_of_getElem? (i := 752) (by decide +kernel))) rfl
theorem tnX8_302 : Cond.methodLink RX8 302 Lib.Math.min.name ∈ gtb := gtb_in (List.mem_append_right _ (List.mem_of_getElem? (i := 757) (by decide +kernel))) rfl
section MROWS
variable {X : Amb} {M : MT} {pc : Nat} {L : List (Nat × Value)} {S : List Value} {σ : Mem} {post : Option Value → Mem → Prop}
theorem wp_mmax {idx : Nat} {x y : Int32} (hd : decode (mtC M) pc = .ok (.invokestatic idx, 3)) (hk : Cond.methodLink (mtY M).cls idx Lib.Math.max.name ∈ gtb) (hf : Nat.ble 1 (mtF M) = true) (hw : Nat.ble ((S.map fun v => v.category).sum + 13) (mtLo M) = true) (k : WP X M (pc + 3) L (.int (if x < y then y else x) :: S) σ post) : WP X M pc L (.int y :: .int x :: S) σ post :=
  fun p e s m args below meth c H locs ls B hP hS hl => va_mmax B.1 B.2.1 (B.2.2.1.trans hl.1.symm) B.2.2.2.1 (B.2.2.2.2.1 _ hk) (B.2.2.2.2.1 _ tw_smax) (B.2.2.2.2.1 _ tw_iM) (B.2.2.2.2.1 _ tw_cmax) (Nat.le_of_ble_eq_true hf) (Nat.le_of_ble_eq_true hw) (Nat.le_refl _) (Nat.le_refl _) hd (k p e s m args below meth c H locs ls B hP hS hl)
theorem wp_mmin {idx : Nat} {x y : Int32} (hd : decode (mtC M) pc = .ok (.invokestatic idx, 3)) (hk : Cond.methodLink (mtY M).cls idx Lib.Math.min.name ∈ gtb) (hf : Nat.ble 1 (mtF M) = true) (hw : Nat.ble ((S.map fun v => v.category).sum + 13) (mtLo M) = true) (k : WP X M (pc + 3) L (.int (if y < x then y else x) :: S) σ post) : WP X M pc L (.int y :: .int x :: S) σ post :=
  fun p e s m args below meth c H locs ls B hP hS hl => va_mmin B.1 B.2.1 (B.2.2.1.trans hl.1.symm) B.2.2.2.1 (B.2.2.2.2.1 _ hk) (B.2.2.2.2.1 _ tw_smin) (B.2.2.2.2.1 _ tw_iM) (B.2.2.2.2.1 _ tw_cmin) (Nat.le_of_ble_eq_true hf) (Nat.le_of_ble_eq_true hw) (Nat.le_refl _) (Nat.le_refl _) hd (k p e s m args below meth c H locs ls B hP hS hl)
theorem wp_mabsl {idx : Nat} {x : Int64} (hd : decode (mtC M) pc = .ok (.invokestatic idx, 3)) (hk : Cond.methodLink (mtY M).cls idx Lib.MathLoose.abs_long.x ∈ gtb) (hf : Nat.ble 1 (mtF M) = true) (hw : Nat.ble ((S.map fun v => v.category).sum + 13) (mtLo M) = true) (k : WP X M (pc + 3) L (.long (if 0 < x then x else -x) :: S) σ post) : WP X M pc L (.long x :: S) σ post :=
  fun p e s m args below meth c H locs ls B hP hS hl => va_mabs_long B.1 B.2.1 (B.2.2.1.trans hl.1.symm) B.2.2.2.1 (B.2.2.2.2.1 _ hk) (B.2.2.2.2.1 _ tw_sabsl) (B.2.2.2.2.1 _ tw_iM) (B.2.2.2.2.1 _ tw_cabsl) (Nat.le_of_ble_eq_true hf) (Nat.le_of_ble_eq_true hw) (Nat.le_refl _) (Nat.le_refl _) hd (k p e s m args below meth c H locs ls B hP hS hl)
/-- n ints of cell a from place sp on come to cell b from place dp on -/
def mcp (σ : Mem) (a b sp dp n : Nat) : Mem := fun c => if c = b then va_cpy (σ a) (σ b) sp dp n else σ c
theorem wp_copy {idx a b n0 n1 : Nat} {sp dp n : Int32} (hd : decode (mtC M) pc = .ok (.invokestatic idx, 3)) (hk : Cond.methodLink (mtY M).cls idx arraycopyName ∈ gtb) (ha : (mtS M)[a]? = some (.inr (0, n0))) (hb : (mtS M)[b]? = some (.inr (0, n1))) (h1 : ¬ sp < 0) (h2 : ¬ dp < 0) (h3 : ¬ n < 0) (h4 : sp.toNatClampNeg + n.toNatClampNeg ≤ n0) (h5 : dp.toNatClampNeg + n.toNatClampNeg ≤ n1) (hf : Nat.ble 1 (mtF M) = true) (hw : Nat.ble ((S.map fun v => v.category).sum + 18) (mtLo M) = true) (k : WP X M (pc + 3) L S (mcp σ a b sp.toNatClampNeg dp.toNatClampNeg n.toNatClampNeg) post) : WP X M pc L (.int n :: .int dp :: .ref (adr X b) :: .int sp :: .ref (adr X a) :: S) σ post := by
  intro p e s m args below meth c H locs ls B hP hS hl
  have hD : va_D (AX X (mtS M)) (wl X σ 0 (mtS M)) := B.2.2.2.2.2.2.2.2.1 σ
  refine va_copyi (D := X.2.2.2) B.1 B.2.1 (B.2.2.1.trans hl.1.symm) B.2.2.2.1 (B.2.2.2.2.1 _ hk) (B.2.2.2.2.1 _ tw_nac) (B.2.2.2.2.1 _ tw_sac) (B.2.2.2.2.1 _ tw_iS) B.2.2.2.2.2.2.2.1 hP hD hS a b 0 0 (wl_at (X := X) (σ := σ) ha) (wl_at (X := X) (σ := σ) hb) rfl rfl rfl h1 h2 h3 h4 h5 (fun _ _ => rfl) (Nat.le_of_ble_eq_true hf) (Nat.le_of_ble_eq_true hw) hd (fun H1 locs1 hP1 hD1 hS1 => ?_)
  have e2 := wl_set_aux X σ (va_cpy (σ a) (σ b) sp.toNatClampNeg dp.toNatClampNeg n.toNatClampNeg) (mtS M) 0 b _ hb
  rw [Nat.zero_add] at e2
  exact k p e s m args below meth c H1 locs1 ls B (e2 ▸ hP1) hS1 hl
theorem wp_topi {x y : Int32} (e : x = y) (k : WP X M pc L (.int y :: S) σ post) : WP X M pc L (.int x :: S) σ post := e ▸ k
theorem wp_topl {x y : Int64} (e : x = y) (k : WP X M pc L (.long y :: S) σ post) : WP X M pc L (.long x :: S) σ post := e ▸ k
end MROWS
/-- a number of steps that no evaluation unfolds -/
noncomputable def fu (k : Nat) : Nat := Classical.choose (⟨k, rfl⟩ : ∃ n : Nat, n = k)
theorem fu_eq (k : Nat) : fu k = k := Classical.choose_spec (⟨k, rfl⟩ : ∃ n : Nat, n = k)
theorem fu_lt {m k : Nat} (h : m < k) : m < fu k := by rw [fu_eq]; exact h
