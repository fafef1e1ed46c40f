noncomputable section

theorem fr_l_X1_load_47 : ∀ (n : Nat) (c : Int32) (σ : Mem) (q : Nat), q ≠ 5 → q ≠ 6 → q ≠ 7 → (l_X1_load_47 n c σ) q = σ q := by
  intro n
  induction n with
  | zero => intros; rfl
  | succ n ih =>
    intro c σ q h0 h1 h2
    rw [l_X1_load_47]
    (repeat' split) <;> simp [ih, mst, h0, h1, h2]

theorem fr_X6_bendsLast (σ : Mem) {q : Nat} (h0 : q ≠ 8) (h1 : q ≠ 9) (h2 : q ≠ 10) : (f_X6_bendsLast σ).2 q = σ q := by
  unfold f_X6_bendsLast
  (repeat' split) <;> simp [mst, h0, h1, h2]
theorem fr_X6_takes (σ : Mem) (a : Int32) {q : Nat} (h0 : q ≠ 8) (h1 : q ≠ 9) (h2 : q ≠ 10) : (f_X6_takes σ a).2 q = σ q := by
  unfold f_X6_takes
  (repeat' split) <;> simp [mst, fr_X6_bendsLast, h0, h1, h2]
def l_X6_load_17 : Nat → Int32 → Mem → Mem
  | 0, _, σ => σ
  | n + 1, c, σ => if (f_X7_size σ 3) ≤ c then if (σ 8 4) = (-1) then σ else (mst (mst σ 8 2 0) 8 3 0) else if (σ 8 4) = (-1) then if (f_X6_takes σ (f_X7_byteAt σ 3 c)).1 = 0 then (l_X6_load_17 n (c + 1) (mst (f_X6_takes σ (f_X7_byteAt σ 3 c)).2 8 4 c)) else (l_X6_load_17 n (c + 1) (f_X6_takes σ (f_X7_byteAt σ 3 c)).2) else if (σ 8 4) = (-1) then σ else (mst (mst σ 8 2 0) 8 3 0)
theorem lt_X6_load_17 (X : Amb) (B : Int32) : ∀ (n : Nat) (c : Int32) (σ : Mem), (B.toInt - c.toInt).toNat < n → f_X7_size σ 3 = B → WP X mX6_load 17 [(0, .ref (adr X 8)), (1, .ref (adr X 3)), (2, .int c)] [] σ (fun v σ' => v = none ∧ σ' = l_X6_load_17 n c σ) := by
  intro n
  induction n with
  | zero => intro c σ hm; exact absurd hm (Nat.not_lt_zero _)
  | succ n ih =>
    intro c σ hm hB
    refine wp_iload_n dX6_load_17 2 rfl ?_
    refine wp_aload_n dX6_load_18 1 rfl ?_
    refine wp_cV0w (N := mX7_size) dX6_load_19 tmX6_29 okX7_size rfl rfl rfl rfl rfl rfl rfl rfl (s_X7_size X _ 3 tx3) ?_
    refine wp_icmp_ge 56 dX6_load_22 (by decide) (fun c22_1 => ?_) (fun c22_1 => ?_)
    · refine wp_aload_n dX6_load_56 0 rfl ?_
      refine wp_getI dX6_load_57 faX6_26 rfl rfl ?_
      refine wp_iconst dX6_load_60 ic_m1 ?_
      refine wp_icmp_eq 74 dX6_load_61 (by decide) (fun c61_2 => ?_) (fun c61_2 => ?_)
      · refine wp_return dX6_load_74 rfl ?_
        exact ⟨rfl, by rw [l_X6_load_17, if_pos c22_1, if_pos c61_2]⟩
      · refine wp_aload_n dX6_load_64 0 rfl ?_
        refine wp_iconst dX6_load_65 ic_0 ?_
        refine wp_putI dX6_load_66 fwX6_19 rfl rfl ?_
        refine wp_aload_n dX6_load_69 0 rfl ?_
        refine wp_iconst dX6_load_70 ic_0 ?_
        refine wp_putI dX6_load_71 fwX6_23 rfl rfl ?_
        refine wp_return dX6_load_74 rfl ?_
        exact ⟨rfl, by rw [l_X6_load_17, if_pos c22_1, if_neg c61_2]⟩
    · refine wp_aload_n dX6_load_25 0 rfl ?_
      refine wp_getI dX6_load_26 faX6_26 rfl rfl ?_
      refine wp_iconst dX6_load_29 ic_m1 ?_
      refine wp_icmp_ne 56 dX6_load_30 (by decide) (fun c30_3 => ?_) (fun c30_3 => ?_)
      · refine wp_aload_n dX6_load_56 0 rfl ?_
        refine wp_getI dX6_load_57 faX6_26 rfl rfl ?_
        refine wp_iconst dX6_load_60 ic_m1 ?_
        refine wp_icmp_eq 74 dX6_load_61 (by decide) (fun c61_4 => ?_) (fun c61_4 => ?_)
        · refine wp_return dX6_load_74 rfl ?_
          exact ⟨rfl, by rw [l_X6_load_17, if_neg c22_1, if_neg c30_3, if_pos c61_4]⟩
        · refine wp_aload_n dX6_load_64 0 rfl ?_
          refine wp_iconst dX6_load_65 ic_0 ?_
          refine wp_putI dX6_load_66 fwX6_19 rfl rfl ?_
          refine wp_aload_n dX6_load_69 0 rfl ?_
          refine wp_iconst dX6_load_70 ic_0 ?_
          refine wp_putI dX6_load_71 fwX6_23 rfl rfl ?_
          refine wp_return dX6_load_74 rfl ?_
          exact ⟨rfl, by rw [l_X6_load_17, if_neg c22_1, if_neg c30_3, if_neg c61_4]⟩
      · refine wp_aload_n dX6_load_33 0 rfl ?_
        refine wp_aload_n dX6_load_34 1 rfl ?_
        refine wp_iload_n dX6_load_35 2 rfl ?_
        refine wp_cV1w (N := mX7_byteAt) dX6_load_36 tmX6_34 okX7_byteAt rfl rfl rfl rfl rfl rfl rfl rfl (s_X7_byteAt X _ 3 _ tx3) ?_
        refine wp_cV1w (N := mX6_takes) dX6_load_39 tmX6_38 okX6_takes rfl rfl rfl rfl rfl rfl rfl rfl (s_X6_takes X _ _) ?_
        refine wp_if_ne 50 dX6_load_42 (by decide) (fun c42_5 => ?_) (fun c42_5 => ?_)
        · refine wp_iinc (L' := [(2, _), (0, _), (1, _)]) dX6_load_50 rfl 2 rfl (ii_1 _) rfl ?_
          refine wp_goto 17 dX6_load_53 (by decide) ?_
          refine wp_drop [1, 2, 0] rfl ?_
          rw [show l_X6_load_17 (n + 1) c σ = (l_X6_load_17 n (c + 1) (f_X6_takes σ (f_X7_byteAt σ 3 c)).2) from by rw [l_X6_load_17, if_neg c22_1, if_pos c30_3, if_neg c42_5]]
          exact ih _ _ (cnt_up (hB ▸ c22_1) hm) (by simp [f_X7_size, mst, fr_X6_takes]; exact hB)
        · refine wp_aload_n dX6_load_45 0 rfl ?_
          refine wp_iload_n dX6_load_46 2 rfl ?_
          refine wp_putI dX6_load_47 fwX6_26 rfl rfl ?_
          refine wp_iinc (L' := [(2, _), (0, _), (1, _)]) dX6_load_50 rfl 2 rfl (ii_1 _) rfl ?_
          refine wp_goto 17 dX6_load_53 (by decide) ?_
          refine wp_drop [1, 2, 0] rfl ?_
          rw [show l_X6_load_17 (n + 1) c σ = (l_X6_load_17 n (c + 1) (mst (f_X6_takes σ (f_X7_byteAt σ 3 c)).2 8 4 c)) from by rw [l_X6_load_17, if_neg c22_1, if_pos c30_3, if_pos c42_5]]
          exact ih _ _ (cnt_up (hB ▸ c22_1) hm) (by simp [f_X7_size, mst, fr_X6_takes]; exact hB)
def f_X6_load (σ : Mem) : Mem := (l_X6_load_17 (fu ((f_X7_size σ 3).toInt.toNat + 1)) 0 (mst (mst (mst σ 8 2 0) 8 3 0) 8 4 (-1)))
theorem s_X6_load (X : Amb) (σ : Mem) : SpV X mX6_load [.ref (adr X 8), .ref (adr X 3)] σ (f_X6_load σ) := by
  refine sp_of (by decide +kernel) rfl ?_
  show WP X mX6_load 0 [(0, .ref (adr X 8)), (1, .ref (adr X 3))] [] σ _
  refine wp_aload_n dX6_load_0 0 rfl ?_
  refine wp_iconst dX6_load_1 ic_0 ?_
  refine wp_putI dX6_load_2 fwX6_19 rfl rfl ?_
  refine wp_aload_n dX6_load_5 0 rfl ?_
  refine wp_iconst dX6_load_6 ic_0 ?_
  refine wp_putI dX6_load_7 fwX6_23 rfl rfl ?_
  refine wp_aload_n dX6_load_10 0 rfl ?_
  refine wp_iconst dX6_load_11 ic_m1 ?_
  refine wp_putI dX6_load_12 fwX6_26 rfl rfl ?_
  refine wp_iconst dX6_load_15 ic_0 ?_
  refine wp_istore_n (L' := [(2, _), (0, _), (1, _)]) dX6_load_16 rfl rfl ?_
  refine wp_drop [1, 2, 0] rfl ?_
  rw [show f_X6_load σ = (l_X6_load_17 (fu ((f_X7_size σ 3).toInt.toNat + 1)) 0 (mst (mst (mst σ 8 2 0) 8 3 0) 8 4 (-1))) from rfl]
  exact lt_X6_load_17 X (f_X7_size σ 3) (fu ((f_X7_size σ 3).toInt.toNat + 1)) 0 (mst (mst (mst σ 8 2 0) 8 3 0) 8 4 (-1)) (fu_lt mu0) rfl
/-- the dials at cell k: bounds in the static tables ja and jb, n of them -/
def Dl (k ja jb n : Nat) : Prop := (k = 11 ∧ ja = 0 ∧ jb = 1 ∧ n = 3) ∨ (k = 13 ∧ ja = 0 ∧ jb = 1 ∧ n = 3) ∨ (k = 15 ∧ ja = 3 ∧ jb = 4 ∧ n = 5)
theorem Dl.s {k ja jb n : Nat} (h : Dl k ja jb n) : shC[k]? = some (.inl (3, [some (100 + ja), some (100 + jb), some (k + 1)])) := by rcases h with ⟨rfl, rfl, rfl, rfl⟩ | ⟨rfl, rfl, rfl, rfl⟩ | ⟨rfl, rfl, rfl, rfl⟩ <;> rfl
theorem Dl.v {k ja jb n : Nat} (h : Dl k ja jb n) : shC[k + 1]? = some (.inr (0, n)) := by rcases h with ⟨rfl, rfl, rfl, rfl⟩ | ⟨rfl, rfl, rfl, rfl⟩ | ⟨rfl, rfl, rfl, rfl⟩ <;> rfl
theorem Dl.a {k ja jb n : Nat} (h : Dl k ja jb n) : Nat.ble (ja + 1) 7 = true := by rcases h with ⟨rfl, rfl, rfl, rfl⟩ | ⟨rfl, rfl, rfl, rfl⟩ | ⟨rfl, rfl, rfl, rfl⟩ <;> rfl
theorem Dl.b {k ja jb n : Nat} (h : Dl k ja jb n) : Nat.ble (jb + 1) 7 = true := by rcases h with ⟨rfl, rfl, rfl, rfl⟩ | ⟨rfl, rfl, rfl, rfl⟩ | ⟨rfl, rfl, rfl, rfl⟩ <;> rfl
theorem Dl.la {k ja jb n : Nat} (h : Dl k ja jb n) : (stv ja).length = n := by rcases h with ⟨rfl, rfl, rfl, rfl⟩ | ⟨rfl, rfl, rfl, rfl⟩ | ⟨rfl, rfl, rfl, rfl⟩ <;> rfl
theorem Dl.lb {k ja jb n : Nat} (h : Dl k ja jb n) : (stv jb).length = n := by rcases h with ⟨rfl, rfl, rfl, rfl⟩ | ⟨rfl, rfl, rfl, rfl⟩ | ⟨rfl, rfl, rfl, rfl⟩ <;> rfl
theorem Dl.n {k ja jb n : Nat} (h : Dl k ja jb n) : n < 2 ^ 31 := by rcases h with ⟨rfl, rfl, rfl, rfl⟩ | ⟨rfl, rfl, rfl, rfl⟩ | ⟨rfl, rfl, rfl, rfl⟩ <;> decide
theorem dl11 : Dl 11 0 1 3 := Or.inl ⟨rfl, rfl, rfl, rfl⟩
theorem dl13 : Dl 13 0 1 3 := Or.inr (Or.inl ⟨rfl, rfl, rfl, rfl⟩)
theorem dl15 : Dl 15 3 4 5 := Or.inr (Or.inr ⟨rfl, rfl, rfl, rfl⟩)
def f_X3_at (σ : Mem) (k ja jb n : Nat) (a : Int32) : Int32 := if a < 0 then 0 else if (Int32.ofNat n) ≤ a then 0 else (σ (k + 1) (a.toNatClampNeg))
theorem s_X3_at (X : Amb) (σ : Mem) (k ja jb n : Nat) (a : Int32) (hk : Dl k ja jb n) : SpW X mX3_at [.ref (adr X k), .int a] σ (.int (f_X3_at σ k ja jb n a)) σ := by
  refine sp_of (by decide +kernel) rfl ?_
  show WP X mX3_at 0 [(0, .ref (adr X k)), (1, .int a)] [] σ _
  refine wp_iload_n dX3_at_0 1 rfl ?_
  refine wp_if_lt 22 dX3_at_1 (by decide) (fun c1_1 => ?_) (fun c1_1 => ?_)
  · refine wp_iconst dX3_at_22 ic_0 ?_
    refine wp_ireturn dX3_at_23 rfl ?_
    exact ⟨by unfold f_X3_at; rw [if_pos c1_1], rfl⟩
  · refine wp_iload_n dX3_at_4 1 rfl ?_
    refine wp_aload_n dX3_at_5 0 rfl ?_
    refine wp_getR dX3_at_6 faX3_21 hk.s rfl ?_
    refine wp_alen dX3_at_9 hk.v (Or.inl rfl) rfl ?_
    refine wp_icmp_ge 22 dX3_at_10 (by decide) (fun c10_2 => ?_) (fun c10_2 => ?_)
    · refine wp_iconst dX3_at_22 ic_0 ?_
      refine wp_ireturn dX3_at_23 rfl ?_
      exact ⟨by unfold f_X3_at; rw [if_neg c1_1, if_pos c10_2], rfl⟩
    · refine wp_aload_n dX3_at_13 0 rfl ?_
      refine wp_getR dX3_at_14 faX3_21 hk.s rfl ?_
      refine wp_iload_n dX3_at_17 1 rfl ?_
      refine wp_iald dX3_at_18 hk.v (vin n hk.n rfl c1_1 c10_2) ?_
      refine wp_goto 23 dX3_at_19 (by decide) ?_
      refine wp_ireturn dX3_at_23 rfl ?_
      exact ⟨by unfold f_X3_at; rw [if_neg c1_1, if_neg c10_2], rfl⟩
def f_X3_takes (σ : Mem) (k ja jb n : Nat) (a : Int32) (b : Int32) : Int32 := if a < 0 then 0 else if (Int32.ofNat (stv ja).length) ≤ a then 0 else if (Int32.ofNat (stv jb).length) ≤ a then 0 else if (Int32.ofNat n) ≤ a then 0 else if b < ((stv ja).getD a.toNatClampNeg 0) then 0 else if ((stv jb).getD a.toNatClampNeg 0) < b then 0 else 1
theorem s_X3_takes (X : Amb) (σ : Mem) (k ja jb n : Nat) (a : Int32) (b : Int32) (hk : Dl k ja jb n) : SpW X mX3_takes [.ref (adr X k), .int a, .int b] σ (.int (f_X3_takes σ k ja jb n a b)) σ := by
  refine sp_of (by decide +kernel) rfl ?_
  show WP X mX3_takes 0 [(0, .ref (adr X k)), (1, .int a), (2, .int b)] [] σ _
  refine wp_iload_n dX3_takes_0 1 rfl ?_
  refine wp_if_lt 35 dX3_takes_1 (by decide) (fun c1_1 => ?_) (fun c1_1 => ?_)
  · refine wp_iconst dX3_takes_35 ic_0 ?_
    refine wp_istore_n (L' := [(3, _), (0, _), (1, _), (2, _)]) dX3_takes_36 rfl rfl ?_
    refine wp_iload_n dX3_takes_37 0 rfl ?_
    refine wp_if_eq 65 dX3_takes_38 (by decide) (fun _ => ?_) (fun z9 => absurd (by decide) z9)
    refine wp_iconst dX3_takes_65 ic_0 ?_
    refine wp_zreturn dX3_takes_66 rfl (Or.inl rfl) ?_
    exact ⟨by unfold f_X3_takes; rw [if_pos c1_1], rfl⟩
  · refine wp_iload_n dX3_takes_4 1 rfl ?_
    refine wp_aload_n dX3_takes_5 0 rfl ?_
    refine wp_getR dX3_takes_6 faX3_7 hk.s rfl ?_
    refine wp_slen ja dX3_takes_9 rfl hk.a rfl ?_
    refine wp_icmp_ge 35 dX3_takes_10 (by decide) (fun c10_3 => ?_) (fun c10_3 => ?_)
    · refine wp_iconst dX3_takes_35 ic_0 ?_
      refine wp_istore_n (L' := [(3, _), (0, _), (1, _), (2, _)]) dX3_takes_36 rfl rfl ?_
      refine wp_iload_n dX3_takes_37 0 rfl ?_
      refine wp_if_eq 65 dX3_takes_38 (by decide) (fun _ => ?_) (fun z9 => absurd (by decide) z9)
      refine wp_iconst dX3_takes_65 ic_0 ?_
      refine wp_zreturn dX3_takes_66 rfl (Or.inl rfl) ?_
      exact ⟨by unfold f_X3_takes; rw [if_neg c1_1, if_pos c10_3], rfl⟩
    · refine wp_iload_n dX3_takes_13 1 rfl ?_
      refine wp_aload_n dX3_takes_14 0 rfl ?_
      refine wp_getR dX3_takes_15 faX3_13 hk.s rfl ?_
      refine wp_slen jb dX3_takes_18 rfl hk.b rfl ?_
      refine wp_icmp_ge 35 dX3_takes_19 (by decide) (fun c19_5 => ?_) (fun c19_5 => ?_)
      · refine wp_iconst dX3_takes_35 ic_0 ?_
        refine wp_istore_n (L' := [(3, _), (0, _), (1, _), (2, _)]) dX3_takes_36 rfl rfl ?_
        refine wp_iload_n dX3_takes_37 0 rfl ?_
        refine wp_if_eq 65 dX3_takes_38 (by decide) (fun _ => ?_) (fun z9 => absurd (by decide) z9)
        refine wp_iconst dX3_takes_65 ic_0 ?_
        refine wp_zreturn dX3_takes_66 rfl (Or.inl rfl) ?_
        exact ⟨by unfold f_X3_takes; rw [if_neg c1_1, if_neg c10_3, if_pos c19_5], rfl⟩
      · refine wp_iload_n dX3_takes_22 1 rfl ?_
        refine wp_aload_n dX3_takes_23 0 rfl ?_
        refine wp_getR dX3_takes_24 faX3_21 hk.s rfl ?_
        refine wp_alen dX3_takes_27 hk.v (Or.inl rfl) rfl ?_
        refine wp_icmp_ge 35 dX3_takes_28 (by decide) (fun c28_7 => ?_) (fun c28_7 => ?_)
        · refine wp_iconst dX3_takes_35 ic_0 ?_
          refine wp_istore_n (L' := [(3, _), (0, _), (1, _), (2, _)]) dX3_takes_36 rfl rfl ?_
          refine wp_iload_n dX3_takes_37 0 rfl ?_
          refine wp_if_eq 65 dX3_takes_38 (by decide) (fun _ => ?_) (fun z9 => absurd (by decide) z9)
          refine wp_iconst dX3_takes_65 ic_0 ?_
          refine wp_zreturn dX3_takes_66 rfl (Or.inl rfl) ?_
          exact ⟨by unfold f_X3_takes; rw [if_neg c1_1, if_neg c10_3, if_neg c19_5, if_pos c28_7], rfl⟩
        · refine wp_iconst dX3_takes_31 ic_1 ?_
          refine wp_goto 36 dX3_takes_32 (by decide) ?_
          refine wp_istore_n (L' := [(3, _), (0, _), (1, _), (2, _)]) dX3_takes_36 rfl rfl ?_
          refine wp_iload_n dX3_takes_37 0 rfl ?_
          refine wp_if_eq 65 dX3_takes_38 (by decide) (fun z9 => absurd z9 (by decide)) (fun _ => ?_)
          refine wp_iload_n dX3_takes_41 3 rfl ?_
          refine wp_aload_n dX3_takes_42 1 rfl ?_
          refine wp_getR dX3_takes_43 faX3_7 hk.s rfl ?_
          refine wp_iload_n dX3_takes_46 2 rfl ?_
          refine wp_sald ja dX3_takes_47 rfl hk.a (vin _ (by rw [hk.la]; exact hk.n) rfl c1_1 c10_3) ?_
          refine wp_icmp_lt 65 dX3_takes_48 (by decide) (fun c48_10 => ?_) (fun c48_10 => ?_)
          · refine wp_iconst dX3_takes_65 ic_0 ?_
            refine wp_zreturn dX3_takes_66 rfl (Or.inl rfl) ?_
            exact ⟨by unfold f_X3_takes; rw [if_neg c1_1, if_neg c10_3, if_neg c19_5, if_neg c28_7, if_pos c48_10], rfl⟩
          · refine wp_iload_n dX3_takes_51 3 rfl ?_
            refine wp_aload_n dX3_takes_52 1 rfl ?_
            refine wp_getR dX3_takes_53 faX3_13 hk.s rfl ?_
            refine wp_iload_n dX3_takes_56 2 rfl ?_
            refine wp_sald jb dX3_takes_57 rfl hk.b (vin _ (by rw [hk.lb]; exact hk.n) rfl c1_1 c19_5) ?_
            refine wp_icmp_gt 65 dX3_takes_58 (by decide) (fun c58_11 => ?_) (fun c58_11 => ?_)
            · refine wp_iconst dX3_takes_65 ic_0 ?_
              refine wp_zreturn dX3_takes_66 rfl (Or.inl rfl) ?_
              exact ⟨by unfold f_X3_takes; rw [if_neg c1_1, if_neg c10_3, if_neg c19_5, if_neg c28_7, if_neg c48_10, if_pos c58_11], rfl⟩
            · refine wp_iconst dX3_takes_61 ic_1 ?_
              refine wp_goto 66 dX3_takes_62 (by decide) ?_
              refine wp_zreturn dX3_takes_66 rfl (Or.inr rfl) ?_
              exact ⟨by unfold f_X3_takes; rw [if_neg c1_1, if_neg c10_3, if_neg c19_5, if_neg c28_7, if_neg c48_10, if_neg c58_11], rfl⟩
theorem z_X3_takes (σ : Mem) (k ja jb n : Nat) (a : Int32) (b : Int32) : (f_X3_takes σ k ja jb n a b) = 0 ∨ (f_X3_takes σ k ja jb n a b) = 1 := by
  unfold f_X3_takes; (repeat' split) <;> first | exact Or.inl rfl | exact Or.inr rfl
theorem takes_in {σ : Mem} {k ja jb n : Nat} {a b : Int32} (h : ¬ f_X3_takes σ k ja jb n a b = 0) : ¬ a < 0 ∧ ¬ Int32.ofNat n ≤ a := by
  unfold f_X3_takes at h
  refine ⟨fun q => h ?_, fun q => h ?_⟩
  · rw [if_pos q]
  · (repeat' split) <;> first | rfl | (rename_i q2; exact absurd q q2) | contradiction
def f_X3_turn (σ : Mem) (k ja jb n : Nat) (a : Int32) (b : Int32) : Int32 × Mem := if (f_X3_takes σ k ja jb n a b) = 0 then ((f_X3_at σ k ja jb n a), σ) else ((f_X3_at σ k ja jb n a), (mst σ (k + 1) (a.toNatClampNeg) b))
theorem s_X3_turn (X : Amb) (σ : Mem) (k ja jb n : Nat) (a : Int32) (b : Int32) (hk : Dl k ja jb n) : SpW X mX3_turn [.ref (adr X k), .int a, .int b] σ (.int (f_X3_turn σ k ja jb n a b).1) (f_X3_turn σ k ja jb n a b).2 := by
  refine sp_of (by decide +kernel) rfl ?_
  show WP X mX3_turn 0 [(0, .ref (adr X k)), (1, .int a), (2, .int b)] [] σ _
  refine wp_aload_n dX3_turn_0 0 rfl ?_
  refine wp_iload_n dX3_turn_1 1 rfl ?_
  refine wp_cV1w (N := mX3_at) dX3_turn_2 tmX3_24 okX3_at rfl hk.s rfl rfl rfl rfl rfl rfl (s_X3_at X _ k ja jb n _ hk) ?_
  refine wp_istore_n (L' := [(3, _), (0, _), (1, _), (2, _)]) dX3_turn_5 rfl rfl ?_
  refine wp_aload_n dX3_turn_6 1 rfl ?_
  refine wp_iload_n dX3_turn_7 2 rfl ?_
  refine wp_iload_n dX3_turn_8 3 rfl ?_
  refine wp_cV2w (N := mX3_takes) dX3_turn_9 tmX3_28 okX3_takes rfl hk.s rfl rfl rfl rfl rfl rfl (s_X3_takes X _ k ja jb n _ _ hk) ?_
  refine wp_if_eq 22 dX3_turn_12 (by decide) (fun c12_1 => ?_) (fun c12_1 => ?_)
  · refine wp_iload_n dX3_turn_22 0 rfl ?_
    refine wp_ireturn dX3_turn_23 rfl ?_
    exact ⟨by unfold f_X3_turn; rw [if_pos c12_1], by unfold f_X3_turn; rw [if_pos c12_1]⟩
  · refine wp_aload_n dX3_turn_15 1 rfl ?_
    refine wp_getR dX3_turn_16 faX3_21 hk.s rfl ?_
    refine wp_iload_n dX3_turn_19 2 rfl ?_
    refine wp_iload_n dX3_turn_20 3 rfl ?_
    refine wp_iast dX3_turn_21 hk.v (vin n hk.n rfl (takes_in c12_1).1 (takes_in c12_1).2) ?_
    refine wp_iload_n dX3_turn_22 0 rfl ?_
    refine wp_ireturn dX3_turn_23 rfl ?_
    exact ⟨by unfold f_X3_turn; rw [if_neg c12_1], by unfold f_X3_turn; rw [if_neg c12_1]⟩
end
