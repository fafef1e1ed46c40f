def RB (c m : Mem) : Prop := c 0 11 = 0 ∨ (c 0 11 = 1 ∧ ∃ σ : Mem, Trn (m 5) (N0 m) σ ∧ c 23 = (f_X0_find σ (m 10 0) (m 10 3)) 23 ∧ c 25 = (f_X0_find σ (m 10 0) (m 10 3)) 25)
theorem RB.prim {c m m' : Mem} (h : RB c m) (p : Prim m m') : RB c m' := by unfold RB; rw [N0.prim p, p.2.2.2.1, p.2.2.2.2.2.1]; exact h
/-- THE RELATION -/
def R (c m : Mem) : Prop := RT c m ∧ RE c m ∧ RG c m ∧ RD c m ∧ RS c m ∧ c 0 12 = m 0 4 ∧ RV c m ∧ RB c m
theorem R.prim {c m m' : Mem} (h : R c m) (p : Prim m m') : R c m' := ⟨h.1.prim p, h.2.1.prim p, h.2.2.1.prim p, h.2.2.2.1.prim p, h.2.2.2.2.1.prim p, by rw [p.2.2.2.2.2.2.2.2.1]; exact h.2.2.2.2.2.1, h.2.2.2.2.2.2.1.prim p, h.2.2.2.2.2.2.2.prim p⟩
theorem RT.cf {c c' m : Mem} (h : RT c m) (h1 : c' 1 = c 1) (h2 : c' 2 = c 2) (h3 : c' 3 = c 3) (h4 : c' 4 = c 4) : RT c' m := by unfold RT; rw [h1, h2, h3, h4]; exact h
theorem RE.cf {c c' m : Mem} (h : RE c m) (h1 : c' 12 = c 12) (h2 : c' 14 = c 14) : RE c' m := by unfold RE; rw [h1, h2]; exact h
theorem RG.cf {c c' m : Mem} (h : RG c m) (h1 : c' 16 = c 16) : RG c' m := by unfold RG; rw [h1]; exact h
theorem RD.cf {c c' m : Mem} (h : RD c m) (h1 : c' 26 3 = c 26 3) (h2 : c' 27 = c 27) : RD c' m := by unfold RD; rw [h1, h2]; exact h
theorem RS.cf {c c' m : Mem} (h : RS c m) (h1 : ∀ k, 31 ≤ k → k ≤ 38 → c' k = c k) : RS c' m := by
  intro s hs
  rw [h1 (31 + 2 * s) (by omega) (by omega), h1 (32 + 2 * s) (by omega) (by omega)]
  exact h s hs
theorem RV.cf {c c' m : Mem} (h : RV c m) (h1 : ∀ k, 5 ≤ k → k ≤ 10 → c' k = c k) (h2 : ∀ k, 18 ≤ k → k ≤ 22 → c' k = c k) : RV c' m := by
  unfold RV Trn Hil IC
  rw [h1 5 (by omega) (by omega), h1 6 (by omega) (by omega), h1 7 (by omega) (by omega), h1 8 (by omega) (by omega), h1 9 (by omega) (by omega), h1 10 (by omega) (by omega), h2 18 (by omega) (by omega), h2 19 (by omega) (by omega), h2 20 (by omega) (by omega), h2 21 (by omega) (by omega), h2 22 (by omega) (by omega)]
  exact h
theorem RB.cf {c c' m : Mem} (h : RB c m) (h0 : c' 0 11 = c 0 11) (h1 : c' 23 = c 23) (h2 : c' 25 = c 25) : RB c' m := by unfold RB; rw [h0, h1, h2]; exact h
/-- what the class works out anew fits again -/
theorem R_refresh {c m : Mem} (hT : RT c m) (hE : RE c m) (hG : RG c m) (hD : RD c m) (hS : RS c m) (hF : c 0 12 = m 0 4) : R (f_X8_refresh c) m := by
  obtain ⟨a1, a2, a3, a4⟩ := refresh_eq hT hE hG
  have k : ∀ q, q ≠ 0 → (q < 5 ∨ 22 < q ∨ (10 < q ∧ q < 18)) → (f_X8_refresh c) q = c q := fun q q0 h => a4 q q0 (by omega) (by omega) (by omega) (by omega) (by omega) (by omega) (by omega) (by omega) (by omega) (by omega) (by omega)
  exact ⟨hT.cf (k 1 (by decide) (by omega)) (k 2 (by decide) (by omega)) (k 3 (by decide) (by omega)) (k 4 (by decide) (by omega)), hE.cf (k 12 (by decide) (by omega)) (k 14 (by decide) (by omega)), hG.cf (k 16 (by decide) (by omega)), hD.cf (by rw [k 26 (by decide) (by omega)]) (k 27 (by decide) (by omega)), hS.cf (fun q h1 h2 => k q (by omega) (by omega)), by rw [a3 12 (by decide)]; exact hF, a1, Or.inl a2⟩
def OP (x y : Int32 × Mem) (b : Prop) : Prop := b ∧ x.1 = y.1 ∧ R x.2 y.2
theorem isTwo_eq (σ : Mem) (a : Int32) : f_X9_isTwo σ a = if a = 0 ∨ a = 1 then 1 else 0 := by
  unfold f_X9_isTwo
  rw [in_lit σ a (l := 0) (h := 1) (by decide) (by decide)]
  by_cases h : a = 0 ∨ a = 1
  · rw [if_pos h]
    rcases h with rfl | rfl
    · rw [if_pos (by decide)]
    · rw [if_pos (by decide)]
  · rw [if_neg h, if_neg]
    rintro ⟨h1, h2⟩
    apply h
    rcases (show a.toInt = 0 ∨ a.toInt = 1 by omega) with q | q
    · exact Or.inl (Int32.toInt_inj.mp (by rw [q]; decide))
    · exact Or.inr (Int32.toInt_inj.mp (by rw [q]; decide))
theorem isTwo0 (σ : Mem) : ¬ f_X9_isTwo σ 0 = 0 := by rw [isTwo_eq, if_pos (Or.inl rfl)]; decide
theorem isTwo1 (σ : Mem) : ¬ f_X9_isTwo σ 1 = 0 := by rw [isTwo_eq, if_pos (Or.inr rfl)]; decide
theorem isTwoN {σ : Mem} {a : Int32} (h0 : ¬ a = 0) (h1 : ¬ a = 1) : f_X9_isTwo σ a = 0 := by rw [isTwo_eq, if_neg (fun z => z.elim h0 h1)]
theorem i10 : ¬ (1 : Int32) = 0 := by decide
theorem full1 {c m : Mem} (hT : RT c m) : f_X7_isFull c 1 = 0 ↔ N0 m < 12 := by
  obtain ⟨t1, t2, t3, t4, t5, t6, t7, t8, t9, t10⟩ := hT
  unfold f_X7_isFull
  rw [t6, t5, t1]
  by_cases h : N0 m < 12
  · have c1 : ¬ (12 : Int32) ≤ nI (N0 m) := by rw [show (12 : Int32) = nI 12 from rfl, nIle (by omega) (by omega)]; omega
    have c2 : nI (N0 m) < 32 := by rw [show (32 : Int32) = nI 32 from rfl, nIlt (by omega) (by omega)]; omega
    rw [if_neg c1, if_pos c2]; simp [h]
  · have c1 : (12 : Int32) ≤ nI (N0 m) := by rw [show (12 : Int32) = nI 12 from rfl, nIle (by omega) (by omega)]; omega
    rw [if_pos c1]; simp [h]
theorem full3 {c m : Mem} (hT : RT c m) : f_X7_isFull c 3 = 0 ↔ N1 m < 32 := by
  obtain ⟨t1, t2, t3, t4, t5, t6, t7, t8, t9, t10⟩ := hT
  unfold f_X7_isFull
  rw [t9, t8, t3]
  by_cases h : N1 m < 32
  · have c1 : ¬ (32 : Int32) ≤ nI (N1 m) := by rw [show (32 : Int32) = nI 32 from rfl, nIle (by omega) (by omega)]; omega
    have c2 : nI (N1 m) < 32 := by rw [show (32 : Int32) = nI 32 from rfl, nIlt (by omega) (by omega)]; omega
    rw [if_neg c1, if_pos c2]; simp [h]
  · have c1 : (32 : Int32) ≤ nI (N1 m) := by rw [show (32 : Int32) = nI 32 from rfl, nIle (by omega) (by omega)]; omega
    rw [if_pos c1]; simp [h]
theorem in255 (σ : Mem) (b : Int32) : f_X9_in σ b.toInt64 0 255 = if b < 0 then 0 else if b ≤ 255 then 1 else 0 := by
  rw [in_lit σ b (l := 0) (h := 255) (by decide) (by decide)]
  have e1 : (b < 0) ↔ b.toInt < 0 := by rw [Int32.lt_iff_toInt_lt, Int32.toInt_zero]
  have e2 : (b ≤ 255) ↔ b.toInt ≤ 255 := by rw [Int32.le_iff_toInt_le, show (255 : Int32).toInt = 255 by decide]
  by_cases h1 : b.toInt < 0
  · rw [if_neg (by omega), if_pos (e1.mpr h1)]
  · rw [if_neg (fun z => h1 (e1.mp z))]
    by_cases h2 : b.toInt ≤ 255
    · rw [if_pos (by omega), if_pos (e2.mpr h2)]
    · rw [if_neg (by omega), if_neg (fun z => h2 (e2.mp z))]
theorem op_type {c m : Mem} (h : R c m) (a b : Int32) : OP (f_X8_type c a b) (f_X9_type m a b) (b_X9_type m a b) := by
  obtain ⟨hT, hE, hG, hD, hS, hF, hV, hB⟩ := id h
  obtain ⟨t1, t2, t3, t4, t5, t6, t7, t8, t9, t10⟩ := id hT
  unfold f_X8_type f_X9_type b_X9_type
  by_cases a0 : a = 0
  · subst a0
    rw [if_pos rfl, if_neg (isTwo0 m), if_neg (isTwo0 m), in255]
    by_cases b1 : b < 0
    · rw [if_pos b1, if_pos b1, if_pos rfl, if_pos rfl]; exact ⟨trivial, rfl, h⟩
    · rw [if_neg b1, if_neg b1]
      by_cases b2 : b ≤ 255
      · have v : vp_in (0 : Int32) 2 := vlit _ 2 (by decide)
        rw [if_pos b2, if_pos b2, if_neg i10, if_neg i10, if_pos rfl, if_pos rfl, cl0, t1]
        by_cases hf : N0 m < 12
        · have c1 : ¬ nI (N0 m) = 12 := by rw [show (12 : Int32) = nI 12 from rfl, nI_eq (by omega) (by omega)]; omega
          have ex : (12 : Int32) * 0 + nI (N0 m) = nI (N0 m) := by rw [show (12 : Int32) * 0 = 0 by decide, Int32.zero_add]
          have ea : f_X7_append c 1 b = mst (mst c 2 (N0 m) b) 1 2 (nI (N0 m + 1)) := by
            unfold f_X7_append
            rw [if_pos ((full1 hT).mpr hf), t5, t1, if_neg (nInn (by omega)), nIc (by omega)]
            simp [mst, t5, t1, nI_1]
          rw [if_pos ((full1 hT).mpr hf), if_neg c1, if_neg c1, ex, nIc (by omega), nI_1, ea]
          have n0 : N0 (mst (mst m 5 (N0 m) b) 6 0 (nI (N0 m + 1))) = N0 m + 1 := by
            unfold N0; simp [mst, upd]; exact nIc (by unfold N0 at hf; omega)
          have n1 : N1 (mst (mst m 5 (N0 m) b) 6 0 (nI (N0 m + 1))) = N1 m := by unfold N1; simp [mst, upd]
          have hR := R_refresh (c := mst (mst c 2 (N0 m) b) 1 2 (nI (N0 m + 1))) (m := mst (mst m 5 (N0 m) b) 6 0 (nI (N0 m + 1)))
            (by
              unfold RT
              rw [n0, n1]
              refine ⟨by simp [mst, upd], by omega, by simp [mst, upd]; exact t3, t4, by simp [mst, upd], by simp [mst, upd, t6], ?_, by simp [mst, upd, t8], by simp [mst, t9], ?_⟩
              · intro j hj
                by_cases e : j = N0 m
                · subst e; simp [mst, upd]
                · simp [mst, upd, e, t7 j (by omega)]
              · intro j hj
                simp [mst, upd, show ¬ 12 + j = N0 m by omega, t10 j hj])
            (by unfold RE at hE ⊢; simpa [mst] using hE) (by unfold RG at hG ⊢; simpa [mst] using hG) (by unfold RD Nt at hD ⊢; simpa [mst] using hD)
            (by
              intro s hs
              have := hS s hs
              simp only [mst, show ¬ 31 + 2 * s = 1 by omega, show ¬ 31 + 2 * s = 2 by omega, show ¬ 32 + 2 * s = 1 by omega, show ¬ 32 + 2 * s = 2 by omega, if_false]
              simpa [mst] using this)
            (by simpa [mst] using hF)
          have fs := (refresh_eq hR.1 hR.2.1 hR.2.2.1).2
          refine ⟨⟨v, v, vnI (by omega) (by omega), v, v, v, trivial⟩, ?_, hR⟩
          show f_X7_size (f_X8_refresh _) 1 = _
          unfold f_X7_size
          obtain ⟨u1, u2, u3, u4, u5, -⟩ := hR.1
          rw [u5]; simp [mst, upd]
        · have c1 : nI (N0 m) = 12 := by rw [show N0 m = 12 by omega]; rfl
          rw [if_neg (fun z => hf ((full1 hT).mp z)), if_pos c1, if_pos c1]
          exact ⟨⟨v, trivial⟩, rfl, h⟩
      · rw [if_neg b2, if_neg b2, if_pos rfl, if_pos rfl]; exact ⟨trivial, rfl, h⟩
  · rw [if_neg a0]
    by_cases a1 : a = 1
    · subst a1
      rw [if_pos rfl, if_neg (isTwo1 m), if_neg (isTwo1 m), in255]
      by_cases b1 : b < 0
      · rw [if_pos b1, if_pos b1, if_pos rfl, if_pos rfl]; exact ⟨trivial, rfl, h⟩
      · rw [if_neg b1, if_neg b1]
        by_cases b2 : b ≤ 255
        · have v : vp_in (1 : Int32) 2 := vlit _ 2 (by decide)
          rw [if_pos b2, if_pos b2, if_neg i10, if_neg i10, if_neg i10, if_neg i10, cl1, t3]
          by_cases hf : N1 m < 32
          · have c1 : ¬ nI (N1 m) = 32 := by rw [show (32 : Int32) = nI 32 from rfl, nI_eq (by omega) (by omega)]; omega
            have ex : (12 : Int32) * 1 + nI (N1 m) = nI (12 + N1 m) := by rw [show (12 : Int32) * 1 = nI 12 by decide, nI_add]
            have ea : f_X7_append c 3 b = mst (mst c 4 (N1 m) b) 3 2 (nI (N1 m + 1)) := by
              unfold f_X7_append
              rw [if_pos ((full3 hT).mpr hf), t8, t3, if_neg (nInn (by omega)), nIc (by omega)]
              simp [mst, t8, t3, nI_1]
            rw [if_pos ((full3 hT).mpr hf), if_neg c1, if_neg c1, ex, nIc (by omega), nI_1, ea]
            have n1 : N1 (mst (mst m 5 (12 + N1 m) b) 6 1 (nI (N1 m + 1))) = N1 m + 1 := by
              unfold N1; simp [mst, upd]; exact nIc (by unfold N1 at hf; omega)
            have n0 : N0 (mst (mst m 5 (12 + N1 m) b) 6 1 (nI (N1 m + 1))) = N0 m := by unfold N0; simp [mst, upd]
            have hR := R_refresh (c := mst (mst c 4 (N1 m) b) 3 2 (nI (N1 m + 1))) (m := mst (mst m 5 (12 + N1 m) b) 6 1 (nI (N1 m + 1)))
              (by
                unfold RT
                rw [n0, n1]
                refine ⟨by simp [mst, upd]; exact t1, t2, by simp [mst, upd], by omega, by simp [mst, upd, t5], by simp [mst, upd, t6], ?_, by simp [mst, upd], by simp [mst, upd, t9], ?_⟩
                · intro j hj
                  simp [mst, upd, show ¬ j = 12 + N1 m by omega, t7 j hj]
                · intro j hj
                  by_cases e : j = N1 m
                  · subst e; simp [mst, upd]
                  · simp [mst, upd, e, show ¬ 12 + j = 12 + N1 m by omega, t10 j (by omega)])
              (by unfold RE at hE ⊢; simpa [mst] using hE) (by unfold RG at hG ⊢; simpa [mst] using hG) (by unfold RD Nt at hD ⊢; simpa [mst] using hD)
              (by
                intro s hs
                have := hS s hs
                simp only [mst, show ¬ 31 + 2 * s = 3 by omega, show ¬ 31 + 2 * s = 4 by omega, show ¬ 32 + 2 * s = 3 by omega, show ¬ 32 + 2 * s = 4 by omega, if_false]
                simpa [mst] using this)
              (by simpa [mst] using hF)
            refine ⟨⟨v, v, vnI (by omega) (by omega), v, v, v, trivial⟩, ?_, hR⟩
            show f_X7_size (f_X8_refresh _) 3 = _
            unfold f_X7_size
            obtain ⟨u1, u2, u3, u4, u5, u6, u7, u8, -⟩ := hR.1
            rw [u8]; simp [mst, upd]
          · have c1 : nI (N1 m) = 32 := by rw [show N1 m = 32 by omega]; rfl
            rw [if_neg (fun z => hf ((full3 hT).mp z)), if_pos c1, if_pos c1]
            exact ⟨⟨v, trivial⟩, rfl, h⟩
        · rw [if_neg b2, if_neg b2, if_pos rfl, if_pos rfl]; exact ⟨trivial, rfl, h⟩
    · rw [if_neg a1, if_pos (isTwoN a0 a1), if_pos (isTwoN a0 a1)]
      exact ⟨trivial, rfl, h⟩
