/-! ===== the relation between the class' memory c and the model's m ===== -/
def rng (x : Int32) (lo hi : Int) : Prop := lo ≤ x.toInt ∧ x.toInt ≤ hi
def N0 (m : Mem) : Nat := (m 6 0).toNatClampNeg
def N1 (m : Mem) : Nat := (m 6 1).toNatClampNeg
def Nt (m : Mem) : Nat := (m 0 25).toNatClampNeg
def B1 (m : Mem) : Nat → Int32 := fun j => m 5 (12 + j)
def PM (m : Mem) : Rp := (aC (m 5) (tN (m 5) (N0 m)), hP (B1 m) (N1 m), hst (B1 m) (N1 m), m 10, (m 11 4).toNatClampNeg)
/-- texts -/
def RT (c m : Mem) : Prop := m 6 0 = nI (N0 m) ∧ N0 m ≤ 12 ∧ m 6 1 = nI (N1 m) ∧ N1 m ≤ 32 ∧ c 1 2 = m 6 0 ∧ c 1 1 = 12 ∧ (∀ j, j < N0 m → c 2 j = m 5 j) ∧ c 3 2 = m 6 1 ∧ c 3 1 = 32 ∧ ∀ j, j < N1 m → c 4 j = m 5 (12 + j)
/-- engines -/
def RE (c m : Mem) : Prop := (∀ j, j < 3 → c 12 j = m 10 j ∧ c 14 j = m 10 (3 + j)) ∧ rng (m 10 0) 0 999 ∧ rng (m 10 1) 0 3 ∧ rng (m 10 2) 1 5 ∧ rng (m 10 3) 0 999 ∧ rng (m 10 4) 0 3 ∧ rng (m 10 5) 1 5
/-- settings -/
def RG (c m : Mem) : Prop := (∀ j, j < 5 → c 16 j = m 11 j) ∧ rng (m 11 0) 1 999 ∧ rng (m 11 1) 1 99 ∧ rng (m 11 2) 1 99 ∧ rng (m 11 3) 1 99 ∧ rng (m 11 4) 0 20
/-- trains of the day -/
def RD (c m : Mem) : Prop := m 0 25 = nI (Nt m) ∧ Nt m ≤ 12 ∧ c 26 3 = m 0 25 ∧ ∀ j, j < Nt m → c 27 j = m 18 j
/-- sheets -/
def RS (c m : Mem) : Prop := ∀ s, s < 4 → c (31 + 2 * s) 1 = m 1 s ∧ rng (m 1 s) (-1) 2 ∧ rng (c (31 + 2 * s) 2) 0 60 ∧ rng (m 2 s) 0 60 ∧ (0 ≤ m 1 s → c (31 + 2 * s) 2 = m 2 s ∧ ∀ j, j < (m 2 s).toNatClampNeg → c (32 + 2 * s) j = m 3 (60 * s + j))
/-- what the class works out anew -/
def RV (c m : Mem) : Prop := Trn (m 5) (N0 m) c ∧ Hil (B1 m) (N1 m) c ∧ IC (PM m) 40 c
/-- the model's cells that last -/
def Prim (m m' : Mem) : Prop := m' 1 = m 1 ∧ m' 2 = m 2 ∧ m' 3 = m 3 ∧ m' 5 = m 5 ∧ m' 6 = m 6 ∧ m' 10 = m 10 ∧ m' 11 = m 11 ∧ m' 18 = m 18 ∧ m' 0 4 = m 0 4 ∧ m' 0 25 = m 0 25
theorem Prim.rf (m : Mem) : Prim m m := ⟨rfl, rfl, rfl, rfl, rfl, rfl, rfl, rfl, rfl, rfl⟩
theorem Prim.tr {m m' m'' : Mem} (h : Prim m m') (h2 : Prim m' m'') : Prim m m'' := by
  obtain ⟨a1, a2, a3, a4, a5, a6, a7, a8, a9, a10⟩ := h
  obtain ⟨b1, b2, b3, b4, b5, b6, b7, b8, b9, b10⟩ := h2
  exact ⟨b1.trans a1, b2.trans a2, b3.trans a3, b4.trans a4, b5.trans a5, b6.trans a6, b7.trans a7, b8.trans a8, b9.trans a9, b10.trans a10⟩
theorem N0.prim {m m' : Mem} (h : Prim m m') : N0 m' = N0 m := by unfold N0; rw [h.2.2.2.2.1]
theorem N1.prim {m m' : Mem} (h : Prim m m') : N1 m' = N1 m := by unfold N1; rw [h.2.2.2.2.1]
theorem Nt.prim {m m' : Mem} (h : Prim m m') : Nt m' = Nt m := by unfold Nt; rw [h.2.2.2.2.2.2.2.2.2]
theorem B1.prim {m m' : Mem} (h : Prim m m') : B1 m' = B1 m := by unfold B1; rw [h.2.2.2.1]
theorem PM.prim {m m' : Mem} (h : Prim m m') : PM m' = PM m := by unfold PM; rw [N0.prim h, N1.prim h, B1.prim h, h.2.2.2.1, h.2.2.2.2.2.1, h.2.2.2.2.2.2.1]
theorem RT.prim {c m m' : Mem} (h : RT c m) (p : Prim m m') : RT c m' := by unfold RT; rw [N0.prim p, N1.prim p, p.2.2.2.1, p.2.2.2.2.1]; exact h
theorem RE.prim {c m m' : Mem} (h : RE c m) (p : Prim m m') : RE c m' := by unfold RE; rw [p.2.2.2.2.2.1]; exact h
theorem RG.prim {c m m' : Mem} (h : RG c m) (p : Prim m m') : RG c m' := by unfold RG; rw [p.2.2.2.2.2.2.1]; exact h
theorem RD.prim {c m m' : Mem} (h : RD c m) (p : Prim m m') : RD c m' := by unfold RD; rw [Nt.prim p, p.2.2.2.2.2.2.2.1, p.2.2.2.2.2.2.2.2.2]; exact h
theorem RS.prim {c m m' : Mem} (h : RS c m) (p : Prim m m') : RS c m' := by unfold RS; rw [p.1, p.2.1, p.2.2.1]; exact h
theorem RV.prim {c m m' : Mem} (h : RV c m) (p : Prim m m') : RV c m' := by unfold RV; rw [N0.prim p, N1.prim p, B1.prim p, PM.prim p, p.2.2.2.1]; exact h
/-! the model's reading -/
theorem rngN {x : Int32} {lo hi : Int} (h : rng x lo hi) (h0 : 0 ≤ lo) : x = nI x.toNatClampNeg ∧ (x.toNatClampNeg : Int) = x.toInt := by
  have e : (x.toNatClampNeg : Int) = x.toInt := by
    show ((x.toInt.toNat : Nat) : Int) = x.toInt
    have := h.1; omega
  refine ⟨?_, e⟩
  have hl := Int32.toInt_lt x
  exact Int32.toInt_inj.mp (by rw [nI_t (by omega)]; exact e.symm)
theorem reads_eq {c m : Mem} (h : RT c m) : b_X9_reads m ∧ TrnM (m 5) (N0 m) (f_X9_reads m) ∧ HilM (B1 m) (N1 m) (f_X9_reads m) ∧ (∀ q, q ≠ 0 → q ≠ 7 → q ≠ 8 → q ≠ 9 → (f_X9_reads m) q = m q) ∧ (∀ f, f ≠ 7 → f ≠ 9 → f ≠ 10 → (f_X9_reads m) 0 f = m 0 f) := by
  obtain ⟨h1, h2, h3, h4, -⟩ := h
  obtain ⟨a1, a2, a3, a4, a5⟩ := readsTrain_eq (B := m 5) h1 h2 (fun _ _ => rfl)
  obtain ⟨b1, b2, b3, b4, b5⟩ := readsHill_eq (σ := (f_X9_readsTrain m).2) (B := B1 m) (N := N1 m) (by rw [a4 6 (by decide) (by decide)]; exact h3) h4 (fun j _ => by rw [a4 5 (by decide) (by decide)]; rfl)
  unfold b_X9_reads f_X9_reads
  refine ⟨⟨a1, b1, trivial⟩, ⟨?_, ?_, ?_⟩, b3, fun q q0 q7 q8 q9 => ?_, fun f f7 f9 f10 => ?_⟩
  · rw [b5 7 (by decide)]; exact a3.1
  · rw [b5 9 (by decide)]; exact a3.2.1
  · intro j hj; rw [b4 7 (by decide) (by decide) (by decide)]; exact a3.2.2 j hj
  · rw [b4 q q0 q8 q9, a4 q q0 q7]
  · rw [b5 f f10, a5 f f7 f9]
theorem reads_prim {c m : Mem} (h : RT c m) : Prim m (f_X9_reads m) := by
  obtain ⟨-, -, -, a, b⟩ := reads_eq h
  exact ⟨a 1 (by decide) (by decide) (by decide) (by decide), a 2 (by decide) (by decide) (by decide) (by decide), a 3 (by decide) (by decide) (by decide) (by decide), a 5 (by decide) (by decide) (by decide) (by decide), a 6 (by decide) (by decide) (by decide) (by decide), a 10 (by decide) (by decide) (by decide) (by decide), a 11 (by decide) (by decide) (by decide) (by decide), a 18 (by decide) (by decide) (by decide) (by decide), b 4 (by decide) (by decide) (by decide), b 25 (by decide) (by decide) (by decide)⟩
theorem rule03 {x : Int32} (h : rng x 0 3) : x = 0 ∨ x = 1 ∨ x = 2 ∨ x = 3 := by
  obtain ⟨h1, h2⟩ := h
  rcases (show x.toInt = 0 ∨ x.toInt = 1 ∨ x.toInt = 2 ∨ x.toInt = 3 by omega) with q | q | q | q
  · exact Or.inl (Int32.toInt_inj.mp (by rw [q]; decide))
  · exact Or.inr (Or.inl (Int32.toInt_inj.mp (by rw [q]; decide)))
  · exact Or.inr (Or.inr (Or.inl (Int32.toInt_inj.mp (by rw [q]; decide))))
  · exact Or.inr (Or.inr (Or.inr (Int32.toInt_inj.mp (by rw [q]; decide))))
theorem pok {c m : Mem} (hE : RE c m) (hG : RG c m) : Pok (PM m) := by
  obtain ⟨-, -, e1, e2, -, e4, e5⟩ := hE
  obtain ⟨-, -, -, -, -, g4⟩ := hG
  have k2 := rngN e2 (by decide)
  have k5 := rngN e5 (by decide)
  have k4 := rngN g4 (by decide)
  refine ⟨?_, hP_le _ _, ⟨k2.1, ?_, ?_⟩, ⟨k5.1, ?_, ?_⟩, rule03 e1, rule03 e4⟩
  · show (m 11 4).toNatClampNeg ≤ 20; have := g4.2; omega
  · show 1 ≤ (m 10 2).toNatClampNeg; have := e2.1; omega
  · show (m 10 2).toNatClampNeg ≤ 5; have := e2.2; omega
  · show 1 ≤ (m 10 5).toNatClampNeg; have := e5.1; omega
  · show (m 10 5).toNatClampNeg ≤ 5; have := e5.2; omega
/-- what the model knows behind 'lives' -/
def LM (m m' : Mem) : Prop := TrnM (m 5) (N0 m) m' ∧ HilM (B1 m) (N1 m) m' ∧ IM (PM m) 40 m' ∧ Prim m m' ∧ ∀ q, q ≠ 0 → q ≠ 7 → q ≠ 8 → q ≠ 9 → q ≠ 12 → q ≠ 13 → q ≠ 14 → q ≠ 15 → m' q = m q
theorem lives_eq {c m : Mem} (hT : RT c m) (hE : RE c m) (hG : RG c m) : b_X9_lives m ∧ LM m (f_X9_lives m) := by
  obtain ⟨a1, a2, a3, a4, a5⟩ := reads_eq hT
  have hp := reads_prim hT
  have hem : EM (PM m) (f_X9_reads m) := by
    refine ⟨fun j _ => by rw [a4 10 (by decide) (by decide) (by decide) (by decide)]; rfl, ?_, a3.1, fun j hj => (a3.2 j hj).1, a2.2.1⟩
    rw [a4 11 (by decide) (by decide) (by decide) (by decide)]
    exact (rngN hG.2.2.2.2.2 (by decide)).1
  obtain ⟨b1, b2, b3, b4⟩ := lives_l (pok hE hG) 40 0 (fu 41) (f_X9_reads m) (by omega) (by rw [fu_eq]; omega) hem (fun j hj => absurd hj (Nat.not_lt_zero _))
  rw [show nI 0 = (0 : Int32) from rfl] at b1 b2 b3 b4
  unfold b_X9_lives f_X9_lives LM
  have k0 := b4 0 (by decide) (by decide) (by decide) (by decide)
  refine ⟨⟨a1, b1⟩, ⟨?_, ?_, ?_⟩, ⟨?_, ?_⟩, b3, hp.tr ?_, fun q q0 q7 q8 q9 q12 q13 q14 q15 => ?_⟩
  · rw [k0]; exact a2.1
  · rw [k0]; exact a2.2.1
  · rw [b4 7 (by decide) (by decide) (by decide) (by decide)]; exact a2.2.2
  · rw [k0]; exact a3.1
  · rw [b4 8 (by decide) (by decide) (by decide) (by decide), b4 9 (by decide) (by decide) (by decide) (by decide)]; exact a3.2
  · refine ⟨b4 1 (by decide) (by decide) (by decide) (by decide), b4 2 (by decide) (by decide) (by decide) (by decide), b4 3 (by decide) (by decide) (by decide) (by decide), b4 5 (by decide) (by decide) (by decide) (by decide), b4 6 (by decide) (by decide) (by decide) (by decide), b4 10 (by decide) (by decide) (by decide) (by decide), b4 11 (by decide) (by decide) (by decide) (by decide), b4 18 (by decide) (by decide) (by decide) (by decide), by rw [k0], by rw [k0]⟩
  · rw [b4 q q12 q13 q14 q15, a4 q q0 q7 q8 q9]
/-! the class' refresh -/
theorem refresh_eq {c m : Mem} (hT : RT c m) (hE : RE c m) (hG : RG c m) : RV (f_X8_refresh c) m ∧ (f_X8_refresh c) 0 11 = 0 ∧ (∀ f, f ≠ 11 → (f_X8_refresh c) 0 f = c 0 f) ∧ ∀ q, q ≠ 0 → q ≠ 5 → q ≠ 6 → q ≠ 7 → q ≠ 8 → q ≠ 9 → q ≠ 10 → q ≠ 18 → q ≠ 19 → q ≠ 20 → q ≠ 21 → q ≠ 22 → (f_X8_refresh c) q = c q := by
  have hP := pok hE hG
  obtain ⟨t1, t2, t3, t4, t5, t6, t7, t8, t9, t10⟩ := hT
  obtain ⟨a1, a2⟩ := load_eq (σ := c) (B := m 5) (N := N0 m) (by rw [t5, t1]) t2 t7
  obtain ⟨b1, b2⟩ := hill_eq (σ := f_X1_load c) (B := B1 m) (N := N1 m) (by rw [a2 3 (by decide) (by decide) (by decide), t8, t3]) t4 (fun j hj => by rw [a2 4 (by decide) (by decide) (by decide)]; exact t10 j hj)
  have k5 := b2 5 (by decide) (by decide) (by decide)
  have hec : EC (PM m) (f_X6_load (f_X1_load c)) := by
    have e12 : (f_X6_load (f_X1_load c)) 12 = c 12 := by rw [b2 12 (by decide) (by decide) (by decide), a2 12 (by decide) (by decide) (by decide)]
    have e14 : (f_X6_load (f_X1_load c)) 14 = c 14 := by rw [b2 14 (by decide) (by decide) (by decide), a2 14 (by decide) (by decide) (by decide)]
    unfold EC
    rw [e12, e14]
    exact ⟨⟨(hE.1 0 (by omega)).1, (hE.1 1 (by omega)).1, (hE.1 2 (by omega)).1⟩, ⟨(hE.1 0 (by omega)).2, (hE.1 1 (by omega)).2, (hE.1 2 (by omega)).2⟩, b1.1, fun j hj => (b1.2.2.2 j hj).1⟩
  have hw : f_X1_whole (f_X6_load (f_X1_load c)) = (PM m).1 := by unfold f_X1_whole; rw [k5]; exact a1.2.1
  have hs : f_X3_at (f_X6_load (f_X1_load c)) 15 3 4 5 4 = nI (PM m).2.2.2.2 := by
    rw [show (4 : Int32) = nI 4 from rfl, at_eq (by omega) (by omega), b2 16 (by decide) (by decide) (by decide), a2 16 (by decide) (by decide) (by decide), hG.1 4 (by omega)]
    exact (rngN hG.2.2.2.2.2 (by decide)).1
  obtain ⟨r1, r2⟩ := run_eq hP hec
  unfold f_X8_refresh
  rw [hw, hs]
  have ne : ∀ q : Nat, q ≠ 0 → (mst (f_X4_run (f_X6_load (f_X1_load c)) (PM m).1 (nI (PM m).2.2.2.2)) 0 11 0) q = (f_X4_run (f_X6_load (f_X1_load c)) (PM m).1 (nI (PM m).2.2.2.2)) q := fun q hq => mst_ne _ _ _ hq
  refine ⟨⟨?_, ?_, ?_⟩, mst_eq _ _ _ _, fun f hf => ?_, fun q q0 q5 q6 q7 q8 q9 q10 q18 q19 q20 q21 q22 => ?_⟩
  · unfold Trn
    rw [ne 5 (by decide), ne 6 (by decide), ne 7 (by decide), r2 5 (by decide) (by decide) (by decide) (by decide) (by decide), r2 6 (by decide) (by decide) (by decide) (by decide) (by decide), r2 7 (by decide) (by decide) (by decide) (by decide) (by decide), b2 5 (by decide) (by decide) (by decide), b2 6 (by decide) (by decide) (by decide), b2 7 (by decide) (by decide) (by decide)]
    exact a1
  · unfold Hil
    rw [ne 8 (by decide), ne 9 (by decide), ne 10 (by decide), r2 8 (by decide) (by decide) (by decide) (by decide) (by decide), r2 9 (by decide) (by decide) (by decide) (by decide) (by decide), r2 10 (by decide) (by decide) (by decide) (by decide) (by decide)]
    exact b1
  · unfold IC
    rw [ne 18 (by decide), ne 19 (by decide), ne 20 (by decide), ne 21 (by decide), ne 22 (by decide)]
    exact r1
  · rw [mst_at, if_neg (fun z => hf z.2), r2 0 (by decide) (by decide) (by decide) (by decide) (by decide), b2 0 (by decide) (by decide) (by decide), a2 0 (by decide) (by decide) (by decide)]
  · rw [ne q q0, r2 q q18 q19 q20 q21 q22, b2 q q8 q9 q10, a2 q q5 q6 q7]
