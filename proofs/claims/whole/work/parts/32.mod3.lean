noncomputable section
def l_X9_lives_6 : Nat → Int32 → Mem → Mem
  | 0, _, σ => σ
  | n + 1, a, σ => if 40 ≤ a then σ else if a = 0 then if (σ 0 10) = 0 then (l_X9_lives_6 n (a + 1) (mst (mst (mst (mst (mst σ 13 ((0 : Int32).toNatClampNeg) (σ 11 ((4 : Int32).toNatClampNeg))) 14 ((0 : Int32).toNatClampNeg) 0) 15 (a.toNatClampNeg) 0) 12 ((2 * a).toNatClampNeg) (f_X9_givesOf (mst (mst (mst σ 13 ((0 : Int32).toNatClampNeg) (σ 11 ((4 : Int32).toNatClampNeg))) 14 ((0 : Int32).toNatClampNeg) 0) 15 (a.toNatClampNeg) 0) a 0)) 12 (((2 * a) + 1).toNatClampNeg) (f_X9_givesOf (mst (mst (mst (mst σ 13 ((0 : Int32).toNatClampNeg) (σ 11 ((4 : Int32).toNatClampNeg))) 14 ((0 : Int32).toNatClampNeg) 0) 15 (a.toNatClampNeg) 0) 12 ((2 * a).toNatClampNeg) (f_X9_givesOf (mst (mst (mst σ 13 ((0 : Int32).toNatClampNeg) (σ 11 ((4 : Int32).toNatClampNeg))) 14 ((0 : Int32).toNatClampNeg) 0) 15 (a.toNatClampNeg) 0) a 0)) a 1))) else (l_X9_lives_6 n (a + 1) (mst (mst (mst (mst (mst σ 13 ((0 : Int32).toNatClampNeg) (σ 11 ((4 : Int32).toNatClampNeg))) 14 ((0 : Int32).toNatClampNeg) 0) 15 (a.toNatClampNeg) ((σ 8 ((f_X9_lesser (mst (mst σ 13 ((0 : Int32).toNatClampNeg) (σ 11 ((4 : Int32).toNatClampNeg))) 14 ((0 : Int32).toNatClampNeg) 0) (((mst (mst σ 13 ((0 : Int32).toNatClampNeg) (σ 11 ((4 : Int32).toNatClampNeg))) 14 ((0 : Int32).toNatClampNeg) 0) 14 (a.toNatClampNeg)) / 10) ((σ 0 10) - 1)).toNatClampNeg)) * (σ 0 9))) 12 ((2 * a).toNatClampNeg) (f_X9_givesOf (mst (mst (mst σ 13 ((0 : Int32).toNatClampNeg) (σ 11 ((4 : Int32).toNatClampNeg))) 14 ((0 : Int32).toNatClampNeg) 0) 15 (a.toNatClampNeg) ((σ 8 ((f_X9_lesser (mst (mst σ 13 ((0 : Int32).toNatClampNeg) (σ 11 ((4 : Int32).toNatClampNeg))) 14 ((0 : Int32).toNatClampNeg) 0) (((mst (mst σ 13 ((0 : Int32).toNatClampNeg) (σ 11 ((4 : Int32).toNatClampNeg))) 14 ((0 : Int32).toNatClampNeg) 0) 14 (a.toNatClampNeg)) / 10) ((σ 0 10) - 1)).toNatClampNeg)) * (σ 0 9))) a 0)) 12 (((2 * a) + 1).toNatClampNeg) (f_X9_givesOf (mst (mst (mst (mst σ 13 ((0 : Int32).toNatClampNeg) (σ 11 ((4 : Int32).toNatClampNeg))) 14 ((0 : Int32).toNatClampNeg) 0) 15 (a.toNatClampNeg) ((σ 8 ((f_X9_lesser (mst (mst σ 13 ((0 : Int32).toNatClampNeg) (σ 11 ((4 : Int32).toNatClampNeg))) 14 ((0 : Int32).toNatClampNeg) 0) (((mst (mst σ 13 ((0 : Int32).toNatClampNeg) (σ 11 ((4 : Int32).toNatClampNeg))) 14 ((0 : Int32).toNatClampNeg) 0) 14 (a.toNatClampNeg)) / 10) ((σ 0 10) - 1)).toNatClampNeg)) * (σ 0 9))) 12 ((2 * a).toNatClampNeg) (f_X9_givesOf (mst (mst (mst σ 13 ((0 : Int32).toNatClampNeg) (σ 11 ((4 : Int32).toNatClampNeg))) 14 ((0 : Int32).toNatClampNeg) 0) 15 (a.toNatClampNeg) ((σ 8 ((f_X9_lesser (mst (mst σ 13 ((0 : Int32).toNatClampNeg) (σ 11 ((4 : Int32).toNatClampNeg))) 14 ((0 : Int32).toNatClampNeg) 0) (((mst (mst σ 13 ((0 : Int32).toNatClampNeg) (σ 11 ((4 : Int32).toNatClampNeg))) 14 ((0 : Int32).toNatClampNeg) 0) 14 (a.toNatClampNeg)) / 10) ((σ 0 10) - 1)).toNatClampNeg)) * (σ 0 9))) a 0)) a 1))) else if (((σ 12 (((2 * a) - 2).toNatClampNeg)) + (σ 12 (((2 * a) - 1).toNatClampNeg))) - (σ 15 ((a - 1).toNatClampNeg))) ≤ 0 then if 0 ≤ (((σ 12 (((2 * a) - 2).toNatClampNeg)) + (σ 12 (((2 * a) - 1).toNatClampNeg))) - (σ 15 ((a - 1).toNatClampNeg))) then if (σ 0 10) = 0 then (l_X9_lives_6 n (a + 1) (mst (mst (mst (mst (mst σ 13 (a.toNatClampNeg) (f_X9_within σ ((σ 13 ((a - 1).toNatClampNeg)) + 0) 20)) 14 (a.toNatClampNeg) ((σ 14 ((a - 1).toNatClampNeg)) + ((mst σ 13 (a.toNatClampNeg) (f_X9_within σ ((σ 13 ((a - 1).toNatClampNeg)) + 0) 20)) 13 ((a - 1).toNatClampNeg)))) 15 (a.toNatClampNeg) 0) 12 ((2 * a).toNatClampNeg) (f_X9_givesOf (mst (mst (mst σ 13 (a.toNatClampNeg) (f_X9_within σ ((σ 13 ((a - 1).toNatClampNeg)) + 0) 20)) 14 (a.toNatClampNeg) ((σ 14 ((a - 1).toNatClampNeg)) + ((mst σ 13 (a.toNatClampNeg) (f_X9_within σ ((σ 13 ((a - 1).toNatClampNeg)) + 0) 20)) 13 ((a - 1).toNatClampNeg)))) 15 (a.toNatClampNeg) 0) a 0)) 12 (((2 * a) + 1).toNatClampNeg) (f_X9_givesOf (mst (mst (mst (mst σ 13 (a.toNatClampNeg) (f_X9_within σ ((σ 13 ((a - 1).toNatClampNeg)) + 0) 20)) 14 (a.toNatClampNeg) ((σ 14 ((a - 1).toNatClampNeg)) + ((mst σ 13 (a.toNatClampNeg) (f_X9_within σ ((σ 13 ((a - 1).toNatClampNeg)) + 0) 20)) 13 ((a - 1).toNatClampNeg)))) 15 (a.toNatClampNeg) 0) 12 ((2 * a).toNatClampNeg) (f_X9_givesOf (mst (mst (mst σ 13 (a.toNatClampNeg) (f_X9_within σ ((σ 13 ((a - 1).toNatClampNeg)) + 0) 20)) 14 (a.toNatClampNeg) ((σ 14 ((a - 1).toNatClampNeg)) + ((mst σ 13 (a.toNatClampNeg) (f_X9_within σ ((σ 13 ((a - 1).toNatClampNeg)) + 0) 20)) 13 ((a - 1).toNatClampNeg)))) 15 (a.toNatClampNeg) 0) a 0)) a 1))) else (l_X9_lives_6 n (a + 1) (mst (mst (mst (mst (mst σ 13 (a.toNatClampNeg) (f_X9_within σ ((σ 13 ((a - 1).toNatClampNeg)) + 0) 20)) 14 (a.toNatClampNeg) ((σ 14 ((a - 1).toNatClampNeg)) + ((mst σ 13 (a.toNatClampNeg) (f_X9_within σ ((σ 13 ((a - 1).toNatClampNeg)) + 0) 20)) 13 ((a - 1).toNatClampNeg)))) 15 (a.toNatClampNeg) ((σ 8 ((f_X9_lesser (mst (mst σ 13 (a.toNatClampNeg) (f_X9_within σ ((σ 13 ((a - 1).toNatClampNeg)) + 0) 20)) 14 (a.toNatClampNeg) ((σ 14 ((a - 1).toNatClampNeg)) + ((mst σ 13 (a.toNatClampNeg) (f_X9_within σ ((σ 13 ((a - 1).toNatClampNeg)) + 0) 20)) 13 ((a - 1).toNatClampNeg)))) (((σ 14 ((a - 1).toNatClampNeg)) + ((mst σ 13 (a.toNatClampNeg) (f_X9_within σ ((σ 13 ((a - 1).toNatClampNeg)) + 0) 20)) 13 ((a - 1).toNatClampNeg))) / 10) ((σ 0 10) - 1)).toNatClampNeg)) * (σ 0 9))) 12 ((2 * a).toNatClampNeg) (f_X9_givesOf (mst (mst (mst σ 13 (a.toNatClampNeg) (f_X9_within σ ((σ 13 ((a - 1).toNatClampNeg)) + 0) 20)) 14 (a.toNatClampNeg) ((σ 14 ((a - 1).toNatClampNeg)) + ((mst σ 13 (a.toNatClampNeg) (f_X9_within σ ((σ 13 ((a - 1).toNatClampNeg)) + 0) 20)) 13 ((a - 1).toNatClampNeg)))) 15 (a.toNatClampNeg) ((σ 8 ((f_X9_lesser (mst (mst σ 13 (a.toNatClampNeg) (f_X9_within σ ((σ 13 ((a - 1).toNatClampNeg)) + 0) 20)) 14 (a.toNatClampNeg) ((σ 14 ((a - 1).toNatClampNeg)) + ((mst σ 13 (a.toNatClampNeg) (f_X9_within σ ((σ 13 ((a - 1).toNatClampNeg)) + 0) 20)) 13 ((a - 1).toNatClampNeg)))) (((σ 14 ((a - 1).toNatClampNeg)) + ((mst σ 13 (a.toNatClampNeg) (f_X9_within σ ((σ 13 ((a - 1).toNatClampNeg)) + 0) 20)) 13 ((a - 1).toNatClampNeg))) / 10) ((σ 0 10) - 1)).toNatClampNeg)) * (σ 0 9))) a 0)) 12 (((2 * a) + 1).toNatClampNeg) (f_X9_givesOf (mst (mst (mst (mst σ 13 (a.toNatClampNeg) (f_X9_within σ ((σ 13 ((a - 1).toNatClampNeg)) + 0) 20)) 14 (a.toNatClampNeg) ((σ 14 ((a - 1).toNatClampNeg)) + ((mst σ 13 (a.toNatClampNeg) (f_X9_within σ ((σ 13 ((a - 1).toNatClampNeg)) + 0) 20)) 13 ((a - 1).toNatClampNeg)))) 15 (a.toNatClampNeg) ((σ 8 ((f_X9_lesser (mst (mst σ 13 (a.toNatClampNeg) (f_X9_within σ ((σ 13 ((a - 1).toNatClampNeg)) + 0) 20)) 14 (a.toNatClampNeg) ((σ 14 ((a - 1).toNatClampNeg)) + ((mst σ 13 (a.toNatClampNeg) (f_X9_within σ ((σ 13 ((a - 1).toNatClampNeg)) + 0) 20)) 13 ((a - 1).toNatClampNeg)))) (((σ 14 ((a - 1).toNatClampNeg)) + ((mst σ 13 (a.toNatClampNeg) (f_X9_within σ ((σ 13 ((a - 1).toNatClampNeg)) + 0) 20)) 13 ((a - 1).toNatClampNeg))) / 10) ((σ 0 10) - 1)).toNatClampNeg)) * (σ 0 9))) 12 ((2 * a).toNatClampNeg) (f_X9_givesOf (mst (mst (mst σ 13 (a.toNatClampNeg) (f_X9_within σ ((σ 13 ((a - 1).toNatClampNeg)) + 0) 20)) 14 (a.toNatClampNeg) ((σ 14 ((a - 1).toNatClampNeg)) + ((mst σ 13 (a.toNatClampNeg) (f_X9_within σ ((σ 13 ((a - 1).toNatClampNeg)) + 0) 20)) 13 ((a - 1).toNatClampNeg)))) 15 (a.toNatClampNeg) ((σ 8 ((f_X9_lesser (mst (mst σ 13 (a.toNatClampNeg) (f_X9_within σ ((σ 13 ((a - 1).toNatClampNeg)) + 0) 20)) 14 (a.toNatClampNeg) ((σ 14 ((a - 1).toNatClampNeg)) + ((mst σ 13 (a.toNatClampNeg) (f_X9_within σ ((σ 13 ((a - 1).toNatClampNeg)) + 0) 20)) 13 ((a - 1).toNatClampNeg)))) (((σ 14 ((a - 1).toNatClampNeg)) + ((mst σ 13 (a.toNatClampNeg) (f_X9_within σ ((σ 13 ((a - 1).toNatClampNeg)) + 0) 20)) 13 ((a - 1).toNatClampNeg))) / 10) ((σ 0 10) - 1)).toNatClampNeg)) * (σ 0 9))) a 0)) a 1))) else if (σ 0 10) = 0 then (l_X9_lives_6 n (a + 1) (mst (mst (mst (mst (mst σ 13 (a.toNatClampNeg) (f_X9_within σ ((σ 13 ((a - 1).toNatClampNeg)) + (-1)) 20)) 14 (a.toNatClampNeg) ((σ 14 ((a - 1).toNatClampNeg)) + ((mst σ 13 (a.toNatClampNeg) (f_X9_within σ ((σ 13 ((a - 1).toNatClampNeg)) + (-1)) 20)) 13 ((a - 1).toNatClampNeg)))) 15 (a.toNatClampNeg) 0) 12 ((2 * a).toNatClampNeg) (f_X9_givesOf (mst (mst (mst σ 13 (a.toNatClampNeg) (f_X9_within σ ((σ 13 ((a - 1).toNatClampNeg)) + (-1)) 20)) 14 (a.toNatClampNeg) ((σ 14 ((a - 1).toNatClampNeg)) + ((mst σ 13 (a.toNatClampNeg) (f_X9_within σ ((σ 13 ((a - 1).toNatClampNeg)) + (-1)) 20)) 13 ((a - 1).toNatClampNeg)))) 15 (a.toNatClampNeg) 0) a 0)) 12 (((2 * a) + 1).toNatClampNeg) (f_X9_givesOf (mst (mst (mst (mst σ 13 (a.toNatClampNeg) (f_X9_within σ ((σ 13 ((a - 1).toNatClampNeg)) + (-1)) 20)) 14 (a.toNatClampNeg) ((σ 14 ((a - 1).toNatClampNeg)) + ((mst σ 13 (a.toNatClampNeg) (f_X9_within σ ((σ 13 ((a - 1).toNatClampNeg)) + (-1)) 20)) 13 ((a - 1).toNatClampNeg)))) 15 (a.toNatClampNeg) 0) 12 ((2 * a).toNatClampNeg) (f_X9_givesOf (mst (mst (mst σ 13 (a.toNatClampNeg) (f_X9_within σ ((σ 13 ((a - 1).toNatClampNeg)) + (-1)) 20)) 14 (a.toNatClampNeg) ((σ 14 ((a - 1).toNatClampNeg)) + ((mst σ 13 (a.toNatClampNeg) (f_X9_within σ ((σ 13 ((a - 1).toNatClampNeg)) + (-1)) 20)) 13 ((a - 1).toNatClampNeg)))) 15 (a.toNatClampNeg) 0) a 0)) a 1))) else (l_X9_lives_6 n (a + 1) (mst (mst (mst (mst (mst σ 13 (a.toNatClampNeg) (f_X9_within σ ((σ 13 ((a - 1).toNatClampNeg)) + (-1)) 20)) 14 (a.toNatClampNeg) ((σ 14 ((a - 1).toNatClampNeg)) + ((mst σ 13 (a.toNatClampNeg) (f_X9_within σ ((σ 13 ((a - 1).toNatClampNeg)) + (-1)) 20)) 13 ((a - 1).toNatClampNeg)))) 15 (a.toNatClampNeg) ((σ 8 ((f_X9_lesser (mst (mst σ 13 (a.toNatClampNeg) (f_X9_within σ ((σ 13 ((a - 1).toNatClampNeg)) + (-1)) 20)) 14 (a.toNatClampNeg) ((σ 14 ((a - 1).toNatClampNeg)) + ((mst σ 13 (a.toNatClampNeg) (f_X9_within σ ((σ 13 ((a - 1).toNatClampNeg)) + (-1)) 20)) 13 ((a - 1).toNatClampNeg)))) (((σ 14 ((a - 1).toNatClampNeg)) + ((mst σ 13 (a.toNatClampNeg) (f_X9_within σ ((σ 13 ((a - 1).toNatClampNeg)) + (-1)) 20)) 13 ((a - 1).toNatClampNeg))) / 10) ((σ 0 10) - 1)).toNatClampNeg)) * (σ 0 9))) 12 ((2 * a).toNatClampNeg) (f_X9_givesOf (mst (mst (mst σ 13 (a.toNatClampNeg) (f_X9_within σ ((σ 13 ((a - 1).toNatClampNeg)) + (-1)) 20)) 14 (a.toNatClampNeg) ((σ 14 ((a - 1).toNatClampNeg)) + ((mst σ 13 (a.toNatClampNeg) (f_X9_within σ ((σ 13 ((a - 1).toNatClampNeg)) + (-1)) 20)) 13 ((a - 1).toNatClampNeg)))) 15 (a.toNatClampNeg) ((σ 8 ((f_X9_lesser (mst (mst σ 13 (a.toNatClampNeg) (f_X9_within σ ((σ 13 ((a - 1).toNatClampNeg)) + (-1)) 20)) 14 (a.toNatClampNeg) ((σ 14 ((a - 1).toNatClampNeg)) + ((mst σ 13 (a.toNatClampNeg) (f_X9_within σ ((σ 13 ((a - 1).toNatClampNeg)) + (-1)) 20)) 13 ((a - 1).toNatClampNeg)))) (((σ 14 ((a - 1).toNatClampNeg)) + ((mst σ 13 (a.toNatClampNeg) (f_X9_within σ ((σ 13 ((a - 1).toNatClampNeg)) + (-1)) 20)) 13 ((a - 1).toNatClampNeg))) / 10) ((σ 0 10) - 1)).toNatClampNeg)) * (σ 0 9))) a 0)) 12 (((2 * a) + 1).toNatClampNeg) (f_X9_givesOf (mst (mst (mst (mst σ 13 (a.toNatClampNeg) (f_X9_within σ ((σ 13 ((a - 1).toNatClampNeg)) + (-1)) 20)) 14 (a.toNatClampNeg) ((σ 14 ((a - 1).toNatClampNeg)) + ((mst σ 13 (a.toNatClampNeg) (f_X9_within σ ((σ 13 ((a - 1).toNatClampNeg)) + (-1)) 20)) 13 ((a - 1).toNatClampNeg)))) 15 (a.toNatClampNeg) ((σ 8 ((f_X9_lesser (mst (mst σ 13 (a.toNatClampNeg) (f_X9_within σ ((σ 13 ((a - 1).toNatClampNeg)) + (-1)) 20)) 14 (a.toNatClampNeg) ((σ 14 ((a - 1).toNatClampNeg)) + ((mst σ 13 (a.toNatClampNeg) (f_X9_within σ ((σ 13 ((a - 1).toNatClampNeg)) + (-1)) 20)) 13 ((a - 1).toNatClampNeg)))) (((σ 14 ((a - 1).toNatClampNeg)) + ((mst σ 13 (a.toNatClampNeg) (f_X9_within σ ((σ 13 ((a - 1).toNatClampNeg)) + (-1)) 20)) 13 ((a - 1).toNatClampNeg))) / 10) ((σ 0 10) - 1)).toNatClampNeg)) * (σ 0 9))) 12 ((2 * a).toNatClampNeg) (f_X9_givesOf (mst (mst (mst σ 13 (a.toNatClampNeg) (f_X9_within σ ((σ 13 ((a - 1).toNatClampNeg)) + (-1)) 20)) 14 (a.toNatClampNeg) ((σ 14 ((a - 1).toNatClampNeg)) + ((mst σ 13 (a.toNatClampNeg) (f_X9_within σ ((σ 13 ((a - 1).toNatClampNeg)) + (-1)) 20)) 13 ((a - 1).toNatClampNeg)))) 15 (a.toNatClampNeg) ((σ 8 ((f_X9_lesser (mst (mst σ 13 (a.toNatClampNeg) (f_X9_within σ ((σ 13 ((a - 1).toNatClampNeg)) + (-1)) 20)) 14 (a.toNatClampNeg) ((σ 14 ((a - 1).toNatClampNeg)) + ((mst σ 13 (a.toNatClampNeg) (f_X9_within σ ((σ 13 ((a - 1).toNatClampNeg)) + (-1)) 20)) 13 ((a - 1).toNatClampNeg)))) (((σ 14 ((a - 1).toNatClampNeg)) + ((mst σ 13 (a.toNatClampNeg) (f_X9_within σ ((σ 13 ((a - 1).toNatClampNeg)) + (-1)) 20)) 13 ((a - 1).toNatClampNeg))) / 10) ((σ 0 10) - 1)).toNatClampNeg)) * (σ 0 9))) a 0)) a 1))) else if (σ 0 10) = 0 then (l_X9_lives_6 n (a + 1) (mst (mst (mst (mst (mst σ 13 (a.toNatClampNeg) (f_X9_within σ ((σ 13 ((a - 1).toNatClampNeg)) + 1) 20)) 14 (a.toNatClampNeg) ((σ 14 ((a - 1).toNatClampNeg)) + ((mst σ 13 (a.toNatClampNeg) (f_X9_within σ ((σ 13 ((a - 1).toNatClampNeg)) + 1) 20)) 13 ((a - 1).toNatClampNeg)))) 15 (a.toNatClampNeg) 0) 12 ((2 * a).toNatClampNeg) (f_X9_givesOf (mst (mst (mst σ 13 (a.toNatClampNeg) (f_X9_within σ ((σ 13 ((a - 1).toNatClampNeg)) + 1) 20)) 14 (a.toNatClampNeg) ((σ 14 ((a - 1).toNatClampNeg)) + ((mst σ 13 (a.toNatClampNeg) (f_X9_within σ ((σ 13 ((a - 1).toNatClampNeg)) + 1) 20)) 13 ((a - 1).toNatClampNeg)))) 15 (a.toNatClampNeg) 0) a 0)) 12 (((2 * a) + 1).toNatClampNeg) (f_X9_givesOf (mst (mst (mst (mst σ 13 (a.toNatClampNeg) (f_X9_within σ ((σ 13 ((a - 1).toNatClampNeg)) + 1) 20)) 14 (a.toNatClampNeg) ((σ 14 ((a - 1).toNatClampNeg)) + ((mst σ 13 (a.toNatClampNeg) (f_X9_within σ ((σ 13 ((a - 1).toNatClampNeg)) + 1) 20)) 13 ((a - 1).toNatClampNeg)))) 15 (a.toNatClampNeg) 0) 12 ((2 * a).toNatClampNeg) (f_X9_givesOf (mst (mst (mst σ 13 (a.toNatClampNeg) (f_X9_within σ ((σ 13 ((a - 1).toNatClampNeg)) + 1) 20)) 14 (a.toNatClampNeg) ((σ 14 ((a - 1).toNatClampNeg)) + ((mst σ 13 (a.toNatClampNeg) (f_X9_within σ ((σ 13 ((a - 1).toNatClampNeg)) + 1) 20)) 13 ((a - 1).toNatClampNeg)))) 15 (a.toNatClampNeg) 0) a 0)) a 1))) else (l_X9_lives_6 n (a + 1) (mst (mst (mst (mst (mst σ 13 (a.toNatClampNeg) (f_X9_within σ ((σ 13 ((a - 1).toNatClampNeg)) + 1) 20)) 14 (a.toNatClampNeg) ((σ 14 ((a - 1).toNatClampNeg)) + ((mst σ 13 (a.toNatClampNeg) (f_X9_within σ ((σ 13 ((a - 1).toNatClampNeg)) + 1) 20)) 13 ((a - 1).toNatClampNeg)))) 15 (a.toNatClampNeg) ((σ 8 ((f_X9_lesser (mst (mst σ 13 (a.toNatClampNeg) (f_X9_within σ ((σ 13 ((a - 1).toNatClampNeg)) + 1) 20)) 14 (a.toNatClampNeg) ((σ 14 ((a - 1).toNatClampNeg)) + ((mst σ 13 (a.toNatClampNeg) (f_X9_within σ ((σ 13 ((a - 1).toNatClampNeg)) + 1) 20)) 13 ((a - 1).toNatClampNeg)))) (((σ 14 ((a - 1).toNatClampNeg)) + ((mst σ 13 (a.toNatClampNeg) (f_X9_within σ ((σ 13 ((a - 1).toNatClampNeg)) + 1) 20)) 13 ((a - 1).toNatClampNeg))) / 10) ((σ 0 10) - 1)).toNatClampNeg)) * (σ 0 9))) 12 ((2 * a).toNatClampNeg) (f_X9_givesOf (mst (mst (mst σ 13 (a.toNatClampNeg) (f_X9_within σ ((σ 13 ((a - 1).toNatClampNeg)) + 1) 20)) 14 (a.toNatClampNeg) ((σ 14 ((a - 1).toNatClampNeg)) + ((mst σ 13 (a.toNatClampNeg) (f_X9_within σ ((σ 13 ((a - 1).toNatClampNeg)) + 1) 20)) 13 ((a - 1).toNatClampNeg)))) 15 (a.toNatClampNeg) ((σ 8 ((f_X9_lesser (mst (mst σ 13 (a.toNatClampNeg) (f_X9_within σ ((σ 13 ((a - 1).toNatClampNeg)) + 1) 20)) 14 (a.toNatClampNeg) ((σ 14 ((a - 1).toNatClampNeg)) + ((mst σ 13 (a.toNatClampNeg) (f_X9_within σ ((σ 13 ((a - 1).toNatClampNeg)) + 1) 20)) 13 ((a - 1).toNatClampNeg)))) (((σ 14 ((a - 1).toNatClampNeg)) + ((mst σ 13 (a.toNatClampNeg) (f_X9_within σ ((σ 13 ((a - 1).toNatClampNeg)) + 1) 20)) 13 ((a - 1).toNatClampNeg))) / 10) ((σ 0 10) - 1)).toNatClampNeg)) * (σ 0 9))) a 0)) 12 (((2 * a) + 1).toNatClampNeg) (f_X9_givesOf (mst (mst (mst (mst σ 13 (a.toNatClampNeg) (f_X9_within σ ((σ 13 ((a - 1).toNatClampNeg)) + 1) 20)) 14 (a.toNatClampNeg) ((σ 14 ((a - 1).toNatClampNeg)) + ((mst σ 13 (a.toNatClampNeg) (f_X9_within σ ((σ 13 ((a - 1).toNatClampNeg)) + 1) 20)) 13 ((a - 1).toNatClampNeg)))) 15 (a.toNatClampNeg) ((σ 8 ((f_X9_lesser (mst (mst σ 13 (a.toNatClampNeg) (f_X9_within σ ((σ 13 ((a - 1).toNatClampNeg)) + 1) 20)) 14 (a.toNatClampNeg) ((σ 14 ((a - 1).toNatClampNeg)) + ((mst σ 13 (a.toNatClampNeg) (f_X9_within σ ((σ 13 ((a - 1).toNatClampNeg)) + 1) 20)) 13 ((a - 1).toNatClampNeg)))) (((σ 14 ((a - 1).toNatClampNeg)) + ((mst σ 13 (a.toNatClampNeg) (f_X9_within σ ((σ 13 ((a - 1).toNatClampNeg)) + 1) 20)) 13 ((a - 1).toNatClampNeg))) / 10) ((σ 0 10) - 1)).toNatClampNeg)) * (σ 0 9))) 12 ((2 * a).toNatClampNeg) (f_X9_givesOf (mst (mst (mst σ 13 (a.toNatClampNeg) (f_X9_within σ ((σ 13 ((a - 1).toNatClampNeg)) + 1) 20)) 14 (a.toNatClampNeg) ((σ 14 ((a - 1).toNatClampNeg)) + ((mst σ 13 (a.toNatClampNeg) (f_X9_within σ ((σ 13 ((a - 1).toNatClampNeg)) + 1) 20)) 13 ((a - 1).toNatClampNeg)))) 15 (a.toNatClampNeg) ((σ 8 ((f_X9_lesser (mst (mst σ 13 (a.toNatClampNeg) (f_X9_within σ ((σ 13 ((a - 1).toNatClampNeg)) + 1) 20)) 14 (a.toNatClampNeg) ((σ 14 ((a - 1).toNatClampNeg)) + ((mst σ 13 (a.toNatClampNeg) (f_X9_within σ ((σ 13 ((a - 1).toNatClampNeg)) + 1) 20)) 13 ((a - 1).toNatClampNeg)))) (((σ 14 ((a - 1).toNatClampNeg)) + ((mst σ 13 (a.toNatClampNeg) (f_X9_within σ ((σ 13 ((a - 1).toNatClampNeg)) + 1) 20)) 13 ((a - 1).toNatClampNeg))) / 10) ((σ 0 10) - 1)).toNatClampNeg)) * (σ 0 9))) a 0)) a 1)))
def bl_X9_lives_6 : Nat → Int32 → Mem → Prop
  | 0, _, _ => False
  | n + 1, a, σ => if 40 ≤ a then True else if a = 0 then if (σ 0 10) = 0 then (vp_in a 40) ∧ ((b_X9_givesOf (mst (mst (mst σ 13 ((0 : Int32).toNatClampNeg) (σ 11 ((4 : Int32).toNatClampNeg))) 14 ((0 : Int32).toNatClampNeg) 0) 15 (a.toNatClampNeg) 0) a 0) ∧ ((vp_in (2 * a) 80) ∧ ((b_X9_givesOf (mst (mst (mst (mst σ 13 ((0 : Int32).toNatClampNeg) (σ 11 ((4 : Int32).toNatClampNeg))) 14 ((0 : Int32).toNatClampNeg) 0) 15 (a.toNatClampNeg) 0) 12 ((2 * a).toNatClampNeg) (f_X9_givesOf (mst (mst (mst σ 13 ((0 : Int32).toNatClampNeg) (σ 11 ((4 : Int32).toNatClampNeg))) 14 ((0 : Int32).toNatClampNeg) 0) 15 (a.toNatClampNeg) 0) a 0)) a 1) ∧ ((vp_in ((2 * a) + 1) 80) ∧ ((bl_X9_lives_6 n (a + 1) (mst (mst (mst (mst (mst σ 13 ((0 : Int32).toNatClampNeg) (σ 11 ((4 : Int32).toNatClampNeg))) 14 ((0 : Int32).toNatClampNeg) 0) 15 (a.toNatClampNeg) 0) 12 ((2 * a).toNatClampNeg) (f_X9_givesOf (mst (mst (mst σ 13 ((0 : Int32).toNatClampNeg) (σ 11 ((4 : Int32).toNatClampNeg))) 14 ((0 : Int32).toNatClampNeg) 0) 15 (a.toNatClampNeg) 0) a 0)) 12 (((2 * a) + 1).toNatClampNeg) (f_X9_givesOf (mst (mst (mst (mst σ 13 ((0 : Int32).toNatClampNeg) (σ 11 ((4 : Int32).toNatClampNeg))) 14 ((0 : Int32).toNatClampNeg) 0) 15 (a.toNatClampNeg) 0) 12 ((2 * a).toNatClampNeg) (f_X9_givesOf (mst (mst (mst σ 13 ((0 : Int32).toNatClampNeg) (σ 11 ((4 : Int32).toNatClampNeg))) 14 ((0 : Int32).toNatClampNeg) 0) 15 (a.toNatClampNeg) 0) a 0)) a 1)))))))) else (vp_in a 40) ∧ ((vp_in (f_X9_lesser (mst (mst σ 13 ((0 : Int32).toNatClampNeg) (σ 11 ((4 : Int32).toNatClampNeg))) 14 ((0 : Int32).toNatClampNeg) 0) (((mst (mst σ 13 ((0 : Int32).toNatClampNeg) (σ 11 ((4 : Int32).toNatClampNeg))) 14 ((0 : Int32).toNatClampNeg) 0) 14 (a.toNatClampNeg)) / 10) ((σ 0 10) - 1)) 16) ∧ ((vp_in a 40) ∧ ((b_X9_givesOf (mst (mst (mst σ 13 ((0 : Int32).toNatClampNeg) (σ 11 ((4 : Int32).toNatClampNeg))) 14 ((0 : Int32).toNatClampNeg) 0) 15 (a.toNatClampNeg) ((σ 8 ((f_X9_lesser (mst (mst σ 13 ((0 : Int32).toNatClampNeg) (σ 11 ((4 : Int32).toNatClampNeg))) 14 ((0 : Int32).toNatClampNeg) 0) (((mst (mst σ 13 ((0 : Int32).toNatClampNeg) (σ 11 ((4 : Int32).toNatClampNeg))) 14 ((0 : Int32).toNatClampNeg) 0) 14 (a.toNatClampNeg)) / 10) ((σ 0 10) - 1)).toNatClampNeg)) * (σ 0 9))) a 0) ∧ ((vp_in (2 * a) 80) ∧ ((b_X9_givesOf (mst (mst (mst (mst σ 13 ((0 : Int32).toNatClampNeg) (σ 11 ((4 : Int32).toNatClampNeg))) 14 ((0 : Int32).toNatClampNeg) 0) 15 (a.toNatClampNeg) ((σ 8 ((f_X9_lesser (mst (mst σ 13 ((0 : Int32).toNatClampNeg) (σ 11 ((4 : Int32).toNatClampNeg))) 14 ((0 : Int32).toNatClampNeg) 0) (((mst (mst σ 13 ((0 : Int32).toNatClampNeg) (σ 11 ((4 : Int32).toNatClampNeg))) 14 ((0 : Int32).toNatClampNeg) 0) 14 (a.toNatClampNeg)) / 10) ((σ 0 10) - 1)).toNatClampNeg)) * (σ 0 9))) 12 ((2 * a).toNatClampNeg) (f_X9_givesOf (mst (mst (mst σ 13 ((0 : Int32).toNatClampNeg) (σ 11 ((4 : Int32).toNatClampNeg))) 14 ((0 : Int32).toNatClampNeg) 0) 15 (a.toNatClampNeg) ((σ 8 ((f_X9_lesser (mst (mst σ 13 ((0 : Int32).toNatClampNeg) (σ 11 ((4 : Int32).toNatClampNeg))) 14 ((0 : Int32).toNatClampNeg) 0) (((mst (mst σ 13 ((0 : Int32).toNatClampNeg) (σ 11 ((4 : Int32).toNatClampNeg))) 14 ((0 : Int32).toNatClampNeg) 0) 14 (a.toNatClampNeg)) / 10) ((σ 0 10) - 1)).toNatClampNeg)) * (σ 0 9))) a 0)) a 1) ∧ ((vp_in ((2 * a) + 1) 80) ∧ ((bl_X9_lives_6 n (a + 1) (mst (mst (mst (mst (mst σ 13 ((0 : Int32).toNatClampNeg) (σ 11 ((4 : Int32).toNatClampNeg))) 14 ((0 : Int32).toNatClampNeg) 0) 15 (a.toNatClampNeg) ((σ 8 ((f_X9_lesser (mst (mst σ 13 ((0 : Int32).toNatClampNeg) (σ 11 ((4 : Int32).toNatClampNeg))) 14 ((0 : Int32).toNatClampNeg) 0) (((mst (mst σ 13 ((0 : Int32).toNatClampNeg) (σ 11 ((4 : Int32).toNatClampNeg))) 14 ((0 : Int32).toNatClampNeg) 0) 14 (a.toNatClampNeg)) / 10) ((σ 0 10) - 1)).toNatClampNeg)) * (σ 0 9))) 12 ((2 * a).toNatClampNeg) (f_X9_givesOf (mst (mst (mst σ 13 ((0 : Int32).toNatClampNeg) (σ 11 ((4 : Int32).toNatClampNeg))) 14 ((0 : Int32).toNatClampNeg) 0) 15 (a.toNatClampNeg) ((σ 8 ((f_X9_lesser (mst (mst σ 13 ((0 : Int32).toNatClampNeg) (σ 11 ((4 : Int32).toNatClampNeg))) 14 ((0 : Int32).toNatClampNeg) 0) (((mst (mst σ 13 ((0 : Int32).toNatClampNeg) (σ 11 ((4 : Int32).toNatClampNeg))) 14 ((0 : Int32).toNatClampNeg) 0) 14 (a.toNatClampNeg)) / 10) ((σ 0 10) - 1)).toNatClampNeg)) * (σ 0 9))) a 0)) 12 (((2 * a) + 1).toNatClampNeg) (f_X9_givesOf (mst (mst (mst (mst σ 13 ((0 : Int32).toNatClampNeg) (σ 11 ((4 : Int32).toNatClampNeg))) 14 ((0 : Int32).toNatClampNeg) 0) 15 (a.toNatClampNeg) ((σ 8 ((f_X9_lesser (mst (mst σ 13 ((0 : Int32).toNatClampNeg) (σ 11 ((4 : Int32).toNatClampNeg))) 14 ((0 : Int32).toNatClampNeg) 0) (((mst (mst σ 13 ((0 : Int32).toNatClampNeg) (σ 11 ((4 : Int32).toNatClampNeg))) 14 ((0 : Int32).toNatClampNeg) 0) 14 (a.toNatClampNeg)) / 10) ((σ 0 10) - 1)).toNatClampNeg)) * (σ 0 9))) 12 ((2 * a).toNatClampNeg) (f_X9_givesOf (mst (mst (mst σ 13 ((0 : Int32).toNatClampNeg) (σ 11 ((4 : Int32).toNatClampNeg))) 14 ((0 : Int32).toNatClampNeg) 0) 15 (a.toNatClampNeg) ((σ 8 ((f_X9_lesser (mst (mst σ 13 ((0 : Int32).toNatClampNeg) (σ 11 ((4 : Int32).toNatClampNeg))) 14 ((0 : Int32).toNatClampNeg) 0) (((mst (mst σ 13 ((0 : Int32).toNatClampNeg) (σ 11 ((4 : Int32).toNatClampNeg))) 14 ((0 : Int32).toNatClampNeg) 0) 14 (a.toNatClampNeg)) / 10) ((σ 0 10) - 1)).toNatClampNeg)) * (σ 0 9))) a 0)) a 1)))))))))) else (vp_in ((2 * a) - 2) 80) ∧ ((vp_in ((2 * a) - 1) 80) ∧ ((vp_in (a - 1) 40) ∧ ((vp_in (a - 1) 40) ∧ (if (((σ 12 (((2 * a) - 2).toNatClampNeg)) + (σ 12 (((2 * a) - 1).toNatClampNeg))) - (σ 15 ((a - 1).toNatClampNeg))) ≤ 0 then if 0 ≤ (((σ 12 (((2 * a) - 2).toNatClampNeg)) + (σ 12 (((2 * a) - 1).toNatClampNeg))) - (σ 15 ((a - 1).toNatClampNeg))) then (vp_in a 40) ∧ ((vp_in (a - 1) 40) ∧ ((vp_in (a - 1) 40) ∧ ((vp_in a 40) ∧ (if (σ 0 10) = 0 then (vp_in a 40) ∧ ((b_X9_givesOf (mst (mst (mst σ 13 (a.toNatClampNeg) (f_X9_within σ ((σ 13 ((a - 1).toNatClampNeg)) + 0) 20)) 14 (a.toNatClampNeg) ((σ 14 ((a - 1).toNatClampNeg)) + ((mst σ 13 (a.toNatClampNeg) (f_X9_within σ ((σ 13 ((a - 1).toNatClampNeg)) + 0) 20)) 13 ((a - 1).toNatClampNeg)))) 15 (a.toNatClampNeg) 0) a 0) ∧ ((vp_in (2 * a) 80) ∧ ((b_X9_givesOf (mst (mst (mst (mst σ 13 (a.toNatClampNeg) (f_X9_within σ ((σ 13 ((a - 1).toNatClampNeg)) + 0) 20)) 14 (a.toNatClampNeg) ((σ 14 ((a - 1).toNatClampNeg)) + ((mst σ 13 (a.toNatClampNeg) (f_X9_within σ ((σ 13 ((a - 1).toNatClampNeg)) + 0) 20)) 13 ((a - 1).toNatClampNeg)))) 15 (a.toNatClampNeg) 0) 12 ((2 * a).toNatClampNeg) (f_X9_givesOf (mst (mst (mst σ 13 (a.toNatClampNeg) (f_X9_within σ ((σ 13 ((a - 1).toNatClampNeg)) + 0) 20)) 14 (a.toNatClampNeg) ((σ 14 ((a - 1).toNatClampNeg)) + ((mst σ 13 (a.toNatClampNeg) (f_X9_within σ ((σ 13 ((a - 1).toNatClampNeg)) + 0) 20)) 13 ((a - 1).toNatClampNeg)))) 15 (a.toNatClampNeg) 0) a 0)) a 1) ∧ ((vp_in ((2 * a) + 1) 80) ∧ ((bl_X9_lives_6 n (a + 1) (mst (mst (mst (mst (mst σ 13 (a.toNatClampNeg) (f_X9_within σ ((σ 13 ((a - 1).toNatClampNeg)) + 0) 20)) 14 (a.toNatClampNeg) ((σ 14 ((a - 1).toNatClampNeg)) + ((mst σ 13 (a.toNatClampNeg) (f_X9_within σ ((σ 13 ((a - 1).toNatClampNeg)) + 0) 20)) 13 ((a - 1).toNatClampNeg)))) 15 (a.toNatClampNeg) 0) 12 ((2 * a).toNatClampNeg) (f_X9_givesOf (mst (mst (mst σ 13 (a.toNatClampNeg) (f_X9_within σ ((σ 13 ((a - 1).toNatClampNeg)) + 0) 20)) 14 (a.toNatClampNeg) ((σ 14 ((a - 1).toNatClampNeg)) + ((mst σ 13 (a.toNatClampNeg) (f_X9_within σ ((σ 13 ((a - 1).toNatClampNeg)) + 0) 20)) 13 ((a - 1).toNatClampNeg)))) 15 (a.toNatClampNeg) 0) a 0)) 12 (((2 * a) + 1).toNatClampNeg) (f_X9_givesOf (mst (mst (mst (mst σ 13 (a.toNatClampNeg) (f_X9_within σ ((σ 13 ((a - 1).toNatClampNeg)) + 0) 20)) 14 (a.toNatClampNeg) ((σ 14 ((a - 1).toNatClampNeg)) + ((mst σ 13 (a.toNatClampNeg) (f_X9_within σ ((σ 13 ((a - 1).toNatClampNeg)) + 0) 20)) 13 ((a - 1).toNatClampNeg)))) 15 (a.toNatClampNeg) 0) 12 ((2 * a).toNatClampNeg) (f_X9_givesOf (mst (mst (mst σ 13 (a.toNatClampNeg) (f_X9_within σ ((σ 13 ((a - 1).toNatClampNeg)) + 0) 20)) 14 (a.toNatClampNeg) ((σ 14 ((a - 1).toNatClampNeg)) + ((mst σ 13 (a.toNatClampNeg) (f_X9_within σ ((σ 13 ((a - 1).toNatClampNeg)) + 0) 20)) 13 ((a - 1).toNatClampNeg)))) 15 (a.toNatClampNeg) 0) a 0)) a 1)))))))) else (vp_in a 40) ∧ ((vp_in (f_X9_lesser (mst (mst σ 13 (a.toNatClampNeg) (f_X9_within σ ((σ 13 ((a - 1).toNatClampNeg)) + 0) 20)) 14 (a.toNatClampNeg) ((σ 14 ((a - 1).toNatClampNeg)) + ((mst σ 13 (a.toNatClampNeg) (f_X9_within σ ((σ 13 ((a - 1).toNatClampNeg)) + 0) 20)) 13 ((a - 1).toNatClampNeg)))) (((σ 14 ((a - 1).toNatClampNeg)) + ((mst σ 13 (a.toNatClampNeg) (f_X9_within σ ((σ 13 ((a - 1).toNatClampNeg)) + 0) 20)) 13 ((a - 1).toNatClampNeg))) / 10) ((σ 0 10) - 1)) 16) ∧ ((vp_in a 40) ∧ ((b_X9_givesOf (mst (mst (mst σ 13 (a.toNatClampNeg) (f_X9_within σ ((σ 13 ((a - 1).toNatClampNeg)) + 0) 20)) 14 (a.toNatClampNeg) ((σ 14 ((a - 1).toNatClampNeg)) + ((mst σ 13 (a.toNatClampNeg) (f_X9_within σ ((σ 13 ((a - 1).toNatClampNeg)) + 0) 20)) 13 ((a - 1).toNatClampNeg)))) 15 (a.toNatClampNeg) ((σ 8 ((f_X9_lesser (mst (mst σ 13 (a.toNatClampNeg) (f_X9_within σ ((σ 13 ((a - 1).toNatClampNeg)) + 0) 20)) 14 (a.toNatClampNeg) ((σ 14 ((a - 1).toNatClampNeg)) + ((mst σ 13 (a.toNatClampNeg) (f_X9_within σ ((σ 13 ((a - 1).toNatClampNeg)) + 0) 20)) 13 ((a - 1).toNatClampNeg)))) (((σ 14 ((a - 1).toNatClampNeg)) + ((mst σ 13 (a.toNatClampNeg) (f_X9_within σ ((σ 13 ((a - 1).toNatClampNeg)) + 0) 20)) 13 ((a - 1).toNatClampNeg))) / 10) ((σ 0 10) - 1)).toNatClampNeg)) * (σ 0 9))) a 0) ∧ ((vp_in (2 * a) 80) ∧ ((b_X9_givesOf (mst (mst (mst (mst σ 13 (a.toNatClampNeg) (f_X9_within σ ((σ 13 ((a - 1).toNatClampNeg)) + 0) 20)) 14 (a.toNatClampNeg) ((σ 14 ((a - 1).toNatClampNeg)) + ((mst σ 13 (a.toNatClampNeg) (f_X9_within σ ((σ 13 ((a - 1).toNatClampNeg)) + 0) 20)) 13 ((a - 1).toNatClampNeg)))) 15 (a.toNatClampNeg) ((σ 8 ((f_X9_lesser (mst (mst σ 13 (a.toNatClampNeg) (f_X9_within σ ((σ 13 ((a - 1).toNatClampNeg)) + 0) 20)) 14 (a.toNatClampNeg) ((σ 14 ((a - 1).toNatClampNeg)) + ((mst σ 13 (a.toNatClampNeg) (f_X9_within σ ((σ 13 ((a - 1).toNatClampNeg)) + 0) 20)) 13 ((a - 1).toNatClampNeg)))) (((σ 14 ((a - 1).toNatClampNeg)) + ((mst σ 13 (a.toNatClampNeg) (f_X9_within σ ((σ 13 ((a - 1).toNatClampNeg)) + 0) 20)) 13 ((a - 1).toNatClampNeg))) / 10) ((σ 0 10) - 1)).toNatClampNeg)) * (σ 0 9))) 12 ((2 * a).toNatClampNeg) (f_X9_givesOf (mst (mst (mst σ 13 (a.toNatClampNeg) (f_X9_within σ ((σ 13 ((a - 1).toNatClampNeg)) + 0) 20)) 14 (a.toNatClampNeg) ((σ 14 ((a - 1).toNatClampNeg)) + ((mst σ 13 (a.toNatClampNeg) (f_X9_within σ ((σ 13 ((a - 1).toNatClampNeg)) + 0) 20)) 13 ((a - 1).toNatClampNeg)))) 15 (a.toNatClampNeg) ((σ 8 ((f_X9_lesser (mst (mst σ 13 (a.toNatClampNeg) (f_X9_within σ ((σ 13 ((a - 1).toNatClampNeg)) + 0) 20)) 14 (a.toNatClampNeg) ((σ 14 ((a - 1).toNatClampNeg)) + ((mst σ 13 (a.toNatClampNeg) (f_X9_within σ ((σ 13 ((a - 1).toNatClampNeg)) + 0) 20)) 13 ((a - 1).toNatClampNeg)))) (((σ 14 ((a - 1).toNatClampNeg)) + ((mst σ 13 (a.toNatClampNeg) (f_X9_within σ ((σ 13 ((a - 1).toNatClampNeg)) + 0) 20)) 13 ((a - 1).toNatClampNeg))) / 10) ((σ 0 10) - 1)).toNatClampNeg)) * (σ 0 9))) a 0)) a 1) ∧ ((vp_in ((2 * a) + 1) 80) ∧ ((bl_X9_lives_6 n (a + 1) (mst (mst (mst (mst (mst σ 13 (a.toNatClampNeg) (f_X9_within σ ((σ 13 ((a - 1).toNatClampNeg)) + 0) 20)) 14 (a.toNatClampNeg) ((σ 14 ((a - 1).toNatClampNeg)) + ((mst σ 13 (a.toNatClampNeg) (f_X9_within σ ((σ 13 ((a - 1).toNatClampNeg)) + 0) 20)) 13 ((a - 1).toNatClampNeg)))) 15 (a.toNatClampNeg) ((σ 8 ((f_X9_lesser (mst (mst σ 13 (a.toNatClampNeg) (f_X9_within σ ((σ 13 ((a - 1).toNatClampNeg)) + 0) 20)) 14 (a.toNatClampNeg) ((σ 14 ((a - 1).toNatClampNeg)) + ((mst σ 13 (a.toNatClampNeg) (f_X9_within σ ((σ 13 ((a - 1).toNatClampNeg)) + 0) 20)) 13 ((a - 1).toNatClampNeg)))) (((σ 14 ((a - 1).toNatClampNeg)) + ((mst σ 13 (a.toNatClampNeg) (f_X9_within σ ((σ 13 ((a - 1).toNatClampNeg)) + 0) 20)) 13 ((a - 1).toNatClampNeg))) / 10) ((σ 0 10) - 1)).toNatClampNeg)) * (σ 0 9))) 12 ((2 * a).toNatClampNeg) (f_X9_givesOf (mst (mst (mst σ 13 (a.toNatClampNeg) (f_X9_within σ ((σ 13 ((a - 1).toNatClampNeg)) + 0) 20)) 14 (a.toNatClampNeg) ((σ 14 ((a - 1).toNatClampNeg)) + ((mst σ 13 (a.toNatClampNeg) (f_X9_within σ ((σ 13 ((a - 1).toNatClampNeg)) + 0) 20)) 13 ((a - 1).toNatClampNeg)))) 15 (a.toNatClampNeg) ((σ 8 ((f_X9_lesser (mst (mst σ 13 (a.toNatClampNeg) (f_X9_within σ ((σ 13 ((a - 1).toNatClampNeg)) + 0) 20)) 14 (a.toNatClampNeg) ((σ 14 ((a - 1).toNatClampNeg)) + ((mst σ 13 (a.toNatClampNeg) (f_X9_within σ ((σ 13 ((a - 1).toNatClampNeg)) + 0) 20)) 13 ((a - 1).toNatClampNeg)))) (((σ 14 ((a - 1).toNatClampNeg)) + ((mst σ 13 (a.toNatClampNeg) (f_X9_within σ ((σ 13 ((a - 1).toNatClampNeg)) + 0) 20)) 13 ((a - 1).toNatClampNeg))) / 10) ((σ 0 10) - 1)).toNatClampNeg)) * (σ 0 9))) a 0)) 12 (((2 * a) + 1).toNatClampNeg) (f_X9_givesOf (mst (mst (mst (mst σ 13 (a.toNatClampNeg) (f_X9_within σ ((σ 13 ((a - 1).toNatClampNeg)) + 0) 20)) 14 (a.toNatClampNeg) ((σ 14 ((a - 1).toNatClampNeg)) + ((mst σ 13 (a.toNatClampNeg) (f_X9_within σ ((σ 13 ((a - 1).toNatClampNeg)) + 0) 20)) 13 ((a - 1).toNatClampNeg)))) 15 (a.toNatClampNeg) ((σ 8 ((f_X9_lesser (mst (mst σ 13 (a.toNatClampNeg) (f_X9_within σ ((σ 13 ((a - 1).toNatClampNeg)) + 0) 20)) 14 (a.toNatClampNeg) ((σ 14 ((a - 1).toNatClampNeg)) + ((mst σ 13 (a.toNatClampNeg) (f_X9_within σ ((σ 13 ((a - 1).toNatClampNeg)) + 0) 20)) 13 ((a - 1).toNatClampNeg)))) (((σ 14 ((a - 1).toNatClampNeg)) + ((mst σ 13 (a.toNatClampNeg) (f_X9_within σ ((σ 13 ((a - 1).toNatClampNeg)) + 0) 20)) 13 ((a - 1).toNatClampNeg))) / 10) ((σ 0 10) - 1)).toNatClampNeg)) * (σ 0 9))) 12 ((2 * a).toNatClampNeg) (f_X9_givesOf (mst (mst (mst σ 13 (a.toNatClampNeg) (f_X9_within σ ((σ 13 ((a - 1).toNatClampNeg)) + 0) 20)) 14 (a.toNatClampNeg) ((σ 14 ((a - 1).toNatClampNeg)) + ((mst σ 13 (a.toNatClampNeg) (f_X9_within σ ((σ 13 ((a - 1).toNatClampNeg)) + 0) 20)) 13 ((a - 1).toNatClampNeg)))) 15 (a.toNatClampNeg) ((σ 8 ((f_X9_lesser (mst (mst σ 13 (a.toNatClampNeg) (f_X9_within σ ((σ 13 ((a - 1).toNatClampNeg)) + 0) 20)) 14 (a.toNatClampNeg) ((σ 14 ((a - 1).toNatClampNeg)) + ((mst σ 13 (a.toNatClampNeg) (f_X9_within σ ((σ 13 ((a - 1).toNatClampNeg)) + 0) 20)) 13 ((a - 1).toNatClampNeg)))) (((σ 14 ((a - 1).toNatClampNeg)) + ((mst σ 13 (a.toNatClampNeg) (f_X9_within σ ((σ 13 ((a - 1).toNatClampNeg)) + 0) 20)) 13 ((a - 1).toNatClampNeg))) / 10) ((σ 0 10) - 1)).toNatClampNeg)) * (σ 0 9))) a 0)) a 1)))))))))))))) else (vp_in a 40) ∧ ((vp_in (a - 1) 40) ∧ ((vp_in (a - 1) 40) ∧ ((vp_in a 40) ∧ (if (σ 0 10) = 0 then (vp_in a 40) ∧ ((b_X9_givesOf (mst (mst (mst σ 13 (a.toNatClampNeg) (f_X9_within σ ((σ 13 ((a - 1).toNatClampNeg)) + (-1)) 20)) 14 (a.toNatClampNeg) ((σ 14 ((a - 1).toNatClampNeg)) + ((mst σ 13 (a.toNatClampNeg) (f_X9_within σ ((σ 13 ((a - 1).toNatClampNeg)) + (-1)) 20)) 13 ((a - 1).toNatClampNeg)))) 15 (a.toNatClampNeg) 0) a 0) ∧ ((vp_in (2 * a) 80) ∧ ((b_X9_givesOf (mst (mst (mst (mst σ 13 (a.toNatClampNeg) (f_X9_within σ ((σ 13 ((a - 1).toNatClampNeg)) + (-1)) 20)) 14 (a.toNatClampNeg) ((σ 14 ((a - 1).toNatClampNeg)) + ((mst σ 13 (a.toNatClampNeg) (f_X9_within σ ((σ 13 ((a - 1).toNatClampNeg)) + (-1)) 20)) 13 ((a - 1).toNatClampNeg)))) 15 (a.toNatClampNeg) 0) 12 ((2 * a).toNatClampNeg) (f_X9_givesOf (mst (mst (mst σ 13 (a.toNatClampNeg) (f_X9_within σ ((σ 13 ((a - 1).toNatClampNeg)) + (-1)) 20)) 14 (a.toNatClampNeg) ((σ 14 ((a - 1).toNatClampNeg)) + ((mst σ 13 (a.toNatClampNeg) (f_X9_within σ ((σ 13 ((a - 1).toNatClampNeg)) + (-1)) 20)) 13 ((a - 1).toNatClampNeg)))) 15 (a.toNatClampNeg) 0) a 0)) a 1) ∧ ((vp_in ((2 * a) + 1) 80) ∧ ((bl_X9_lives_6 n (a + 1) (mst (mst (mst (mst (mst σ 13 (a.toNatClampNeg) (f_X9_within σ ((σ 13 ((a - 1).toNatClampNeg)) + (-1)) 20)) 14 (a.toNatClampNeg) ((σ 14 ((a - 1).toNatClampNeg)) + ((mst σ 13 (a.toNatClampNeg) (f_X9_within σ ((σ 13 ((a - 1).toNatClampNeg)) + (-1)) 20)) 13 ((a - 1).toNatClampNeg)))) 15 (a.toNatClampNeg) 0) 12 ((2 * a).toNatClampNeg) (f_X9_givesOf (mst (mst (mst σ 13 (a.toNatClampNeg) (f_X9_within σ ((σ 13 ((a - 1).toNatClampNeg)) + (-1)) 20)) 14 (a.toNatClampNeg) ((σ 14 ((a - 1).toNatClampNeg)) + ((mst σ 13 (a.toNatClampNeg) (f_X9_within σ ((σ 13 ((a - 1).toNatClampNeg)) + (-1)) 20)) 13 ((a - 1).toNatClampNeg)))) 15 (a.toNatClampNeg) 0) a 0)) 12 (((2 * a) + 1).toNatClampNeg) (f_X9_givesOf (mst (mst (mst (mst σ 13 (a.toNatClampNeg) (f_X9_within σ ((σ 13 ((a - 1).toNatClampNeg)) + (-1)) 20)) 14 (a.toNatClampNeg) ((σ 14 ((a - 1).toNatClampNeg)) + ((mst σ 13 (a.toNatClampNeg) (f_X9_within σ ((σ 13 ((a - 1).toNatClampNeg)) + (-1)) 20)) 13 ((a - 1).toNatClampNeg)))) 15 (a.toNatClampNeg) 0) 12 ((2 * a).toNatClampNeg) (f_X9_givesOf (mst (mst (mst σ 13 (a.toNatClampNeg) (f_X9_within σ ((σ 13 ((a - 1).toNatClampNeg)) + (-1)) 20)) 14 (a.toNatClampNeg) ((σ 14 ((a - 1).toNatClampNeg)) + ((mst σ 13 (a.toNatClampNeg) (f_X9_within σ ((σ 13 ((a - 1).toNatClampNeg)) + (-1)) 20)) 13 ((a - 1).toNatClampNeg)))) 15 (a.toNatClampNeg) 0) a 0)) a 1)))))))) else (vp_in a 40) ∧ ((vp_in (f_X9_lesser (mst (mst σ 13 (a.toNatClampNeg) (f_X9_within σ ((σ 13 ((a - 1).toNatClampNeg)) + (-1)) 20)) 14 (a.toNatClampNeg) ((σ 14 ((a - 1).toNatClampNeg)) + ((mst σ 13 (a.toNatClampNeg) (f_X9_within σ ((σ 13 ((a - 1).toNatClampNeg)) + (-1)) 20)) 13 ((a - 1).toNatClampNeg)))) (((σ 14 ((a - 1).toNatClampNeg)) + ((mst σ 13 (a.toNatClampNeg) (f_X9_within σ ((σ 13 ((a - 1).toNatClampNeg)) + (-1)) 20)) 13 ((a - 1).toNatClampNeg))) / 10) ((σ 0 10) - 1)) 16) ∧ ((vp_in a 40) ∧ ((b_X9_givesOf (mst (mst (mst σ 13 (a.toNatClampNeg) (f_X9_within σ ((σ 13 ((a - 1).toNatClampNeg)) + (-1)) 20)) 14 (a.toNatClampNeg) ((σ 14 ((a - 1).toNatClampNeg)) + ((mst σ 13 (a.toNatClampNeg) (f_X9_within σ ((σ 13 ((a - 1).toNatClampNeg)) + (-1)) 20)) 13 ((a - 1).toNatClampNeg)))) 15 (a.toNatClampNeg) ((σ 8 ((f_X9_lesser (mst (mst σ 13 (a.toNatClampNeg) (f_X9_within σ ((σ 13 ((a - 1).toNatClampNeg)) + (-1)) 20)) 14 (a.toNatClampNeg) ((σ 14 ((a - 1).toNatClampNeg)) + ((mst σ 13 (a.toNatClampNeg) (f_X9_within σ ((σ 13 ((a - 1).toNatClampNeg)) + (-1)) 20)) 13 ((a - 1).toNatClampNeg)))) (((σ 14 ((a - 1).toNatClampNeg)) + ((mst σ 13 (a.toNatClampNeg) (f_X9_within σ ((σ 13 ((a - 1).toNatClampNeg)) + (-1)) 20)) 13 ((a - 1).toNatClampNeg))) / 10) ((σ 0 10) - 1)).toNatClampNeg)) * (σ 0 9))) a 0) ∧ ((vp_in (2 * a) 80) ∧ ((b_X9_givesOf (mst (mst (mst (mst σ 13 (a.toNatClampNeg) (f_X9_within σ ((σ 13 ((a - 1).toNatClampNeg)) + (-1)) 20)) 14 (a.toNatClampNeg) ((σ 14 ((a - 1).toNatClampNeg)) + ((mst σ 13 (a.toNatClampNeg) (f_X9_within σ ((σ 13 ((a - 1).toNatClampNeg)) + (-1)) 20)) 13 ((a - 1).toNatClampNeg)))) 15 (a.toNatClampNeg) ((σ 8 ((f_X9_lesser (mst (mst σ 13 (a.toNatClampNeg) (f_X9_within σ ((σ 13 ((a - 1).toNatClampNeg)) + (-1)) 20)) 14 (a.toNatClampNeg) ((σ 14 ((a - 1).toNatClampNeg)) + ((mst σ 13 (a.toNatClampNeg) (f_X9_within σ ((σ 13 ((a - 1).toNatClampNeg)) + (-1)) 20)) 13 ((a - 1).toNatClampNeg)))) (((σ 14 ((a - 1).toNatClampNeg)) + ((mst σ 13 (a.toNatClampNeg) (f_X9_within σ ((σ 13 ((a - 1).toNatClampNeg)) + (-1)) 20)) 13 ((a - 1).toNatClampNeg))) / 10) ((σ 0 10) - 1)).toNatClampNeg)) * (σ 0 9))) 12 ((2 * a).toNatClampNeg) (f_X9_givesOf (mst (mst (mst σ 13 (a.toNatClampNeg) (f_X9_within σ ((σ 13 ((a - 1).toNatClampNeg)) + (-1)) 20)) 14 (a.toNatClampNeg) ((σ 14 ((a - 1).toNatClampNeg)) + ((mst σ 13 (a.toNatClampNeg) (f_X9_within σ ((σ 13 ((a - 1).toNatClampNeg)) + (-1)) 20)) 13 ((a - 1).toNatClampNeg)))) 15 (a.toNatClampNeg) ((σ 8 ((f_X9_lesser (mst (mst σ 13 (a.toNatClampNeg) (f_X9_within σ ((σ 13 ((a - 1).toNatClampNeg)) + (-1)) 20)) 14 (a.toNatClampNeg) ((σ 14 ((a - 1).toNatClampNeg)) + ((mst σ 13 (a.toNatClampNeg) (f_X9_within σ ((σ 13 ((a - 1).toNatClampNeg)) + (-1)) 20)) 13 ((a - 1).toNatClampNeg)))) (((σ 14 ((a - 1).toNatClampNeg)) + ((mst σ 13 (a.toNatClampNeg) (f_X9_within σ ((σ 13 ((a - 1).toNatClampNeg)) + (-1)) 20)) 13 ((a - 1).toNatClampNeg))) / 10) ((σ 0 10) - 1)).toNatClampNeg)) * (σ 0 9))) a 0)) a 1) ∧ ((vp_in ((2 * a) + 1) 80) ∧ ((bl_X9_lives_6 n (a + 1) (mst (mst (mst (mst (mst σ 13 (a.toNatClampNeg) (f_X9_within σ ((σ 13 ((a - 1).toNatClampNeg)) + (-1)) 20)) 14 (a.toNatClampNeg) ((σ 14 ((a - 1).toNatClampNeg)) + ((mst σ 13 (a.toNatClampNeg) (f_X9_within σ ((σ 13 ((a - 1).toNatClampNeg)) + (-1)) 20)) 13 ((a - 1).toNatClampNeg)))) 15 (a.toNatClampNeg) ((σ 8 ((f_X9_lesser (mst (mst σ 13 (a.toNatClampNeg) (f_X9_within σ ((σ 13 ((a - 1).toNatClampNeg)) + (-1)) 20)) 14 (a.toNatClampNeg) ((σ 14 ((a - 1).toNatClampNeg)) + ((mst σ 13 (a.toNatClampNeg) (f_X9_within σ ((σ 13 ((a - 1).toNatClampNeg)) + (-1)) 20)) 13 ((a - 1).toNatClampNeg)))) (((σ 14 ((a - 1).toNatClampNeg)) + ((mst σ 13 (a.toNatClampNeg) (f_X9_within σ ((σ 13 ((a - 1).toNatClampNeg)) + (-1)) 20)) 13 ((a - 1).toNatClampNeg))) / 10) ((σ 0 10) - 1)).toNatClampNeg)) * (σ 0 9))) 12 ((2 * a).toNatClampNeg) (f_X9_givesOf (mst (mst (mst σ 13 (a.toNatClampNeg) (f_X9_within σ ((σ 13 ((a - 1).toNatClampNeg)) + (-1)) 20)) 14 (a.toNatClampNeg) ((σ 14 ((a - 1).toNatClampNeg)) + ((mst σ 13 (a.toNatClampNeg) (f_X9_within σ ((σ 13 ((a - 1).toNatClampNeg)) + (-1)) 20)) 13 ((a - 1).toNatClampNeg)))) 15 (a.toNatClampNeg) ((σ 8 ((f_X9_lesser (mst (mst σ 13 (a.toNatClampNeg) (f_X9_within σ ((σ 13 ((a - 1).toNatClampNeg)) + (-1)) 20)) 14 (a.toNatClampNeg) ((σ 14 ((a - 1).toNatClampNeg)) + ((mst σ 13 (a.toNatClampNeg) (f_X9_within σ ((σ 13 ((a - 1).toNatClampNeg)) + (-1)) 20)) 13 ((a - 1).toNatClampNeg)))) (((σ 14 ((a - 1).toNatClampNeg)) + ((mst σ 13 (a.toNatClampNeg) (f_X9_within σ ((σ 13 ((a - 1).toNatClampNeg)) + (-1)) 20)) 13 ((a - 1).toNatClampNeg))) / 10) ((σ 0 10) - 1)).toNatClampNeg)) * (σ 0 9))) a 0)) 12 (((2 * a) + 1).toNatClampNeg) (f_X9_givesOf (mst (mst (mst (mst σ 13 (a.toNatClampNeg) (f_X9_within σ ((σ 13 ((a - 1).toNatClampNeg)) + (-1)) 20)) 14 (a.toNatClampNeg) ((σ 14 ((a - 1).toNatClampNeg)) + ((mst σ 13 (a.toNatClampNeg) (f_X9_within σ ((σ 13 ((a - 1).toNatClampNeg)) + (-1)) 20)) 13 ((a - 1).toNatClampNeg)))) 15 (a.toNatClampNeg) ((σ 8 ((f_X9_lesser (mst (mst σ 13 (a.toNatClampNeg) (f_X9_within σ ((σ 13 ((a - 1).toNatClampNeg)) + (-1)) 20)) 14 (a.toNatClampNeg) ((σ 14 ((a - 1).toNatClampNeg)) + ((mst σ 13 (a.toNatClampNeg) (f_X9_within σ ((σ 13 ((a - 1).toNatClampNeg)) + (-1)) 20)) 13 ((a - 1).toNatClampNeg)))) (((σ 14 ((a - 1).toNatClampNeg)) + ((mst σ 13 (a.toNatClampNeg) (f_X9_within σ ((σ 13 ((a - 1).toNatClampNeg)) + (-1)) 20)) 13 ((a - 1).toNatClampNeg))) / 10) ((σ 0 10) - 1)).toNatClampNeg)) * (σ 0 9))) 12 ((2 * a).toNatClampNeg) (f_X9_givesOf (mst (mst (mst σ 13 (a.toNatClampNeg) (f_X9_within σ ((σ 13 ((a - 1).toNatClampNeg)) + (-1)) 20)) 14 (a.toNatClampNeg) ((σ 14 ((a - 1).toNatClampNeg)) + ((mst σ 13 (a.toNatClampNeg) (f_X9_within σ ((σ 13 ((a - 1).toNatClampNeg)) + (-1)) 20)) 13 ((a - 1).toNatClampNeg)))) 15 (a.toNatClampNeg) ((σ 8 ((f_X9_lesser (mst (mst σ 13 (a.toNatClampNeg) (f_X9_within σ ((σ 13 ((a - 1).toNatClampNeg)) + (-1)) 20)) 14 (a.toNatClampNeg) ((σ 14 ((a - 1).toNatClampNeg)) + ((mst σ 13 (a.toNatClampNeg) (f_X9_within σ ((σ 13 ((a - 1).toNatClampNeg)) + (-1)) 20)) 13 ((a - 1).toNatClampNeg)))) (((σ 14 ((a - 1).toNatClampNeg)) + ((mst σ 13 (a.toNatClampNeg) (f_X9_within σ ((σ 13 ((a - 1).toNatClampNeg)) + (-1)) 20)) 13 ((a - 1).toNatClampNeg))) / 10) ((σ 0 10) - 1)).toNatClampNeg)) * (σ 0 9))) a 0)) a 1)))))))))))))) else (vp_in a 40) ∧ ((vp_in (a - 1) 40) ∧ ((vp_in (a - 1) 40) ∧ ((vp_in a 40) ∧ (if (σ 0 10) = 0 then (vp_in a 40) ∧ ((b_X9_givesOf (mst (mst (mst σ 13 (a.toNatClampNeg) (f_X9_within σ ((σ 13 ((a - 1).toNatClampNeg)) + 1) 20)) 14 (a.toNatClampNeg) ((σ 14 ((a - 1).toNatClampNeg)) + ((mst σ 13 (a.toNatClampNeg) (f_X9_within σ ((σ 13 ((a - 1).toNatClampNeg)) + 1) 20)) 13 ((a - 1).toNatClampNeg)))) 15 (a.toNatClampNeg) 0) a 0) ∧ ((vp_in (2 * a) 80) ∧ ((b_X9_givesOf (mst (mst (mst (mst σ 13 (a.toNatClampNeg) (f_X9_within σ ((σ 13 ((a - 1).toNatClampNeg)) + 1) 20)) 14 (a.toNatClampNeg) ((σ 14 ((a - 1).toNatClampNeg)) + ((mst σ 13 (a.toNatClampNeg) (f_X9_within σ ((σ 13 ((a - 1).toNatClampNeg)) + 1) 20)) 13 ((a - 1).toNatClampNeg)))) 15 (a.toNatClampNeg) 0) 12 ((2 * a).toNatClampNeg) (f_X9_givesOf (mst (mst (mst σ 13 (a.toNatClampNeg) (f_X9_within σ ((σ 13 ((a - 1).toNatClampNeg)) + 1) 20)) 14 (a.toNatClampNeg) ((σ 14 ((a - 1).toNatClampNeg)) + ((mst σ 13 (a.toNatClampNeg) (f_X9_within σ ((σ 13 ((a - 1).toNatClampNeg)) + 1) 20)) 13 ((a - 1).toNatClampNeg)))) 15 (a.toNatClampNeg) 0) a 0)) a 1) ∧ ((vp_in ((2 * a) + 1) 80) ∧ ((bl_X9_lives_6 n (a + 1) (mst (mst (mst (mst (mst σ 13 (a.toNatClampNeg) (f_X9_within σ ((σ 13 ((a - 1).toNatClampNeg)) + 1) 20)) 14 (a.toNatClampNeg) ((σ 14 ((a - 1).toNatClampNeg)) + ((mst σ 13 (a.toNatClampNeg) (f_X9_within σ ((σ 13 ((a - 1).toNatClampNeg)) + 1) 20)) 13 ((a - 1).toNatClampNeg)))) 15 (a.toNatClampNeg) 0) 12 ((2 * a).toNatClampNeg) (f_X9_givesOf (mst (mst (mst σ 13 (a.toNatClampNeg) (f_X9_within σ ((σ 13 ((a - 1).toNatClampNeg)) + 1) 20)) 14 (a.toNatClampNeg) ((σ 14 ((a - 1).toNatClampNeg)) + ((mst σ 13 (a.toNatClampNeg) (f_X9_within σ ((σ 13 ((a - 1).toNatClampNeg)) + 1) 20)) 13 ((a - 1).toNatClampNeg)))) 15 (a.toNatClampNeg) 0) a 0)) 12 (((2 * a) + 1).toNatClampNeg) (f_X9_givesOf (mst (mst (mst (mst σ 13 (a.toNatClampNeg) (f_X9_within σ ((σ 13 ((a - 1).toNatClampNeg)) + 1) 20)) 14 (a.toNatClampNeg) ((σ 14 ((a - 1).toNatClampNeg)) + ((mst σ 13 (a.toNatClampNeg) (f_X9_within σ ((σ 13 ((a - 1).toNatClampNeg)) + 1) 20)) 13 ((a - 1).toNatClampNeg)))) 15 (a.toNatClampNeg) 0) 12 ((2 * a).toNatClampNeg) (f_X9_givesOf (mst (mst (mst σ 13 (a.toNatClampNeg) (f_X9_within σ ((σ 13 ((a - 1).toNatClampNeg)) + 1) 20)) 14 (a.toNatClampNeg) ((σ 14 ((a - 1).toNatClampNeg)) + ((mst σ 13 (a.toNatClampNeg) (f_X9_within σ ((σ 13 ((a - 1).toNatClampNeg)) + 1) 20)) 13 ((a - 1).toNatClampNeg)))) 15 (a.toNatClampNeg) 0) a 0)) a 1)))))))) else (vp_in a 40) ∧ ((vp_in (f_X9_lesser (mst (mst σ 13 (a.toNatClampNeg) (f_X9_within σ ((σ 13 ((a - 1).toNatClampNeg)) + 1) 20)) 14 (a.toNatClampNeg) ((σ 14 ((a - 1).toNatClampNeg)) + ((mst σ 13 (a.toNatClampNeg) (f_X9_within σ ((σ 13 ((a - 1).toNatClampNeg)) + 1) 20)) 13 ((a - 1).toNatClampNeg)))) (((σ 14 ((a - 1).toNatClampNeg)) + ((mst σ 13 (a.toNatClampNeg) (f_X9_within σ ((σ 13 ((a - 1).toNatClampNeg)) + 1) 20)) 13 ((a - 1).toNatClampNeg))) / 10) ((σ 0 10) - 1)) 16) ∧ ((vp_in a 40) ∧ ((b_X9_givesOf (mst (mst (mst σ 13 (a.toNatClampNeg) (f_X9_within σ ((σ 13 ((a - 1).toNatClampNeg)) + 1) 20)) 14 (a.toNatClampNeg) ((σ 14 ((a - 1).toNatClampNeg)) + ((mst σ 13 (a.toNatClampNeg) (f_X9_within σ ((σ 13 ((a - 1).toNatClampNeg)) + 1) 20)) 13 ((a - 1).toNatClampNeg)))) 15 (a.toNatClampNeg) ((σ 8 ((f_X9_lesser (mst (mst σ 13 (a.toNatClampNeg) (f_X9_within σ ((σ 13 ((a - 1).toNatClampNeg)) + 1) 20)) 14 (a.toNatClampNeg) ((σ 14 ((a - 1).toNatClampNeg)) + ((mst σ 13 (a.toNatClampNeg) (f_X9_within σ ((σ 13 ((a - 1).toNatClampNeg)) + 1) 20)) 13 ((a - 1).toNatClampNeg)))) (((σ 14 ((a - 1).toNatClampNeg)) + ((mst σ 13 (a.toNatClampNeg) (f_X9_within σ ((σ 13 ((a - 1).toNatClampNeg)) + 1) 20)) 13 ((a - 1).toNatClampNeg))) / 10) ((σ 0 10) - 1)).toNatClampNeg)) * (σ 0 9))) a 0) ∧ ((vp_in (2 * a) 80) ∧ ((b_X9_givesOf (mst (mst (mst (mst σ 13 (a.toNatClampNeg) (f_X9_within σ ((σ 13 ((a - 1).toNatClampNeg)) + 1) 20)) 14 (a.toNatClampNeg) ((σ 14 ((a - 1).toNatClampNeg)) + ((mst σ 13 (a.toNatClampNeg) (f_X9_within σ ((σ 13 ((a - 1).toNatClampNeg)) + 1) 20)) 13 ((a - 1).toNatClampNeg)))) 15 (a.toNatClampNeg) ((σ 8 ((f_X9_lesser (mst (mst σ 13 (a.toNatClampNeg) (f_X9_within σ ((σ 13 ((a - 1).toNatClampNeg)) + 1) 20)) 14 (a.toNatClampNeg) ((σ 14 ((a - 1).toNatClampNeg)) + ((mst σ 13 (a.toNatClampNeg) (f_X9_within σ ((σ 13 ((a - 1).toNatClampNeg)) + 1) 20)) 13 ((a - 1).toNatClampNeg)))) (((σ 14 ((a - 1).toNatClampNeg)) + ((mst σ 13 (a.toNatClampNeg) (f_X9_within σ ((σ 13 ((a - 1).toNatClampNeg)) + 1) 20)) 13 ((a - 1).toNatClampNeg))) / 10) ((σ 0 10) - 1)).toNatClampNeg)) * (σ 0 9))) 12 ((2 * a).toNatClampNeg) (f_X9_givesOf (mst (mst (mst σ 13 (a.toNatClampNeg) (f_X9_within σ ((σ 13 ((a - 1).toNatClampNeg)) + 1) 20)) 14 (a.toNatClampNeg) ((σ 14 ((a - 1).toNatClampNeg)) + ((mst σ 13 (a.toNatClampNeg) (f_X9_within σ ((σ 13 ((a - 1).toNatClampNeg)) + 1) 20)) 13 ((a - 1).toNatClampNeg)))) 15 (a.toNatClampNeg) ((σ 8 ((f_X9_lesser (mst (mst σ 13 (a.toNatClampNeg) (f_X9_within σ ((σ 13 ((a - 1).toNatClampNeg)) + 1) 20)) 14 (a.toNatClampNeg) ((σ 14 ((a - 1).toNatClampNeg)) + ((mst σ 13 (a.toNatClampNeg) (f_X9_within σ ((σ 13 ((a - 1).toNatClampNeg)) + 1) 20)) 13 ((a - 1).toNatClampNeg)))) (((σ 14 ((a - 1).toNatClampNeg)) + ((mst σ 13 (a.toNatClampNeg) (f_X9_within σ ((σ 13 ((a - 1).toNatClampNeg)) + 1) 20)) 13 ((a - 1).toNatClampNeg))) / 10) ((σ 0 10) - 1)).toNatClampNeg)) * (σ 0 9))) a 0)) a 1) ∧ ((vp_in ((2 * a) + 1) 80) ∧ ((bl_X9_lives_6 n (a + 1) (mst (mst (mst (mst (mst σ 13 (a.toNatClampNeg) (f_X9_within σ ((σ 13 ((a - 1).toNatClampNeg)) + 1) 20)) 14 (a.toNatClampNeg) ((σ 14 ((a - 1).toNatClampNeg)) + ((mst σ 13 (a.toNatClampNeg) (f_X9_within σ ((σ 13 ((a - 1).toNatClampNeg)) + 1) 20)) 13 ((a - 1).toNatClampNeg)))) 15 (a.toNatClampNeg) ((σ 8 ((f_X9_lesser (mst (mst σ 13 (a.toNatClampNeg) (f_X9_within σ ((σ 13 ((a - 1).toNatClampNeg)) + 1) 20)) 14 (a.toNatClampNeg) ((σ 14 ((a - 1).toNatClampNeg)) + ((mst σ 13 (a.toNatClampNeg) (f_X9_within σ ((σ 13 ((a - 1).toNatClampNeg)) + 1) 20)) 13 ((a - 1).toNatClampNeg)))) (((σ 14 ((a - 1).toNatClampNeg)) + ((mst σ 13 (a.toNatClampNeg) (f_X9_within σ ((σ 13 ((a - 1).toNatClampNeg)) + 1) 20)) 13 ((a - 1).toNatClampNeg))) / 10) ((σ 0 10) - 1)).toNatClampNeg)) * (σ 0 9))) 12 ((2 * a).toNatClampNeg) (f_X9_givesOf (mst (mst (mst σ 13 (a.toNatClampNeg) (f_X9_within σ ((σ 13 ((a - 1).toNatClampNeg)) + 1) 20)) 14 (a.toNatClampNeg) ((σ 14 ((a - 1).toNatClampNeg)) + ((mst σ 13 (a.toNatClampNeg) (f_X9_within σ ((σ 13 ((a - 1).toNatClampNeg)) + 1) 20)) 13 ((a - 1).toNatClampNeg)))) 15 (a.toNatClampNeg) ((σ 8 ((f_X9_lesser (mst (mst σ 13 (a.toNatClampNeg) (f_X9_within σ ((σ 13 ((a - 1).toNatClampNeg)) + 1) 20)) 14 (a.toNatClampNeg) ((σ 14 ((a - 1).toNatClampNeg)) + ((mst σ 13 (a.toNatClampNeg) (f_X9_within σ ((σ 13 ((a - 1).toNatClampNeg)) + 1) 20)) 13 ((a - 1).toNatClampNeg)))) (((σ 14 ((a - 1).toNatClampNeg)) + ((mst σ 13 (a.toNatClampNeg) (f_X9_within σ ((σ 13 ((a - 1).toNatClampNeg)) + 1) 20)) 13 ((a - 1).toNatClampNeg))) / 10) ((σ 0 10) - 1)).toNatClampNeg)) * (σ 0 9))) a 0)) 12 (((2 * a) + 1).toNatClampNeg) (f_X9_givesOf (mst (mst (mst (mst σ 13 (a.toNatClampNeg) (f_X9_within σ ((σ 13 ((a - 1).toNatClampNeg)) + 1) 20)) 14 (a.toNatClampNeg) ((σ 14 ((a - 1).toNatClampNeg)) + ((mst σ 13 (a.toNatClampNeg) (f_X9_within σ ((σ 13 ((a - 1).toNatClampNeg)) + 1) 20)) 13 ((a - 1).toNatClampNeg)))) 15 (a.toNatClampNeg) ((σ 8 ((f_X9_lesser (mst (mst σ 13 (a.toNatClampNeg) (f_X9_within σ ((σ 13 ((a - 1).toNatClampNeg)) + 1) 20)) 14 (a.toNatClampNeg) ((σ 14 ((a - 1).toNatClampNeg)) + ((mst σ 13 (a.toNatClampNeg) (f_X9_within σ ((σ 13 ((a - 1).toNatClampNeg)) + 1) 20)) 13 ((a - 1).toNatClampNeg)))) (((σ 14 ((a - 1).toNatClampNeg)) + ((mst σ 13 (a.toNatClampNeg) (f_X9_within σ ((σ 13 ((a - 1).toNatClampNeg)) + 1) 20)) 13 ((a - 1).toNatClampNeg))) / 10) ((σ 0 10) - 1)).toNatClampNeg)) * (σ 0 9))) 12 ((2 * a).toNatClampNeg) (f_X9_givesOf (mst (mst (mst σ 13 (a.toNatClampNeg) (f_X9_within σ ((σ 13 ((a - 1).toNatClampNeg)) + 1) 20)) 14 (a.toNatClampNeg) ((σ 14 ((a - 1).toNatClampNeg)) + ((mst σ 13 (a.toNatClampNeg) (f_X9_within σ ((σ 13 ((a - 1).toNatClampNeg)) + 1) 20)) 13 ((a - 1).toNatClampNeg)))) 15 (a.toNatClampNeg) ((σ 8 ((f_X9_lesser (mst (mst σ 13 (a.toNatClampNeg) (f_X9_within σ ((σ 13 ((a - 1).toNatClampNeg)) + 1) 20)) 14 (a.toNatClampNeg) ((σ 14 ((a - 1).toNatClampNeg)) + ((mst σ 13 (a.toNatClampNeg) (f_X9_within σ ((σ 13 ((a - 1).toNatClampNeg)) + 1) 20)) 13 ((a - 1).toNatClampNeg)))) (((σ 14 ((a - 1).toNatClampNeg)) + ((mst σ 13 (a.toNatClampNeg) (f_X9_within σ ((σ 13 ((a - 1).toNatClampNeg)) + 1) 20)) 13 ((a - 1).toNatClampNeg))) / 10) ((σ 0 10) - 1)).toNatClampNeg)) * (σ 0 9))) a 0)) a 1))))))))))))))))))
theorem lt_X9_lives_6 (X : Amb) : ∀ (n : Nat) (a : Int32) (σ : Mem), bl_X9_lives_6 n a σ → WP X mX9_lives 6 [(0, .ref (adr X 0)), (1, .int a)] [] σ (fun v σ' => v = none ∧ σ' = l_X9_lives_6 n a σ) := by
  intro n
  induction n with
  | zero => intro a σ hb; exact hb.elim
  | succ n ih =>
    intro a σ hb
    rw [bl_X9_lives_6] at hb
    refine wp_iload_n dX9_lives_6 1 rfl ?_
    refine wp_bipush dX9_lives_7 bp_40 ?_
    refine wp_icmp_ge 210 dX9_lives_9 (by decide) (fun c9_1 => ?_) (fun c9_1 => ?_)
    · rw [if_pos c9_1] at hb
      refine wp_return dX9_lives_210 rfl ?_
      exact ⟨rfl, by rw [l_X9_lives_6, if_pos c9_1]⟩
    · rw [if_neg c9_1] at hb
      refine wp_iload_n dX9_lives_12 1 rfl ?_
      refine wp_if_ne 38 dX9_lives_13 (by decide) (fun c13_2 => ?_) (fun c13_2 => ?_)
      · rw [if_neg c13_2] at hb
        refine wp_aload_n dX9_lives_38 0 rfl ?_
        refine wp_getR dX9_lives_39 faX9_44 rfl rfl ?_
        refine wp_iconst dX9_lives_42 ic_2 ?_
        refine wp_iload_n dX9_lives_43 1 rfl ?_
        refine wp_imul dX9_lives_44 ?_
        refine wp_iconst dX9_lives_45 ic_2 ?_
        refine wp_isub dX9_lives_46 ?_
        obtain ⟨x3, hb⟩ := hb
        refine wp_iald dX9_lives_47 rfl x3 ?_
        refine wp_aload_n dX9_lives_48 0 rfl ?_
        refine wp_getR dX9_lives_49 faX9_44 rfl rfl ?_
        refine wp_iconst dX9_lives_52 ic_2 ?_
        refine wp_iload_n dX9_lives_53 1 rfl ?_
        refine wp_imul dX9_lives_54 ?_
        refine wp_iconst dX9_lives_55 ic_1 ?_
        refine wp_isub dX9_lives_56 ?_
        obtain ⟨x4, hb⟩ := hb
        refine wp_iald dX9_lives_57 rfl x4 ?_
        refine wp_iadd dX9_lives_58 ?_
        refine wp_aload_n dX9_lives_59 0 rfl ?_
        refine wp_getR dX9_lives_60 faX9_53 rfl rfl ?_
        refine wp_iload_n dX9_lives_63 1 rfl ?_
        refine wp_iconst dX9_lives_64 ic_1 ?_
        refine wp_isub dX9_lives_65 ?_
        obtain ⟨x5, hb⟩ := hb
        refine wp_iald dX9_lives_66 rfl x5 ?_
        refine wp_isub dX9_lives_67 ?_
        refine wp_istore_n (L' := [(2, _), (0, _), (1, _)]) dX9_lives_68 rfl rfl ?_
        refine wp_aload_n dX9_lives_69 1 rfl ?_
        refine wp_getR dX9_lives_70 faX9_47 rfl rfl ?_
        refine wp_iload_n dX9_lives_73 2 rfl ?_
        refine wp_aload_n dX9_lives_74 1 rfl ?_
        refine wp_getR dX9_lives_75 faX9_47 rfl rfl ?_
        refine wp_iload_n dX9_lives_78 2 rfl ?_
        refine wp_iconst dX9_lives_79 ic_1 ?_
        refine wp_isub dX9_lives_80 ?_
        obtain ⟨x6, hb⟩ := hb
        refine wp_iald dX9_lives_81 rfl x6 ?_
        refine wp_iload_n dX9_lives_82 0 rfl ?_
        refine wp_if_le 90 dX9_lives_83 (by decide) (fun c83_7 => ?_) (fun c83_7 => ?_)
        · rw [if_pos c83_7] at hb
          refine wp_iload_n dX9_lives_90 0 rfl ?_
          refine wp_if_ge 98 dX9_lives_91 (by decide) (fun c91_8 => ?_) (fun c91_8 => ?_)
          · rw [if_pos c91_8] at hb
            refine wp_iconst dX9_lives_98 ic_0 ?_
            refine wp_iadd dX9_lives_99 ?_
            refine wp_bipush dX9_lives_100 bp_20 ?_
            refine wp_cS2w (N := mX9_within) dX9_lives_102 tmX9_141 okX9_within rfl rfl rfl rfl (s_X9_within X _ _ _) ?_
            obtain ⟨x9, hb⟩ := hb
            refine wp_iast dX9_lives_105 rfl x9 ?_
            refine wp_aload_n dX9_lives_106 1 rfl ?_
            refine wp_getR dX9_lives_107 faX9_50 rfl rfl ?_
            refine wp_iload_n dX9_lives_110 2 rfl ?_
            refine wp_aload_n dX9_lives_111 1 rfl ?_
            refine wp_getR dX9_lives_112 faX9_50 rfl rfl ?_
            refine wp_iload_n dX9_lives_115 2 rfl ?_
            refine wp_iconst dX9_lives_116 ic_1 ?_
            refine wp_isub dX9_lives_117 ?_
            obtain ⟨x10, hb⟩ := hb
            refine wp_iald dX9_lives_118 rfl x10 ?_
            refine wp_topi (y := (σ 14 ((a - 1).toNatClampNeg))) rfl ?_
            refine wp_aload_n dX9_lives_119 1 rfl ?_
            refine wp_getR dX9_lives_120 faX9_47 rfl rfl ?_
            refine wp_iload_n dX9_lives_123 2 rfl ?_
            refine wp_iconst dX9_lives_124 ic_1 ?_
            refine wp_isub dX9_lives_125 ?_
            obtain ⟨x11, hb⟩ := hb
            refine wp_iald dX9_lives_126 rfl x11 ?_
            refine wp_iadd dX9_lives_127 ?_
            obtain ⟨x12, hb⟩ := hb
            refine wp_iast dX9_lives_128 rfl x12 ?_
            refine wp_aload_n dX9_lives_129 1 rfl ?_
            refine wp_getR dX9_lives_130 faX9_53 rfl rfl ?_
            refine wp_iload_n dX9_lives_133 2 rfl ?_
            refine wp_aload_n dX9_lives_134 1 rfl ?_
            refine wp_getI dX9_lives_135 faX9_118 rfl rfl ?_
            refine wp_topi (y := (σ 0 10)) rfl ?_
            refine wp_if_ne 145 dX9_lives_138 (by decide) (fun c138_13 => ?_) (fun c138_13 => ?_)
            · rw [if_neg c138_13] at hb
              refine wp_aload_n dX9_lives_145 1 rfl ?_
              refine wp_getR dX9_lives_146 faX9_31 rfl rfl ?_
              refine wp_aload_n dX9_lives_149 1 rfl ?_
              refine wp_getR dX9_lives_150 faX9_50 rfl rfl ?_
              refine wp_iload_n dX9_lives_153 2 rfl ?_
              obtain ⟨x14, hb⟩ := hb
              refine wp_iald dX9_lives_154 rfl x14 ?_
              refine wp_topi (y := ((σ 14 ((a - 1).toNatClampNeg)) + ((mst σ 13 (a.toNatClampNeg) (f_X9_within σ ((σ 13 ((a - 1).toNatClampNeg)) + 0) 20)) 13 ((a - 1).toNatClampNeg)))) (by simp [mst, upd]) ?_
              refine wp_bipush dX9_lives_155 bp_10 ?_
              refine wp_idiv dX9_lives_157 (by decide) ?_
              refine wp_aload_n dX9_lives_158 1 rfl ?_
              refine wp_getI dX9_lives_159 faX9_118 rfl rfl ?_
              refine wp_topi (y := (σ 0 10)) rfl ?_
              refine wp_iconst dX9_lives_162 ic_1 ?_
              refine wp_isub dX9_lives_163 ?_
              refine wp_cS2w (N := mX9_lesser) dX9_lives_164 tmX9_77 okX9_lesser rfl rfl rfl rfl (s_X9_lesser X _ _ _) ?_
              obtain ⟨x15, hb⟩ := hb
              refine wp_iald dX9_lives_167 rfl x15 ?_
              refine wp_topi (y := (σ 8 ((f_X9_lesser (mst (mst σ 13 (a.toNatClampNeg) (f_X9_within σ ((σ 13 ((a - 1).toNatClampNeg)) + 0) 20)) 14 (a.toNatClampNeg) ((σ 14 ((a - 1).toNatClampNeg)) + ((mst σ 13 (a.toNatClampNeg) (f_X9_within σ ((σ 13 ((a - 1).toNatClampNeg)) + 0) 20)) 13 ((a - 1).toNatClampNeg)))) (((σ 14 ((a - 1).toNatClampNeg)) + ((mst σ 13 (a.toNatClampNeg) (f_X9_within σ ((σ 13 ((a - 1).toNatClampNeg)) + 0) 20)) 13 ((a - 1).toNatClampNeg))) / 10) ((σ 0 10) - 1)).toNatClampNeg))) rfl ?_
              refine wp_aload_n dX9_lives_168 1 rfl ?_
              refine wp_getI dX9_lives_169 faX9_113 rfl rfl ?_
              refine wp_topi (y := (σ 0 9)) rfl ?_
              refine wp_imul dX9_lives_172 ?_
              obtain ⟨x16, hb⟩ := hb
              refine wp_iast dX9_lives_173 rfl x16 ?_
              refine wp_aload_n dX9_lives_174 1 rfl ?_
              refine wp_getR dX9_lives_175 faX9_44 rfl rfl ?_
              refine wp_iconst dX9_lives_178 ic_2 ?_
              refine wp_iload_n dX9_lives_179 2 rfl ?_
              refine wp_imul dX9_lives_180 ?_
              refine wp_aload_n dX9_lives_181 1 rfl ?_
              refine wp_iload_n dX9_lives_182 2 rfl ?_
              refine wp_iconst dX9_lives_183 ic_0 ?_
              obtain ⟨x17, hb⟩ := hb
              refine wp_cV2w (N := mX9_givesOf) dX9_lives_184 tmX9_147 okX9_givesOf rfl rfl rfl rfl rfl rfl rfl rfl (s_X9_givesOf X _ _ _ x17) ?_
              obtain ⟨x18, hb⟩ := hb
              refine wp_iast dX9_lives_187 rfl x18 ?_
              refine wp_aload_n dX9_lives_188 1 rfl ?_
              refine wp_getR dX9_lives_189 faX9_44 rfl rfl ?_
              refine wp_iconst dX9_lives_192 ic_2 ?_
              refine wp_iload_n dX9_lives_193 2 rfl ?_
              refine wp_imul dX9_lives_194 ?_
              refine wp_iconst dX9_lives_195 ic_1 ?_
              refine wp_iadd dX9_lives_196 ?_
              refine wp_aload_n dX9_lives_197 1 rfl ?_
              refine wp_iload_n dX9_lives_198 2 rfl ?_
              refine wp_iconst dX9_lives_199 ic_1 ?_
              obtain ⟨x19, hb⟩ := hb
              refine wp_cV2w (N := mX9_givesOf) dX9_lives_200 tmX9_147 okX9_givesOf rfl rfl rfl rfl rfl rfl rfl rfl (s_X9_givesOf X _ _ _ x19) ?_
              obtain ⟨x20, hb⟩ := hb
              refine wp_iast dX9_lives_203 rfl x20 ?_
              refine wp_iinc (L' := [(1, _), (2, _), (0, _)]) dX9_lives_204 rfl 2 rfl (ii_1 _) rfl ?_
              refine wp_goto 6 dX9_lives_207 (by decide) ?_
              refine wp_drop [2, 0] rfl ?_
              rw [show l_X9_lives_6 (n + 1) a σ = (l_X9_lives_6 n (a + 1) (mst (mst (mst (mst (mst σ 13 (a.toNatClampNeg) (f_X9_within σ ((σ 13 ((a - 1).toNatClampNeg)) + 0) 20)) 14 (a.toNatClampNeg) ((σ 14 ((a - 1).toNatClampNeg)) + ((mst σ 13 (a.toNatClampNeg) (f_X9_within σ ((σ 13 ((a - 1).toNatClampNeg)) + 0) 20)) 13 ((a - 1).toNatClampNeg)))) 15 (a.toNatClampNeg) ((σ 8 ((f_X9_lesser (mst (mst σ 13 (a.toNatClampNeg) (f_X9_within σ ((σ 13 ((a - 1).toNatClampNeg)) + 0) 20)) 14 (a.toNatClampNeg) ((σ 14 ((a - 1).toNatClampNeg)) + ((mst σ 13 (a.toNatClampNeg) (f_X9_within σ ((σ 13 ((a - 1).toNatClampNeg)) + 0) 20)) 13 ((a - 1).toNatClampNeg)))) (((σ 14 ((a - 1).toNatClampNeg)) + ((mst σ 13 (a.toNatClampNeg) (f_X9_within σ ((σ 13 ((a - 1).toNatClampNeg)) + 0) 20)) 13 ((a - 1).toNatClampNeg))) / 10) ((σ 0 10) - 1)).toNatClampNeg)) * (σ 0 9))) 12 ((2 * a).toNatClampNeg) (f_X9_givesOf (mst (mst (mst σ 13 (a.toNatClampNeg) (f_X9_within σ ((σ 13 ((a - 1).toNatClampNeg)) + 0) 20)) 14 (a.toNatClampNeg) ((σ 14 ((a - 1).toNatClampNeg)) + ((mst σ 13 (a.toNatClampNeg) (f_X9_within σ ((σ 13 ((a - 1).toNatClampNeg)) + 0) 20)) 13 ((a - 1).toNatClampNeg)))) 15 (a.toNatClampNeg) ((σ 8 ((f_X9_lesser (mst (mst σ 13 (a.toNatClampNeg) (f_X9_within σ ((σ 13 ((a - 1).toNatClampNeg)) + 0) 20)) 14 (a.toNatClampNeg) ((σ 14 ((a - 1).toNatClampNeg)) + ((mst σ 13 (a.toNatClampNeg) (f_X9_within σ ((σ 13 ((a - 1).toNatClampNeg)) + 0) 20)) 13 ((a - 1).toNatClampNeg)))) (((σ 14 ((a - 1).toNatClampNeg)) + ((mst σ 13 (a.toNatClampNeg) (f_X9_within σ ((σ 13 ((a - 1).toNatClampNeg)) + 0) 20)) 13 ((a - 1).toNatClampNeg))) / 10) ((σ 0 10) - 1)).toNatClampNeg)) * (σ 0 9))) a 0)) 12 (((2 * a) + 1).toNatClampNeg) (f_X9_givesOf (mst (mst (mst (mst σ 13 (a.toNatClampNeg) (f_X9_within σ ((σ 13 ((a - 1).toNatClampNeg)) + 0) 20)) 14 (a.toNatClampNeg) ((σ 14 ((a - 1).toNatClampNeg)) + ((mst σ 13 (a.toNatClampNeg) (f_X9_within σ ((σ 13 ((a - 1).toNatClampNeg)) + 0) 20)) 13 ((a - 1).toNatClampNeg)))) 15 (a.toNatClampNeg) ((σ 8 ((f_X9_lesser (mst (mst σ 13 (a.toNatClampNeg) (f_X9_within σ ((σ 13 ((a - 1).toNatClampNeg)) + 0) 20)) 14 (a.toNatClampNeg) ((σ 14 ((a - 1).toNatClampNeg)) + ((mst σ 13 (a.toNatClampNeg) (f_X9_within σ ((σ 13 ((a - 1).toNatClampNeg)) + 0) 20)) 13 ((a - 1).toNatClampNeg)))) (((σ 14 ((a - 1).toNatClampNeg)) + ((mst σ 13 (a.toNatClampNeg) (f_X9_within σ ((σ 13 ((a - 1).toNatClampNeg)) + 0) 20)) 13 ((a - 1).toNatClampNeg))) / 10) ((σ 0 10) - 1)).toNatClampNeg)) * (σ 0 9))) 12 ((2 * a).toNatClampNeg) (f_X9_givesOf (mst (mst (mst σ 13 (a.toNatClampNeg) (f_X9_within σ ((σ 13 ((a - 1).toNatClampNeg)) + 0) 20)) 14 (a.toNatClampNeg) ((σ 14 ((a - 1).toNatClampNeg)) + ((mst σ 13 (a.toNatClampNeg) (f_X9_within σ ((σ 13 ((a - 1).toNatClampNeg)) + 0) 20)) 13 ((a - 1).toNatClampNeg)))) 15 (a.toNatClampNeg) ((σ 8 ((f_X9_lesser (mst (mst σ 13 (a.toNatClampNeg) (f_X9_within σ ((σ 13 ((a - 1).toNatClampNeg)) + 0) 20)) 14 (a.toNatClampNeg) ((σ 14 ((a - 1).toNatClampNeg)) + ((mst σ 13 (a.toNatClampNeg) (f_X9_within σ ((σ 13 ((a - 1).toNatClampNeg)) + 0) 20)) 13 ((a - 1).toNatClampNeg)))) (((σ 14 ((a - 1).toNatClampNeg)) + ((mst σ 13 (a.toNatClampNeg) (f_X9_within σ ((σ 13 ((a - 1).toNatClampNeg)) + 0) 20)) 13 ((a - 1).toNatClampNeg))) / 10) ((σ 0 10) - 1)).toNatClampNeg)) * (σ 0 9))) a 0)) a 1))) from by rw [l_X9_lives_6, if_neg c9_1, if_neg c13_2, if_pos c83_7, if_pos c91_8, if_neg c138_13]]
              exact ih _ _ hb
            · rw [if_pos c138_13] at hb
              refine wp_iconst dX9_lives_141 ic_0 ?_
              refine wp_goto 173 dX9_lives_142 (by decide) ?_
              obtain ⟨x21, hb⟩ := hb
              refine wp_iast dX9_lives_173 rfl x21 ?_
              refine wp_aload_n dX9_lives_174 1 rfl ?_
              refine wp_getR dX9_lives_175 faX9_44 rfl rfl ?_
              refine wp_iconst dX9_lives_178 ic_2 ?_
              refine wp_iload_n dX9_lives_179 2 rfl ?_
              refine wp_imul dX9_lives_180 ?_
              refine wp_aload_n dX9_lives_181 1 rfl ?_
              refine wp_iload_n dX9_lives_182 2 rfl ?_
              refine wp_iconst dX9_lives_183 ic_0 ?_
              obtain ⟨x22, hb⟩ := hb
              refine wp_cV2w (N := mX9_givesOf) dX9_lives_184 tmX9_147 okX9_givesOf rfl rfl rfl rfl rfl rfl rfl rfl (s_X9_givesOf X _ _ _ x22) ?_
              obtain ⟨x23, hb⟩ := hb
              refine wp_iast dX9_lives_187 rfl x23 ?_
              refine wp_aload_n dX9_lives_188 1 rfl ?_
              refine wp_getR dX9_lives_189 faX9_44 rfl rfl ?_
              refine wp_iconst dX9_lives_192 ic_2 ?_
              refine wp_iload_n dX9_lives_193 2 rfl ?_
              refine wp_imul dX9_lives_194 ?_
              refine wp_iconst dX9_lives_195 ic_1 ?_
              refine wp_iadd dX9_lives_196 ?_
              refine wp_aload_n dX9_lives_197 1 rfl ?_
              refine wp_iload_n dX9_lives_198 2 rfl ?_
              refine wp_iconst dX9_lives_199 ic_1 ?_
              obtain ⟨x24, hb⟩ := hb
              refine wp_cV2w (N := mX9_givesOf) dX9_lives_200 tmX9_147 okX9_givesOf rfl rfl rfl rfl rfl rfl rfl rfl (s_X9_givesOf X _ _ _ x24) ?_
              obtain ⟨x25, hb⟩ := hb
              refine wp_iast dX9_lives_203 rfl x25 ?_
              refine wp_iinc (L' := [(1, _), (2, _), (0, _)]) dX9_lives_204 rfl 2 rfl (ii_1 _) rfl ?_
              refine wp_goto 6 dX9_lives_207 (by decide) ?_
              refine wp_drop [2, 0] rfl ?_
              rw [show l_X9_lives_6 (n + 1) a σ = (l_X9_lives_6 n (a + 1) (mst (mst (mst (mst (mst σ 13 (a.toNatClampNeg) (f_X9_within σ ((σ 13 ((a - 1).toNatClampNeg)) + 0) 20)) 14 (a.toNatClampNeg) ((σ 14 ((a - 1).toNatClampNeg)) + ((mst σ 13 (a.toNatClampNeg) (f_X9_within σ ((σ 13 ((a - 1).toNatClampNeg)) + 0) 20)) 13 ((a - 1).toNatClampNeg)))) 15 (a.toNatClampNeg) 0) 12 ((2 * a).toNatClampNeg) (f_X9_givesOf (mst (mst (mst σ 13 (a.toNatClampNeg) (f_X9_within σ ((σ 13 ((a - 1).toNatClampNeg)) + 0) 20)) 14 (a.toNatClampNeg) ((σ 14 ((a - 1).toNatClampNeg)) + ((mst σ 13 (a.toNatClampNeg) (f_X9_within σ ((σ 13 ((a - 1).toNatClampNeg)) + 0) 20)) 13 ((a - 1).toNatClampNeg)))) 15 (a.toNatClampNeg) 0) a 0)) 12 (((2 * a) + 1).toNatClampNeg) (f_X9_givesOf (mst (mst (mst (mst σ 13 (a.toNatClampNeg) (f_X9_within σ ((σ 13 ((a - 1).toNatClampNeg)) + 0) 20)) 14 (a.toNatClampNeg) ((σ 14 ((a - 1).toNatClampNeg)) + ((mst σ 13 (a.toNatClampNeg) (f_X9_within σ ((σ 13 ((a - 1).toNatClampNeg)) + 0) 20)) 13 ((a - 1).toNatClampNeg)))) 15 (a.toNatClampNeg) 0) 12 ((2 * a).toNatClampNeg) (f_X9_givesOf (mst (mst (mst σ 13 (a.toNatClampNeg) (f_X9_within σ ((σ 13 ((a - 1).toNatClampNeg)) + 0) 20)) 14 (a.toNatClampNeg) ((σ 14 ((a - 1).toNatClampNeg)) + ((mst σ 13 (a.toNatClampNeg) (f_X9_within σ ((σ 13 ((a - 1).toNatClampNeg)) + 0) 20)) 13 ((a - 1).toNatClampNeg)))) 15 (a.toNatClampNeg) 0) a 0)) a 1))) from by rw [l_X9_lives_6, if_neg c9_1, if_neg c13_2, if_pos c83_7, if_pos c91_8, if_pos c138_13]]
              exact ih _ _ hb
          · rw [if_neg c91_8] at hb
            refine wp_iconst dX9_lives_94 ic_m1 ?_
            refine wp_goto 99 dX9_lives_95 (by decide) ?_
            refine wp_iadd dX9_lives_99 ?_
            refine wp_bipush dX9_lives_100 bp_20 ?_
            refine wp_cS2w (N := mX9_within) dX9_lives_102 tmX9_141 okX9_within rfl rfl rfl rfl (s_X9_within X _ _ _) ?_
            obtain ⟨x26, hb⟩ := hb
            refine wp_iast dX9_lives_105 rfl x26 ?_
            refine wp_aload_n dX9_lives_106 1 rfl ?_
            refine wp_getR dX9_lives_107 faX9_50 rfl rfl ?_
            refine wp_iload_n dX9_lives_110 2 rfl ?_
            refine wp_aload_n dX9_lives_111 1 rfl ?_
            refine wp_getR dX9_lives_112 faX9_50 rfl rfl ?_
            refine wp_iload_n dX9_lives_115 2 rfl ?_
            refine wp_iconst dX9_lives_116 ic_1 ?_
            refine wp_isub dX9_lives_117 ?_
            obtain ⟨x27, hb⟩ := hb
            refine wp_iald dX9_lives_118 rfl x27 ?_
            refine wp_topi (y := (σ 14 ((a - 1).toNatClampNeg))) rfl ?_
            refine wp_aload_n dX9_lives_119 1 rfl ?_
            refine wp_getR dX9_lives_120 faX9_47 rfl rfl ?_
            refine wp_iload_n dX9_lives_123 2 rfl ?_
            refine wp_iconst dX9_lives_124 ic_1 ?_
            refine wp_isub dX9_lives_125 ?_
            obtain ⟨x28, hb⟩ := hb
            refine wp_iald dX9_lives_126 rfl x28 ?_
            refine wp_iadd dX9_lives_127 ?_
            obtain ⟨x29, hb⟩ := hb
            refine wp_iast dX9_lives_128 rfl x29 ?_
            refine wp_aload_n dX9_lives_129 1 rfl ?_
            refine wp_getR dX9_lives_130 faX9_53 rfl rfl ?_
            refine wp_iload_n dX9_lives_133 2 rfl ?_
            refine wp_aload_n dX9_lives_134 1 rfl ?_
            refine wp_getI dX9_lives_135 faX9_118 rfl rfl ?_
            refine wp_topi (y := (σ 0 10)) rfl ?_
            refine wp_if_ne 145 dX9_lives_138 (by decide) (fun c138_30 => ?_) (fun c138_30 => ?_)
            · rw [if_neg c138_30] at hb
              refine wp_aload_n dX9_lives_145 1 rfl ?_
              refine wp_getR dX9_lives_146 faX9_31 rfl rfl ?_
              refine wp_aload_n dX9_lives_149 1 rfl ?_
              refine wp_getR dX9_lives_150 faX9_50 rfl rfl ?_
              refine wp_iload_n dX9_lives_153 2 rfl ?_
              obtain ⟨x31, hb⟩ := hb
              refine wp_iald dX9_lives_154 rfl x31 ?_
              refine wp_topi (y := ((σ 14 ((a - 1).toNatClampNeg)) + ((mst σ 13 (a.toNatClampNeg) (f_X9_within σ ((σ 13 ((a - 1).toNatClampNeg)) + (-1)) 20)) 13 ((a - 1).toNatClampNeg)))) (by simp [mst, upd]) ?_
              refine wp_bipush dX9_lives_155 bp_10 ?_
              refine wp_idiv dX9_lives_157 (by decide) ?_
              refine wp_aload_n dX9_lives_158 1 rfl ?_
              refine wp_getI dX9_lives_159 faX9_118 rfl rfl ?_
              refine wp_topi (y := (σ 0 10)) rfl ?_
              refine wp_iconst dX9_lives_162 ic_1 ?_
              refine wp_isub dX9_lives_163 ?_
              refine wp_cS2w (N := mX9_lesser) dX9_lives_164 tmX9_77 okX9_lesser rfl rfl rfl rfl (s_X9_lesser X _ _ _) ?_
              obtain ⟨x32, hb⟩ := hb
              refine wp_iald dX9_lives_167 rfl x32 ?_
              refine wp_topi (y := (σ 8 ((f_X9_lesser (mst (mst σ 13 (a.toNatClampNeg) (f_X9_within σ ((σ 13 ((a - 1).toNatClampNeg)) + (-1)) 20)) 14 (a.toNatClampNeg) ((σ 14 ((a - 1).toNatClampNeg)) + ((mst σ 13 (a.toNatClampNeg) (f_X9_within σ ((σ 13 ((a - 1).toNatClampNeg)) + (-1)) 20)) 13 ((a - 1).toNatClampNeg)))) (((σ 14 ((a - 1).toNatClampNeg)) + ((mst σ 13 (a.toNatClampNeg) (f_X9_within σ ((σ 13 ((a - 1).toNatClampNeg)) + (-1)) 20)) 13 ((a - 1).toNatClampNeg))) / 10) ((σ 0 10) - 1)).toNatClampNeg))) rfl ?_
              refine wp_aload_n dX9_lives_168 1 rfl ?_
              refine wp_getI dX9_lives_169 faX9_113 rfl rfl ?_
              refine wp_topi (y := (σ 0 9)) rfl ?_
              refine wp_imul dX9_lives_172 ?_
              obtain ⟨x33, hb⟩ := hb
              refine wp_iast dX9_lives_173 rfl x33 ?_
              refine wp_aload_n dX9_lives_174 1 rfl ?_
              refine wp_getR dX9_lives_175 faX9_44 rfl rfl ?_
              refine wp_iconst dX9_lives_178 ic_2 ?_
              refine wp_iload_n dX9_lives_179 2 rfl ?_
              refine wp_imul dX9_lives_180 ?_
              refine wp_aload_n dX9_lives_181 1 rfl ?_
              refine wp_iload_n dX9_lives_182 2 rfl ?_
              refine wp_iconst dX9_lives_183 ic_0 ?_
              obtain ⟨x34, hb⟩ := hb
              refine wp_cV2w (N := mX9_givesOf) dX9_lives_184 tmX9_147 okX9_givesOf rfl rfl rfl rfl rfl rfl rfl rfl (s_X9_givesOf X _ _ _ x34) ?_
              obtain ⟨x35, hb⟩ := hb
              refine wp_iast dX9_lives_187 rfl x35 ?_
              refine wp_aload_n dX9_lives_188 1 rfl ?_
              refine wp_getR dX9_lives_189 faX9_44 rfl rfl ?_
              refine wp_iconst dX9_lives_192 ic_2 ?_
              refine wp_iload_n dX9_lives_193 2 rfl ?_
              refine wp_imul dX9_lives_194 ?_
              refine wp_iconst dX9_lives_195 ic_1 ?_
              refine wp_iadd dX9_lives_196 ?_
              refine wp_aload_n dX9_lives_197 1 rfl ?_
              refine wp_iload_n dX9_lives_198 2 rfl ?_
              refine wp_iconst dX9_lives_199 ic_1 ?_
              obtain ⟨x36, hb⟩ := hb
              refine wp_cV2w (N := mX9_givesOf) dX9_lives_200 tmX9_147 okX9_givesOf rfl rfl rfl rfl rfl rfl rfl rfl (s_X9_givesOf X _ _ _ x36) ?_
              obtain ⟨x37, hb⟩ := hb
              refine wp_iast dX9_lives_203 rfl x37 ?_
              refine wp_iinc (L' := [(1, _), (2, _), (0, _)]) dX9_lives_204 rfl 2 rfl (ii_1 _) rfl ?_
              refine wp_goto 6 dX9_lives_207 (by decide) ?_
              refine wp_drop [2, 0] rfl ?_
              rw [show l_X9_lives_6 (n + 1) a σ = (l_X9_lives_6 n (a + 1) (mst (mst (mst (mst (mst σ 13 (a.toNatClampNeg) (f_X9_within σ ((σ 13 ((a - 1).toNatClampNeg)) + (-1)) 20)) 14 (a.toNatClampNeg) ((σ 14 ((a - 1).toNatClampNeg)) + ((mst σ 13 (a.toNatClampNeg) (f_X9_within σ ((σ 13 ((a - 1).toNatClampNeg)) + (-1)) 20)) 13 ((a - 1).toNatClampNeg)))) 15 (a.toNatClampNeg) ((σ 8 ((f_X9_lesser (mst (mst σ 13 (a.toNatClampNeg) (f_X9_within σ ((σ 13 ((a - 1).toNatClampNeg)) + (-1)) 20)) 14 (a.toNatClampNeg) ((σ 14 ((a - 1).toNatClampNeg)) + ((mst σ 13 (a.toNatClampNeg) (f_X9_within σ ((σ 13 ((a - 1).toNatClampNeg)) + (-1)) 20)) 13 ((a - 1).toNatClampNeg)))) (((σ 14 ((a - 1).toNatClampNeg)) + ((mst σ 13 (a.toNatClampNeg) (f_X9_within σ ((σ 13 ((a - 1).toNatClampNeg)) + (-1)) 20)) 13 ((a - 1).toNatClampNeg))) / 10) ((σ 0 10) - 1)).toNatClampNeg)) * (σ 0 9))) 12 ((2 * a).toNatClampNeg) (f_X9_givesOf (mst (mst (mst σ 13 (a.toNatClampNeg) (f_X9_within σ ((σ 13 ((a - 1).toNatClampNeg)) + (-1)) 20)) 14 (a.toNatClampNeg) ((σ 14 ((a - 1).toNatClampNeg)) + ((mst σ 13 (a.toNatClampNeg) (f_X9_within σ ((σ 13 ((a - 1).toNatClampNeg)) + (-1)) 20)) 13 ((a - 1).toNatClampNeg)))) 15 (a.toNatClampNeg) ((σ 8 ((f_X9_lesser (mst (mst σ 13 (a.toNatClampNeg) (f_X9_within σ ((σ 13 ((a - 1).toNatClampNeg)) + (-1)) 20)) 14 (a.toNatClampNeg) ((σ 14 ((a - 1).toNatClampNeg)) + ((mst σ 13 (a.toNatClampNeg) (f_X9_within σ ((σ 13 ((a - 1).toNatClampNeg)) + (-1)) 20)) 13 ((a - 1).toNatClampNeg)))) (((σ 14 ((a - 1).toNatClampNeg)) + ((mst σ 13 (a.toNatClampNeg) (f_X9_within σ ((σ 13 ((a - 1).toNatClampNeg)) + (-1)) 20)) 13 ((a - 1).toNatClampNeg))) / 10) ((σ 0 10) - 1)).toNatClampNeg)) * (σ 0 9))) a 0)) 12 (((2 * a) + 1).toNatClampNeg) (f_X9_givesOf (mst (mst (mst (mst σ 13 (a.toNatClampNeg) (f_X9_within σ ((σ 13 ((a - 1).toNatClampNeg)) + (-1)) 20)) 14 (a.toNatClampNeg) ((σ 14 ((a - 1).toNatClampNeg)) + ((mst σ 13 (a.toNatClampNeg) (f_X9_within σ ((σ 13 ((a - 1).toNatClampNeg)) + (-1)) 20)) 13 ((a - 1).toNatClampNeg)))) 15 (a.toNatClampNeg) ((σ 8 ((f_X9_lesser (mst (mst σ 13 (a.toNatClampNeg) (f_X9_within σ ((σ 13 ((a - 1).toNatClampNeg)) + (-1)) 20)) 14 (a.toNatClampNeg) ((σ 14 ((a - 1).toNatClampNeg)) + ((mst σ 13 (a.toNatClampNeg) (f_X9_within σ ((σ 13 ((a - 1).toNatClampNeg)) + (-1)) 20)) 13 ((a - 1).toNatClampNeg)))) (((σ 14 ((a - 1).toNatClampNeg)) + ((mst σ 13 (a.toNatClampNeg) (f_X9_within σ ((σ 13 ((a - 1).toNatClampNeg)) + (-1)) 20)) 13 ((a - 1).toNatClampNeg))) / 10) ((σ 0 10) - 1)).toNatClampNeg)) * (σ 0 9))) 12 ((2 * a).toNatClampNeg) (f_X9_givesOf (mst (mst (mst σ 13 (a.toNatClampNeg) (f_X9_within σ ((σ 13 ((a - 1).toNatClampNeg)) + (-1)) 20)) 14 (a.toNatClampNeg) ((σ 14 ((a - 1).toNatClampNeg)) + ((mst σ 13 (a.toNatClampNeg) (f_X9_within σ ((σ 13 ((a - 1).toNatClampNeg)) + (-1)) 20)) 13 ((a - 1).toNatClampNeg)))) 15 (a.toNatClampNeg) ((σ 8 ((f_X9_lesser (mst (mst σ 13 (a.toNatClampNeg) (f_X9_within σ ((σ 13 ((a - 1).toNatClampNeg)) + (-1)) 20)) 14 (a.toNatClampNeg) ((σ 14 ((a - 1).toNatClampNeg)) + ((mst σ 13 (a.toNatClampNeg) (f_X9_within σ ((σ 13 ((a - 1).toNatClampNeg)) + (-1)) 20)) 13 ((a - 1).toNatClampNeg)))) (((σ 14 ((a - 1).toNatClampNeg)) + ((mst σ 13 (a.toNatClampNeg) (f_X9_within σ ((σ 13 ((a - 1).toNatClampNeg)) + (-1)) 20)) 13 ((a - 1).toNatClampNeg))) / 10) ((σ 0 10) - 1)).toNatClampNeg)) * (σ 0 9))) a 0)) a 1))) from by rw [l_X9_lives_6, if_neg c9_1, if_neg c13_2, if_pos c83_7, if_neg c91_8, if_neg c138_30]]
              exact ih _ _ hb
            · rw [if_pos c138_30] at hb
              refine wp_iconst dX9_lives_141 ic_0 ?_
              refine wp_goto 173 dX9_lives_142 (by decide) ?_
              obtain ⟨x38, hb⟩ := hb
              refine wp_iast dX9_lives_173 rfl x38 ?_
              refine wp_aload_n dX9_lives_174 1 rfl ?_
              refine wp_getR dX9_lives_175 faX9_44 rfl rfl ?_
              refine wp_iconst dX9_lives_178 ic_2 ?_
              refine wp_iload_n dX9_lives_179 2 rfl ?_
              refine wp_imul dX9_lives_180 ?_
              refine wp_aload_n dX9_lives_181 1 rfl ?_
              refine wp_iload_n dX9_lives_182 2 rfl ?_
              refine wp_iconst dX9_lives_183 ic_0 ?_
              obtain ⟨x39, hb⟩ := hb
              refine wp_cV2w (N := mX9_givesOf) dX9_lives_184 tmX9_147 okX9_givesOf rfl rfl rfl rfl rfl rfl rfl rfl (s_X9_givesOf X _ _ _ x39) ?_
              obtain ⟨x40, hb⟩ := hb
              refine wp_iast dX9_lives_187 rfl x40 ?_
              refine wp_aload_n dX9_lives_188 1 rfl ?_
              refine wp_getR dX9_lives_189 faX9_44 rfl rfl ?_
              refine wp_iconst dX9_lives_192 ic_2 ?_
              refine wp_iload_n dX9_lives_193 2 rfl ?_
              refine wp_imul dX9_lives_194 ?_
              refine wp_iconst dX9_lives_195 ic_1 ?_
              refine wp_iadd dX9_lives_196 ?_
              refine wp_aload_n dX9_lives_197 1 rfl ?_
              refine wp_iload_n dX9_lives_198 2 rfl ?_
              refine wp_iconst dX9_lives_199 ic_1 ?_
              obtain ⟨x41, hb⟩ := hb
              refine wp_cV2w (N := mX9_givesOf) dX9_lives_200 tmX9_147 okX9_givesOf rfl rfl rfl rfl rfl rfl rfl rfl (s_X9_givesOf X _ _ _ x41) ?_
              obtain ⟨x42, hb⟩ := hb
              refine wp_iast dX9_lives_203 rfl x42 ?_
              refine wp_iinc (L' := [(1, _), (2, _), (0, _)]) dX9_lives_204 rfl 2 rfl (ii_1 _) rfl ?_
              refine wp_goto 6 dX9_lives_207 (by decide) ?_
              refine wp_drop [2, 0] rfl ?_
              rw [show l_X9_lives_6 (n + 1) a σ = (l_X9_lives_6 n (a + 1) (mst (mst (mst (mst (mst σ 13 (a.toNatClampNeg) (f_X9_within σ ((σ 13 ((a - 1).toNatClampNeg)) + (-1)) 20)) 14 (a.toNatClampNeg) ((σ 14 ((a - 1).toNatClampNeg)) + ((mst σ 13 (a.toNatClampNeg) (f_X9_within σ ((σ 13 ((a - 1).toNatClampNeg)) + (-1)) 20)) 13 ((a - 1).toNatClampNeg)))) 15 (a.toNatClampNeg) 0) 12 ((2 * a).toNatClampNeg) (f_X9_givesOf (mst (mst (mst σ 13 (a.toNatClampNeg) (f_X9_within σ ((σ 13 ((a - 1).toNatClampNeg)) + (-1)) 20)) 14 (a.toNatClampNeg) ((σ 14 ((a - 1).toNatClampNeg)) + ((mst σ 13 (a.toNatClampNeg) (f_X9_within σ ((σ 13 ((a - 1).toNatClampNeg)) + (-1)) 20)) 13 ((a - 1).toNatClampNeg)))) 15 (a.toNatClampNeg) 0) a 0)) 12 (((2 * a) + 1).toNatClampNeg) (f_X9_givesOf (mst (mst (mst (mst σ 13 (a.toNatClampNeg) (f_X9_within σ ((σ 13 ((a - 1).toNatClampNeg)) + (-1)) 20)) 14 (a.toNatClampNeg) ((σ 14 ((a - 1).toNatClampNeg)) + ((mst σ 13 (a.toNatClampNeg) (f_X9_within σ ((σ 13 ((a - 1).toNatClampNeg)) + (-1)) 20)) 13 ((a - 1).toNatClampNeg)))) 15 (a.toNatClampNeg) 0) 12 ((2 * a).toNatClampNeg) (f_X9_givesOf (mst (mst (mst σ 13 (a.toNatClampNeg) (f_X9_within σ ((σ 13 ((a - 1).toNatClampNeg)) + (-1)) 20)) 14 (a.toNatClampNeg) ((σ 14 ((a - 1).toNatClampNeg)) + ((mst σ 13 (a.toNatClampNeg) (f_X9_within σ ((σ 13 ((a - 1).toNatClampNeg)) + (-1)) 20)) 13 ((a - 1).toNatClampNeg)))) 15 (a.toNatClampNeg) 0) a 0)) a 1))) from by rw [l_X9_lives_6, if_neg c9_1, if_neg c13_2, if_pos c83_7, if_neg c91_8, if_pos c138_30]]
              exact ih _ _ hb
        · rw [if_neg c83_7] at hb
          refine wp_iconst dX9_lives_86 ic_1 ?_
          refine wp_goto 99 dX9_lives_87 (by decide) ?_
          refine wp_iadd dX9_lives_99 ?_
          refine wp_bipush dX9_lives_100 bp_20 ?_
          refine wp_cS2w (N := mX9_within) dX9_lives_102 tmX9_141 okX9_within rfl rfl rfl rfl (s_X9_within X _ _ _) ?_
          obtain ⟨x43, hb⟩ := hb
          refine wp_iast dX9_lives_105 rfl x43 ?_
          refine wp_aload_n dX9_lives_106 1 rfl ?_
          refine wp_getR dX9_lives_107 faX9_50 rfl rfl ?_
          refine wp_iload_n dX9_lives_110 2 rfl ?_
          refine wp_aload_n dX9_lives_111 1 rfl ?_
          refine wp_getR dX9_lives_112 faX9_50 rfl rfl ?_
          refine wp_iload_n dX9_lives_115 2 rfl ?_
          refine wp_iconst dX9_lives_116 ic_1 ?_
          refine wp_isub dX9_lives_117 ?_
          obtain ⟨x44, hb⟩ := hb
          refine wp_iald dX9_lives_118 rfl x44 ?_
          refine wp_topi (y := (σ 14 ((a - 1).toNatClampNeg))) rfl ?_
          refine wp_aload_n dX9_lives_119 1 rfl ?_
          refine wp_getR dX9_lives_120 faX9_47 rfl rfl ?_
          refine wp_iload_n dX9_lives_123 2 rfl ?_
          refine wp_iconst dX9_lives_124 ic_1 ?_
          refine wp_isub dX9_lives_125 ?_
          obtain ⟨x45, hb⟩ := hb
          refine wp_iald dX9_lives_126 rfl x45 ?_
          refine wp_iadd dX9_lives_127 ?_
          obtain ⟨x46, hb⟩ := hb
          refine wp_iast dX9_lives_128 rfl x46 ?_
          refine wp_aload_n dX9_lives_129 1 rfl ?_
          refine wp_getR dX9_lives_130 faX9_53 rfl rfl ?_
          refine wp_iload_n dX9_lives_133 2 rfl ?_
          refine wp_aload_n dX9_lives_134 1 rfl ?_
          refine wp_getI dX9_lives_135 faX9_118 rfl rfl ?_
          refine wp_topi (y := (σ 0 10)) rfl ?_
          refine wp_if_ne 145 dX9_lives_138 (by decide) (fun c138_47 => ?_) (fun c138_47 => ?_)
          · rw [if_neg c138_47] at hb
            refine wp_aload_n dX9_lives_145 1 rfl ?_
            refine wp_getR dX9_lives_146 faX9_31 rfl rfl ?_
            refine wp_aload_n dX9_lives_149 1 rfl ?_
            refine wp_getR dX9_lives_150 faX9_50 rfl rfl ?_
            refine wp_iload_n dX9_lives_153 2 rfl ?_
            obtain ⟨x48, hb⟩ := hb
            refine wp_iald dX9_lives_154 rfl x48 ?_
            refine wp_topi (y := ((σ 14 ((a - 1).toNatClampNeg)) + ((mst σ 13 (a.toNatClampNeg) (f_X9_within σ ((σ 13 ((a - 1).toNatClampNeg)) + 1) 20)) 13 ((a - 1).toNatClampNeg)))) (by simp [mst, upd]) ?_
            refine wp_bipush dX9_lives_155 bp_10 ?_
            refine wp_idiv dX9_lives_157 (by decide) ?_
            refine wp_aload_n dX9_lives_158 1 rfl ?_
            refine wp_getI dX9_lives_159 faX9_118 rfl rfl ?_
            refine wp_topi (y := (σ 0 10)) rfl ?_
            refine wp_iconst dX9_lives_162 ic_1 ?_
            refine wp_isub dX9_lives_163 ?_
            refine wp_cS2w (N := mX9_lesser) dX9_lives_164 tmX9_77 okX9_lesser rfl rfl rfl rfl (s_X9_lesser X _ _ _) ?_
            obtain ⟨x49, hb⟩ := hb
            refine wp_iald dX9_lives_167 rfl x49 ?_
            refine wp_topi (y := (σ 8 ((f_X9_lesser (mst (mst σ 13 (a.toNatClampNeg) (f_X9_within σ ((σ 13 ((a - 1).toNatClampNeg)) + 1) 20)) 14 (a.toNatClampNeg) ((σ 14 ((a - 1).toNatClampNeg)) + ((mst σ 13 (a.toNatClampNeg) (f_X9_within σ ((σ 13 ((a - 1).toNatClampNeg)) + 1) 20)) 13 ((a - 1).toNatClampNeg)))) (((σ 14 ((a - 1).toNatClampNeg)) + ((mst σ 13 (a.toNatClampNeg) (f_X9_within σ ((σ 13 ((a - 1).toNatClampNeg)) + 1) 20)) 13 ((a - 1).toNatClampNeg))) / 10) ((σ 0 10) - 1)).toNatClampNeg))) rfl ?_
            refine wp_aload_n dX9_lives_168 1 rfl ?_
            refine wp_getI dX9_lives_169 faX9_113 rfl rfl ?_
            refine wp_topi (y := (σ 0 9)) rfl ?_
            refine wp_imul dX9_lives_172 ?_
            obtain ⟨x50, hb⟩ := hb
            refine wp_iast dX9_lives_173 rfl x50 ?_
            refine wp_aload_n dX9_lives_174 1 rfl ?_
            refine wp_getR dX9_lives_175 faX9_44 rfl rfl ?_
            refine wp_iconst dX9_lives_178 ic_2 ?_
            refine wp_iload_n dX9_lives_179 2 rfl ?_
            refine wp_imul dX9_lives_180 ?_
            refine wp_aload_n dX9_lives_181 1 rfl ?_
            refine wp_iload_n dX9_lives_182 2 rfl ?_
            refine wp_iconst dX9_lives_183 ic_0 ?_
            obtain ⟨x51, hb⟩ := hb
            refine wp_cV2w (N := mX9_givesOf) dX9_lives_184 tmX9_147 okX9_givesOf rfl rfl rfl rfl rfl rfl rfl rfl (s_X9_givesOf X _ _ _ x51) ?_
            obtain ⟨x52, hb⟩ := hb
            refine wp_iast dX9_lives_187 rfl x52 ?_
            refine wp_aload_n dX9_lives_188 1 rfl ?_
            refine wp_getR dX9_lives_189 faX9_44 rfl rfl ?_
            refine wp_iconst dX9_lives_192 ic_2 ?_
            refine wp_iload_n dX9_lives_193 2 rfl ?_
            refine wp_imul dX9_lives_194 ?_
            refine wp_iconst dX9_lives_195 ic_1 ?_
            refine wp_iadd dX9_lives_196 ?_
            refine wp_aload_n dX9_lives_197 1 rfl ?_
            refine wp_iload_n dX9_lives_198 2 rfl ?_
            refine wp_iconst dX9_lives_199 ic_1 ?_
            obtain ⟨x53, hb⟩ := hb
            refine wp_cV2w (N := mX9_givesOf) dX9_lives_200 tmX9_147 okX9_givesOf rfl rfl rfl rfl rfl rfl rfl rfl (s_X9_givesOf X _ _ _ x53) ?_
            obtain ⟨x54, hb⟩ := hb
            refine wp_iast dX9_lives_203 rfl x54 ?_
            refine wp_iinc (L' := [(1, _), (2, _), (0, _)]) dX9_lives_204 rfl 2 rfl (ii_1 _) rfl ?_
            refine wp_goto 6 dX9_lives_207 (by decide) ?_
            refine wp_drop [2, 0] rfl ?_
            rw [show l_X9_lives_6 (n + 1) a σ = (l_X9_lives_6 n (a + 1) (mst (mst (mst (mst (mst σ 13 (a.toNatClampNeg) (f_X9_within σ ((σ 13 ((a - 1).toNatClampNeg)) + 1) 20)) 14 (a.toNatClampNeg) ((σ 14 ((a - 1).toNatClampNeg)) + ((mst σ 13 (a.toNatClampNeg) (f_X9_within σ ((σ 13 ((a - 1).toNatClampNeg)) + 1) 20)) 13 ((a - 1).toNatClampNeg)))) 15 (a.toNatClampNeg) ((σ 8 ((f_X9_lesser (mst (mst σ 13 (a.toNatClampNeg) (f_X9_within σ ((σ 13 ((a - 1).toNatClampNeg)) + 1) 20)) 14 (a.toNatClampNeg) ((σ 14 ((a - 1).toNatClampNeg)) + ((mst σ 13 (a.toNatClampNeg) (f_X9_within σ ((σ 13 ((a - 1).toNatClampNeg)) + 1) 20)) 13 ((a - 1).toNatClampNeg)))) (((σ 14 ((a - 1).toNatClampNeg)) + ((mst σ 13 (a.toNatClampNeg) (f_X9_within σ ((σ 13 ((a - 1).toNatClampNeg)) + 1) 20)) 13 ((a - 1).toNatClampNeg))) / 10) ((σ 0 10) - 1)).toNatClampNeg)) * (σ 0 9))) 12 ((2 * a).toNatClampNeg) (f_X9_givesOf (mst (mst (mst σ 13 (a.toNatClampNeg) (f_X9_within σ ((σ 13 ((a - 1).toNatClampNeg)) + 1) 20)) 14 (a.toNatClampNeg) ((σ 14 ((a - 1).toNatClampNeg)) + ((mst σ 13 (a.toNatClampNeg) (f_X9_within σ ((σ 13 ((a - 1).toNatClampNeg)) + 1) 20)) 13 ((a - 1).toNatClampNeg)))) 15 (a.toNatClampNeg) ((σ 8 ((f_X9_lesser (mst (mst σ 13 (a.toNatClampNeg) (f_X9_within σ ((σ 13 ((a - 1).toNatClampNeg)) + 1) 20)) 14 (a.toNatClampNeg) ((σ 14 ((a - 1).toNatClampNeg)) + ((mst σ 13 (a.toNatClampNeg) (f_X9_within σ ((σ 13 ((a - 1).toNatClampNeg)) + 1) 20)) 13 ((a - 1).toNatClampNeg)))) (((σ 14 ((a - 1).toNatClampNeg)) + ((mst σ 13 (a.toNatClampNeg) (f_X9_within σ ((σ 13 ((a - 1).toNatClampNeg)) + 1) 20)) 13 ((a - 1).toNatClampNeg))) / 10) ((σ 0 10) - 1)).toNatClampNeg)) * (σ 0 9))) a 0)) 12 (((2 * a) + 1).toNatClampNeg) (f_X9_givesOf (mst (mst (mst (mst σ 13 (a.toNatClampNeg) (f_X9_within σ ((σ 13 ((a - 1).toNatClampNeg)) + 1) 20)) 14 (a.toNatClampNeg) ((σ 14 ((a - 1).toNatClampNeg)) + ((mst σ 13 (a.toNatClampNeg) (f_X9_within σ ((σ 13 ((a - 1).toNatClampNeg)) + 1) 20)) 13 ((a - 1).toNatClampNeg)))) 15 (a.toNatClampNeg) ((σ 8 ((f_X9_lesser (mst (mst σ 13 (a.toNatClampNeg) (f_X9_within σ ((σ 13 ((a - 1).toNatClampNeg)) + 1) 20)) 14 (a.toNatClampNeg) ((σ 14 ((a - 1).toNatClampNeg)) + ((mst σ 13 (a.toNatClampNeg) (f_X9_within σ ((σ 13 ((a - 1).toNatClampNeg)) + 1) 20)) 13 ((a - 1).toNatClampNeg)))) (((σ 14 ((a - 1).toNatClampNeg)) + ((mst σ 13 (a.toNatClampNeg) (f_X9_within σ ((σ 13 ((a - 1).toNatClampNeg)) + 1) 20)) 13 ((a - 1).toNatClampNeg))) / 10) ((σ 0 10) - 1)).toNatClampNeg)) * (σ 0 9))) 12 ((2 * a).toNatClampNeg) (f_X9_givesOf (mst (mst (mst σ 13 (a.toNatClampNeg) (f_X9_within σ ((σ 13 ((a - 1).toNatClampNeg)) + 1) 20)) 14 (a.toNatClampNeg) ((σ 14 ((a - 1).toNatClampNeg)) + ((mst σ 13 (a.toNatClampNeg) (f_X9_within σ ((σ 13 ((a - 1).toNatClampNeg)) + 1) 20)) 13 ((a - 1).toNatClampNeg)))) 15 (a.toNatClampNeg) ((σ 8 ((f_X9_lesser (mst (mst σ 13 (a.toNatClampNeg) (f_X9_within σ ((σ 13 ((a - 1).toNatClampNeg)) + 1) 20)) 14 (a.toNatClampNeg) ((σ 14 ((a - 1).toNatClampNeg)) + ((mst σ 13 (a.toNatClampNeg) (f_X9_within σ ((σ 13 ((a - 1).toNatClampNeg)) + 1) 20)) 13 ((a - 1).toNatClampNeg)))) (((σ 14 ((a - 1).toNatClampNeg)) + ((mst σ 13 (a.toNatClampNeg) (f_X9_within σ ((σ 13 ((a - 1).toNatClampNeg)) + 1) 20)) 13 ((a - 1).toNatClampNeg))) / 10) ((σ 0 10) - 1)).toNatClampNeg)) * (σ 0 9))) a 0)) a 1))) from by rw [l_X9_lives_6, if_neg c9_1, if_neg c13_2, if_neg c83_7, if_neg c138_47]]
            exact ih _ _ hb
          · rw [if_pos c138_47] at hb
            refine wp_iconst dX9_lives_141 ic_0 ?_
            refine wp_goto 173 dX9_lives_142 (by decide) ?_
            obtain ⟨x55, hb⟩ := hb
            refine wp_iast dX9_lives_173 rfl x55 ?_
            refine wp_aload_n dX9_lives_174 1 rfl ?_
            refine wp_getR dX9_lives_175 faX9_44 rfl rfl ?_
            refine wp_iconst dX9_lives_178 ic_2 ?_
            refine wp_iload_n dX9_lives_179 2 rfl ?_
            refine wp_imul dX9_lives_180 ?_
            refine wp_aload_n dX9_lives_181 1 rfl ?_
            refine wp_iload_n dX9_lives_182 2 rfl ?_
            refine wp_iconst dX9_lives_183 ic_0 ?_
            obtain ⟨x56, hb⟩ := hb
            refine wp_cV2w (N := mX9_givesOf) dX9_lives_184 tmX9_147 okX9_givesOf rfl rfl rfl rfl rfl rfl rfl rfl (s_X9_givesOf X _ _ _ x56) ?_
            obtain ⟨x57, hb⟩ := hb
            refine wp_iast dX9_lives_187 rfl x57 ?_
            refine wp_aload_n dX9_lives_188 1 rfl ?_
            refine wp_getR dX9_lives_189 faX9_44 rfl rfl ?_
            refine wp_iconst dX9_lives_192 ic_2 ?_
            refine wp_iload_n dX9_lives_193 2 rfl ?_
            refine wp_imul dX9_lives_194 ?_
            refine wp_iconst dX9_lives_195 ic_1 ?_
            refine wp_iadd dX9_lives_196 ?_
            refine wp_aload_n dX9_lives_197 1 rfl ?_
            refine wp_iload_n dX9_lives_198 2 rfl ?_
            refine wp_iconst dX9_lives_199 ic_1 ?_
            obtain ⟨x58, hb⟩ := hb
            refine wp_cV2w (N := mX9_givesOf) dX9_lives_200 tmX9_147 okX9_givesOf rfl rfl rfl rfl rfl rfl rfl rfl (s_X9_givesOf X _ _ _ x58) ?_
            obtain ⟨x59, hb⟩ := hb
            refine wp_iast dX9_lives_203 rfl x59 ?_
            refine wp_iinc (L' := [(1, _), (2, _), (0, _)]) dX9_lives_204 rfl 2 rfl (ii_1 _) rfl ?_
            refine wp_goto 6 dX9_lives_207 (by decide) ?_
            refine wp_drop [2, 0] rfl ?_
            rw [show l_X9_lives_6 (n + 1) a σ = (l_X9_lives_6 n (a + 1) (mst (mst (mst (mst (mst σ 13 (a.toNatClampNeg) (f_X9_within σ ((σ 13 ((a - 1).toNatClampNeg)) + 1) 20)) 14 (a.toNatClampNeg) ((σ 14 ((a - 1).toNatClampNeg)) + ((mst σ 13 (a.toNatClampNeg) (f_X9_within σ ((σ 13 ((a - 1).toNatClampNeg)) + 1) 20)) 13 ((a - 1).toNatClampNeg)))) 15 (a.toNatClampNeg) 0) 12 ((2 * a).toNatClampNeg) (f_X9_givesOf (mst (mst (mst σ 13 (a.toNatClampNeg) (f_X9_within σ ((σ 13 ((a - 1).toNatClampNeg)) + 1) 20)) 14 (a.toNatClampNeg) ((σ 14 ((a - 1).toNatClampNeg)) + ((mst σ 13 (a.toNatClampNeg) (f_X9_within σ ((σ 13 ((a - 1).toNatClampNeg)) + 1) 20)) 13 ((a - 1).toNatClampNeg)))) 15 (a.toNatClampNeg) 0) a 0)) 12 (((2 * a) + 1).toNatClampNeg) (f_X9_givesOf (mst (mst (mst (mst σ 13 (a.toNatClampNeg) (f_X9_within σ ((σ 13 ((a - 1).toNatClampNeg)) + 1) 20)) 14 (a.toNatClampNeg) ((σ 14 ((a - 1).toNatClampNeg)) + ((mst σ 13 (a.toNatClampNeg) (f_X9_within σ ((σ 13 ((a - 1).toNatClampNeg)) + 1) 20)) 13 ((a - 1).toNatClampNeg)))) 15 (a.toNatClampNeg) 0) 12 ((2 * a).toNatClampNeg) (f_X9_givesOf (mst (mst (mst σ 13 (a.toNatClampNeg) (f_X9_within σ ((σ 13 ((a - 1).toNatClampNeg)) + 1) 20)) 14 (a.toNatClampNeg) ((σ 14 ((a - 1).toNatClampNeg)) + ((mst σ 13 (a.toNatClampNeg) (f_X9_within σ ((σ 13 ((a - 1).toNatClampNeg)) + 1) 20)) 13 ((a - 1).toNatClampNeg)))) 15 (a.toNatClampNeg) 0) a 0)) a 1))) from by rw [l_X9_lives_6, if_neg c9_1, if_neg c13_2, if_neg c83_7, if_pos c138_47]]
            exact ih _ _ hb
      · rw [if_pos c13_2] at hb
        refine wp_aload_n dX9_lives_16 0 rfl ?_
        refine wp_getR dX9_lives_17 faX9_47 rfl rfl ?_
        refine wp_iconst dX9_lives_20 ic_0 ?_
        refine wp_aload_n dX9_lives_21 0 rfl ?_
        refine wp_getR dX9_lives_22 faX9_41 rfl rfl ?_
        refine wp_iconst dX9_lives_25 ic_4 ?_
        refine wp_iald dX9_lives_26 rfl (vlit 4 5 (by decide)) ?_
        refine wp_iast dX9_lives_27 rfl (vlit 0 40 (by decide)) ?_
        refine wp_aload_n dX9_lives_28 0 rfl ?_
        refine wp_getR dX9_lives_29 faX9_50 rfl rfl ?_
        refine wp_iconst dX9_lives_32 ic_0 ?_
        refine wp_iconst dX9_lives_33 ic_0 ?_
        refine wp_iast dX9_lives_34 rfl (vlit 0 40 (by decide)) ?_
        refine wp_goto 129 dX9_lives_35 (by decide) ?_
        refine wp_aload_n dX9_lives_129 0 rfl ?_
        refine wp_getR dX9_lives_130 faX9_53 rfl rfl ?_
        refine wp_iload_n dX9_lives_133 1 rfl ?_
        refine wp_aload_n dX9_lives_134 0 rfl ?_
        refine wp_getI dX9_lives_135 faX9_118 rfl rfl ?_
        refine wp_topi (y := (σ 0 10)) rfl ?_
        refine wp_if_ne 145 dX9_lives_138 (by decide) (fun c138_60 => ?_) (fun c138_60 => ?_)
        · rw [if_neg c138_60] at hb
          refine wp_aload_n dX9_lives_145 0 rfl ?_
          refine wp_getR dX9_lives_146 faX9_31 rfl rfl ?_
          refine wp_aload_n dX9_lives_149 0 rfl ?_
          refine wp_getR dX9_lives_150 faX9_50 rfl rfl ?_
          refine wp_iload_n dX9_lives_153 1 rfl ?_
          obtain ⟨x61, hb⟩ := hb
          refine wp_iald dX9_lives_154 rfl x61 ?_
          refine wp_bipush dX9_lives_155 bp_10 ?_
          refine wp_idiv dX9_lives_157 (by decide) ?_
          refine wp_aload_n dX9_lives_158 0 rfl ?_
          refine wp_getI dX9_lives_159 faX9_118 rfl rfl ?_
          refine wp_topi (y := (σ 0 10)) rfl ?_
          refine wp_iconst dX9_lives_162 ic_1 ?_
          refine wp_isub dX9_lives_163 ?_
          refine wp_cS2w (N := mX9_lesser) dX9_lives_164 tmX9_77 okX9_lesser rfl rfl rfl rfl (s_X9_lesser X _ _ _) ?_
          obtain ⟨x62, hb⟩ := hb
          refine wp_iald dX9_lives_167 rfl x62 ?_
          refine wp_topi (y := (σ 8 ((f_X9_lesser (mst (mst σ 13 ((0 : Int32).toNatClampNeg) (σ 11 ((4 : Int32).toNatClampNeg))) 14 ((0 : Int32).toNatClampNeg) 0) (((mst (mst σ 13 ((0 : Int32).toNatClampNeg) (σ 11 ((4 : Int32).toNatClampNeg))) 14 ((0 : Int32).toNatClampNeg) 0) 14 (a.toNatClampNeg)) / 10) ((σ 0 10) - 1)).toNatClampNeg))) rfl ?_
          refine wp_aload_n dX9_lives_168 0 rfl ?_
          refine wp_getI dX9_lives_169 faX9_113 rfl rfl ?_
          refine wp_topi (y := (σ 0 9)) rfl ?_
          refine wp_imul dX9_lives_172 ?_
          obtain ⟨x63, hb⟩ := hb
          refine wp_iast dX9_lives_173 rfl x63 ?_
          refine wp_aload_n dX9_lives_174 0 rfl ?_
          refine wp_getR dX9_lives_175 faX9_44 rfl rfl ?_
          refine wp_iconst dX9_lives_178 ic_2 ?_
          refine wp_iload_n dX9_lives_179 1 rfl ?_
          refine wp_imul dX9_lives_180 ?_
          refine wp_aload_n dX9_lives_181 0 rfl ?_
          refine wp_iload_n dX9_lives_182 1 rfl ?_
          refine wp_iconst dX9_lives_183 ic_0 ?_
          obtain ⟨x64, hb⟩ := hb
          refine wp_cV2w (N := mX9_givesOf) dX9_lives_184 tmX9_147 okX9_givesOf rfl rfl rfl rfl rfl rfl rfl rfl (s_X9_givesOf X _ _ _ x64) ?_
          obtain ⟨x65, hb⟩ := hb
          refine wp_iast dX9_lives_187 rfl x65 ?_
          refine wp_aload_n dX9_lives_188 0 rfl ?_
          refine wp_getR dX9_lives_189 faX9_44 rfl rfl ?_
          refine wp_iconst dX9_lives_192 ic_2 ?_
          refine wp_iload_n dX9_lives_193 1 rfl ?_
          refine wp_imul dX9_lives_194 ?_
          refine wp_iconst dX9_lives_195 ic_1 ?_
          refine wp_iadd dX9_lives_196 ?_
          refine wp_aload_n dX9_lives_197 0 rfl ?_
          refine wp_iload_n dX9_lives_198 1 rfl ?_
          refine wp_iconst dX9_lives_199 ic_1 ?_
          obtain ⟨x66, hb⟩ := hb
          refine wp_cV2w (N := mX9_givesOf) dX9_lives_200 tmX9_147 okX9_givesOf rfl rfl rfl rfl rfl rfl rfl rfl (s_X9_givesOf X _ _ _ x66) ?_
          obtain ⟨x67, hb⟩ := hb
          refine wp_iast dX9_lives_203 rfl x67 ?_
          refine wp_iinc (L' := [(1, _), (0, _)]) dX9_lives_204 rfl 1 rfl (ii_1 _) rfl ?_
          refine wp_goto 6 dX9_lives_207 (by decide) ?_
          refine wp_drop [1, 0] rfl ?_
          rw [show l_X9_lives_6 (n + 1) a σ = (l_X9_lives_6 n (a + 1) (mst (mst (mst (mst (mst σ 13 ((0 : Int32).toNatClampNeg) (σ 11 ((4 : Int32).toNatClampNeg))) 14 ((0 : Int32).toNatClampNeg) 0) 15 (a.toNatClampNeg) ((σ 8 ((f_X9_lesser (mst (mst σ 13 ((0 : Int32).toNatClampNeg) (σ 11 ((4 : Int32).toNatClampNeg))) 14 ((0 : Int32).toNatClampNeg) 0) (((mst (mst σ 13 ((0 : Int32).toNatClampNeg) (σ 11 ((4 : Int32).toNatClampNeg))) 14 ((0 : Int32).toNatClampNeg) 0) 14 (a.toNatClampNeg)) / 10) ((σ 0 10) - 1)).toNatClampNeg)) * (σ 0 9))) 12 ((2 * a).toNatClampNeg) (f_X9_givesOf (mst (mst (mst σ 13 ((0 : Int32).toNatClampNeg) (σ 11 ((4 : Int32).toNatClampNeg))) 14 ((0 : Int32).toNatClampNeg) 0) 15 (a.toNatClampNeg) ((σ 8 ((f_X9_lesser (mst (mst σ 13 ((0 : Int32).toNatClampNeg) (σ 11 ((4 : Int32).toNatClampNeg))) 14 ((0 : Int32).toNatClampNeg) 0) (((mst (mst σ 13 ((0 : Int32).toNatClampNeg) (σ 11 ((4 : Int32).toNatClampNeg))) 14 ((0 : Int32).toNatClampNeg) 0) 14 (a.toNatClampNeg)) / 10) ((σ 0 10) - 1)).toNatClampNeg)) * (σ 0 9))) a 0)) 12 (((2 * a) + 1).toNatClampNeg) (f_X9_givesOf (mst (mst (mst (mst σ 13 ((0 : Int32).toNatClampNeg) (σ 11 ((4 : Int32).toNatClampNeg))) 14 ((0 : Int32).toNatClampNeg) 0) 15 (a.toNatClampNeg) ((σ 8 ((f_X9_lesser (mst (mst σ 13 ((0 : Int32).toNatClampNeg) (σ 11 ((4 : Int32).toNatClampNeg))) 14 ((0 : Int32).toNatClampNeg) 0) (((mst (mst σ 13 ((0 : Int32).toNatClampNeg) (σ 11 ((4 : Int32).toNatClampNeg))) 14 ((0 : Int32).toNatClampNeg) 0) 14 (a.toNatClampNeg)) / 10) ((σ 0 10) - 1)).toNatClampNeg)) * (σ 0 9))) 12 ((2 * a).toNatClampNeg) (f_X9_givesOf (mst (mst (mst σ 13 ((0 : Int32).toNatClampNeg) (σ 11 ((4 : Int32).toNatClampNeg))) 14 ((0 : Int32).toNatClampNeg) 0) 15 (a.toNatClampNeg) ((σ 8 ((f_X9_lesser (mst (mst σ 13 ((0 : Int32).toNatClampNeg) (σ 11 ((4 : Int32).toNatClampNeg))) 14 ((0 : Int32).toNatClampNeg) 0) (((mst (mst σ 13 ((0 : Int32).toNatClampNeg) (σ 11 ((4 : Int32).toNatClampNeg))) 14 ((0 : Int32).toNatClampNeg) 0) 14 (a.toNatClampNeg)) / 10) ((σ 0 10) - 1)).toNatClampNeg)) * (σ 0 9))) a 0)) a 1))) from by rw [l_X9_lives_6, if_neg c9_1, if_pos c13_2, if_neg c138_60]]
          exact ih _ _ hb
        · rw [if_pos c138_60] at hb
          refine wp_iconst dX9_lives_141 ic_0 ?_
          refine wp_goto 173 dX9_lives_142 (by decide) ?_
          obtain ⟨x68, hb⟩ := hb
          refine wp_iast dX9_lives_173 rfl x68 ?_
          refine wp_aload_n dX9_lives_174 0 rfl ?_
          refine wp_getR dX9_lives_175 faX9_44 rfl rfl ?_
          refine wp_iconst dX9_lives_178 ic_2 ?_
          refine wp_iload_n dX9_lives_179 1 rfl ?_
          refine wp_imul dX9_lives_180 ?_
          refine wp_aload_n dX9_lives_181 0 rfl ?_
          refine wp_iload_n dX9_lives_182 1 rfl ?_
          refine wp_iconst dX9_lives_183 ic_0 ?_
          obtain ⟨x69, hb⟩ := hb
          refine wp_cV2w (N := mX9_givesOf) dX9_lives_184 tmX9_147 okX9_givesOf rfl rfl rfl rfl rfl rfl rfl rfl (s_X9_givesOf X _ _ _ x69) ?_
          obtain ⟨x70, hb⟩ := hb
          refine wp_iast dX9_lives_187 rfl x70 ?_
          refine wp_aload_n dX9_lives_188 0 rfl ?_
          refine wp_getR dX9_lives_189 faX9_44 rfl rfl ?_
          refine wp_iconst dX9_lives_192 ic_2 ?_
          refine wp_iload_n dX9_lives_193 1 rfl ?_
          refine wp_imul dX9_lives_194 ?_
          refine wp_iconst dX9_lives_195 ic_1 ?_
          refine wp_iadd dX9_lives_196 ?_
          refine wp_aload_n dX9_lives_197 0 rfl ?_
          refine wp_iload_n dX9_lives_198 1 rfl ?_
          refine wp_iconst dX9_lives_199 ic_1 ?_
          obtain ⟨x71, hb⟩ := hb
          refine wp_cV2w (N := mX9_givesOf) dX9_lives_200 tmX9_147 okX9_givesOf rfl rfl rfl rfl rfl rfl rfl rfl (s_X9_givesOf X _ _ _ x71) ?_
          obtain ⟨x72, hb⟩ := hb
          refine wp_iast dX9_lives_203 rfl x72 ?_
          refine wp_iinc (L' := [(1, _), (0, _)]) dX9_lives_204 rfl 1 rfl (ii_1 _) rfl ?_
          refine wp_goto 6 dX9_lives_207 (by decide) ?_
          refine wp_drop [1, 0] rfl ?_
          rw [show l_X9_lives_6 (n + 1) a σ = (l_X9_lives_6 n (a + 1) (mst (mst (mst (mst (mst σ 13 ((0 : Int32).toNatClampNeg) (σ 11 ((4 : Int32).toNatClampNeg))) 14 ((0 : Int32).toNatClampNeg) 0) 15 (a.toNatClampNeg) 0) 12 ((2 * a).toNatClampNeg) (f_X9_givesOf (mst (mst (mst σ 13 ((0 : Int32).toNatClampNeg) (σ 11 ((4 : Int32).toNatClampNeg))) 14 ((0 : Int32).toNatClampNeg) 0) 15 (a.toNatClampNeg) 0) a 0)) 12 (((2 * a) + 1).toNatClampNeg) (f_X9_givesOf (mst (mst (mst (mst σ 13 ((0 : Int32).toNatClampNeg) (σ 11 ((4 : Int32).toNatClampNeg))) 14 ((0 : Int32).toNatClampNeg) 0) 15 (a.toNatClampNeg) 0) 12 ((2 * a).toNatClampNeg) (f_X9_givesOf (mst (mst (mst σ 13 ((0 : Int32).toNatClampNeg) (σ 11 ((4 : Int32).toNatClampNeg))) 14 ((0 : Int32).toNatClampNeg) 0) 15 (a.toNatClampNeg) 0) a 0)) a 1))) from by rw [l_X9_lives_6, if_neg c9_1, if_pos c13_2, if_pos c138_60]]
          exact ih _ _ hb
def f_X9_lives (σ : Mem) : Mem := (l_X9_lives_6 (fu 41) 0 (f_X9_reads σ))
def b_X9_lives (σ : Mem) : Prop := (b_X9_reads σ) ∧ ((bl_X9_lives_6 (fu 41) 0 (f_X9_reads σ)))
theorem s_X9_lives (X : Amb) (σ : Mem) (hb : b_X9_lives σ) : SpV X mX9_lives [.ref (adr X 0)] σ (f_X9_lives σ) := by
  unfold b_X9_lives at hb
  refine sp_of (by decide +kernel) rfl ?_
  show WP X mX9_lives 0 [(0, .ref (adr X 0))] [] σ _
  refine wp_aload_n dX9_lives_0 0 rfl ?_
  obtain ⟨x1, hb⟩ := hb
  refine wp_cV0v (N := mX9_reads) dX9_lives_1 tmX9_128 okX9_reads rfl rfl rfl rfl rfl rfl rfl rfl (s_X9_reads X _ x1) ?_
  refine wp_iconst dX9_lives_4 ic_0 ?_
  refine wp_istore_n (L' := [(1, _), (0, _)]) dX9_lives_5 rfl rfl ?_
  refine wp_drop [1, 0] rfl ?_
  rw [show f_X9_lives σ = (l_X9_lives_6 (fu 41) 0 (f_X9_reads σ)) from rfl]
  exact lt_X9_lives_6 X (fu 41) 0 (f_X9_reads σ) hb
end
