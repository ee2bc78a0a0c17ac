/-! ===== what a law says: class ===== -/
abbrev En : Type := (Nat → Int) × (Int → Int)
def EnOK (v : En) : Prop := (∀ k, 0 ≤ v.1 k ∧ v.1 k ≤ 9999) ∧ (∀ c, 0 ≤ v.2 c ∧ v.2 c ≤ 9)
def lim (z : Int) : Int := if z < -1000000 then -1000000 else if 1000000 < z then 1000000 else z
theorem lim_in (z : Int) : -1000000 ≤ lim z ∧ lim z ≤ 1000000 := by
  unfold lim
  split
  · omega
  · split <;> omega
def Bd (f : En → Int) : Prop := ∀ v, EnOK v → -1000000 ≤ f v ∧ f v ≤ 1000000
/-- the names that a law of a sort knows: 0 takes, 1 goes -/
def nmOK (s : Int) (k : Nat) : Prop := k < 5 ∨ (s = 0 ∧ (k = 5 ∨ k = 6)) ∨ (s = 1 ∧ k = 7)
def nmC (k : Nat) : Int := match k with
  | 0 => 308
  | 1 => 321
  | 2 => 310
  | 3 => 322
  | 4 => 323
  | 5 => 309
  | 6 => 324
  | _ => 325
theorem iI_maxR {x y : Int} (h : -2147483648 ≤ x ∧ x < 2147483648 ∧ -2147483648 ≤ y ∧ y < 2147483648 ∧ x ≤ y) : a_max (iI x) (iI y) = iI y := by
  rw [iI_max (by omega)]
  split
  · rfl
  · rw [show x = y by omega]
theorem iI_maxL {x y : Int} (h : -2147483648 ≤ x ∧ x < 2147483648 ∧ -2147483648 ≤ y ∧ y < 2147483648 ∧ y ≤ x) : a_max (iI x) (iI y) = iI x := by
  rw [iI_max (by omega), if_neg (by omega)]
theorem iI_minL {x y : Int} (h : -2147483648 ≤ x ∧ x < 2147483648 ∧ -2147483648 ≤ y ∧ y < 2147483648 ∧ x ≤ y) : a_min (iI x) (iI y) = iI x := by
  rw [iI_min (by omega), if_pos (by omega)]
theorem iI_minR {x y : Int} (h : -2147483648 ≤ x ∧ x < 2147483648 ∧ -2147483648 ≤ y ∧ y < 2147483648 ∧ y ≤ x) : a_min (iI x) (iI y) = iI y := by
  rw [iI_min (by omega)]
  split
  · rw [show x = y by omega]
  · rfl
-- the pile of values
theorem x_pop {d : aI} {e : aJ} {n : Int} (ht : d 93 1 = iI n) (hn : 0 < n ∧ n ≤ 64) : FX1_pop d e = some (d 94 (n - 1).toNat, uI d 93 1 (iI (n - 1)), e) := by
  unfold FX1_pop
  simp (disch := omega) only [nI_iI, lN_lJ, iI_0, lJ_0, iI_add, iI_sub, iI_mul, iI_neg, lJ_add, lJ_sub, lJ_mul, lJ_neg, i_l, l_i, iI_cl, iI_inb, iI_eqT, iI_eqF, iI_ltT, iI_ltF, iI_leT, iI_leF, lJ_eqT, lJ_eqF, lJ_cG, lJ_cE, lJ_cL, lJ_cF, lJ_cGE, lJ_cLE, lJ_cNL, lJ_cNG, Int.cast_ofNat_Int, c_0, c_1, Int.natCast_add, Int.add_zero, cond_true, cond_false, Bool.and_self, Bool.and_true, Bool.true_and, Option.bind_some, decide_true, uI_hit, uI_miss, uI_o, uA_o, uA_s, ↓reduceIte, eq_self, true_or, or_true, or_false, false_or, true_and, and_true, false_and, and_false, or_self, and_self, not_false_eq_true, not_true_eq_false, tn_i, ht]
theorem x_push {d : aI} {e : aJ} {n : Int} (x : Int32) (ht : d 93 1 = iI n) (hn : 0 ≤ n ∧ n < 64) : FX1_push d e x = some ((), uI (uI d 94 n.toNat x) 93 1 (iI (n + 1)), e) := by
  unfold FX1_push
  simp (disch := omega) only [nI_iI, lN_lJ, iI_0, lJ_0, iI_add, iI_sub, iI_mul, iI_neg, lJ_add, lJ_sub, lJ_mul, lJ_neg, i_l, l_i, iI_cl, iI_inb, iI_eqT, iI_eqF, iI_ltT, iI_ltF, iI_leT, iI_leF, lJ_eqT, lJ_eqF, lJ_cG, lJ_cE, lJ_cL, lJ_cF, lJ_cGE, lJ_cLE, lJ_cNL, lJ_cNG, Int.cast_ofNat_Int, c_0, c_1, Int.natCast_add, Int.add_zero, cond_true, cond_false, Bool.and_self, Bool.and_true, Bool.true_and, Option.bind_some, decide_true, uI_hit, uI_miss, uI_o, uA_o, uA_s, ↓reduceIte, eq_self, true_or, or_true, or_false, false_or, true_and, and_true, false_and, and_false, or_self, and_self, not_false_eq_true, not_true_eq_false, tn_i, ht]
theorem x_lim {d : aI} {e : aJ} {z : Int} (hz : -9000000000000000000 ≤ z ∧ z < 9000000000000000000) : FX1_limited d e (lJ z) = some (iI (lim z), d, e) := by
  unfold FX1_limited lim a_maxJ a_minJ
  by_cases h1 : z < -1000000
  · rw [if_pos h1]
    simp (disch := omega) only [nI_iI, lN_lJ, iI_0, lJ_0, iI_add, iI_sub, iI_mul, iI_neg, lJ_add, lJ_sub, lJ_mul, lJ_neg, i_l, l_i, iI_cl, iI_inb, iI_eqT, iI_eqF, iI_ltT, iI_ltF, iI_leT, iI_leF, lJ_eqT, lJ_eqF, lJ_cG, lJ_cE, lJ_cL, lJ_cF, lJ_cGE, lJ_cLE, lJ_cNL, lJ_cNG, Int.cast_ofNat_Int, c_0, c_1, Int.natCast_add, Int.add_zero, cond_true, cond_false, Bool.and_self, Bool.and_true, Bool.true_and, Option.bind_some, decide_true, uI_hit, uI_miss, uI_o, uA_o, uA_s, ↓reduceIte, eq_self, true_or, or_true, or_false, false_or, true_and, and_true, false_and, and_false, or_self, and_self, not_false_eq_true, not_true_eq_false, tn_i, lJ_ltT, lJ_ltF]
  · rw [if_neg h1]
    by_cases h2 : 1000000 < z
    · rw [if_pos h2]
      simp (disch := omega) only [nI_iI, lN_lJ, iI_0, lJ_0, iI_add, iI_sub, iI_mul, iI_neg, lJ_add, lJ_sub, lJ_mul, lJ_neg, i_l, l_i, iI_cl, iI_inb, iI_eqT, iI_eqF, iI_ltT, iI_ltF, iI_leT, iI_leF, lJ_eqT, lJ_eqF, lJ_cG, lJ_cE, lJ_cL, lJ_cF, lJ_cGE, lJ_cLE, lJ_cNL, lJ_cNG, Int.cast_ofNat_Int, c_0, c_1, Int.natCast_add, Int.add_zero, cond_true, cond_false, Bool.and_self, Bool.and_true, Bool.true_and, Option.bind_some, decide_true, uI_hit, uI_miss, uI_o, uA_o, uA_s, ↓reduceIte, eq_self, true_or, or_true, or_false, false_or, true_and, and_true, false_and, and_false, or_self, and_self, not_false_eq_true, not_true_eq_false, tn_i, lJ_ltT, lJ_ltF]
    · rw [if_neg h2]
      by_cases h3 : -1000000 < z
      · by_cases h4 : z < 1000000
        · simp (disch := omega) only [nI_iI, lN_lJ, iI_0, lJ_0, iI_add, iI_sub, iI_mul, iI_neg, lJ_add, lJ_sub, lJ_mul, lJ_neg, i_l, l_i, iI_cl, iI_inb, iI_eqT, iI_eqF, iI_ltT, iI_ltF, iI_leT, iI_leF, lJ_eqT, lJ_eqF, lJ_cG, lJ_cE, lJ_cL, lJ_cF, lJ_cGE, lJ_cLE, lJ_cNL, lJ_cNG, Int.cast_ofNat_Int, c_0, c_1, Int.natCast_add, Int.add_zero, cond_true, cond_false, Bool.and_self, Bool.and_true, Bool.true_and, Option.bind_some, decide_true, uI_hit, uI_miss, uI_o, uA_o, uA_s, ↓reduceIte, eq_self, true_or, or_true, or_false, false_or, true_and, and_true, false_and, and_false, or_self, and_self, not_false_eq_true, not_true_eq_false, tn_i, lJ_ltT, lJ_ltF]
        · rw [show z = 1000000 by omega]
          simp (disch := omega) only [nI_iI, lN_lJ, iI_0, lJ_0, iI_add, iI_sub, iI_mul, iI_neg, lJ_add, lJ_sub, lJ_mul, lJ_neg, i_l, l_i, iI_cl, iI_inb, iI_eqT, iI_eqF, iI_ltT, iI_ltF, iI_leT, iI_leF, lJ_eqT, lJ_eqF, lJ_cG, lJ_cE, lJ_cL, lJ_cF, lJ_cGE, lJ_cLE, lJ_cNL, lJ_cNG, Int.cast_ofNat_Int, c_0, c_1, Int.natCast_add, Int.add_zero, cond_true, cond_false, Bool.and_self, Bool.and_true, Bool.true_and, Option.bind_some, decide_true, uI_hit, uI_miss, uI_o, uA_o, uA_s, ↓reduceIte, eq_self, true_or, or_true, or_false, false_or, true_and, and_true, false_and, and_false, or_self, and_self, not_false_eq_true, not_true_eq_false, tn_i, lJ_ltT, lJ_ltF]
      · rw [show z = -1000000 by omega]
        simp (disch := omega) only [nI_iI, lN_lJ, iI_0, lJ_0, iI_add, iI_sub, iI_mul, iI_neg, lJ_add, lJ_sub, lJ_mul, lJ_neg, i_l, l_i, iI_cl, iI_inb, iI_eqT, iI_eqF, iI_ltT, iI_ltF, iI_leT, iI_leF, lJ_eqT, lJ_eqF, lJ_cG, lJ_cE, lJ_cL, lJ_cF, lJ_cGE, lJ_cLE, lJ_cNL, lJ_cNG, Int.cast_ofNat_Int, c_0, c_1, Int.natCast_add, Int.add_zero, cond_true, cond_false, Bool.and_self, Bool.and_true, Bool.true_and, Option.bind_some, decide_true, uI_hit, uI_miss, uI_o, uA_o, uA_s, ↓reduceIte, eq_self, true_or, or_true, or_false, false_or, true_and, and_true, false_and, and_false, or_self, and_self, not_false_eq_true, not_true_eq_false, tn_i, lJ_ltT, lJ_ltF]
/-- what a law's run leaves as it is -/
def SameX (d d' : aI) : Prop := ∀ k, k ≠ 93 → k ≠ 94 → d' k = d k
theorem SameX.refl (d : aI) : SameX d d := fun _ _ _ => rfl
theorem SameX.trans {d d1 d2 : aI} (h : SameX d d1) (h2 : SameX d1 d2) : SameX d d2 := fun k a b => (h2 k a b).trans (h k a b)
theorem SameX.put {d d1 : aI} {o j : Nat} {x : Int32} (h : SameX d d1) (ho : o = 93 ∨ o = 94) : SameX d (uI d1 o j x) := by
  intro k a b
  rw [uI_o (by omega)]
  exact h k a b
abbrev cS (o1 : Nat) (xf xt x5 x6 : Int32) (last a i : Int) (u w : Option Value) (d : aI) (e : aJ) : aP :=
  (23, [some (.ref 93), some (.ref o1), some (.int xf), some (.int xt), some (.ref 2), some (.int x5), some (.int x6), some (.int (iI last)), some (.int (iI a)), some (.int (iI i)), u, w], d, e)
theorem cs_num {d : aI} {e : aJ} {o1 : Nat} {xf xt x5 x6 : Int32} {last a i n c : Int} {u w : Option Value} (ho : o1 = 62 ∨ o1 = 67 ∨ o1 = 72 ∨ o1 = 77 ∨ o1 = 82) (hc : d o1 a.toNat = iI c) (hr : 0 ≤ a ∧ a < last ∧ last ≤ 300 ∧ 0 ≤ i ∧ i < 300) (ht : d 93 1 = iI n) (hn : 0 ≤ n ∧ n < 64) (hcr : -100000 ≤ c ∧ c < 0) :
    stX1_run (cS o1 xf xt x5 x6 last a i u w d e) = some (cS o1 xf xt x5 x6 last (a + 1) (i + 1) (some (.int (iI c))) w (uI (uI d 94 n.toNat (iI (-1 - c))) 93 1 (iI (n + 1))) e) := by
  show sX1_run_23 d e o1 xf xt x5 x6 (iI last) (iI a) (iI i) u w = _
  unfold sX1_run_23
  simp (disch := omega) only [nI_iI, lN_lJ, iI_0, lJ_0, iI_add, iI_sub, iI_mul, iI_neg, lJ_add, lJ_sub, lJ_mul, lJ_neg, i_l, l_i, iI_cl, iI_inb, iI_eqT, iI_eqF, iI_ltT, iI_ltF, iI_leT, iI_leF, lJ_eqT, lJ_eqF, lJ_cG, lJ_cE, lJ_cL, lJ_cF, lJ_cGE, lJ_cLE, lJ_cNL, lJ_cNG, Int.cast_ofNat_Int, c_0, c_1, Int.natCast_add, Int.add_zero, cond_true, cond_false, Bool.and_self, Bool.and_true, Bool.true_and, Option.bind_some, decide_true, uI_hit, uI_miss, uI_o, uA_o, uA_s, ↓reduceIte, eq_self, true_or, or_true, or_false, false_or, true_and, and_true, false_and, and_false, or_self, and_self, not_false_eq_true, not_true_eq_false, tn_i, ho, hc, x_push _ ht]
theorem cs_if0 {d : aI} {e : aJ} {o1 : Nat} {xf xt x5 x6 : Int32} {last a i n t : Int} {u w : Option Value} (ho : o1 = 62 ∨ o1 = 67 ∨ o1 = 72 ∨ o1 = 77 ∨ o1 = 82) (hc : d o1 a.toNat = iI 314) (hr : 0 ≤ a ∧ a + 1 < last ∧ last ≤ 300 ∧ 0 ≤ i ∧ i < 300) (ht : d 93 1 = iI n) (hn : 0 < n ∧ n ≤ 64) (hv : d 94 (n - 1).toNat = iI 0) (hj : d o1 (a + 1).toNat = iI t) (htr : a + 1 ≤ t ∧ t ≤ 300) :
    stX1_run (cS o1 xf xt x5 x6 last a i u w d e) = some (cS o1 xf xt x5 x6 last t (i + 1) (some (.int (iI 314))) (some (.int (iI 1))) (uI d 93 1 (iI (n - 1))) e) := by
  have ho2 : o1 ≠ 93 := by omega
  show sX1_run_23 d e o1 xf xt x5 x6 (iI last) (iI a) (iI i) u w = _
  unfold sX1_run_23
  simp (disch := omega) only [nI_iI, lN_lJ, iI_0, lJ_0, iI_add, iI_sub, iI_mul, iI_neg, lJ_add, lJ_sub, lJ_mul, lJ_neg, i_l, l_i, iI_cl, iI_inb, iI_eqT, iI_eqF, iI_ltT, iI_ltF, iI_leT, iI_leF, lJ_eqT, lJ_eqF, lJ_cG, lJ_cE, lJ_cL, lJ_cF, lJ_cGE, lJ_cLE, lJ_cNL, lJ_cNG, Int.cast_ofNat_Int, c_0, c_1, Int.natCast_add, Int.add_zero, cond_true, cond_false, Bool.and_self, Bool.and_true, Bool.true_and, Option.bind_some, decide_true, uI_hit, uI_miss, uI_o, uA_o, uA_s, ↓reduceIte, eq_self, true_or, or_true, or_false, false_or, true_and, and_true, false_and, and_false, or_self, and_self, not_false_eq_true, not_true_eq_false, tn_i, ho, hc, x_pop ht, hv, hj, iI_maxR]
theorem cs_if1 {d : aI} {e : aJ} {o1 : Nat} {xf xt x5 x6 : Int32} {last a i n : Int} {u w : Option Value} (ho : o1 = 62 ∨ o1 = 67 ∨ o1 = 72 ∨ o1 = 77 ∨ o1 = 82) (hc : d o1 a.toNat = iI 314) (hr : 0 ≤ a ∧ a + 1 < last ∧ last ≤ 300 ∧ 0 ≤ i ∧ i < 300) (ht : d 93 1 = iI n) (hn : 0 < n ∧ n ≤ 64) (hv : d 94 (n - 1).toNat = iI 1) :
    stX1_run (cS o1 xf xt x5 x6 last a i u w d e) = some (cS o1 xf xt x5 x6 last (a + 1 + 1) (i + 1) (some (.int (iI 314))) (some (.int (iI 0))) (uI d 93 1 (iI (n - 1))) e) := by
  show sX1_run_23 d e o1 xf xt x5 x6 (iI last) (iI a) (iI i) u w = _
  unfold sX1_run_23
  simp (disch := omega) only [nI_iI, lN_lJ, iI_0, lJ_0, iI_add, iI_sub, iI_mul, iI_neg, lJ_add, lJ_sub, lJ_mul, lJ_neg, i_l, l_i, iI_cl, iI_inb, iI_eqT, iI_eqF, iI_ltT, iI_ltF, iI_leT, iI_leF, lJ_eqT, lJ_eqF, lJ_cG, lJ_cE, lJ_cL, lJ_cF, lJ_cGE, lJ_cLE, lJ_cNL, lJ_cNG, Int.cast_ofNat_Int, c_0, c_1, Int.natCast_add, Int.add_zero, cond_true, cond_false, Bool.and_self, Bool.and_true, Bool.true_and, Option.bind_some, decide_true, uI_hit, uI_miss, uI_o, uA_o, uA_s, ↓reduceIte, eq_self, true_or, or_true, or_false, false_or, true_and, and_true, false_and, and_false, or_self, and_self, not_false_eq_true, not_true_eq_false, tn_i, ho, hc, x_pop ht, hv]
theorem cs_else {d : aI} {e : aJ} {o1 : Nat} {xf xt x5 x6 : Int32} {last a i t : Int} {u w : Option Value} (ho : o1 = 62 ∨ o1 = 67 ∨ o1 = 72 ∨ o1 = 77 ∨ o1 = 82) (hc : d o1 a.toNat = iI 316) (hr : 0 ≤ a ∧ a + 1 < last ∧ last ≤ 300 ∧ 0 ≤ i ∧ i < 300) (hj : d o1 (a + 1).toNat = iI t) (htr : a + 1 ≤ t ∧ t ≤ 300) :
    stX1_run (cS o1 xf xt x5 x6 last a i u w d e) = some (cS o1 xf xt x5 x6 last t (i + 1) (some (.int (iI 316))) (some (.int (iI 1))) d e) := by
  show sX1_run_23 d e o1 xf xt x5 x6 (iI last) (iI a) (iI i) u w = _
  unfold sX1_run_23
  simp (disch := omega) only [nI_iI, lN_lJ, iI_0, lJ_0, iI_add, iI_sub, iI_mul, iI_neg, lJ_add, lJ_sub, lJ_mul, lJ_neg, i_l, l_i, iI_cl, iI_inb, iI_eqT, iI_eqF, iI_ltT, iI_ltF, iI_leT, iI_leF, lJ_eqT, lJ_eqF, lJ_cG, lJ_cE, lJ_cL, lJ_cF, lJ_cGE, lJ_cLE, lJ_cNL, lJ_cNG, Int.cast_ofNat_Int, c_0, c_1, Int.natCast_add, Int.add_zero, cond_true, cond_false, Bool.and_self, Bool.and_true, Bool.true_and, Option.bind_some, decide_true, uI_hit, uI_miss, uI_o, uA_o, uA_s, ↓reduceIte, eq_self, true_or, or_true, or_false, false_or, true_and, and_true, false_and, and_false, or_self, and_self, not_false_eq_true, not_true_eq_false, tn_i, ho, hc, hj, iI_maxR]
theorem cs_name {d : aI} {e : aJ} {o1 : Nat} {xf xt x5 x6 : Int32} {last a i n c z : Int} {u w : Option Value} (ho : o1 = 62 ∨ o1 = 67 ∨ o1 = 72 ∨ o1 = 77 ∨ o1 = 82) (hc : d o1 a.toNat = iI c) (hr : 0 ≤ a ∧ a < last ∧ last ≤ 300 ∧ 0 ≤ i ∧ i < 300) (ht : d 93 1 = iI n) (hn : 0 ≤ n ∧ n < 64) (hcr : 0 ≤ c ∧ c < 1000 ∧ c ≠ 314 ∧ c ≠ 316) (h1 : FX1_isName d e (iI c) = some (iI 1, d, e)) (h2 : FX1_named d e (iI c) x5 x6 = some (iI z, d, e)) :
    stX1_run (cS o1 xf xt x5 x6 last a i u w d e) = some (cS o1 xf xt x5 x6 last (a + 1) (i + 1) (some (.int (iI c))) w (uI (uI d 94 n.toNat (iI z)) 93 1 (iI (n + 1))) e) := by
  show sX1_run_23 d e o1 xf xt x5 x6 (iI last) (iI a) (iI i) u w = _
  unfold sX1_run_23
  simp (disch := omega) only [nI_iI, lN_lJ, iI_0, lJ_0, iI_add, iI_sub, iI_mul, iI_neg, lJ_add, lJ_sub, lJ_mul, lJ_neg, i_l, l_i, iI_cl, iI_inb, iI_eqT, iI_eqF, iI_ltT, iI_ltF, iI_leT, iI_leF, lJ_eqT, lJ_eqF, lJ_cG, lJ_cE, lJ_cL, lJ_cF, lJ_cGE, lJ_cLE, lJ_cNL, lJ_cNG, Int.cast_ofNat_Int, c_0, c_1, Int.natCast_add, Int.add_zero, cond_true, cond_false, Bool.and_self, Bool.and_true, Bool.true_and, Option.bind_some, decide_true, uI_hit, uI_miss, uI_o, uA_o, uA_s, ↓reduceIte, eq_self, true_or, or_true, or_false, false_or, true_and, and_true, false_and, and_false, or_self, and_self, not_false_eq_true, not_true_eq_false, tn_i, ho, hc, h1, h2, x_push _ ht]
theorem cs_one {d : aI} {e : aJ} {o1 : Nat} {xf xt x5 x6 : Int32} {last a i n c x z : Int} {u w : Option Value} (ho : o1 = 62 ∨ o1 = 67 ∨ o1 = 72 ∨ o1 = 77 ∨ o1 = 82) (hc : d o1 a.toNat = iI c) (hr : 0 ≤ a ∧ a < last ∧ last ≤ 300 ∧ 0 ≤ i ∧ i < 300) (ht : d 93 1 = iI n) (hn : 0 < n ∧ n ≤ 64) (hv : d 94 (n - 1).toNat = iI x) (hcr : c = 5 ∨ c = 320 ∨ c = 313) (h2 : ∀ d' : aI, SameX d d' → FX1_ofOne d' e (iI c) (iI x) = some (iI z, d', e)) :
    stX1_run (cS o1 xf xt x5 x6 last a i u w d e) = some (cS o1 xf xt x5 x6 last (a + 1) (i + 1) (some (.int (iI c))) w (uI (uI (uI d 93 1 (iI (n - 1))) 94 (n - 1).toNat (iI z)) 93 1 (iI (n - 1 + 1))) e) := by
  have h1 : FX1_isName d e (iI c) = some (iI 0, d, e) := by
    unfold FX1_isName
    rcases hcr with rfl | rfl | rfl
    · simp (disch := omega) only [nI_iI, lN_lJ, iI_0, lJ_0, iI_add, iI_sub, iI_mul, iI_neg, lJ_add, lJ_sub, lJ_mul, lJ_neg, i_l, l_i, iI_cl, iI_inb, iI_eqT, iI_eqF, iI_ltT, iI_ltF, iI_leT, iI_leF, lJ_eqT, lJ_eqF, lJ_cG, lJ_cE, lJ_cL, lJ_cF, lJ_cGE, lJ_cLE, lJ_cNL, lJ_cNG, Int.cast_ofNat_Int, c_0, c_1, Int.natCast_add, Int.add_zero, cond_true, cond_false, Bool.and_self, Bool.and_true, Bool.true_and, Option.bind_some, decide_true, uI_hit, uI_miss, uI_o, uA_o, uA_s, ↓reduceIte, eq_self, true_or, or_true, or_false, false_or, true_and, and_true, false_and, and_false, or_self, and_self, not_false_eq_true, not_true_eq_false, tn_i]
    · simp (disch := omega) only [nI_iI, lN_lJ, iI_0, lJ_0, iI_add, iI_sub, iI_mul, iI_neg, lJ_add, lJ_sub, lJ_mul, lJ_neg, i_l, l_i, iI_cl, iI_inb, iI_eqT, iI_eqF, iI_ltT, iI_ltF, iI_leT, iI_leF, lJ_eqT, lJ_eqF, lJ_cG, lJ_cE, lJ_cL, lJ_cF, lJ_cGE, lJ_cLE, lJ_cNL, lJ_cNG, Int.cast_ofNat_Int, c_0, c_1, Int.natCast_add, Int.add_zero, cond_true, cond_false, Bool.and_self, Bool.and_true, Bool.true_and, Option.bind_some, decide_true, uI_hit, uI_miss, uI_o, uA_o, uA_s, ↓reduceIte, eq_self, true_or, or_true, or_false, false_or, true_and, and_true, false_and, and_false, or_self, and_self, not_false_eq_true, not_true_eq_false, tn_i]
    · simp (disch := omega) only [nI_iI, lN_lJ, iI_0, lJ_0, iI_add, iI_sub, iI_mul, iI_neg, lJ_add, lJ_sub, lJ_mul, lJ_neg, i_l, l_i, iI_cl, iI_inb, iI_eqT, iI_eqF, iI_ltT, iI_ltF, iI_leT, iI_leF, lJ_eqT, lJ_eqF, lJ_cG, lJ_cE, lJ_cL, lJ_cF, lJ_cGE, lJ_cLE, lJ_cNL, lJ_cNG, Int.cast_ofNat_Int, c_0, c_1, Int.natCast_add, Int.add_zero, cond_true, cond_false, Bool.and_self, Bool.and_true, Bool.true_and, Option.bind_some, decide_true, uI_hit, uI_miss, uI_o, uA_o, uA_s, ↓reduceIte, eq_self, true_or, or_true, or_false, false_or, true_and, and_true, false_and, and_false, or_self, and_self, not_false_eq_true, not_true_eq_false, tn_i]
  have h3 := h2 (uI d 93 1 (iI (n - 1))) ((SameX.refl d).put (Or.inl rfl))
  have h4 : uI d 93 1 (iI (n - 1)) 93 1 = iI (n - 1) := uI_hit rfl
  show sX1_run_23 d e o1 xf xt x5 x6 (iI last) (iI a) (iI i) u w = _
  unfold sX1_run_23
  rcases hcr with rfl | rfl | rfl
  · simp (disch := omega) only [nI_iI, lN_lJ, iI_0, lJ_0, iI_add, iI_sub, iI_mul, iI_neg, lJ_add, lJ_sub, lJ_mul, lJ_neg, i_l, l_i, iI_cl, iI_inb, iI_eqT, iI_eqF, iI_ltT, iI_ltF, iI_leT, iI_leF, lJ_eqT, lJ_eqF, lJ_cG, lJ_cE, lJ_cL, lJ_cF, lJ_cGE, lJ_cLE, lJ_cNL, lJ_cNG, Int.cast_ofNat_Int, c_0, c_1, Int.natCast_add, Int.add_zero, cond_true, cond_false, Bool.and_self, Bool.and_true, Bool.true_and, Option.bind_some, decide_true, uI_hit, uI_miss, uI_o, uA_o, uA_s, ↓reduceIte, eq_self, true_or, or_true, or_false, false_or, true_and, and_true, false_and, and_false, or_self, and_self, not_false_eq_true, not_true_eq_false, tn_i, ho, hc, h1, hv, h3, x_pop ht, x_push _ h4]
  · simp (disch := omega) only [nI_iI, lN_lJ, iI_0, lJ_0, iI_add, iI_sub, iI_mul, iI_neg, lJ_add, lJ_sub, lJ_mul, lJ_neg, i_l, l_i, iI_cl, iI_inb, iI_eqT, iI_eqF, iI_ltT, iI_ltF, iI_leT, iI_leF, lJ_eqT, lJ_eqF, lJ_cG, lJ_cE, lJ_cL, lJ_cF, lJ_cGE, lJ_cLE, lJ_cNL, lJ_cNG, Int.cast_ofNat_Int, c_0, c_1, Int.natCast_add, Int.add_zero, cond_true, cond_false, Bool.and_self, Bool.and_true, Bool.true_and, Option.bind_some, decide_true, uI_hit, uI_miss, uI_o, uA_o, uA_s, ↓reduceIte, eq_self, true_or, or_true, or_false, false_or, true_and, and_true, false_and, and_false, or_self, and_self, not_false_eq_true, not_true_eq_false, tn_i, ho, hc, h1, hv, h3, x_pop ht, x_push _ h4]
  · simp (disch := omega) only [nI_iI, lN_lJ, iI_0, lJ_0, iI_add, iI_sub, iI_mul, iI_neg, lJ_add, lJ_sub, lJ_mul, lJ_neg, i_l, l_i, iI_cl, iI_inb, iI_eqT, iI_eqF, iI_ltT, iI_ltF, iI_leT, iI_leF, lJ_eqT, lJ_eqF, lJ_cG, lJ_cE, lJ_cL, lJ_cF, lJ_cGE, lJ_cLE, lJ_cNL, lJ_cNG, Int.cast_ofNat_Int, c_0, c_1, Int.natCast_add, Int.add_zero, cond_true, cond_false, Bool.and_self, Bool.and_true, Bool.true_and, Option.bind_some, decide_true, uI_hit, uI_miss, uI_o, uA_o, uA_s, ↓reduceIte, eq_self, true_or, or_true, or_false, false_or, true_and, and_true, false_and, and_false, or_self, and_self, not_false_eq_true, not_true_eq_false, tn_i, ho, hc, h1, hv, h3, x_pop ht, x_push _ h4]
theorem cs_two {d : aI} {e : aJ} {o1 : Nat} {xf xt x5 x6 : Int32} {last a i n c x y z : Int} {u w : Option Value} (ho : o1 = 62 ∨ o1 = 67 ∨ o1 = 72 ∨ o1 = 77 ∨ o1 = 82) (hc : d o1 a.toNat = iI c) (hr : 0 ≤ a ∧ a < last ∧ last ≤ 300 ∧ 0 ≤ i ∧ i < 300) (ht : d 93 1 = iI n) (hn : 1 < n ∧ n ≤ 64) (hv : d 94 (n - 1).toNat = iI y) (hv2 : d 94 (n - 1 - 1).toNat = iI x) (hxy : -1000000 ≤ x ∧ x ≤ 1000000 ∧ -1000000 ≤ y ∧ y ≤ 1000000) (hcr : 0 ≤ c ∧ c < 320 ∧ c ≠ 5 ∧ c ≠ 313 ∧ c ≠ 314 ∧ c ≠ 316 ∧ c ≠ 308 ∧ c ≠ 309 ∧ c ≠ 310) (h2 : ∀ d' : aI, FX1_ofTwo d' e (iI c) (lJ x) (lJ y) = some (lJ z, d', e)) (hz : -9000000000000000000 ≤ z ∧ z < 9000000000000000000) :
    stX1_run (cS o1 xf xt x5 x6 last a i u w d e) = some (cS o1 xf xt x5 x6 last (a + 1) (i + 1) (some (.int (iI c))) (some (.int (iI y))) (uI (uI (uI (uI d 93 1 (iI (n - 1))) 93 1 (iI (n - 1 - 1))) 94 (n - 1 - 1).toNat (iI (lim z))) 93 1 (iI (n - 1 - 1 + 1))) e) := by
  have h1 : FX1_isName d e (iI c) = some (iI 0, d, e) := by
    unfold FX1_isName
    simp (disch := omega) only [nI_iI, lN_lJ, iI_0, lJ_0, iI_add, iI_sub, iI_mul, iI_neg, lJ_add, lJ_sub, lJ_mul, lJ_neg, i_l, l_i, iI_cl, iI_inb, iI_eqT, iI_eqF, iI_ltT, iI_ltF, iI_leT, iI_leF, lJ_eqT, lJ_eqF, lJ_cG, lJ_cE, lJ_cL, lJ_cF, lJ_cGE, lJ_cLE, lJ_cNL, lJ_cNG, Int.cast_ofNat_Int, c_0, c_1, Int.natCast_add, Int.add_zero, cond_true, cond_false, Bool.and_self, Bool.and_true, Bool.true_and, Option.bind_some, decide_true, uI_hit, uI_miss, uI_o, uA_o, uA_s, ↓reduceIte, eq_self, true_or, or_true, or_false, false_or, true_and, and_true, false_and, and_false, or_self, and_self, not_false_eq_true, not_true_eq_false, tn_i]
  have h4 : uI d 93 1 (iI (n - 1)) 93 1 = iI (n - 1) := uI_hit rfl
  have h5 : uI (uI d 93 1 (iI (n - 1))) 93 1 (iI (n - 1 - 1)) 93 1 = iI (n - 1 - 1) := uI_hit rfl
  show sX1_run_23 d e o1 xf xt x5 x6 (iI last) (iI a) (iI i) u w = _
  unfold sX1_run_23
  simp (disch := omega) only [nI_iI, lN_lJ, iI_0, lJ_0, iI_add, iI_sub, iI_mul, iI_neg, lJ_add, lJ_sub, lJ_mul, lJ_neg, i_l, l_i, iI_cl, iI_inb, iI_eqT, iI_eqF, iI_ltT, iI_ltF, iI_leT, iI_leF, lJ_eqT, lJ_eqF, lJ_cG, lJ_cE, lJ_cL, lJ_cF, lJ_cGE, lJ_cLE, lJ_cNL, lJ_cNG, Int.cast_ofNat_Int, c_0, c_1, Int.natCast_add, Int.add_zero, cond_true, cond_false, Bool.and_self, Bool.and_true, Bool.true_and, Option.bind_some, decide_true, uI_hit, uI_miss, uI_o, uA_o, uA_s, ↓reduceIte, eq_self, true_or, or_true, or_false, false_or, true_and, and_true, false_and, and_false, or_self, and_self, not_false_eq_true, not_true_eq_false, tn_i, ho, hc, h1, hv, hv2, h2, x_lim, x_pop ht, x_pop h4, x_push _ h5]
