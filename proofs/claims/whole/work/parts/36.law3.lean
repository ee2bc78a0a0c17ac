/-! ===== pieces of a law's code: the signs ===== -/
theorem CV.cond {s : Int} {C : Int → Int} {a b m q need need2 need3 : Int} {f : En → Bool} {g h : En → Int} (hf : CV s C a b need (fun v => tv (f v))) (c1 : C b = 314) (c2 : C (b + 1) = m + 2) (hg : CV s C (b + 2) m need2 g) (c3 : C m = 316) (c4 : C (m + 1) = q) (hh : CV s C (m + 2) q need3 h) (k : Int) (hk : need ≤ k ∧ need2 ≤ k ∧ need3 ≤ k) :
    CV s C a q k (fun v => if f v then g v else h v) := by
  obtain ⟨ha, hab, hne, hbf, hrun⟩ := hf
  obtain ⟨ga, gab, gne, gbf, grun⟩ := hg
  obtain ⟨la, lab, lne, lbf, lrun⟩ := hh
  refine ⟨ha, by omega, by omega, fun v hv => ?_, fun d e o1 xf xt x5 x6 v last i n u w h1 h2 h3 h4 h5 h6 h7 h8 h9 h10 h11 => ?_⟩
  · show -1000000 ≤ (if f v then g v else h v) ∧ (if f v then g v else h v) ≤ 1000000
    cases f v
    · exact lbf v hv
    · exact gbf v hv
  obtain ⟨d1, i1, u1, w1, r1, r2, r3, r4, r5, r6, r7⟩ := hrun d e o1 xf xt x5 x6 v last i n u w h1 h2 h3 (fun j ja jb => h4 j ja (by omega)) h5 h6 (by omega) (by omega) h9 h10 (by omega)
  have cell : ∀ (z x : Int), a ≤ z → z < q → C z = x → d1 o1 z.toNat = iI x := by
    intro z x z1 z2 z3
    have := h4 z.toNat (by omega) (by omega)
    rw [tn_i (by omega), z3] at this
    rw [r4 o1 (by omega) (by omega)]
    exact this
  cases hv : f v
  · simp only [hv, show tv false = 0 from rfl] at r6
    have k1 := a_run_step (cs_if0 (e := e) (xf := xf) (xt := xt) (x5 := x5) (x6 := x6) (u := u1) (w := w1) (last := last) (a := b) (i := i1) h1 (cell b 314 (by omega) (by omega) c1) (by omega) r5 (by omega) (by rw [show n + 1 - 1 = n by omega]; exact r6) (cell (b + 1) (m + 2) (by omega) (by omega) c2) (by omega)) rfl
    have e1 : SameX d (uI d1 93 1 (iI (n + 1 - 1))) := r4.put (Or.inl rfl)
    have e2 : uI d1 93 1 (iI (n + 1 - 1)) 93 1 = iI n := by rw [uI_hit rfl]; congr 1; omega
    obtain ⟨d2, i2, u2, w2, s1, s2, s3, s4, s5, s6, s7⟩ := lrun (uI d1 93 1 (iI (n + 1 - 1))) e o1 xf xt x5 x6 v last (i1 + 1) n (some (.int (iI 314))) (some (.int (iI 1))) h1 h2 (h3.of e1) (fun j ja jb => by rw [e1 o1 (by omega) (by omega)]; exact h4 j (by omega) jb) e2 h6 (by omega) h8 h9 (by omega) (by omega)
    refine ⟨d2, i2, u2, w2, (r1.trans k1).trans s1, by omega, by omega, e1.trans s4, s5, ?_, fun j hj => ?_⟩
    · show d2 94 n.toNat = iI (if f v then g v else h v)
      rw [hv]
      exact s6
    rw [s7 j hj, uI_o (by omega)]
    exact r7 j hj
  · simp only [hv, show tv true = 1 from rfl] at r6
    have k1 := a_run_step (cs_if1 (e := e) (xf := xf) (xt := xt) (x5 := x5) (x6 := x6) (u := u1) (w := w1) (last := last) (a := b) (i := i1) h1 (cell b 314 (by omega) (by omega) c1) (by omega) r5 (by omega) (by rw [show n + 1 - 1 = n by omega]; exact r6)) rfl
    have e1 : SameX d (uI d1 93 1 (iI (n + 1 - 1))) := r4.put (Or.inl rfl)
    have e2 : uI d1 93 1 (iI (n + 1 - 1)) 93 1 = iI n := by rw [uI_hit rfl]; congr 1; omega
    rw [show b + 1 + 1 = b + 2 by omega] at k1
    obtain ⟨d2, i2, u2, w2, s1, s2, s3, s4, s5, s6, s7⟩ := grun (uI d1 93 1 (iI (n + 1 - 1))) e o1 xf xt x5 x6 v last (i1 + 1) n (some (.int (iI 314))) (some (.int (iI 0))) h1 h2 (h3.of e1) (fun j ja jb => by rw [e1 o1 (by omega) (by omega)]; exact h4 j (by omega) (by omega)) e2 h6 (by omega) (by omega) h9 (by omega) (by omega)
    have k2 := a_run_step (cs_else (e := e) (xf := xf) (xt := xt) (x5 := x5) (x6 := x6) (u := u2) (w := w2) (last := last) (a := m) (i := i2) (d := d2) (t := q) h1 (by
      rw [s4 o1 (by omega) (by omega), uI_o (by omega)]
      exact cell m 316 (by omega) (by omega) c3) (by omega) (by
      rw [s4 o1 (by omega) (by omega), uI_o (by omega)]
      exact cell (m + 1) q (by omega) (by omega) c4) (by omega)) rfl
    refine ⟨d2, i2 + 1, _, _, ((r1.trans k1).trans s1).trans k2, by omega, by omega, e1.trans s4, s5, ?_, fun j hj => ?_⟩
    · show d2 94 n.toNat = iI (if f v then g v else h v)
      rw [hv]
      exact s6
    rw [s7 j hj, uI_o (by omega)]
    exact r7 j hj
/-- turned: how many places up the second is from the first -/
def turnS (x y : Int) : Int := ((if y < 0 then -y else y) % 10 - (if x < 0 then -x else x) % 10 + 10) % 10
def divS (x y : Int) : Int := if y = 0 then 0 else x.tdiv y
theorem divS_in {x y : Int} (h : -1000000 ≤ x ∧ x ≤ 1000000) : -1000000 ≤ divS x y ∧ divS x y ≤ 1000000 := by
  unfold divS
  split
  · omega
  · have g := Int.natAbs_tdiv_le_natAbs x y
    omega
theorem lim_id {z : Int} (h : -1000000 ≤ z ∧ z ≤ 1000000) : lim z = z := by
  unfold lim
  rw [if_neg (by omega), if_neg (by omega)]
theorem CV.add {s : Int} {C : Int → Int} {a b m need need2 : Int} {f g : En → Int} (h : CV s C a b need f) (h' : CV s C b m need2 g) (hC : C m = 43) (k : Int) (hk : need ≤ k ∧ need2 + 1 ≤ k) : CV s C a (m + 1) k (fun v => lim (f v + g v)) := by
  have bf := h.2.2.2.1
  have bg := h'.2.2.2.1
  refine h.two (r := fun x y => x + y) h' hC (by omega) (fun d e v hv => ?_) (fun v hv => by have := bf v hv; have := bg v hv; show _ ≤ f v + g v ∧ f v + g v < _; omega) k hk
  unfold FX1_ofTwo
  simp (disch := omega) only [nI_iI, lN_lJ, iI_0, lJ_0, iI_add, iI_sub, iI_mul, iI_neg, lJ_add, lJ_sub, lJ_mul, lJ_neg, i_l, l_i, iI_cl, iI_inb, iI_eqT, iI_eqF, iI_ltT, iI_ltF, iI_leT, iI_leF, lJ_eqT, lJ_eqF, lJ_cG, lJ_cE, lJ_cL, lJ_cF, lJ_cGE, lJ_cLE, lJ_cNL, lJ_cNG, Int.cast_ofNat_Int, c_0, c_1, Int.natCast_add, Int.add_zero, cond_true, cond_false, Bool.and_self, Bool.and_true, Bool.true_and, Option.bind_some, decide_true, uI_hit, uI_miss, uI_o, uA_o, uA_s, ↓reduceIte, eq_self, true_or, or_true, or_false, false_or, true_and, and_true, false_and, and_false, or_self, and_self, not_false_eq_true, not_true_eq_false, tn_i]
theorem CV.sub {s : Int} {C : Int → Int} {a b m need need2 : Int} {f g : En → Int} (h : CV s C a b need f) (h' : CV s C b m need2 g) (hC : C m = 45) (k : Int) (hk : need ≤ k ∧ need2 + 1 ≤ k) : CV s C a (m + 1) k (fun v => lim (f v - g v)) := by
  have bf := h.2.2.2.1
  have bg := h'.2.2.2.1
  refine h.two (r := fun x y => x - y) h' hC (by omega) (fun d e v hv => ?_) (fun v hv => by have := bf v hv; have := bg v hv; show _ ≤ f v - g v ∧ f v - g v < _; omega) k hk
  unfold FX1_ofTwo
  simp (disch := omega) only [nI_iI, lN_lJ, iI_0, lJ_0, iI_add, iI_sub, iI_mul, iI_neg, lJ_add, lJ_sub, lJ_mul, lJ_neg, i_l, l_i, iI_cl, iI_inb, iI_eqT, iI_eqF, iI_ltT, iI_ltF, iI_leT, iI_leF, lJ_eqT, lJ_eqF, lJ_cG, lJ_cE, lJ_cL, lJ_cF, lJ_cGE, lJ_cLE, lJ_cNL, lJ_cNG, Int.cast_ofNat_Int, c_0, c_1, Int.natCast_add, Int.add_zero, cond_true, cond_false, Bool.and_self, Bool.and_true, Bool.true_and, Option.bind_some, decide_true, uI_hit, uI_miss, uI_o, uA_o, uA_s, ↓reduceIte, eq_self, true_or, or_true, or_false, false_or, true_and, and_true, false_and, and_false, or_self, and_self, not_false_eq_true, not_true_eq_false, tn_i]
theorem mul_in {x y : Int} (h : -1000000 ≤ x ∧ x ≤ 1000000 ∧ -1000000 ≤ y ∧ y ≤ 1000000) : -1000000000000 ≤ x * y ∧ x * y ≤ 1000000000000 := by
  have g : (x * y).natAbs ≤ 1000000 * 1000000 := by
    rw [Int.natAbs_mul]
    exact Nat.mul_le_mul (by omega) (by omega)
  omega
theorem CV.mul {s : Int} {C : Int → Int} {a b m need need2 : Int} {f g : En → Int} (h : CV s C a b need f) (h' : CV s C b m need2 g) (hC : C m = 42) (k : Int) (hk : need ≤ k ∧ need2 + 1 ≤ k) : CV s C a (m + 1) k (fun v => lim (f v * g v)) := by
  have bf := h.2.2.2.1
  have bg := h'.2.2.2.1
  refine h.two (r := fun x y => x * y) h' hC (by omega) (fun d e v hv => ?_) (fun v hv => by have := bf v hv; have := bg v hv; have := mul_in (x := f v) (y := g v) (by omega); show _ ≤ f v * g v ∧ f v * g v < _; omega) k hk
  unfold FX1_ofTwo
  simp (disch := omega) only [nI_iI, lN_lJ, iI_0, lJ_0, iI_add, iI_sub, iI_mul, iI_neg, lJ_add, lJ_sub, lJ_mul, lJ_neg, i_l, l_i, iI_cl, iI_inb, iI_eqT, iI_eqF, iI_ltT, iI_ltF, iI_leT, iI_leF, lJ_eqT, lJ_eqF, lJ_cG, lJ_cE, lJ_cL, lJ_cF, lJ_cGE, lJ_cLE, lJ_cNL, lJ_cNG, Int.cast_ofNat_Int, c_0, c_1, Int.natCast_add, Int.add_zero, cond_true, cond_false, Bool.and_self, Bool.and_true, Bool.true_and, Option.bind_some, decide_true, uI_hit, uI_miss, uI_o, uA_o, uA_s, ↓reduceIte, eq_self, true_or, or_true, or_false, false_or, true_and, and_true, false_and, and_false, or_self, and_self, not_false_eq_true, not_true_eq_false, tn_i]
theorem CV.div {s : Int} {C : Int → Int} {a b m need need2 : Int} {f g : En → Int} (h : CV s C a b need f) (h' : CV s C b m need2 g) (hC : C m = 47) (k : Int) (hk : need ≤ k ∧ need2 + 1 ≤ k) : CV s C a (m + 1) k (fun v => lim (divS (f v) (g v))) := by
  have bf := h.2.2.2.1
  have bg := h'.2.2.2.1
  refine h.two (r := divS) h' hC (by omega) (fun d e v hv => ?_) (fun v hv => by have := bf v hv; have := divS_in (x := f v) (y := g v) (by omega); omega) k hk
  have b1 := bf v hv
  have b2 := bg v hv
  generalize f v = x at b1
  generalize g v = y at b2
  unfold FX1_ofTwo divS
  by_cases h0 : y = 0
  · rw [if_pos h0]
    simp (disch := omega) only [nI_iI, lN_lJ, iI_0, lJ_0, iI_add, iI_sub, iI_mul, iI_neg, lJ_add, lJ_sub, lJ_mul, lJ_neg, i_l, l_i, iI_cl, iI_inb, iI_eqT, iI_eqF, iI_ltT, iI_ltF, iI_leT, iI_leF, lJ_eqT, lJ_eqF, lJ_cG, lJ_cE, lJ_cL, lJ_cF, lJ_cGE, lJ_cLE, lJ_cNL, lJ_cNG, Int.cast_ofNat_Int, c_0, c_1, Int.natCast_add, Int.add_zero, cond_true, cond_false, Bool.and_self, Bool.and_true, Bool.true_and, Option.bind_some, decide_true, uI_hit, uI_miss, uI_o, uA_o, uA_s, ↓reduceIte, eq_self, true_or, or_true, or_false, false_or, true_and, and_true, false_and, and_false, or_self, and_self, not_false_eq_true, not_true_eq_false, tn_i]
  · rw [if_neg h0]
    simp (disch := omega) only [nI_iI, lN_lJ, iI_0, lJ_0, iI_add, iI_sub, iI_mul, iI_neg, lJ_add, lJ_sub, lJ_mul, lJ_neg, i_l, l_i, iI_cl, iI_inb, iI_eqT, iI_eqF, iI_ltT, iI_ltF, iI_leT, iI_leF, lJ_eqT, lJ_eqF, lJ_cG, lJ_cE, lJ_cL, lJ_cF, lJ_cGE, lJ_cLE, lJ_cNL, lJ_cNG, Int.cast_ofNat_Int, c_0, c_1, Int.natCast_add, Int.add_zero, cond_true, cond_false, Bool.and_self, Bool.and_true, Bool.true_and, Option.bind_some, decide_true, uI_hit, uI_miss, uI_o, uA_o, uA_s, ↓reduceIte, eq_self, true_or, or_true, or_false, false_or, true_and, and_true, false_and, and_false, or_self, and_self, not_false_eq_true, not_true_eq_false, tn_i, lJ_div]
theorem CV.turn {s : Int} {C : Int → Int} {a b m need need2 : Int} {f g : En → Int} (h : CV s C a b need f) (h' : CV s C b m need2 g) (hC : C m = 312) (k : Int) (hk : need ≤ k ∧ need2 + 1 ≤ k) : CV s C a (m + 1) k (fun v => turnS (f v) (g v)) := by
  have bf := h.2.2.2.1
  have bg := h'.2.2.2.1
  have key := h.two (r := turnS) h' hC (by omega) (fun d e v hv => by
    have b1 := bf v hv
    have b2 := bg v hv
    generalize f v = x at b1
    generalize g v = y at b2
    unfold FX1_ofTwo turnS
    have g1 : 0 ≤ (if y < 0 then -y else y) ∧ (if y < 0 then -y else y) ≤ 1000000 := by split <;> omega
    have g2 : 0 ≤ (if x < 0 then -x else x) ∧ (if x < 0 then -x else x) ≤ 1000000 := by split <;> omega
    rw [lJ_abs (by omega), lJ_abs (by omega)]
    generalize (if y < 0 then -y else y) = y1 at g1
    generalize (if x < 0 then -x else x) = x1 at g2
    simp (disch := omega) only [nI_iI, lN_lJ, iI_0, lJ_0, iI_add, iI_sub, iI_mul, iI_neg, lJ_add, lJ_sub, lJ_mul, lJ_neg, i_l, l_i, iI_cl, iI_inb, iI_eqT, iI_eqF, iI_ltT, iI_ltF, iI_leT, iI_leF, lJ_eqT, lJ_eqF, lJ_cG, lJ_cE, lJ_cL, lJ_cF, lJ_cGE, lJ_cLE, lJ_cNL, lJ_cNG, Int.cast_ofNat_Int, c_0, c_1, Int.natCast_add, Int.add_zero, cond_true, cond_false, Bool.and_self, Bool.and_true, Bool.true_and, Option.bind_some, decide_true, uI_hit, uI_miss, uI_o, uA_o, uA_s, ↓reduceIte, eq_self, true_or, or_true, or_false, false_or, true_and, and_true, false_and, and_false, or_self, and_self, not_false_eq_true, not_true_eq_false, tn_i, lJ_rem]) (fun v hv => by unfold turnS; omega) k hk
  refine key.congr (fun v _ => lim_id ?_)
  unfold turnS
  omega
def cmpS (c x y : Int) : Bool := if c = 60 then decide (x < y) else if c = 3 then decide (x ≤ y) else if c = 62 then decide (y < x) else if c = 4 then decide (y ≤ x) else if c = 61 then decide (x = y) else decide (¬ x = y)
theorem x_cmp {d : aI} {e : aJ} {c x y : Int} (hc : c = 60 ∨ c = 3 ∨ c = 62 ∨ c = 4 ∨ c = 61 ∨ c = 35) (hxy : -1000000 ≤ x ∧ x ≤ 1000000 ∧ -1000000 ≤ y ∧ y ≤ 1000000) : FX1_compares d e (iI c) (lJ x) (lJ y) = some (iI (tv (cmpS c x y)), d, e) := by
  unfold FX1_compares cmpS tv
  rcases Int.lt_trichotomy x y with h1 | h1 | h1
  · rcases hc with rfl | rfl | rfl | rfl | rfl | rfl
    · simp (disch := omega) only [nI_iI, lN_lJ, iI_0, lJ_0, iI_add, iI_sub, iI_mul, iI_neg, lJ_add, lJ_sub, lJ_mul, lJ_neg, i_l, l_i, iI_cl, iI_inb, iI_eqT, iI_eqF, iI_ltT, iI_ltF, iI_leT, iI_leF, lJ_eqT, lJ_eqF, lJ_cG, lJ_cE, lJ_cL, lJ_cF, lJ_cGE, lJ_cLE, lJ_cNL, lJ_cNG, Int.cast_ofNat_Int, c_0, c_1, Int.natCast_add, Int.add_zero, cond_true, cond_false, Bool.and_self, Bool.and_true, Bool.true_and, Option.bind_some, decide_true, uI_hit, uI_miss, uI_o, uA_o, uA_s, ↓reduceIte, eq_self, true_or, or_true, or_false, false_or, true_and, and_true, false_and, and_false, or_self, and_self, not_false_eq_true, not_true_eq_false, tn_i, decide_eq_true_eq, iI_one]
      simp [h1]
    · simp (disch := omega) only [nI_iI, lN_lJ, iI_0, lJ_0, iI_add, iI_sub, iI_mul, iI_neg, lJ_add, lJ_sub, lJ_mul, lJ_neg, i_l, l_i, iI_cl, iI_inb, iI_eqT, iI_eqF, iI_ltT, iI_ltF, iI_leT, iI_leF, lJ_eqT, lJ_eqF, lJ_cG, lJ_cE, lJ_cL, lJ_cF, lJ_cGE, lJ_cLE, lJ_cNL, lJ_cNG, Int.cast_ofNat_Int, c_0, c_1, Int.natCast_add, Int.add_zero, cond_true, cond_false, Bool.and_self, Bool.and_true, Bool.true_and, Option.bind_some, decide_true, uI_hit, uI_miss, uI_o, uA_o, uA_s, ↓reduceIte, eq_self, true_or, or_true, or_false, false_or, true_and, and_true, false_and, and_false, or_self, and_self, not_false_eq_true, not_true_eq_false, tn_i, iI_one]
      simp [show x ≤ y by omega]
    · simp (disch := omega) only [nI_iI, lN_lJ, iI_0, lJ_0, iI_add, iI_sub, iI_mul, iI_neg, lJ_add, lJ_sub, lJ_mul, lJ_neg, i_l, l_i, iI_cl, iI_inb, iI_eqT, iI_eqF, iI_ltT, iI_ltF, iI_leT, iI_leF, lJ_eqT, lJ_eqF, lJ_cG, lJ_cE, lJ_cL, lJ_cF, lJ_cGE, lJ_cLE, lJ_cNL, lJ_cNG, Int.cast_ofNat_Int, c_0, c_1, Int.natCast_add, Int.add_zero, cond_true, cond_false, Bool.and_self, Bool.and_true, Bool.true_and, Option.bind_some, decide_true, uI_hit, uI_miss, uI_o, uA_o, uA_s, ↓reduceIte, eq_self, true_or, or_true, or_false, false_or, true_and, and_true, false_and, and_false, or_self, and_self, not_false_eq_true, not_true_eq_false, tn_i, iI_one]
      simp [show ¬ y < x by omega]
    · simp (disch := omega) only [nI_iI, lN_lJ, iI_0, lJ_0, iI_add, iI_sub, iI_mul, iI_neg, lJ_add, lJ_sub, lJ_mul, lJ_neg, i_l, l_i, iI_cl, iI_inb, iI_eqT, iI_eqF, iI_ltT, iI_ltF, iI_leT, iI_leF, lJ_eqT, lJ_eqF, lJ_cG, lJ_cE, lJ_cL, lJ_cF, lJ_cGE, lJ_cLE, lJ_cNL, lJ_cNG, Int.cast_ofNat_Int, c_0, c_1, Int.natCast_add, Int.add_zero, cond_true, cond_false, Bool.and_self, Bool.and_true, Bool.true_and, Option.bind_some, decide_true, uI_hit, uI_miss, uI_o, uA_o, uA_s, ↓reduceIte, eq_self, true_or, or_true, or_false, false_or, true_and, and_true, false_and, and_false, or_self, and_self, not_false_eq_true, not_true_eq_false, tn_i, iI_one]
      simp [show ¬ y ≤ x by omega]
    · simp (disch := omega) only [nI_iI, lN_lJ, iI_0, lJ_0, iI_add, iI_sub, iI_mul, iI_neg, lJ_add, lJ_sub, lJ_mul, lJ_neg, i_l, l_i, iI_cl, iI_inb, iI_eqT, iI_eqF, iI_ltT, iI_ltF, iI_leT, iI_leF, lJ_eqT, lJ_eqF, lJ_cG, lJ_cE, lJ_cL, lJ_cF, lJ_cGE, lJ_cLE, lJ_cNL, lJ_cNG, Int.cast_ofNat_Int, c_0, c_1, Int.natCast_add, Int.add_zero, cond_true, cond_false, Bool.and_self, Bool.and_true, Bool.true_and, Option.bind_some, decide_true, uI_hit, uI_miss, uI_o, uA_o, uA_s, ↓reduceIte, eq_self, true_or, or_true, or_false, false_or, true_and, and_true, false_and, and_false, or_self, and_self, not_false_eq_true, not_true_eq_false, tn_i, iI_one]
      simp [show ¬ x = y by omega]
    · simp (disch := omega) only [nI_iI, lN_lJ, iI_0, lJ_0, iI_add, iI_sub, iI_mul, iI_neg, lJ_add, lJ_sub, lJ_mul, lJ_neg, i_l, l_i, iI_cl, iI_inb, iI_eqT, iI_eqF, iI_ltT, iI_ltF, iI_leT, iI_leF, lJ_eqT, lJ_eqF, lJ_cG, lJ_cE, lJ_cL, lJ_cF, lJ_cGE, lJ_cLE, lJ_cNL, lJ_cNG, Int.cast_ofNat_Int, c_0, c_1, Int.natCast_add, Int.add_zero, cond_true, cond_false, Bool.and_self, Bool.and_true, Bool.true_and, Option.bind_some, decide_true, uI_hit, uI_miss, uI_o, uA_o, uA_s, ↓reduceIte, eq_self, true_or, or_true, or_false, false_or, true_and, and_true, false_and, and_false, or_self, and_self, not_false_eq_true, not_true_eq_false, tn_i, iI_one]
      simp [show ¬ x = y by omega]
  · subst h1
    rcases hc with rfl | rfl | rfl | rfl | rfl | rfl
    · simp (disch := omega) only [nI_iI, lN_lJ, iI_0, lJ_0, iI_add, iI_sub, iI_mul, iI_neg, lJ_add, lJ_sub, lJ_mul, lJ_neg, i_l, l_i, iI_cl, iI_inb, iI_eqT, iI_eqF, iI_ltT, iI_ltF, iI_leT, iI_leF, lJ_eqT, lJ_eqF, lJ_cG, lJ_cE, lJ_cL, lJ_cF, lJ_cGE, lJ_cLE, lJ_cNL, lJ_cNG, Int.cast_ofNat_Int, c_0, c_1, Int.natCast_add, Int.add_zero, cond_true, cond_false, Bool.and_self, Bool.and_true, Bool.true_and, Option.bind_some, decide_true, uI_hit, uI_miss, uI_o, uA_o, uA_s, ↓reduceIte, eq_self, true_or, or_true, or_false, false_or, true_and, and_true, false_and, and_false, or_self, and_self, not_false_eq_true, not_true_eq_false, tn_i, iI_one]
      simp
    · simp (disch := omega) only [nI_iI, lN_lJ, iI_0, lJ_0, iI_add, iI_sub, iI_mul, iI_neg, lJ_add, lJ_sub, lJ_mul, lJ_neg, i_l, l_i, iI_cl, iI_inb, iI_eqT, iI_eqF, iI_ltT, iI_ltF, iI_leT, iI_leF, lJ_eqT, lJ_eqF, lJ_cG, lJ_cE, lJ_cL, lJ_cF, lJ_cGE, lJ_cLE, lJ_cNL, lJ_cNG, Int.cast_ofNat_Int, c_0, c_1, Int.natCast_add, Int.add_zero, cond_true, cond_false, Bool.and_self, Bool.and_true, Bool.true_and, Option.bind_some, decide_true, uI_hit, uI_miss, uI_o, uA_o, uA_s, ↓reduceIte, eq_self, true_or, or_true, or_false, false_or, true_and, and_true, false_and, and_false, or_self, and_self, not_false_eq_true, not_true_eq_false, tn_i, iI_one]
      simp
    · simp (disch := omega) only [nI_iI, lN_lJ, iI_0, lJ_0, iI_add, iI_sub, iI_mul, iI_neg, lJ_add, lJ_sub, lJ_mul, lJ_neg, i_l, l_i, iI_cl, iI_inb, iI_eqT, iI_eqF, iI_ltT, iI_ltF, iI_leT, iI_leF, lJ_eqT, lJ_eqF, lJ_cG, lJ_cE, lJ_cL, lJ_cF, lJ_cGE, lJ_cLE, lJ_cNL, lJ_cNG, Int.cast_ofNat_Int, c_0, c_1, Int.natCast_add, Int.add_zero, cond_true, cond_false, Bool.and_self, Bool.and_true, Bool.true_and, Option.bind_some, decide_true, uI_hit, uI_miss, uI_o, uA_o, uA_s, ↓reduceIte, eq_self, true_or, or_true, or_false, false_or, true_and, and_true, false_and, and_false, or_self, and_self, not_false_eq_true, not_true_eq_false, tn_i, iI_one]
      simp
    · simp (disch := omega) only [nI_iI, lN_lJ, iI_0, lJ_0, iI_add, iI_sub, iI_mul, iI_neg, lJ_add, lJ_sub, lJ_mul, lJ_neg, i_l, l_i, iI_cl, iI_inb, iI_eqT, iI_eqF, iI_ltT, iI_ltF, iI_leT, iI_leF, lJ_eqT, lJ_eqF, lJ_cG, lJ_cE, lJ_cL, lJ_cF, lJ_cGE, lJ_cLE, lJ_cNL, lJ_cNG, Int.cast_ofNat_Int, c_0, c_1, Int.natCast_add, Int.add_zero, cond_true, cond_false, Bool.and_self, Bool.and_true, Bool.true_and, Option.bind_some, decide_true, uI_hit, uI_miss, uI_o, uA_o, uA_s, ↓reduceIte, eq_self, true_or, or_true, or_false, false_or, true_and, and_true, false_and, and_false, or_self, and_self, not_false_eq_true, not_true_eq_false, tn_i, iI_one]
      simp
    · simp (disch := omega) only [nI_iI, lN_lJ, iI_0, lJ_0, iI_add, iI_sub, iI_mul, iI_neg, lJ_add, lJ_sub, lJ_mul, lJ_neg, i_l, l_i, iI_cl, iI_inb, iI_eqT, iI_eqF, iI_ltT, iI_ltF, iI_leT, iI_leF, lJ_eqT, lJ_eqF, lJ_cG, lJ_cE, lJ_cL, lJ_cF, lJ_cGE, lJ_cLE, lJ_cNL, lJ_cNG, Int.cast_ofNat_Int, c_0, c_1, Int.natCast_add, Int.add_zero, cond_true, cond_false, Bool.and_self, Bool.and_true, Bool.true_and, Option.bind_some, decide_true, uI_hit, uI_miss, uI_o, uA_o, uA_s, ↓reduceIte, eq_self, true_or, or_true, or_false, false_or, true_and, and_true, false_and, and_false, or_self, and_self, not_false_eq_true, not_true_eq_false, tn_i, iI_one]
      simp
    · simp (disch := omega) only [nI_iI, lN_lJ, iI_0, lJ_0, iI_add, iI_sub, iI_mul, iI_neg, lJ_add, lJ_sub, lJ_mul, lJ_neg, i_l, l_i, iI_cl, iI_inb, iI_eqT, iI_eqF, iI_ltT, iI_ltF, iI_leT, iI_leF, lJ_eqT, lJ_eqF, lJ_cG, lJ_cE, lJ_cL, lJ_cF, lJ_cGE, lJ_cLE, lJ_cNL, lJ_cNG, Int.cast_ofNat_Int, c_0, c_1, Int.natCast_add, Int.add_zero, cond_true, cond_false, Bool.and_self, Bool.and_true, Bool.true_and, Option.bind_some, decide_true, uI_hit, uI_miss, uI_o, uA_o, uA_s, ↓reduceIte, eq_self, true_or, or_true, or_false, false_or, true_and, and_true, false_and, and_false, or_self, and_self, not_false_eq_true, not_true_eq_false, tn_i, iI_one]
      simp
  · rcases hc with rfl | rfl | rfl | rfl | rfl | rfl
    · simp (disch := omega) only [nI_iI, lN_lJ, iI_0, lJ_0, iI_add, iI_sub, iI_mul, iI_neg, lJ_add, lJ_sub, lJ_mul, lJ_neg, i_l, l_i, iI_cl, iI_inb, iI_eqT, iI_eqF, iI_ltT, iI_ltF, iI_leT, iI_leF, lJ_eqT, lJ_eqF, lJ_cG, lJ_cE, lJ_cL, lJ_cF, lJ_cGE, lJ_cLE, lJ_cNL, lJ_cNG, Int.cast_ofNat_Int, c_0, c_1, Int.natCast_add, Int.add_zero, cond_true, cond_false, Bool.and_self, Bool.and_true, Bool.true_and, Option.bind_some, decide_true, uI_hit, uI_miss, uI_o, uA_o, uA_s, ↓reduceIte, eq_self, true_or, or_true, or_false, false_or, true_and, and_true, false_and, and_false, or_self, and_self, not_false_eq_true, not_true_eq_false, tn_i, iI_one]
      simp [show ¬ x < y by omega]
    · simp (disch := omega) only [nI_iI, lN_lJ, iI_0, lJ_0, iI_add, iI_sub, iI_mul, iI_neg, lJ_add, lJ_sub, lJ_mul, lJ_neg, i_l, l_i, iI_cl, iI_inb, iI_eqT, iI_eqF, iI_ltT, iI_ltF, iI_leT, iI_leF, lJ_eqT, lJ_eqF, lJ_cG, lJ_cE, lJ_cL, lJ_cF, lJ_cGE, lJ_cLE, lJ_cNL, lJ_cNG, Int.cast_ofNat_Int, c_0, c_1, Int.natCast_add, Int.add_zero, cond_true, cond_false, Bool.and_self, Bool.and_true, Bool.true_and, Option.bind_some, decide_true, uI_hit, uI_miss, uI_o, uA_o, uA_s, ↓reduceIte, eq_self, true_or, or_true, or_false, false_or, true_and, and_true, false_and, and_false, or_self, and_self, not_false_eq_true, not_true_eq_false, tn_i, iI_one]
      simp [show ¬ x ≤ y by omega]
    · simp (disch := omega) only [nI_iI, lN_lJ, iI_0, lJ_0, iI_add, iI_sub, iI_mul, iI_neg, lJ_add, lJ_sub, lJ_mul, lJ_neg, i_l, l_i, iI_cl, iI_inb, iI_eqT, iI_eqF, iI_ltT, iI_ltF, iI_leT, iI_leF, lJ_eqT, lJ_eqF, lJ_cG, lJ_cE, lJ_cL, lJ_cF, lJ_cGE, lJ_cLE, lJ_cNL, lJ_cNG, Int.cast_ofNat_Int, c_0, c_1, Int.natCast_add, Int.add_zero, cond_true, cond_false, Bool.and_self, Bool.and_true, Bool.true_and, Option.bind_some, decide_true, uI_hit, uI_miss, uI_o, uA_o, uA_s, ↓reduceIte, eq_self, true_or, or_true, or_false, false_or, true_and, and_true, false_and, and_false, or_self, and_self, not_false_eq_true, not_true_eq_false, tn_i, iI_one]
      simp [h1]
    · simp (disch := omega) only [nI_iI, lN_lJ, iI_0, lJ_0, iI_add, iI_sub, iI_mul, iI_neg, lJ_add, lJ_sub, lJ_mul, lJ_neg, i_l, l_i, iI_cl, iI_inb, iI_eqT, iI_eqF, iI_ltT, iI_ltF, iI_leT, iI_leF, lJ_eqT, lJ_eqF, lJ_cG, lJ_cE, lJ_cL, lJ_cF, lJ_cGE, lJ_cLE, lJ_cNL, lJ_cNG, Int.cast_ofNat_Int, c_0, c_1, Int.natCast_add, Int.add_zero, cond_true, cond_false, Bool.and_self, Bool.and_true, Bool.true_and, Option.bind_some, decide_true, uI_hit, uI_miss, uI_o, uA_o, uA_s, ↓reduceIte, eq_self, true_or, or_true, or_false, false_or, true_and, and_true, false_and, and_false, or_self, and_self, not_false_eq_true, not_true_eq_false, tn_i, iI_one]
      simp [show y ≤ x by omega]
    · simp (disch := omega) only [nI_iI, lN_lJ, iI_0, lJ_0, iI_add, iI_sub, iI_mul, iI_neg, lJ_add, lJ_sub, lJ_mul, lJ_neg, i_l, l_i, iI_cl, iI_inb, iI_eqT, iI_eqF, iI_ltT, iI_ltF, iI_leT, iI_leF, lJ_eqT, lJ_eqF, lJ_cG, lJ_cE, lJ_cL, lJ_cF, lJ_cGE, lJ_cLE, lJ_cNL, lJ_cNG, Int.cast_ofNat_Int, c_0, c_1, Int.natCast_add, Int.add_zero, cond_true, cond_false, Bool.and_self, Bool.and_true, Bool.true_and, Option.bind_some, decide_true, uI_hit, uI_miss, uI_o, uA_o, uA_s, ↓reduceIte, eq_self, true_or, or_true, or_false, false_or, true_and, and_true, false_and, and_false, or_self, and_self, not_false_eq_true, not_true_eq_false, tn_i, iI_one]
      simp [show ¬ x = y by omega]
    · simp (disch := omega) only [nI_iI, lN_lJ, iI_0, lJ_0, iI_add, iI_sub, iI_mul, iI_neg, lJ_add, lJ_sub, lJ_mul, lJ_neg, i_l, l_i, iI_cl, iI_inb, iI_eqT, iI_eqF, iI_ltT, iI_ltF, iI_leT, iI_leF, lJ_eqT, lJ_eqF, lJ_cG, lJ_cE, lJ_cL, lJ_cF, lJ_cGE, lJ_cLE, lJ_cNL, lJ_cNG, Int.cast_ofNat_Int, c_0, c_1, Int.natCast_add, Int.add_zero, cond_true, cond_false, Bool.and_self, Bool.and_true, Bool.true_and, Option.bind_some, decide_true, uI_hit, uI_miss, uI_o, uA_o, uA_s, ↓reduceIte, eq_self, true_or, or_true, or_false, false_or, true_and, and_true, false_and, and_false, or_self, and_self, not_false_eq_true, not_true_eq_false, tn_i, iI_one]
      simp [show ¬ x = y by omega]
theorem CV.cmp {s : Int} {C : Int → Int} {a b m c need need2 : Int} {f g : En → Int} (h : CV s C a b need f) (h' : CV s C b m need2 g) (hC : C m = c) (hc : c = 60 ∨ c = 3 ∨ c = 62 ∨ c = 4 ∨ c = 61 ∨ c = 35) (k : Int) (hk : need ≤ k ∧ need2 + 1 ≤ k) : CV s C a (m + 1) k (fun v => tv (cmpS c (f v) (g v))) := by
  have bf := h.2.2.2.1
  have bg := h'.2.2.2.1
  have key := h.two (r := fun x y => tv (cmpS c x y)) h' hC (by omega) (fun d e v hv => by
    have b1 := bf v hv
    have b2 := bg v hv
    have g0 := x_cmp (d := d) (e := e) (x := f v) (y := g v) hc (by omega)
    have g1 := tv_in (cmpS c (f v) (g v))
    unfold FX1_ofTwo
    simp only [g0]
    generalize tv (cmpS c (f v) (g v)) = z at g1
    rcases (show z = 0 ∨ z = 1 by omega) with rfl | rfl
    · simp (disch := omega) only [nI_iI, lN_lJ, iI_0, lJ_0, iI_add, iI_sub, iI_mul, iI_neg, lJ_add, lJ_sub, lJ_mul, lJ_neg, i_l, l_i, iI_cl, iI_inb, iI_eqT, iI_eqF, iI_ltT, iI_ltF, iI_leT, iI_leF, lJ_eqT, lJ_eqF, lJ_cG, lJ_cE, lJ_cL, lJ_cF, lJ_cGE, lJ_cLE, lJ_cNL, lJ_cNG, Int.cast_ofNat_Int, c_0, c_1, Int.natCast_add, Int.add_zero, cond_true, cond_false, Bool.and_self, Bool.and_true, Bool.true_and, Option.bind_some, decide_true, uI_hit, uI_miss, uI_o, uA_o, uA_s, ↓reduceIte, eq_self, true_or, or_true, or_false, false_or, true_and, and_true, false_and, and_false, or_self, and_self, not_false_eq_true, not_true_eq_false, tn_i]
    · simp (disch := omega) only [nI_iI, lN_lJ, iI_0, lJ_0, iI_add, iI_sub, iI_mul, iI_neg, lJ_add, lJ_sub, lJ_mul, lJ_neg, i_l, l_i, iI_cl, iI_inb, iI_eqT, iI_eqF, iI_ltT, iI_ltF, iI_leT, iI_leF, lJ_eqT, lJ_eqF, lJ_cG, lJ_cE, lJ_cL, lJ_cF, lJ_cGE, lJ_cLE, lJ_cNL, lJ_cNG, Int.cast_ofNat_Int, c_0, c_1, Int.natCast_add, Int.add_zero, cond_true, cond_false, Bool.and_self, Bool.and_true, Bool.true_and, Option.bind_some, decide_true, uI_hit, uI_miss, uI_o, uA_o, uA_s, ↓reduceIte, eq_self, true_or, or_true, or_false, false_or, true_and, and_true, false_and, and_false, or_self, and_self, not_false_eq_true, not_true_eq_false, tn_i]) (fun v hv => by have := tv_in (cmpS c (f v) (g v)); show _ ≤ tv (cmpS c (f v) (g v)) ∧ tv (cmpS c (f v) (g v)) < _; omega) k hk
  refine key.congr (fun v _ => lim_id ?_)
  have := tv_in (cmpS c (f v) (g v))
  omega
theorem CV.and {s : Int} {C : Int → Int} {a b m need need2 : Int} {f g : En → Bool} (h : CV s C a b need (fun v => tv (f v))) (h' : CV s C b m need2 (fun v => tv (g v))) (hC : C m = 319) (k : Int) (hk : need ≤ k ∧ need2 + 1 ≤ k) : CV s C a (m + 1) k (fun v => tv (f v && g v)) := by
  have key := h.two (r := fun x y => if x = 1 ∧ y = 1 then 1 else 0) h' hC (by omega) (fun d e v hv => by
    unfold FX1_ofTwo
    cases f v <;> cases g v <;> simp only [show tv false = 0 from rfl, show tv true = 1 from rfl]
    · simp (disch := omega) only [nI_iI, lN_lJ, iI_0, lJ_0, iI_add, iI_sub, iI_mul, iI_neg, lJ_add, lJ_sub, lJ_mul, lJ_neg, i_l, l_i, iI_cl, iI_inb, iI_eqT, iI_eqF, iI_ltT, iI_ltF, iI_leT, iI_leF, lJ_eqT, lJ_eqF, lJ_cG, lJ_cE, lJ_cL, lJ_cF, lJ_cGE, lJ_cLE, lJ_cNL, lJ_cNG, Int.cast_ofNat_Int, c_0, c_1, Int.natCast_add, Int.add_zero, cond_true, cond_false, Bool.and_self, Bool.and_true, Bool.true_and, Option.bind_some, decide_true, uI_hit, uI_miss, uI_o, uA_o, uA_s, ↓reduceIte, eq_self, true_or, or_true, or_false, false_or, true_and, and_true, false_and, and_false, or_self, and_self, not_false_eq_true, not_true_eq_false, tn_i, show lJ 0 &&& lJ 0 = lJ 0 from rfl]
      rfl
    · simp (disch := omega) only [nI_iI, lN_lJ, iI_0, lJ_0, iI_add, iI_sub, iI_mul, iI_neg, lJ_add, lJ_sub, lJ_mul, lJ_neg, i_l, l_i, iI_cl, iI_inb, iI_eqT, iI_eqF, iI_ltT, iI_ltF, iI_leT, iI_leF, lJ_eqT, lJ_eqF, lJ_cG, lJ_cE, lJ_cL, lJ_cF, lJ_cGE, lJ_cLE, lJ_cNL, lJ_cNG, Int.cast_ofNat_Int, c_0, c_1, Int.natCast_add, Int.add_zero, cond_true, cond_false, Bool.and_self, Bool.and_true, Bool.true_and, Option.bind_some, decide_true, uI_hit, uI_miss, uI_o, uA_o, uA_s, ↓reduceIte, eq_self, true_or, or_true, or_false, false_or, true_and, and_true, false_and, and_false, or_self, and_self, not_false_eq_true, not_true_eq_false, tn_i, show lJ 0 &&& lJ 1 = lJ 0 from rfl]
      rfl
    · simp (disch := omega) only [nI_iI, lN_lJ, iI_0, lJ_0, iI_add, iI_sub, iI_mul, iI_neg, lJ_add, lJ_sub, lJ_mul, lJ_neg, i_l, l_i, iI_cl, iI_inb, iI_eqT, iI_eqF, iI_ltT, iI_ltF, iI_leT, iI_leF, lJ_eqT, lJ_eqF, lJ_cG, lJ_cE, lJ_cL, lJ_cF, lJ_cGE, lJ_cLE, lJ_cNL, lJ_cNG, Int.cast_ofNat_Int, c_0, c_1, Int.natCast_add, Int.add_zero, cond_true, cond_false, Bool.and_self, Bool.and_true, Bool.true_and, Option.bind_some, decide_true, uI_hit, uI_miss, uI_o, uA_o, uA_s, ↓reduceIte, eq_self, true_or, or_true, or_false, false_or, true_and, and_true, false_and, and_false, or_self, and_self, not_false_eq_true, not_true_eq_false, tn_i, show lJ 1 &&& lJ 0 = lJ 0 from rfl]
      rfl
    · simp (disch := omega) only [nI_iI, lN_lJ, iI_0, lJ_0, iI_add, iI_sub, iI_mul, iI_neg, lJ_add, lJ_sub, lJ_mul, lJ_neg, i_l, l_i, iI_cl, iI_inb, iI_eqT, iI_eqF, iI_ltT, iI_ltF, iI_leT, iI_leF, lJ_eqT, lJ_eqF, lJ_cG, lJ_cE, lJ_cL, lJ_cF, lJ_cGE, lJ_cLE, lJ_cNL, lJ_cNG, Int.cast_ofNat_Int, c_0, c_1, Int.natCast_add, Int.add_zero, cond_true, cond_false, Bool.and_self, Bool.and_true, Bool.true_and, Option.bind_some, decide_true, uI_hit, uI_miss, uI_o, uA_o, uA_s, ↓reduceIte, eq_self, true_or, or_true, or_false, false_or, true_and, and_true, false_and, and_false, or_self, and_self, not_false_eq_true, not_true_eq_false, tn_i, show lJ 1 &&& lJ 1 = lJ 1 from rfl]) (fun v hv => by show _ ≤ (if tv (f v) = 1 ∧ tv (g v) = 1 then (1 : Int) else 0) ∧ (if tv (f v) = 1 ∧ tv (g v) = 1 then (1 : Int) else 0) < _; split <;> omega) k hk
  refine key.congr (fun v _ => ?_)
  cases f v <;> cases g v <;> decide
theorem CV.or {s : Int} {C : Int → Int} {a b m need need2 : Int} {f g : En → Bool} (h : CV s C a b need (fun v => tv (f v))) (h' : CV s C b m need2 (fun v => tv (g v))) (hC : C m = 318) (k : Int) (hk : need ≤ k ∧ need2 + 1 ≤ k) : CV s C a (m + 1) k (fun v => tv (f v || g v)) := by
  have key := h.two (r := fun x y => if x = 0 ∧ y = 0 then 0 else 1) h' hC (by omega) (fun d e v hv => by
    unfold FX1_ofTwo
    cases f v <;> cases g v <;> simp only [show tv false = 0 from rfl, show tv true = 1 from rfl]
    · simp (disch := omega) only [nI_iI, lN_lJ, iI_0, lJ_0, iI_add, iI_sub, iI_mul, iI_neg, lJ_add, lJ_sub, lJ_mul, lJ_neg, i_l, l_i, iI_cl, iI_inb, iI_eqT, iI_eqF, iI_ltT, iI_ltF, iI_leT, iI_leF, lJ_eqT, lJ_eqF, lJ_cG, lJ_cE, lJ_cL, lJ_cF, lJ_cGE, lJ_cLE, lJ_cNL, lJ_cNG, Int.cast_ofNat_Int, c_0, c_1, Int.natCast_add, Int.add_zero, cond_true, cond_false, Bool.and_self, Bool.and_true, Bool.true_and, Option.bind_some, decide_true, uI_hit, uI_miss, uI_o, uA_o, uA_s, ↓reduceIte, eq_self, true_or, or_true, or_false, false_or, true_and, and_true, false_and, and_false, or_self, and_self, not_false_eq_true, not_true_eq_false, tn_i, show lJ 0 ||| lJ 0 = lJ 0 from rfl]
    · simp (disch := omega) only [nI_iI, lN_lJ, iI_0, lJ_0, iI_add, iI_sub, iI_mul, iI_neg, lJ_add, lJ_sub, lJ_mul, lJ_neg, i_l, l_i, iI_cl, iI_inb, iI_eqT, iI_eqF, iI_ltT, iI_ltF, iI_leT, iI_leF, lJ_eqT, lJ_eqF, lJ_cG, lJ_cE, lJ_cL, lJ_cF, lJ_cGE, lJ_cLE, lJ_cNL, lJ_cNG, Int.cast_ofNat_Int, c_0, c_1, Int.natCast_add, Int.add_zero, cond_true, cond_false, Bool.and_self, Bool.and_true, Bool.true_and, Option.bind_some, decide_true, uI_hit, uI_miss, uI_o, uA_o, uA_s, ↓reduceIte, eq_self, true_or, or_true, or_false, false_or, true_and, and_true, false_and, and_false, or_self, and_self, not_false_eq_true, not_true_eq_false, tn_i, show lJ 0 ||| lJ 1 = lJ 1 from rfl]
      rfl
    · simp (disch := omega) only [nI_iI, lN_lJ, iI_0, lJ_0, iI_add, iI_sub, iI_mul, iI_neg, lJ_add, lJ_sub, lJ_mul, lJ_neg, i_l, l_i, iI_cl, iI_inb, iI_eqT, iI_eqF, iI_ltT, iI_ltF, iI_leT, iI_leF, lJ_eqT, lJ_eqF, lJ_cG, lJ_cE, lJ_cL, lJ_cF, lJ_cGE, lJ_cLE, lJ_cNL, lJ_cNG, Int.cast_ofNat_Int, c_0, c_1, Int.natCast_add, Int.add_zero, cond_true, cond_false, Bool.and_self, Bool.and_true, Bool.true_and, Option.bind_some, decide_true, uI_hit, uI_miss, uI_o, uA_o, uA_s, ↓reduceIte, eq_self, true_or, or_true, or_false, false_or, true_and, and_true, false_and, and_false, or_self, and_self, not_false_eq_true, not_true_eq_false, tn_i, show lJ 1 ||| lJ 0 = lJ 1 from rfl]
      rfl
    · simp (disch := omega) only [nI_iI, lN_lJ, iI_0, lJ_0, iI_add, iI_sub, iI_mul, iI_neg, lJ_add, lJ_sub, lJ_mul, lJ_neg, i_l, l_i, iI_cl, iI_inb, iI_eqT, iI_eqF, iI_ltT, iI_ltF, iI_leT, iI_leF, lJ_eqT, lJ_eqF, lJ_cG, lJ_cE, lJ_cL, lJ_cF, lJ_cGE, lJ_cLE, lJ_cNL, lJ_cNG, Int.cast_ofNat_Int, c_0, c_1, Int.natCast_add, Int.add_zero, cond_true, cond_false, Bool.and_self, Bool.and_true, Bool.true_and, Option.bind_some, decide_true, uI_hit, uI_miss, uI_o, uA_o, uA_s, ↓reduceIte, eq_self, true_or, or_true, or_false, false_or, true_and, and_true, false_and, and_false, or_self, and_self, not_false_eq_true, not_true_eq_false, tn_i, show lJ 1 ||| lJ 1 = lJ 1 from rfl]
      rfl) (fun v hv => by show _ ≤ (if tv (f v) = 0 ∧ tv (g v) = 0 then (0 : Int) else 1) ∧ (if tv (f v) = 0 ∧ tv (g v) = 0 then (0 : Int) else 1) < _; split <;> omega) k hk
  refine key.congr (fun v _ => ?_)
  cases f v <;> cases g v <;> decide
/-- the whole of a law -/
theorem CV.run {s : Int} {C : Int → Int} {a b need : Int} {f : En → Int} (h : CV s C a b need f) {d : aI} {e : aJ} {o1 : Nat} {x5 x6 : Int32} {v : En} (ho : ob o1) (hv : EnOK v) (hE : EnvC s d e x5 x6 v) (hc : ∀ j : Nat, a ≤ (j : Int) → (j : Int) < b → d o1 j = iI (C j)) (hn : need ≤ 64) (hb : b ≤ 300) :
    ∃ d', FX1_run d e o1 (iI a) (iI b) x5 x6 = some (iI (f v), d', e) ∧ SameX d d' := by
  obtain ⟨ha, hab, hne, hf, hrun⟩ := h
  have e1 : SameX d (uI d 93 1 (iI 0)) := (SameX.refl d).put (Or.inl rfl)
  have k1 : stX1_run (0, [some (.ref 93), some (.ref o1), some (.int (iI a)), some (.int (iI b)), some (.ref 2), some (.int x5), some (.int x6), none, none, none, none, none], d, e) = some (cS o1 (iI a) (iI b) x5 x6 b a 0 none none (uI d 93 1 (iI 0)) e) := by
    show sX1_run_0 d e o1 (iI a) (iI b) x5 x6 = _
    unfold sX1_run_0
    simp (disch := omega) only [nI_iI, lN_lJ, iI_0, lJ_0, iI_add, iI_sub, iI_mul, iI_neg, lJ_add, lJ_sub, lJ_mul, lJ_neg, i_l, l_i, iI_cl, iI_inb, iI_eqT, iI_eqF, iI_ltT, iI_ltF, iI_leT, iI_leF, lJ_eqT, lJ_eqF, lJ_cG, lJ_cE, lJ_cL, lJ_cF, lJ_cGE, lJ_cLE, lJ_cNL, lJ_cNG, Int.cast_ofNat_Int, c_0, c_1, Int.natCast_add, Int.add_zero, cond_true, cond_false, Bool.and_self, Bool.and_true, Bool.true_and, Option.bind_some, decide_true, uI_hit, uI_miss, uI_o, uA_o, uA_s, ↓reduceIte, eq_self, true_or, or_true, or_false, false_or, true_and, and_true, false_and, and_false, or_self, and_self, not_false_eq_true, not_true_eq_false, tn_i, ho, iI_minL, iI_maxL]
  obtain ⟨d', i', u', w', r1, r2, r3, r4, r5, r6, r7⟩ := hrun (uI d 93 1 (iI 0)) e o1 (iI a) (iI b) x5 x6 v b 0 0 none none ho hv (hE.of e1) (fun j ja jb => by rw [e1 o1 (by omega) (by omega)]; exact hc j ja jb) (uI_hit rfl) (by omega) (by omega) (by omega) hb (by omega) (by omega)
  refine ⟨_, ?_, (e1.trans r4).put (o := 93) (j := 1) (x := iI (0 + 1 - 1)) (Or.inl rfl)⟩
  unfold FX1_run
  rw [a_run_step k1 rfl, r1, a_run_step (st := stX1_run) (p2 := (100000, [some (.int (iI (f v)))], uI d' 93 1 (iI (0 + 1 - 1)), e)) (by
    have r8 : d' 94 (0 + 1 - 1 : Int).toNat = iI (f v) := r6
    show sX1_run_23 d' e o1 (iI a) (iI b) x5 x6 (iI b) (iI b) (iI i') u' w' = _
    unfold sX1_run_23
    by_cases h300 : 300 ≤ i'
    · simp (disch := omega) only [nI_iI, lN_lJ, iI_0, lJ_0, iI_add, iI_sub, iI_mul, iI_neg, lJ_add, lJ_sub, lJ_mul, lJ_neg, i_l, l_i, iI_cl, iI_inb, iI_eqT, iI_eqF, iI_ltT, iI_ltF, iI_leT, iI_leF, lJ_eqT, lJ_eqF, lJ_cG, lJ_cE, lJ_cL, lJ_cF, lJ_cGE, lJ_cLE, lJ_cNL, lJ_cNG, Int.cast_ofNat_Int, c_0, c_1, Int.natCast_add, Int.add_zero, cond_true, cond_false, Bool.and_self, Bool.and_true, Bool.true_and, Option.bind_some, decide_true, uI_hit, uI_miss, uI_o, uA_o, uA_s, ↓reduceIte, eq_self, true_or, or_true, or_false, false_or, true_and, and_true, false_and, and_false, or_self, and_self, not_false_eq_true, not_true_eq_false, tn_i, ho, x_pop r5, r8]
    · simp (disch := omega) only [nI_iI, lN_lJ, iI_0, lJ_0, iI_add, iI_sub, iI_mul, iI_neg, lJ_add, lJ_sub, lJ_mul, lJ_neg, i_l, l_i, iI_cl, iI_inb, iI_eqT, iI_eqF, iI_ltT, iI_ltF, iI_leT, iI_leF, lJ_eqT, lJ_eqF, lJ_cG, lJ_cE, lJ_cL, lJ_cF, lJ_cGE, lJ_cLE, lJ_cNL, lJ_cNG, Int.cast_ofNat_Int, c_0, c_1, Int.natCast_add, Int.add_zero, cond_true, cond_false, Bool.and_self, Bool.and_true, Bool.true_and, Option.bind_some, decide_true, uI_hit, uI_miss, uI_o, uA_o, uA_s, ↓reduceIte, eq_self, true_or, or_true, or_false, false_or, true_and, and_true, false_and, and_false, or_self, and_self, not_false_eq_true, not_true_eq_false, tn_i, ho, x_pop r5, r8]) rfl, a_run_end]
  rfl
