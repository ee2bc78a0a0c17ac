/-! ===== whether two sights may be one cat ===== -/
def hdS (A : Int → Int) (i j : Int) : Int := if 0 ≤ A (66 + 2 * i) - A (66 + 2 * j) then A (66 + 2 * i) - A (66 + 2 * j) else -(A (66 + 2 * i) - A (66 + 2 * j))
abbrev canS (A : Int → Int) (i j : Int) : Prop := apS (A (66 + 2 * i + 1)) (A (66 + 2 * j + 1)) ≤ hdS A i j
theorem cq_canBeOne {d : aI} {e : aJ} {A : Int → Int} (hN : NT d 13 A 5 66 2 10) (hS : SI A) {i j : Nat} (hi : (i : Int) < A 5) (hj : (j : Int) < A 5) : FX10_canBeOne d e (iI i) (iI j) = some (iI (if canS A i j then 1 else 0), d, e) := by
  have b5 := hS.nts.1
  have bi := b5.2 i (by omega) hi
  have bj := b5.2 j (by omega) hj
  have n1 : d 14 i = iI (A (66 + 2 * i)) := hN.2.2.1 i hi
  have n2 : d 14 j = iI (A (66 + 2 * j)) := hN.2.2.1 j hj
  have n3 : d 15 i = iI (A (66 + 2 * i + 1)) := hN.2.2.2 i hi
  have n4 : d 15 j = iI (A (66 + 2 * j + 1)) := hN.2.2.2 j hj
  have ap := apS_in (p := A (66 + 2 * i + 1)) (q := A (66 + 2 * j + 1)) (by omega)
  have q := cq_around (d := d) (e := e) (p := A (66 + 2 * i + 1)) (q := A (66 + 2 * j + 1)) (by omega)
  have hb : a_abs (iI (A (66 + 2 * i) - A (66 + 2 * j))) = iI (hdS A i j) := iI_abs (by omega)
  have hr : 0 ≤ hdS A i j ∧ hdS A i j ≤ 99 := by unfold hdS; split <;> omega
  by_cases c : canS A i j
  · have c2 : apS (A (66 + 2 * i + 1)) (A (66 + 2 * j + 1)) ≤ hdS A i j := c
    rw [if_pos c]
    unfold FX10_canBeOne
    simp (disch := omega) only [nI_iI, lN_lJ, iI_0, lJ_0, iI_add, iI_sub, iI_mul, iI_neg, lJ_add, lJ_sub, lJ_mul, lJ_neg, i_l, l_i, iI_cl, iI_inb, iI_eqT, iI_eqF, iI_ltT, iI_ltF, iI_leT, iI_leF, lJ_eqT, lJ_eqF, lJ_cG, lJ_cE, lJ_cL, lJ_cF, lJ_cGE, lJ_cLE, lJ_cNL, lJ_cNG, Int.cast_ofNat_Int, c_0, c_1, Int.natCast_add, Int.add_zero, cond_true, cond_false, Bool.and_self, Bool.and_true, Bool.true_and, Option.bind_some, decide_true, uI_hit, uI_miss, uI_o, uA_o, uA_s, ↓reduceIte, eq_self, true_or, or_true, or_false, false_or, true_and, and_true, false_and, and_false, or_self, and_self, not_false_eq_true, not_true_eq_false, tn_i, Int.toNat_natCast, n1, n2, n3, n4, q, hb]
  · have c2 : ¬apS (A (66 + 2 * i + 1)) (A (66 + 2 * j + 1)) ≤ hdS A i j := c
    rw [if_neg c]
    unfold FX10_canBeOne
    simp (disch := omega) only [nI_iI, lN_lJ, iI_0, lJ_0, iI_add, iI_sub, iI_mul, iI_neg, lJ_add, lJ_sub, lJ_mul, lJ_neg, i_l, l_i, iI_cl, iI_inb, iI_eqT, iI_eqF, iI_ltT, iI_ltF, iI_leT, iI_leF, lJ_eqT, lJ_eqF, lJ_cG, lJ_cE, lJ_cL, lJ_cF, lJ_cGE, lJ_cLE, lJ_cNL, lJ_cNG, Int.cast_ofNat_Int, c_0, c_1, Int.natCast_add, Int.add_zero, cond_true, cond_false, Bool.and_self, Bool.and_true, Bool.true_and, Option.bind_some, decide_true, uI_hit, uI_miss, uI_o, uA_o, uA_s, ↓reduceIte, eq_self, true_or, or_true, or_false, false_or, true_and, and_true, false_and, and_false, or_self, and_self, not_false_eq_true, not_true_eq_false, tn_i, Int.toNat_natCast, n1, n2, n3, n4, q, hb]
theorem mq_areOne {d : aI} {e : aJ} {A : Int → Int} (hA : MA d 109 A) (hS : SI A) {i j : Nat} (hi : (i : Int) < A 5) (hj : (j : Int) < A 5) : FX11_areOne d e (iI i) (iI j) = some (iI (if canS A i j then 1 else 0), d, e) := by
  have b5 := hS.nts.1
  have bi := b5.2 i (by omega) hi
  have bj := b5.2 j (by omega) hj
  have n1 : d 109 (66 + 2 * (i : Int)).toNat = iI (A (66 + 2 * i)) := hA.cell (by omega)
  have n2 : d 109 (66 + 2 * (j : Int)).toNat = iI (A (66 + 2 * j)) := hA.cell (by omega)
  have n3 : d 109 (66 + 2 * (i : Int) + 1).toNat = iI (A (66 + 2 * i + 1)) := hA.cell (by omega)
  have n4 : d 109 (66 + 2 * (j : Int) + 1).toNat = iI (A (66 + 2 * j + 1)) := hA.cell (by omega)
  have ap := apS_in (p := A (66 + 2 * i + 1)) (q := A (66 + 2 * j + 1)) (by omega)
  have q := mq_apart (d := d) (e := e) (p := A (66 + 2 * i + 1)) (q := A (66 + 2 * j + 1)) (by omega)
  by_cases h0 : 0 ≤ A (66 + 2 * i) - A (66 + 2 * j)
  · have hr : hdS A i j = A (66 + 2 * i) - A (66 + 2 * j) := if_pos h0
    by_cases c : canS A i j
    · have c2 : apS (A (66 + 2 * i + 1)) (A (66 + 2 * j + 1)) ≤ hdS A i j := c
      rw [if_pos c]
      unfold FX11_areOne
      simp (disch := omega) only [nI_iI, lN_lJ, iI_0, lJ_0, iI_add, iI_sub, iI_mul, iI_neg, lJ_add, lJ_sub, lJ_mul, lJ_neg, i_l, l_i, iI_cl, iI_inb, iI_eqT, iI_eqF, iI_ltT, iI_ltF, iI_leT, iI_leF, lJ_eqT, lJ_eqF, lJ_cG, lJ_cE, lJ_cL, lJ_cF, lJ_cGE, lJ_cLE, lJ_cNL, lJ_cNG, Int.cast_ofNat_Int, c_0, c_1, Int.natCast_add, Int.add_zero, cond_true, cond_false, Bool.and_self, Bool.and_true, Bool.true_and, Option.bind_some, decide_true, uI_hit, uI_miss, uI_o, uA_o, uA_s, ↓reduceIte, eq_self, true_or, or_true, or_false, false_or, true_and, and_true, false_and, and_false, or_self, and_self, not_false_eq_true, not_true_eq_false, tn_i, n1, n2, n3, n4, q]
    · have c2 : ¬apS (A (66 + 2 * i + 1)) (A (66 + 2 * j + 1)) ≤ hdS A i j := c
      rw [if_neg c]
      unfold FX11_areOne
      simp (disch := omega) only [nI_iI, lN_lJ, iI_0, lJ_0, iI_add, iI_sub, iI_mul, iI_neg, lJ_add, lJ_sub, lJ_mul, lJ_neg, i_l, l_i, iI_cl, iI_inb, iI_eqT, iI_eqF, iI_ltT, iI_ltF, iI_leT, iI_leF, lJ_eqT, lJ_eqF, lJ_cG, lJ_cE, lJ_cL, lJ_cF, lJ_cGE, lJ_cLE, lJ_cNL, lJ_cNG, Int.cast_ofNat_Int, c_0, c_1, Int.natCast_add, Int.add_zero, cond_true, cond_false, Bool.and_self, Bool.and_true, Bool.true_and, Option.bind_some, decide_true, uI_hit, uI_miss, uI_o, uA_o, uA_s, ↓reduceIte, eq_self, true_or, or_true, or_false, false_or, true_and, and_true, false_and, and_false, or_self, and_self, not_false_eq_true, not_true_eq_false, tn_i, n1, n2, n3, n4, q]
  · have hr : hdS A i j = -(A (66 + 2 * i) - A (66 + 2 * j)) := if_neg h0
    by_cases c : canS A i j
    · have c2 : apS (A (66 + 2 * i + 1)) (A (66 + 2 * j + 1)) ≤ hdS A i j := c
      rw [if_pos c]
      unfold FX11_areOne
      simp (disch := omega) only [nI_iI, lN_lJ, iI_0, lJ_0, iI_add, iI_sub, iI_mul, iI_neg, lJ_add, lJ_sub, lJ_mul, lJ_neg, i_l, l_i, iI_cl, iI_inb, iI_eqT, iI_eqF, iI_ltT, iI_ltF, iI_leT, iI_leF, lJ_eqT, lJ_eqF, lJ_cG, lJ_cE, lJ_cL, lJ_cF, lJ_cGE, lJ_cLE, lJ_cNL, lJ_cNG, Int.cast_ofNat_Int, c_0, c_1, Int.natCast_add, Int.add_zero, cond_true, cond_false, Bool.and_self, Bool.and_true, Bool.true_and, Option.bind_some, decide_true, uI_hit, uI_miss, uI_o, uA_o, uA_s, ↓reduceIte, eq_self, true_or, or_true, or_false, false_or, true_and, and_true, false_and, and_false, or_self, and_self, not_false_eq_true, not_true_eq_false, tn_i, n1, n2, n3, n4, q]
    · have c2 : ¬apS (A (66 + 2 * i + 1)) (A (66 + 2 * j + 1)) ≤ hdS A i j := c
      rw [if_neg c]
      unfold FX11_areOne
      simp (disch := omega) only [nI_iI, lN_lJ, iI_0, lJ_0, iI_add, iI_sub, iI_mul, iI_neg, lJ_add, lJ_sub, lJ_mul, lJ_neg, i_l, l_i, iI_cl, iI_inb, iI_eqT, iI_eqF, iI_ltT, iI_ltF, iI_leT, iI_leF, lJ_eqT, lJ_eqF, lJ_cG, lJ_cE, lJ_cL, lJ_cF, lJ_cGE, lJ_cLE, lJ_cNL, lJ_cNG, Int.cast_ofNat_Int, c_0, c_1, Int.natCast_add, Int.add_zero, cond_true, cond_false, Bool.and_self, Bool.and_true, Bool.true_and, Option.bind_some, decide_true, uI_hit, uI_miss, uI_o, uA_o, uA_s, ↓reduceIte, eq_self, true_or, or_true, or_false, false_or, true_and, and_true, false_and, and_false, or_self, and_self, not_false_eq_true, not_true_eq_false, tn_i, n1, n2, n3, n4, q]
theorem cq_has13_y {d : aI} {e : aJ} {A : Int → Int} (hN : NT d 13 A 5 66 2 10) (hS : SI A) {i : Int} (h : 0 ≤ i ∧ i < A 5) : FX3_has d e 13 (iI i) = some (iI 1, d, e) := by
  have b5 := hS.nts.1.1
  have n4 : d 13 4 = iI (A 5) := hN.2.1
  unfold FX3_has
  simp (disch := omega) only [nI_iI, lN_lJ, iI_0, lJ_0, iI_add, iI_sub, iI_mul, iI_neg, lJ_add, lJ_sub, lJ_mul, lJ_neg, i_l, l_i, iI_cl, iI_inb, iI_eqT, iI_eqF, iI_ltT, iI_ltF, iI_leT, iI_leF, lJ_eqT, lJ_eqF, lJ_cG, lJ_cE, lJ_cL, lJ_cF, lJ_cGE, lJ_cLE, lJ_cNL, lJ_cNG, Int.cast_ofNat_Int, c_0, c_1, Int.natCast_add, Int.add_zero, cond_true, cond_false, Bool.and_self, Bool.and_true, Bool.true_and, Option.bind_some, decide_true, uI_hit, uI_miss, uI_o, uA_o, uA_s, ↓reduceIte, eq_self, true_or, or_true, or_false, false_or, true_and, and_true, false_and, and_false, or_self, and_self, not_false_eq_true, not_true_eq_false, tn_i, n4, decide_eq_true]
theorem cq_has13_n {d : aI} {e : aJ} {A : Int → Int} (hN : NT d 13 A 5 66 2 10) (hS : SI A) {i : Int} (h : (i < 0 ∨ A 5 ≤ i) ∧ -2147483648 ≤ i ∧ i < 2147483648) : FX3_has d e 13 (iI i) = some (iI 0, d, e) := by
  have b5 := hS.nts.1.1
  have n4 : d 13 4 = iI (A 5) := hN.2.1
  unfold FX3_has
  by_cases c : i < 0
  · simp (disch := omega) only [nI_iI, lN_lJ, iI_0, lJ_0, iI_add, iI_sub, iI_mul, iI_neg, lJ_add, lJ_sub, lJ_mul, lJ_neg, i_l, l_i, iI_cl, iI_inb, iI_eqT, iI_eqF, iI_ltT, iI_ltF, iI_leT, iI_leF, lJ_eqT, lJ_eqF, lJ_cG, lJ_cE, lJ_cL, lJ_cF, lJ_cGE, lJ_cLE, lJ_cNL, lJ_cNG, Int.cast_ofNat_Int, c_0, c_1, Int.natCast_add, Int.add_zero, cond_true, cond_false, Bool.and_self, Bool.and_true, Bool.true_and, Option.bind_some, decide_true, uI_hit, uI_miss, uI_o, uA_o, uA_s, ↓reduceIte, eq_self, true_or, or_true, or_false, false_or, true_and, and_true, false_and, and_false, or_self, and_self, not_false_eq_true, not_true_eq_false, tn_i, n4, decide_eq_true]
  · simp (disch := omega) only [nI_iI, lN_lJ, iI_0, lJ_0, iI_add, iI_sub, iI_mul, iI_neg, lJ_add, lJ_sub, lJ_mul, lJ_neg, i_l, l_i, iI_cl, iI_inb, iI_eqT, iI_eqF, iI_ltT, iI_ltF, iI_leT, iI_leF, lJ_eqT, lJ_eqF, lJ_cG, lJ_cE, lJ_cL, lJ_cF, lJ_cGE, lJ_cLE, lJ_cNL, lJ_cNG, Int.cast_ofNat_Int, c_0, c_1, Int.natCast_add, Int.add_zero, cond_true, cond_false, Bool.and_self, Bool.and_true, Bool.true_and, Option.bind_some, decide_true, uI_hit, uI_miss, uI_o, uA_o, uA_s, ↓reduceIte, eq_self, true_or, or_true, or_false, false_or, true_and, and_true, false_and, and_false, or_self, and_self, not_false_eq_true, not_true_eq_false, tn_i, n4, decide_eq_true]
theorem mq_isSight_y {d : aI} {e : aJ} {A : Int → Int} (hA : MA d 109 A) (hS : SI A) {i : Int} (h : 0 ≤ i ∧ i < A 5) : FX11_isSight d e (iI i) = some (iI 1, d, e) := by
  have b5 := hS.nts.1.1
  have n5 : d 109 5 = iI (A 5) := hA.cell (j := 5) (by omega)
  unfold FX11_isSight
  simp (disch := omega) only [nI_iI, lN_lJ, iI_0, lJ_0, iI_add, iI_sub, iI_mul, iI_neg, lJ_add, lJ_sub, lJ_mul, lJ_neg, i_l, l_i, iI_cl, iI_inb, iI_eqT, iI_eqF, iI_ltT, iI_ltF, iI_leT, iI_leF, lJ_eqT, lJ_eqF, lJ_cG, lJ_cE, lJ_cL, lJ_cF, lJ_cGE, lJ_cLE, lJ_cNL, lJ_cNG, Int.cast_ofNat_Int, c_0, c_1, Int.natCast_add, Int.add_zero, cond_true, cond_false, Bool.and_self, Bool.and_true, Bool.true_and, Option.bind_some, decide_true, uI_hit, uI_miss, uI_o, uA_o, uA_s, ↓reduceIte, eq_self, true_or, or_true, or_false, false_or, true_and, and_true, false_and, and_false, or_self, and_self, not_false_eq_true, not_true_eq_false, tn_i, n5, mq_in_y, iI_one, decide_eq_true]
theorem mq_isSight_n {d : aI} {e : aJ} {A : Int → Int} (hA : MA d 109 A) (hS : SI A) {i : Int} (h : (i < 0 ∨ A 5 ≤ i) ∧ -2147483648 ≤ i ∧ i < 2147483648) : FX11_isSight d e (iI i) = some (iI 0, d, e) := by
  have b5 := hS.nts.1.1
  have n5 : d 109 5 = iI (A 5) := hA.cell (j := 5) (by omega)
  unfold FX11_isSight
  simp (disch := omega) only [nI_iI, lN_lJ, iI_0, lJ_0, iI_add, iI_sub, iI_mul, iI_neg, lJ_add, lJ_sub, lJ_mul, lJ_neg, i_l, l_i, iI_cl, iI_inb, iI_eqT, iI_eqF, iI_ltT, iI_ltF, iI_leT, iI_leF, lJ_eqT, lJ_eqF, lJ_cG, lJ_cE, lJ_cL, lJ_cF, lJ_cGE, lJ_cLE, lJ_cNL, lJ_cNG, Int.cast_ofNat_Int, c_0, c_1, Int.natCast_add, Int.add_zero, cond_true, cond_false, Bool.and_self, Bool.and_true, Bool.true_and, Option.bind_some, decide_true, uI_hit, uI_miss, uI_o, uA_o, uA_s, ↓reduceIte, eq_self, true_or, or_true, or_false, false_or, true_and, and_true, false_and, and_false, or_self, and_self, not_false_eq_true, not_true_eq_false, tn_i, n5, mq_in_n, iI_one, decide_eq_true]
theorem o_same (x y : Int32) : Op (fun d e => FX10_same d e x y) (fun d e => FX11_same d e x y) := by
  obtain ⟨i, rfl, i1, i2⟩ := iI_ex x
  obtain ⟨j, rfl, j1, j2⟩ := iI_ex y
  refine Op.pure (fun S hS => ?_)
  have hSI := hS.1
  by_cases hi : 0 ≤ i ∧ i < S.1 5
  · by_cases hj : 0 ≤ j ∧ j < S.1 5
    · obtain ⟨I, rfl⟩ := Int.eq_ofNat_of_zero_le hi.1
      obtain ⟨J, rfl⟩ := Int.eq_ofNat_of_zero_le hj.1
      refine ⟨iI (if canS S.1 I J then 1 else 0), fun d e hC => ?_, fun d e hM => ?_⟩
      · have m := hC.nt.1
        have q := cq_canBeOne (d := d) (e := e) m hSI hi.2 hj.2
        show FX10_same d e (iI I) (iI J) = _
        unfold FX10_same
        by_cases c : canS S.1 I J
        · rw [if_pos c] at q ⊢
          simp (disch := omega) only [nI_iI, lN_lJ, iI_0, lJ_0, iI_add, iI_sub, iI_mul, iI_neg, lJ_add, lJ_sub, lJ_mul, lJ_neg, i_l, l_i, iI_cl, iI_inb, iI_eqT, iI_eqF, iI_ltT, iI_ltF, iI_leT, iI_leF, lJ_eqT, lJ_eqF, lJ_cG, lJ_cE, lJ_cL, lJ_cF, lJ_cGE, lJ_cLE, lJ_cNL, lJ_cNG, Int.cast_ofNat_Int, c_0, c_1, Int.natCast_add, Int.add_zero, cond_true, cond_false, Bool.and_self, Bool.and_true, Bool.true_and, Option.bind_some, decide_true, uI_hit, uI_miss, uI_o, uA_o, uA_s, ↓reduceIte, eq_self, true_or, or_true, or_false, false_or, true_and, and_true, false_and, and_false, or_self, and_self, not_false_eq_true, not_true_eq_false, tn_i, cq_has13_y m hSI, q]
        · rw [if_neg c] at q ⊢
          simp (disch := omega) only [nI_iI, lN_lJ, iI_0, lJ_0, iI_add, iI_sub, iI_mul, iI_neg, lJ_add, lJ_sub, lJ_mul, lJ_neg, i_l, l_i, iI_cl, iI_inb, iI_eqT, iI_eqF, iI_ltT, iI_ltF, iI_leT, iI_leF, lJ_eqT, lJ_eqF, lJ_cG, lJ_cE, lJ_cL, lJ_cF, lJ_cGE, lJ_cLE, lJ_cNL, lJ_cNG, Int.cast_ofNat_Int, c_0, c_1, Int.natCast_add, Int.add_zero, cond_true, cond_false, Bool.and_self, Bool.and_true, Bool.true_and, Option.bind_some, decide_true, uI_hit, uI_miss, uI_o, uA_o, uA_s, ↓reduceIte, eq_self, true_or, or_true, or_false, false_or, true_and, and_true, false_and, and_false, or_self, and_self, not_false_eq_true, not_true_eq_false, tn_i, cq_has13_y m hSI, q]
      · have q := mq_areOne (d := d) (e := e) hM.1 hSI hi.2 hj.2
        show FX11_same d e (iI I) (iI J) = _
        unfold FX11_same
        by_cases c : canS S.1 I J
        · rw [if_pos c] at q ⊢
          simp (disch := omega) only [nI_iI, lN_lJ, iI_0, lJ_0, iI_add, iI_sub, iI_mul, iI_neg, lJ_add, lJ_sub, lJ_mul, lJ_neg, i_l, l_i, iI_cl, iI_inb, iI_eqT, iI_eqF, iI_ltT, iI_ltF, iI_leT, iI_leF, lJ_eqT, lJ_eqF, lJ_cG, lJ_cE, lJ_cL, lJ_cF, lJ_cGE, lJ_cLE, lJ_cNL, lJ_cNG, Int.cast_ofNat_Int, c_0, c_1, Int.natCast_add, Int.add_zero, cond_true, cond_false, Bool.and_self, Bool.and_true, Bool.true_and, Option.bind_some, decide_true, uI_hit, uI_miss, uI_o, uA_o, uA_s, ↓reduceIte, eq_self, true_or, or_true, or_false, false_or, true_and, and_true, false_and, and_false, or_self, and_self, not_false_eq_true, not_true_eq_false, tn_i, mq_isSight_y hM.1 hSI, q]
        · rw [if_neg c] at q ⊢
          simp (disch := omega) only [nI_iI, lN_lJ, iI_0, lJ_0, iI_add, iI_sub, iI_mul, iI_neg, lJ_add, lJ_sub, lJ_mul, lJ_neg, i_l, l_i, iI_cl, iI_inb, iI_eqT, iI_eqF, iI_ltT, iI_ltF, iI_leT, iI_leF, lJ_eqT, lJ_eqF, lJ_cG, lJ_cE, lJ_cL, lJ_cF, lJ_cGE, lJ_cLE, lJ_cNL, lJ_cNG, Int.cast_ofNat_Int, c_0, c_1, Int.natCast_add, Int.add_zero, cond_true, cond_false, Bool.and_self, Bool.and_true, Bool.true_and, Option.bind_some, decide_true, uI_hit, uI_miss, uI_o, uA_o, uA_s, ↓reduceIte, eq_self, true_or, or_true, or_false, false_or, true_and, and_true, false_and, and_false, or_self, and_self, not_false_eq_true, not_true_eq_false, tn_i, mq_isSight_y hM.1 hSI, q]
    · refine ⟨iI 0, fun d e hC => ?_, fun d e hM => ?_⟩
      · have m := hC.nt.1
        show FX10_same d e (iI i) (iI j) = _
        unfold FX10_same
        simp (disch := omega) only [nI_iI, lN_lJ, iI_0, lJ_0, iI_add, iI_sub, iI_mul, iI_neg, lJ_add, lJ_sub, lJ_mul, lJ_neg, i_l, l_i, iI_cl, iI_inb, iI_eqT, iI_eqF, iI_ltT, iI_ltF, iI_leT, iI_leF, lJ_eqT, lJ_eqF, lJ_cG, lJ_cE, lJ_cL, lJ_cF, lJ_cGE, lJ_cLE, lJ_cNL, lJ_cNG, Int.cast_ofNat_Int, c_0, c_1, Int.natCast_add, Int.add_zero, cond_true, cond_false, Bool.and_self, Bool.and_true, Bool.true_and, Option.bind_some, decide_true, uI_hit, uI_miss, uI_o, uA_o, uA_s, ↓reduceIte, eq_self, true_or, or_true, or_false, false_or, true_and, and_true, false_and, and_false, or_self, and_self, not_false_eq_true, not_true_eq_false, tn_i, cq_has13_y m hSI, cq_has13_n m hSI]
      · show FX11_same d e (iI i) (iI j) = _
        unfold FX11_same
        simp (disch := omega) only [nI_iI, lN_lJ, iI_0, lJ_0, iI_add, iI_sub, iI_mul, iI_neg, lJ_add, lJ_sub, lJ_mul, lJ_neg, i_l, l_i, iI_cl, iI_inb, iI_eqT, iI_eqF, iI_ltT, iI_ltF, iI_leT, iI_leF, lJ_eqT, lJ_eqF, lJ_cG, lJ_cE, lJ_cL, lJ_cF, lJ_cGE, lJ_cLE, lJ_cNL, lJ_cNG, Int.cast_ofNat_Int, c_0, c_1, Int.natCast_add, Int.add_zero, cond_true, cond_false, Bool.and_self, Bool.and_true, Bool.true_and, Option.bind_some, decide_true, uI_hit, uI_miss, uI_o, uA_o, uA_s, ↓reduceIte, eq_self, true_or, or_true, or_false, false_or, true_and, and_true, false_and, and_false, or_self, and_self, not_false_eq_true, not_true_eq_false, tn_i, mq_isSight_y hM.1 hSI, mq_isSight_n hM.1 hSI]
  · refine ⟨iI 0, fun d e hC => ?_, fun d e hM => ?_⟩
    · have m := hC.nt.1
      show FX10_same d e (iI i) (iI j) = _
      unfold FX10_same
      simp (disch := omega) only [nI_iI, lN_lJ, iI_0, lJ_0, iI_add, iI_sub, iI_mul, iI_neg, lJ_add, lJ_sub, lJ_mul, lJ_neg, i_l, l_i, iI_cl, iI_inb, iI_eqT, iI_eqF, iI_ltT, iI_ltF, iI_leT, iI_leF, lJ_eqT, lJ_eqF, lJ_cG, lJ_cE, lJ_cL, lJ_cF, lJ_cGE, lJ_cLE, lJ_cNL, lJ_cNG, Int.cast_ofNat_Int, c_0, c_1, Int.natCast_add, Int.add_zero, cond_true, cond_false, Bool.and_self, Bool.and_true, Bool.true_and, Option.bind_some, decide_true, uI_hit, uI_miss, uI_o, uA_o, uA_s, ↓reduceIte, eq_self, true_or, or_true, or_false, false_or, true_and, and_true, false_and, and_false, or_self, and_self, not_false_eq_true, not_true_eq_false, tn_i, cq_has13_n m hSI]
    · show FX11_same d e (iI i) (iI j) = _
      unfold FX11_same
      simp (disch := omega) only [nI_iI, lN_lJ, iI_0, lJ_0, iI_add, iI_sub, iI_mul, iI_neg, lJ_add, lJ_sub, lJ_mul, lJ_neg, i_l, l_i, iI_cl, iI_inb, iI_eqT, iI_eqF, iI_ltT, iI_ltF, iI_leT, iI_leF, lJ_eqT, lJ_eqF, lJ_cG, lJ_cE, lJ_cL, lJ_cF, lJ_cGE, lJ_cLE, lJ_cNL, lJ_cNG, Int.cast_ofNat_Int, c_0, c_1, Int.natCast_add, Int.add_zero, cond_true, cond_false, Bool.and_self, Bool.and_true, Bool.true_and, Option.bind_some, decide_true, uI_hit, uI_miss, uI_o, uA_o, uA_s, ↓reduceIte, eq_self, true_or, or_true, or_false, false_or, true_and, and_true, false_and, and_false, or_self, and_self, not_false_eq_true, not_true_eq_false, tn_i, mq_isSight_n hM.1 hSI]
