/-! ===== what a law says: reference ===== -/
theorem uJ_o {e : aJ} {o f k : Nat} {x : Int64} (h : k ≠ o) : uJ e o f x k = e k := if_neg h
theorem uJ_hit {e : aJ} {o f j : Nat} {x : Int64} (h : j = f) : uJ e o f x o j = x := by
  unfold uJ vp_updL
  rw [if_pos rfl, if_pos h]
theorem uJ_miss {e : aJ} {o f j : Nat} {x : Int64} (h : j ≠ f) : uJ e o f x o j = e o j := by
  unfold uJ vp_updL
  rw [if_pos rfl, if_neg h]
theorem nar_tv (b : Bool) : vp_nar .boolean (iI (tv b)) = iI (tv b) := by cases b <;> rfl
theorem nar_0 : vp_nar .boolean (iI 0) = iI 0 := rfl
theorem nar_1 : vp_nar .boolean (iI 1) = iI 1 := rfl
def SameT (d d' : aI) : Prop := ∀ k, k ≠ 116 → d' k = d k
def SameE (e e' : aJ) : Prop := ∀ k, k ≠ 115 → e' k = e k
theorem SameT.refl (d : aI) : SameT d d := fun _ _ => rfl
theorem SameE.refl (e : aJ) : SameE e e := fun _ _ => rfl
theorem SameT.trans {d d1 d2 : aI} (h : SameT d d1) (h2 : SameT d1 d2) : SameT d d2 := fun k a => (h2 k a).trans (h k a)
theorem SameE.trans {e e1 e2 : aJ} (h : SameE e e1) (h2 : SameE e1 e2) : SameE e e2 := fun k a => (h2 k a).trans (h k a)
theorem SameT.put {d d1 : aI} {j : Nat} {x : Int32} (h : SameT d d1) : SameT d (uI d1 116 j x) := by
  intro k a
  rw [uI_o a]
  exact h k a
theorem SameE.put {e e1 : aJ} {j : Nat} {x : Int64} (h : SameE e e1) : SameE e (uJ e1 115 j x) := by
  intro k a
  rw [uJ_o a]
  exact h k a
abbrev rS (tx cl : Int32) (x cb n m i : Int) (u w : Option Value) (d : aI) (e : aJ) : aP :=
  (38, [some (.ref 108), some (.int tx), some (.int cl), some (.int (iI x)), some (.int (iI cb)), some (.int (iI n)), some (.int (iI m)), some (.int (iI i)), u, w], d, e)
theorem rs_num {d : aI} {e : aJ} {tx cl : Int32} {x cb n m i last o z : Int} {u w : Option Value} (hl : d 111 (x + 2).toNat = iI last) (ho : d 111 (cb + 2 * i).toNat = iI o) (hz : d 111 (cb + 2 * i + 1).toNat = iI z) (hr : 0 ≤ x ∧ x + 2 < 2724 ∧ 0 ≤ cb ∧ 0 ≤ i ∧ i < last ∧ cb + 2 * last ≤ 2724) (hn : 0 ≤ n ∧ n < 330) (hc : o = 0) (hv : 0 ≤ z ∧ z ≤ 9999) :
    stX11_summedUp (rS tx cl x cb n m i u w d e) = some (rS tx cl x cb (n + 1) m (i + 1) (some (.int (iI o))) (some (.int (iI z))) d (uJ e 115 n.toNat (lJ z))) := by
  show sX11_summedUp_38 d e tx cl (iI x) (iI cb) (iI n) (iI m) (iI i) u w = _
  unfold sX11_summedUp_38
  simp (disch := omega) only [nI_iI, lN_lJ, iI_0, lJ_0, iI_add, iI_sub, iI_mul, iI_neg, lJ_add, lJ_sub, lJ_mul, lJ_neg, i_l, l_i, iI_cl, iI_inb, iI_eqT, iI_eqF, iI_ltT, iI_ltF, iI_leT, iI_leF, lJ_eqT, lJ_eqF, lJ_cG, lJ_cE, lJ_cL, lJ_cF, lJ_cGE, lJ_cLE, lJ_cNL, lJ_cNG, Int.cast_ofNat_Int, c_0, c_1, Int.natCast_add, Int.add_zero, cond_true, cond_false, Bool.and_self, Bool.and_true, Bool.true_and, Option.bind_some, decide_true, uI_hit, uI_miss, uI_o, uA_o, uA_s, ↓reduceIte, eq_self, true_or, or_true, or_false, false_or, true_and, and_true, false_and, and_false, or_self, and_self, not_false_eq_true, not_true_eq_false, tn_i, hl, ho, hz]
theorem rs_name {d : aI} {e : aJ} {tx cl : Int32} {x cb n m i last o z y : Int} {u w : Option Value} (hl : d 111 (x + 2).toNat = iI last) (ho : d 111 (cb + 2 * i).toNat = iI o) (hz : d 111 (cb + 2 * i + 1).toNat = iI z) (hr : 0 ≤ x ∧ x + 2 < 2724 ∧ 0 ≤ cb ∧ 0 ≤ i ∧ i < last ∧ cb + 2 * last ≤ 2724) (hn : 0 ≤ n ∧ n < 330) (hc : o = 1) (hv : 0 ≤ z ∧ z < 8) (hy : d 114 z.toNat = iI y) (hy2 : 0 ≤ y ∧ y ≤ 9999) :
    stX11_summedUp (rS tx cl x cb n m i u w d e) = some (rS tx cl x cb (n + 1) m (i + 1) (some (.int (iI o))) (some (.int (iI z))) d (uJ e 115 n.toNat (lJ y))) := by
  show sX11_summedUp_38 d e tx cl (iI x) (iI cb) (iI n) (iI m) (iI i) u w = _
  unfold sX11_summedUp_38
  simp (disch := omega) only [nI_iI, lN_lJ, iI_0, lJ_0, iI_add, iI_sub, iI_mul, iI_neg, lJ_add, lJ_sub, lJ_mul, lJ_neg, i_l, l_i, iI_cl, iI_inb, iI_eqT, iI_eqF, iI_ltT, iI_ltF, iI_leT, iI_leF, lJ_eqT, lJ_eqF, lJ_cG, lJ_cE, lJ_cL, lJ_cF, lJ_cGE, lJ_cLE, lJ_cNL, lJ_cNG, Int.cast_ofNat_Int, c_0, c_1, Int.natCast_add, Int.add_zero, cond_true, cond_false, Bool.and_self, Bool.and_true, Bool.true_and, Option.bind_some, decide_true, uI_hit, uI_miss, uI_o, uA_o, uA_s, ↓reduceIte, eq_self, true_or, or_true, or_false, false_or, true_and, and_true, false_and, and_false, or_self, and_self, not_false_eq_true, not_true_eq_false, tn_i, hl, ho, hz, hy]
theorem rs_sel1 {d : aI} {e : aJ} {tx cl : Int32} {x cb n m i last o z : Int} {u w : Option Value} (hl : d 111 (x + 2).toNat = iI last) (ho : d 111 (cb + 2 * i).toNat = iI o) (hz : d 111 (cb + 2 * i + 1).toNat = iI z) (hr : 0 ≤ x ∧ x + 2 < 2724 ∧ 0 ≤ cb ∧ 0 ≤ i ∧ i < last ∧ cb + 2 * last ≤ 2724) (hn : 1 < n ∧ n ≤ 330) (hm : 0 < m ∧ m ≤ 330) (hc : o = 3) (ht : d 116 (m + -1).toNat = iI 1) :
    stX11_summedUp (rS tx cl x cb n m i u w d e) = some (rS tx cl x cb (n + -1) (m + -1) (i + 1) (some (.int (iI o))) (some (.int (iI z))) d e) := by
  show sX11_summedUp_38 d e tx cl (iI x) (iI cb) (iI n) (iI m) (iI i) u w = _
  unfold sX11_summedUp_38
  simp (disch := omega) only [nI_iI, lN_lJ, iI_0, lJ_0, iI_add, iI_sub, iI_mul, iI_neg, lJ_add, lJ_sub, lJ_mul, lJ_neg, i_l, l_i, iI_cl, iI_inb, iI_eqT, iI_eqF, iI_ltT, iI_ltF, iI_leT, iI_leF, lJ_eqT, lJ_eqF, lJ_cG, lJ_cE, lJ_cL, lJ_cF, lJ_cGE, lJ_cLE, lJ_cNL, lJ_cNG, Int.cast_ofNat_Int, c_0, c_1, Int.natCast_add, Int.add_zero, cond_true, cond_false, Bool.and_self, Bool.and_true, Bool.true_and, Option.bind_some, decide_true, uI_hit, uI_miss, uI_o, uA_o, uA_s, ↓reduceIte, eq_self, true_or, or_true, or_false, false_or, true_and, and_true, false_and, and_false, or_self, and_self, not_false_eq_true, not_true_eq_false, tn_i, hl, ho, hz, ht]
theorem rs_sel0 {d : aI} {e : aJ} {tx cl : Int32} {x cb n m i last o z : Int} {u w : Option Value} (hl : d 111 (x + 2).toNat = iI last) (ho : d 111 (cb + 2 * i).toNat = iI o) (hz : d 111 (cb + 2 * i + 1).toNat = iI z) (hr : 0 ≤ x ∧ x + 2 < 2724 ∧ 0 ≤ cb ∧ 0 ≤ i ∧ i < last ∧ cb + 2 * last ≤ 2724) (hn : 1 < n ∧ n ≤ 330) (hm : 0 < m ∧ m ≤ 330) (hc : o = 3) (ht : d 116 (m + -1).toNat = iI 0) :
    stX11_summedUp (rS tx cl x cb n m i u w d e) = some (rS tx cl x cb (n + -1) (m + -1) (i + 1) (some (.int (iI o))) (some (.int (iI z))) d (uJ e 115 (n + -1 - 1).toNat (e 115 (n + -1).toNat))) := by
  show sX11_summedUp_38 d e tx cl (iI x) (iI cb) (iI n) (iI m) (iI i) u w = _
  unfold sX11_summedUp_38
  simp (disch := omega) only [nI_iI, lN_lJ, iI_0, lJ_0, iI_add, iI_sub, iI_mul, iI_neg, lJ_add, lJ_sub, lJ_mul, lJ_neg, i_l, l_i, iI_cl, iI_inb, iI_eqT, iI_eqF, iI_ltT, iI_ltF, iI_leT, iI_leF, lJ_eqT, lJ_eqF, lJ_cG, lJ_cE, lJ_cL, lJ_cF, lJ_cGE, lJ_cLE, lJ_cNL, lJ_cNG, Int.cast_ofNat_Int, c_0, c_1, Int.natCast_add, Int.add_zero, cond_true, cond_false, Bool.and_self, Bool.and_true, Bool.true_and, Option.bind_some, decide_true, uI_hit, uI_miss, uI_o, uA_o, uA_s, ↓reduceIte, eq_self, true_or, or_true, or_false, false_or, true_and, and_true, false_and, and_false, or_self, and_self, not_false_eq_true, not_true_eq_false, tn_i, hl, ho, hz, ht]
theorem rs_neg {d : aI} {e : aJ} {tx cl : Int32} {x cb n m i last o z y : Int} {u w : Option Value} (hl : d 111 (x + 2).toNat = iI last) (ho : d 111 (cb + 2 * i).toNat = iI o) (hz : d 111 (cb + 2 * i + 1).toNat = iI z) (hr : 0 ≤ x ∧ x + 2 < 2724 ∧ 0 ≤ cb ∧ 0 ≤ i ∧ i < last ∧ cb + 2 * last ≤ 2724) (hn : 0 < n ∧ n ≤ 330) (hc : o = 5) (hy : e 115 (n - 1).toNat = lJ y) :
    stX11_summedUp (rS tx cl x cb n m i u w d e) = some (rS tx cl x cb n m (i + 1) (some (.int (iI o))) (some (.int (iI z))) d (uJ e 115 (n - 1).toNat (lJ (-y)))) := by
  show sX11_summedUp_38 d e tx cl (iI x) (iI cb) (iI n) (iI m) (iI i) u w = _
  unfold sX11_summedUp_38
  simp (disch := omega) only [nI_iI, lN_lJ, iI_0, lJ_0, iI_add, iI_sub, iI_mul, iI_neg, lJ_add, lJ_sub, lJ_mul, lJ_neg, i_l, l_i, iI_cl, iI_inb, iI_eqT, iI_eqF, iI_ltT, iI_ltF, iI_leT, iI_leF, lJ_eqT, lJ_eqF, lJ_cG, lJ_cE, lJ_cL, lJ_cF, lJ_cGE, lJ_cLE, lJ_cNL, lJ_cNG, Int.cast_ofNat_Int, c_0, c_1, Int.natCast_add, Int.add_zero, cond_true, cond_false, Bool.and_self, Bool.and_true, Bool.true_and, Option.bind_some, decide_true, uI_hit, uI_miss, uI_o, uA_o, uA_s, ↓reduceIte, eq_self, true_or, or_true, or_false, false_or, true_and, and_true, false_and, and_false, or_self, and_self, not_false_eq_true, not_true_eq_false, tn_i, hl, ho, hz, hy]
theorem rs_chill {d : aI} {e : aJ} {tx cl : Int32} {x cb n m i last o z y q : Int} {u w : Option Value} (hl : d 111 (x + 2).toNat = iI last) (ho : d 111 (cb + 2 * i).toNat = iI o) (hz : d 111 (cb + 2 * i + 1).toNat = iI z) (hr : 0 ≤ x ∧ x + 2 < 2724 ∧ 0 ≤ cb ∧ 0 ≤ i ∧ i < last ∧ cb + 2 * last ≤ 2724) (hn : 0 < n ∧ n ≤ 330) (hc : o = 2) (hy : e 115 (n - 1).toNat = lJ y) (hq : FX11_chillOf d e (lJ y) = some (lJ q, d, e)) :
    stX11_summedUp (rS tx cl x cb n m i u w d e) = some (rS tx cl x cb n m (i + 1) (some (.int (iI o))) (some (.int (iI z))) d (uJ e 115 (n - 1).toNat (lJ q))) := by
  show sX11_summedUp_38 d e tx cl (iI x) (iI cb) (iI n) (iI m) (iI i) u w = _
  unfold sX11_summedUp_38
  simp (disch := omega) only [nI_iI, lN_lJ, iI_0, lJ_0, iI_add, iI_sub, iI_mul, iI_neg, lJ_add, lJ_sub, lJ_mul, lJ_neg, i_l, l_i, iI_cl, iI_inb, iI_eqT, iI_eqF, iI_ltT, iI_ltF, iI_leT, iI_leF, lJ_eqT, lJ_eqF, lJ_cG, lJ_cE, lJ_cL, lJ_cF, lJ_cGE, lJ_cLE, lJ_cNL, lJ_cNG, Int.cast_ofNat_Int, c_0, c_1, Int.natCast_add, Int.add_zero, cond_true, cond_false, Bool.and_self, Bool.and_true, Bool.true_and, Option.bind_some, decide_true, uI_hit, uI_miss, uI_o, uA_o, uA_s, ↓reduceIte, eq_self, true_or, or_true, or_false, false_or, true_and, and_true, false_and, and_false, or_self, and_self, not_false_eq_true, not_true_eq_false, tn_i, hl, ho, hz, hy, hq]
theorem rs_turn {d : aI} {e : aJ} {tx cl : Int32} {x cb n m i last o z y y2 q : Int} {u w : Option Value} (hl : d 111 (x + 2).toNat = iI last) (ho : d 111 (cb + 2 * i).toNat = iI o) (hz : d 111 (cb + 2 * i + 1).toNat = iI z) (hr : 0 ≤ x ∧ x + 2 < 2724 ∧ 0 ≤ cb ∧ 0 ≤ i ∧ i < last ∧ cb + 2 * last ≤ 2724) (hn : 1 < n ∧ n ≤ 330) (hc : o = 4) (hy : e 115 (n + -1 - 1).toNat = lJ y) (hy2 : e 115 (n + -1).toNat = lJ y2) (hq : FX11_turnOf d e (lJ y) (lJ y2) = some (lJ q, d, e)) :
    stX11_summedUp (rS tx cl x cb n m i u w d e) = some (rS tx cl x cb (n + -1) m (i + 1) (some (.int (iI o))) (some (.int (iI z))) d (uJ e 115 (n + -1 - 1).toNat (lJ q))) := by
  show sX11_summedUp_38 d e tx cl (iI x) (iI cb) (iI n) (iI m) (iI i) u w = _
  unfold sX11_summedUp_38
  simp (disch := omega) only [nI_iI, lN_lJ, iI_0, lJ_0, iI_add, iI_sub, iI_mul, iI_neg, lJ_add, lJ_sub, lJ_mul, lJ_neg, i_l, l_i, iI_cl, iI_inb, iI_eqT, iI_eqF, iI_ltT, iI_ltF, iI_leT, iI_leF, lJ_eqT, lJ_eqF, lJ_cG, lJ_cE, lJ_cL, lJ_cF, lJ_cGE, lJ_cLE, lJ_cNL, lJ_cNG, Int.cast_ofNat_Int, c_0, c_1, Int.natCast_add, Int.add_zero, cond_true, cond_false, Bool.and_self, Bool.and_true, Bool.true_and, Option.bind_some, decide_true, uI_hit, uI_miss, uI_o, uA_o, uA_s, ↓reduceIte, eq_self, true_or, or_true, or_false, false_or, true_and, and_true, false_and, and_false, or_self, and_self, not_false_eq_true, not_true_eq_false, tn_i, hl, ho, hz, hy, hy2, hq]
theorem rs_two {d : aI} {e : aJ} {tx cl : Int32} {x cb n m i last o z y y2 q : Int} {u w : Option Value} (hl : d 111 (x + 2).toNat = iI last) (ho : d 111 (cb + 2 * i).toNat = iI o) (hz : d 111 (cb + 2 * i + 1).toNat = iI z) (hr : 0 ≤ x ∧ x + 2 < 2724 ∧ 0 ≤ cb ∧ 0 ≤ i ∧ i < last ∧ cb + 2 * last ≤ 2724) (hn : 1 < n ∧ n ≤ 330) (hc : 6 ≤ o ∧ o ≤ 9) (hy : e 115 (n + -1 - 1).toNat = lJ y) (hy2 : e 115 (n + -1).toNat = lJ y2) (hq : FX11_two d e (iI o) (lJ y) (lJ y2) = some (lJ q, d, e)) :
    stX11_summedUp (rS tx cl x cb n m i u w d e) = some (rS tx cl x cb (n + -1) m (i + 1) (some (.int (iI o))) (some (.int (iI z))) d (uJ e 115 (n + -1 - 1).toNat (lJ q))) := by
  show sX11_summedUp_38 d e tx cl (iI x) (iI cb) (iI n) (iI m) (iI i) u w = _
  unfold sX11_summedUp_38
  simp (disch := omega) only [nI_iI, lN_lJ, iI_0, lJ_0, iI_add, iI_sub, iI_mul, iI_neg, lJ_add, lJ_sub, lJ_mul, lJ_neg, i_l, l_i, iI_cl, iI_inb, iI_eqT, iI_eqF, iI_ltT, iI_ltF, iI_leT, iI_leF, lJ_eqT, lJ_eqF, lJ_cG, lJ_cE, lJ_cL, lJ_cF, lJ_cGE, lJ_cLE, lJ_cNL, lJ_cNG, Int.cast_ofNat_Int, c_0, c_1, Int.natCast_add, Int.add_zero, cond_true, cond_false, Bool.and_self, Bool.and_true, Bool.true_and, Option.bind_some, decide_true, uI_hit, uI_miss, uI_o, uA_o, uA_s, ↓reduceIte, eq_self, true_or, or_true, or_false, false_or, true_and, and_true, false_and, and_false, or_self, and_self, not_false_eq_true, not_true_eq_false, tn_i, hl, ho, hz, hy, hy2, hq]
theorem rs_cmp {d : aI} {e : aJ} {tx cl : Int32} {x cb n m i last o z y y2 : Int} {b : Bool} {u w : Option Value} (hl : d 111 (x + 2).toNat = iI last) (ho : d 111 (cb + 2 * i).toNat = iI o) (hz : d 111 (cb + 2 * i + 1).toNat = iI z) (hr : 0 ≤ x ∧ x + 2 < 2724 ∧ 0 ≤ cb ∧ 0 ≤ i ∧ i < last ∧ cb + 2 * last ≤ 2724) (hn : 1 < n ∧ n ≤ 330) (hm : 0 ≤ m ∧ m < 330) (hc : 10 ≤ o ∧ o ≤ 15) (hy : e 115 (n + -2).toNat = lJ y) (hy2 : e 115 (n + -2 + 1).toNat = lJ y2) (hq : FX11_isAsked d e (iI o) (lJ y) (lJ y2) = some (iI (tv b), d, e)) :
    stX11_summedUp (rS tx cl x cb n m i u w d e) = some (rS tx cl x cb (n + -2) (m + 1) (i + 1) (some (.int (iI o))) (some (.int (iI z))) (uI d 116 m.toNat (iI (tv b))) e) := by
  show sX11_summedUp_38 d e tx cl (iI x) (iI cb) (iI n) (iI m) (iI i) u w = _
  unfold sX11_summedUp_38
  simp (disch := omega) only [nI_iI, lN_lJ, iI_0, lJ_0, iI_add, iI_sub, iI_mul, iI_neg, lJ_add, lJ_sub, lJ_mul, lJ_neg, i_l, l_i, iI_cl, iI_inb, iI_eqT, iI_eqF, iI_ltT, iI_ltF, iI_leT, iI_leF, lJ_eqT, lJ_eqF, lJ_cG, lJ_cE, lJ_cL, lJ_cF, lJ_cGE, lJ_cLE, lJ_cNL, lJ_cNG, Int.cast_ofNat_Int, c_0, c_1, Int.natCast_add, Int.add_zero, cond_true, cond_false, Bool.and_self, Bool.and_true, Bool.true_and, Option.bind_some, decide_true, uI_hit, uI_miss, uI_o, uA_o, uA_s, ↓reduceIte, eq_self, true_or, or_true, or_false, false_or, true_and, and_true, false_and, and_false, or_self, and_self, not_false_eq_true, not_true_eq_false, tn_i, hl, ho, hz, hy, hy2, hq, nar_tv]
theorem rs_not {d : aI} {e : aJ} {tx cl : Int32} {x cb n m i last o z : Int} {b : Bool} {u w : Option Value} (hl : d 111 (x + 2).toNat = iI last) (ho : d 111 (cb + 2 * i).toNat = iI o) (hz : d 111 (cb + 2 * i + 1).toNat = iI z) (hr : 0 ≤ x ∧ x + 2 < 2724 ∧ 0 ≤ cb ∧ 0 ≤ i ∧ i < last ∧ cb + 2 * last ≤ 2724) (hm : 0 < m ∧ m ≤ 330) (hc : o = 20) (ht : d 116 (m - 1).toNat = iI (tv b)) :
    stX11_summedUp (rS tx cl x cb n m i u w d e) = some (rS tx cl x cb n m (i + 1) (some (.int (iI o))) (some (.int (iI z))) (uI d 116 (m - 1).toNat (iI (tv (!b)))) e) := by
  show sX11_summedUp_38 d e tx cl (iI x) (iI cb) (iI n) (iI m) (iI i) u w = _
  unfold sX11_summedUp_38
  cases b
  · simp only [show tv false = 0 from rfl] at ht
    simp only [show tv (!false) = 1 from rfl]
    simp (disch := omega) only [nI_iI, lN_lJ, iI_0, lJ_0, iI_add, iI_sub, iI_mul, iI_neg, lJ_add, lJ_sub, lJ_mul, lJ_neg, i_l, l_i, iI_cl, iI_inb, iI_eqT, iI_eqF, iI_ltT, iI_ltF, iI_leT, iI_leF, lJ_eqT, lJ_eqF, lJ_cG, lJ_cE, lJ_cL, lJ_cF, lJ_cGE, lJ_cLE, lJ_cNL, lJ_cNG, Int.cast_ofNat_Int, c_0, c_1, Int.natCast_add, Int.add_zero, cond_true, cond_false, Bool.and_self, Bool.and_true, Bool.true_and, Option.bind_some, decide_true, uI_hit, uI_miss, uI_o, uA_o, uA_s, ↓reduceIte, eq_self, true_or, or_true, or_false, false_or, true_and, and_true, false_and, and_false, or_self, and_self, not_false_eq_true, not_true_eq_false, tn_i, hl, ho, hz, ht, nar_1]
  · simp only [show tv true = 1 from rfl] at ht
    simp only [show tv (!true) = 0 from rfl]
    simp (disch := omega) only [nI_iI, lN_lJ, iI_0, lJ_0, iI_add, iI_sub, iI_mul, iI_neg, lJ_add, lJ_sub, lJ_mul, lJ_neg, i_l, l_i, iI_cl, iI_inb, iI_eqT, iI_eqF, iI_ltT, iI_ltF, iI_leT, iI_leF, lJ_eqT, lJ_eqF, lJ_cG, lJ_cE, lJ_cL, lJ_cF, lJ_cGE, lJ_cLE, lJ_cNL, lJ_cNG, Int.cast_ofNat_Int, c_0, c_1, Int.natCast_add, Int.add_zero, cond_true, cond_false, Bool.and_self, Bool.and_true, Bool.true_and, Option.bind_some, decide_true, uI_hit, uI_miss, uI_o, uA_o, uA_s, ↓reduceIte, eq_self, true_or, or_true, or_false, false_or, true_and, and_true, false_and, and_false, or_self, and_self, not_false_eq_true, not_true_eq_false, tn_i, hl, ho, hz, ht, nar_0]
theorem rs_join {d : aI} {e : aJ} {tx cl : Int32} {x cb n m i last o z : Int} {b b2 b3 : Bool} {u w : Option Value} (hl : d 111 (x + 2).toNat = iI last) (ho : d 111 (cb + 2 * i).toNat = iI o) (hz : d 111 (cb + 2 * i + 1).toNat = iI z) (hr : 0 ≤ x ∧ x + 2 < 2724 ∧ 0 ≤ cb ∧ 0 ≤ i ∧ i < last ∧ cb + 2 * last ≤ 2724) (hm : 1 < m ∧ m ≤ 330) (hc : 21 ≤ o ∧ o ≤ 22) (ht : d 116 (m + -1 - 1).toNat = iI (tv b)) (ht2 : d 116 (m + -1).toNat = iI (tv b2)) (hq : FX11_joined d e (iI o) (iI (tv b)) (iI (tv b2)) = some (iI (tv b3), d, e)) :
    stX11_summedUp (rS tx cl x cb n m i u w d e) = some (rS tx cl x cb n (m + -1) (i + 1) (some (.int (iI o))) (some (.int (iI z))) (uI d 116 (m + -1 - 1).toNat (iI (tv b3))) e) := by
  show sX11_summedUp_38 d e tx cl (iI x) (iI cb) (iI n) (iI m) (iI i) u w = _
  unfold sX11_summedUp_38
  simp (disch := omega) only [nI_iI, lN_lJ, iI_0, lJ_0, iI_add, iI_sub, iI_mul, iI_neg, lJ_add, lJ_sub, lJ_mul, lJ_neg, i_l, l_i, iI_cl, iI_inb, iI_eqT, iI_eqF, iI_ltT, iI_ltF, iI_leT, iI_leF, lJ_eqT, lJ_eqF, lJ_cG, lJ_cE, lJ_cL, lJ_cF, lJ_cGE, lJ_cLE, lJ_cNL, lJ_cNG, Int.cast_ofNat_Int, c_0, c_1, Int.natCast_add, Int.add_zero, cond_true, cond_false, Bool.and_self, Bool.and_true, Bool.true_and, Option.bind_some, decide_true, uI_hit, uI_miss, uI_o, uA_o, uA_s, ↓reduceIte, eq_self, true_or, or_true, or_false, false_or, true_and, and_true, false_and, and_false, or_self, and_self, not_false_eq_true, not_true_eq_false, tn_i, hl, ho, hz, ht, ht2, hq, nar_tv]
