/-! ===== a night comes back out of a row: class ===== -/
theorem cr_st {d : aI} {e : aJ} {o1 m : Nat} {r x3 x4 : Int} (ho : o1 = 12 ∨ o1 = 107) (hm : szOf o1 = m) (hr : 0 ≤ r ∧ r + 60 ≤ m ∧ m < 10000) (hx : 0 ≤ x3 ∧ x3 ≤ 6 ∧ 0 ≤ x4 ∧ x4 ≤ 6) (pc pc2 : Nat) (a n : Int) (dst : Nat) (h : (pc = 80 ∧ pc2 = 97 ∧ a = 11 ∧ n = x4 ∧ dst = 8) ∨ (pc = 97 ∧ pc2 = 114 ∧ a = 17 ∧ n = x4 ∧ dst = 9) ∨ (pc = 114 ∧ pc2 = 130 ∧ a = 23 ∧ n = x3 ∧ dst = 4) ∨ (pc = 130 ∧ pc2 = 149 ∧ a = 29 ∧ n = x3 ∧ dst = 5) ∨ (pc = 149 ∧ pc2 = 169 ∧ a = 35 ∧ n = 25 ∧ dst = 10)) :
    stX2_restore (pc, [some (.ref 2), some (.ref o1), some (.int (iI r)), some (.int (iI x3)), some (.int (iI x4))], d, e) = some (pc2, [some (.ref 2), some (.ref o1), some (.int (iI r)), some (.int (iI x3)), some (.int (iI x4))], uA d dst (va_cpy (d o1) (d dst) (r + a).toNat 0 n.toNat), e) := by
  rcases h with ⟨rfl, rfl, rfl, rfl, rfl⟩ | ⟨rfl, rfl, rfl, rfl, rfl⟩ | ⟨rfl, rfl, rfl, rfl, rfl⟩ | ⟨rfl, rfl, rfl, rfl, rfl⟩ | ⟨rfl, rfl, rfl, rfl, rfl⟩
  · show sX2_restore_80 d e o1 (iI r) (iI x3) _ = _
    unfold sX2_restore_80
    rw [show r + 11 = r + 5 + 6 by omega]
    simp (disch := omega) only [nI_iI, lN_lJ, iI_0, lJ_0, iI_add, iI_sub, iI_mul, iI_neg, lJ_add, lJ_sub, lJ_mul, lJ_neg, i_l, l_i, iI_cl, iI_inb, iI_eqT, iI_eqF, iI_ltT, iI_ltF, iI_leT, iI_leF, lJ_eqT, lJ_eqF, lJ_cG, lJ_cE, lJ_cL, lJ_cF, lJ_cGE, lJ_cLE, lJ_cNL, lJ_cNG, Int.cast_ofNat_Int, c_0, c_1, Int.natCast_add, Int.add_zero, cond_true, cond_false, Bool.and_self, Bool.and_true, Bool.true_and, Option.bind_some, decide_true, uI_hit, uI_miss, uI_o, uA_o, uA_s, ↓reduceIte, eq_self, true_or, or_true, or_false, false_or, true_and, and_true, false_and, and_false, or_self, and_self, not_false_eq_true, not_true_eq_false, tn_i, ho, hm, decide_eq_true]
  · show sX2_restore_97 d e o1 (iI r) (iI x3) _ = _
    unfold sX2_restore_97
    rw [show r + 17 = r + 5 + 12 by omega]
    simp (disch := omega) only [nI_iI, lN_lJ, iI_0, lJ_0, iI_add, iI_sub, iI_mul, iI_neg, lJ_add, lJ_sub, lJ_mul, lJ_neg, i_l, l_i, iI_cl, iI_inb, iI_eqT, iI_eqF, iI_ltT, iI_ltF, iI_leT, iI_leF, lJ_eqT, lJ_eqF, lJ_cG, lJ_cE, lJ_cL, lJ_cF, lJ_cGE, lJ_cLE, lJ_cNL, lJ_cNG, Int.cast_ofNat_Int, c_0, c_1, Int.natCast_add, Int.add_zero, cond_true, cond_false, Bool.and_self, Bool.and_true, Bool.true_and, Option.bind_some, decide_true, uI_hit, uI_miss, uI_o, uA_o, uA_s, ↓reduceIte, eq_self, true_or, or_true, or_false, false_or, true_and, and_true, false_and, and_false, or_self, and_self, not_false_eq_true, not_true_eq_false, tn_i, ho, hm, decide_eq_true]
  · show sX2_restore_114 d e o1 (iI r) _ (iI x4) = _
    unfold sX2_restore_114
    rw [show r + 23 = r + 5 + 18 by omega]
    simp (disch := omega) only [nI_iI, lN_lJ, iI_0, lJ_0, iI_add, iI_sub, iI_mul, iI_neg, lJ_add, lJ_sub, lJ_mul, lJ_neg, i_l, l_i, iI_cl, iI_inb, iI_eqT, iI_eqF, iI_ltT, iI_ltF, iI_leT, iI_leF, lJ_eqT, lJ_eqF, lJ_cG, lJ_cE, lJ_cL, lJ_cF, lJ_cGE, lJ_cLE, lJ_cNL, lJ_cNG, Int.cast_ofNat_Int, c_0, c_1, Int.natCast_add, Int.add_zero, cond_true, cond_false, Bool.and_self, Bool.and_true, Bool.true_and, Option.bind_some, decide_true, uI_hit, uI_miss, uI_o, uA_o, uA_s, ↓reduceIte, eq_self, true_or, or_true, or_false, false_or, true_and, and_true, false_and, and_false, or_self, and_self, not_false_eq_true, not_true_eq_false, tn_i, ho, hm, decide_eq_true]
  · show sX2_restore_130 d e o1 (iI r) _ (iI x4) = _
    unfold sX2_restore_130
    rw [show r + 29 = r + 5 + 18 + 6 by omega]
    simp (disch := omega) only [nI_iI, lN_lJ, iI_0, lJ_0, iI_add, iI_sub, iI_mul, iI_neg, lJ_add, lJ_sub, lJ_mul, lJ_neg, i_l, l_i, iI_cl, iI_inb, iI_eqT, iI_eqF, iI_ltT, iI_ltF, iI_leT, iI_leF, lJ_eqT, lJ_eqF, lJ_cG, lJ_cE, lJ_cL, lJ_cF, lJ_cGE, lJ_cLE, lJ_cNL, lJ_cNG, Int.cast_ofNat_Int, c_0, c_1, Int.natCast_add, Int.add_zero, cond_true, cond_false, Bool.and_self, Bool.and_true, Bool.true_and, Option.bind_some, decide_true, uI_hit, uI_miss, uI_o, uA_o, uA_s, ↓reduceIte, eq_self, true_or, or_true, or_false, false_or, true_and, and_true, false_and, and_false, or_self, and_self, not_false_eq_true, not_true_eq_false, tn_i, ho, hm, decide_eq_true]
  · show sX2_restore_149 d e o1 (iI r) (iI x3) (iI x4) = _
    unfold sX2_restore_149
    rw [show r + 35 = r + 5 + 18 + 12 by omega]
    simp (disch := omega) only [nI_iI, lN_lJ, iI_0, lJ_0, iI_add, iI_sub, iI_mul, iI_neg, lJ_add, lJ_sub, lJ_mul, lJ_neg, i_l, l_i, iI_cl, iI_inb, iI_eqT, iI_eqF, iI_ltT, iI_ltF, iI_leT, iI_leF, lJ_eqT, lJ_eqF, lJ_cG, lJ_cE, lJ_cL, lJ_cF, lJ_cGE, lJ_cLE, lJ_cNL, lJ_cNG, Int.cast_ofNat_Int, c_0, c_1, Int.natCast_add, Int.add_zero, cond_true, cond_false, Bool.and_self, Bool.and_true, Bool.true_and, Option.bind_some, decide_true, uI_hit, uI_miss, uI_o, uA_o, uA_s, ↓reduceIte, eq_self, true_or, or_true, or_false, false_or, true_and, and_true, false_and, and_false, or_self, and_self, not_false_eq_true, not_true_eq_false, tn_i, ho, hm, decide_eq_true]
    rfl
theorem cq_restore {d : aI} {e : aJ} {A A' R : Int → Int} {o1 m : Nat} {r : Int} (hC : CN d 1 A) (hW : WN A) (hR : RW d o1 r R) (hWR : WN R) (hb : R 0 ≤ A 0 ∧ R 1 ≤ A 1) (ho : o1 = 12 ∨ o1 = 107) (hm : szOf o1 = m) (hr : 0 ≤ r ∧ r + 60 ≤ m ∧ m < 10000)
    (t1 : ∀ j : Int, (j = 0 ∨ j = 1 ∨ (42 ≤ j ∧ j < 66)) → A' j = A j) (t2 : A' 9 = R 9 ∧ A' 10 = R 10 ∧ A' 11 = R 11) (t3 : ∀ c : Int, 0 ≤ c → c < R 1 → A' (12 + 3 * c) = R (12 + 3 * c) ∧ A' (12 + 3 * c + 1) = R (12 + 3 * c + 1) ∧ A' (12 + 3 * c + 2) = R (12 + 3 * c + 2)) (t4 : ∀ c : Int, R 1 ≤ c → c < A 1 → A' (12 + 3 * c) = A (12 + 3 * c) ∧ A' (12 + 3 * c + 1) = A (12 + 3 * c + 1) ∧ A' (12 + 3 * c + 2) = A (12 + 3 * c + 2))
    (t5 : ∀ h : Int, 0 ≤ h → h < R 0 → A' (30 + 2 * h) = R (30 + 2 * h) ∧ A' (30 + 2 * h + 1) = R (30 + 2 * h + 1)) (t6 : ∀ h : Int, R 0 ≤ h → h < A 0 → A' (30 + 2 * h) = A (30 + 2 * h) ∧ A' (30 + 2 * h + 1) = A (30 + 2 * h + 1)) (t7 : ∀ k : Int, 0 ≤ k → k < R 11 → A' (1936 + k) = R (1936 + k)) :
    ∃ d', FX2_restore d e o1 (iI r) = some ((), d', e) ∧ CN d' 1 A' ∧ Kn d d' := by
  have hw := hW
  have hc := hC
  obtain ⟨q8, q9, q10, q11, q12, q3, q4, q5, q6, q7, qh, qt, qb⟩ := hC
  have k8 : d 2 8 = iI (A 0) := q8
  have k9 : d 2 9 = iI (A 1) := q9
  have k10 : d 2 10 = iI (A 11) := q10
  have k11 : d 2 11 = iI (A 9) := q11
  have k12 : d 2 12 = iI (A 10) := q12
  have k3 : ∀ j : Nat, (j : Int) < A 0 → d 3 j = iI (A (42 + j)) := q3
  have k4 : ∀ j : Nat, (j : Int) < A 0 → d 4 j = iI (A (30 + 2 * j)) := q4
  have k5 : ∀ j : Nat, (j : Int) < A 0 → d 5 j = iI (A (30 + 2 * j + 1)) := q5
  have k6 : ∀ j : Nat, (j : Int) < A 1 → d 6 j = iI (A (54 + j)) := q6
  have k7 : ∀ j : Nat, (j : Int) < A 1 → d 7 j = iI (A (12 + 3 * j)) := q7
  have kh : ∀ j : Nat, (j : Int) < A 1 → d 8 j = iI (A (12 + 3 * j + 1)) := qh
  have kt : ∀ j : Nat, (j : Int) < A 1 → d 9 j = iI (A (12 + 3 * j + 2)) := qt
  have kb : ∀ j : Nat, (j : Int) < A 11 → d 10 j = iI (A (1936 + j)) := qb
  obtain ⟨w0, w1, w9, w10, w11, wc, wh, wb⟩ := hW
  obtain ⟨c0, c1, c2, c3, c4, cc, ch, cb⟩ := hR
  have v0 := hWR.1
  have v1 := hWR.2.1
  have v11 := hWR.2.2.2.2.1
  have no : o1 ≠ 2 ∧ o1 ≠ 3 ∧ o1 ≠ 4 ∧ o1 ≠ 5 ∧ o1 ≠ 6 ∧ o1 ≠ 7 ∧ o1 ≠ 8 ∧ o1 ≠ 9 ∧ o1 ≠ 10 := by omega
  unfold FX2_restore
  have k1 : stX2_restore (0, [some (.ref 2), some (.ref o1), some (.int (iI r)), none, none], d, e) = some (80, [some (.ref 2), some (.ref o1), some (.int (iI r)), some (.int (iI (R 0))), some (.int (iI (R 1)))], uA (uI (uI (uI d 2 10 (iI (R 11))) 2 11 (iI (R 9))) 2 12 (iI (R 10))) 7 (va_cpy (d o1) (d 7) (r + 5).toNat 0 (R 1).toNat), e) := by
    show sX2_restore_0 d e o1 (iI r) = _
    unfold sX2_restore_0
    simp (disch := omega) only [nI_iI, lN_lJ, iI_0, lJ_0, iI_add, iI_sub, iI_mul, iI_neg, lJ_add, lJ_sub, lJ_mul, lJ_neg, i_l, l_i, iI_cl, iI_inb, iI_eqT, iI_eqF, iI_ltT, iI_ltF, iI_leT, iI_leF, lJ_eqT, lJ_eqF, lJ_cG, lJ_cE, lJ_cL, lJ_cF, lJ_cGE, lJ_cLE, lJ_cNL, lJ_cNG, Int.cast_ofNat_Int, c_0, c_1, Int.natCast_add, Int.add_zero, cond_true, cond_false, Bool.and_self, Bool.and_true, Bool.true_and, Option.bind_some, decide_true, uI_hit, uI_miss, uI_o, uA_o, uA_s, ↓reduceIte, eq_self, true_or, or_true, or_false, false_or, true_and, and_true, false_and, and_false, or_self, and_self, not_false_eq_true, not_true_eq_false, tn_i, ho, hm, decide_eq_true, k8, k9, c0, c1, c2, c3, c4, iI_minL]
  rw [a_run_step k1 rfl]
  have hx : 0 ≤ R 0 ∧ R 0 ≤ 6 ∧ 0 ≤ R 1 ∧ R 1 ≤ 6 := by omega
  rw [a_run_step (cr_st ho hm hr hx 80 97 11 (R 1) 8 (by omega)) rfl, a_run_step (cr_st ho hm hr hx 97 114 17 (R 1) 9 (by omega)) rfl, a_run_step (cr_st ho hm hr hx 114 130 23 (R 0) 4 (by omega)) rfl, a_run_step (cr_st ho hm hr hx 130 149 29 (R 0) 5 (by omega)) rfl, a_run_step (cr_st ho hm hr hx 149 169 35 25 10 (by omega)) rfl]
  have kend : ∀ d' : aI, stX2_restore (169, [some (.ref 2), some (.ref o1), some (.int (iI r)), some (.int (iI (R 0))), some (.int (iI (R 1)))], d', e) = some (100000, [], d', e) := by
    intro d'
    show sX2_restore_169 d' e o1 (iI r) (iI (R 0)) (iI (R 1)) = _
    unfold sX2_restore_169
    simp (disch := omega) only [nI_iI, lN_lJ, iI_0, lJ_0, iI_add, iI_sub, iI_mul, iI_neg, lJ_add, lJ_sub, lJ_mul, lJ_neg, i_l, l_i, iI_cl, iI_inb, iI_eqT, iI_eqF, iI_ltT, iI_ltF, iI_leT, iI_leF, lJ_eqT, lJ_eqF, lJ_cG, lJ_cE, lJ_cL, lJ_cF, lJ_cGE, lJ_cLE, lJ_cNL, lJ_cNG, Int.cast_ofNat_Int, c_0, c_1, Int.natCast_add, Int.add_zero, cond_true, cond_false, Bool.and_self, Bool.and_true, Bool.true_and, Option.bind_some, decide_true, uI_hit, uI_miss, uI_o, uA_o, uA_s, ↓reduceIte, eq_self, true_or, or_true, or_false, false_or, true_and, and_true, false_and, and_false, or_self, and_self, not_false_eq_true, not_true_eq_false, tn_i, ho]
  rw [a_run_step (kend _) rfl, a_run_end]
  refine ⟨_, rfl, ?_, fun k hk => by simp (disch := omega) only [uI_o, uI_hit, uI_miss, uA_o, uA_s, cpy_in, cpy_out, aU_hit, aU_miss, tn_i, if_pos, if_neg]⟩
  refine hc.upd hw t1 (by simp (disch := omega) only [uI_o, uI_hit, uI_miss, uA_o, uA_s, cpy_in, cpy_out, aU_hit, aU_miss, tn_i, if_pos, if_neg]) (by simp (disch := omega) only [uI_o, uI_hit, uI_miss, uA_o, uA_s, cpy_in, cpy_out, aU_hit, aU_miss, tn_i, if_pos, if_neg]) (by simp (disch := omega) only [uI_o, uI_hit, uI_miss, uA_o, uA_s, cpy_in, cpy_out, aU_hit, aU_miss, tn_i, if_pos, if_neg, t2]) (by simp (disch := omega) only [uI_o, uI_hit, uI_miss, uA_o, uA_s, cpy_in, cpy_out, aU_hit, aU_miss, tn_i, if_pos, if_neg, t2]) (by simp (disch := omega) only [uI_o, uI_hit, uI_miss, uA_o, uA_s, cpy_in, cpy_out, aU_hit, aU_miss, tn_i, if_pos, if_neg, t2]) (by simp (disch := omega) only [uI_o, uI_hit, uI_miss, uA_o, uA_s, cpy_in, cpy_out, aU_hit, aU_miss, tn_i, if_pos, if_neg]) (by simp (disch := omega) only [uI_o, uI_hit, uI_miss, uA_o, uA_s, cpy_in, cpy_out, aU_hit, aU_miss, tn_i, if_pos, if_neg]) (fun j hj => ?_) (fun j hj => ?_) (fun j hj => ?_) (fun j hj => ?_) (fun j hj => ?_) (fun j hj => ?_)
  · by_cases h2 : (j : Int) < R 0
    · rw [(t5 j (by omega) h2).1]
      simp (disch := omega) only [uI_o, uI_hit, uI_miss, uA_o, uA_s, cpy_in, cpy_out, aU_hit, aU_miss, tn_i, if_pos, if_neg]
      rw [show (r + 23).toNat + (j - 0) = (r + 23 + j).toNat by omega]
      exact (ch j h2).1
    · rw [(t6 j (by omega) hj).1]
      simp (disch := omega) only [uI_o, uI_hit, uI_miss, uA_o, uA_s, cpy_in, cpy_out, aU_hit, aU_miss, tn_i, if_pos, if_neg, k4]
  · by_cases h2 : (j : Int) < R 0
    · rw [(t5 j (by omega) h2).2]
      simp (disch := omega) only [uI_o, uI_hit, uI_miss, uA_o, uA_s, cpy_in, cpy_out, aU_hit, aU_miss, tn_i, if_pos, if_neg]
      rw [show (r + 29).toNat + (j - 0) = (r + 29 + j).toNat by omega]
      exact (ch j h2).2
    · rw [(t6 j (by omega) hj).2]
      simp (disch := omega) only [uI_o, uI_hit, uI_miss, uA_o, uA_s, cpy_in, cpy_out, aU_hit, aU_miss, tn_i, if_pos, if_neg, k5]
  · by_cases h2 : (j : Int) < R 1
    · rw [(t3 j (by omega) h2).1]
      simp (disch := omega) only [uI_o, uI_hit, uI_miss, uA_o, uA_s, cpy_in, cpy_out, aU_hit, aU_miss, tn_i, if_pos, if_neg]
      rw [show (r + 5).toNat + (j - 0) = (r + 5 + j).toNat by omega]
      exact (cc j h2).1
    · rw [(t4 j (by omega) hj).1]
      simp (disch := omega) only [uI_o, uI_hit, uI_miss, uA_o, uA_s, cpy_in, cpy_out, aU_hit, aU_miss, tn_i, if_pos, if_neg, k7]
  · by_cases h2 : (j : Int) < R 1
    · rw [(t3 j (by omega) h2).2.1]
      simp (disch := omega) only [uI_o, uI_hit, uI_miss, uA_o, uA_s, cpy_in, cpy_out, aU_hit, aU_miss, tn_i, if_pos, if_neg]
      rw [show (r + 11).toNat + (j - 0) = (r + 11 + j).toNat by omega]
      exact (cc j h2).2.1
    · rw [(t4 j (by omega) hj).2.1]
      simp (disch := omega) only [uI_o, uI_hit, uI_miss, uA_o, uA_s, cpy_in, cpy_out, aU_hit, aU_miss, tn_i, if_pos, if_neg, kh]
  · by_cases h2 : (j : Int) < R 1
    · rw [(t3 j (by omega) h2).2.2]
      simp (disch := omega) only [uI_o, uI_hit, uI_miss, uA_o, uA_s, cpy_in, cpy_out, aU_hit, aU_miss, tn_i, if_pos, if_neg]
      rw [show (r + 17).toNat + (j - 0) = (r + 17 + j).toNat by omega]
      exact (cc j h2).2.2
    · rw [(t4 j (by omega) hj).2.2]
      simp (disch := omega) only [uI_o, uI_hit, uI_miss, uA_o, uA_s, cpy_in, cpy_out, aU_hit, aU_miss, tn_i, if_pos, if_neg, kt]
  · rw [t2.2.2] at hj
    rw [t7 j (by omega) hj]
    simp (disch := omega) only [uI_o, uI_hit, uI_miss, uA_o, uA_s, cpy_in, cpy_out, aU_hit, aU_miss, tn_i, if_pos, if_neg]
    rw [show (r + 35).toNat + (j - 0) = (r + 35 + j).toNat by omega]
    exact cb j hj
/-! ===== the latest step is taken back ===== -/
def undoS (A : Int → Int) : Int → Int := fun j =>
  if j = 4 then A 4 - 1
  else if 12 ≤ j ∧ j < 30 ∧ A (77 + 60 * A 4) ≤ (j - 12) / 3 ∧ (j - 12) / 3 < A 1 then (if (j - 12) % 3 = 0 then A (60 + (j - 12) / 3) else if (j - 12) % 3 = 1 then -1 else 0)
  else if 30 ≤ j ∧ j < 42 ∧ A (76 + 60 * A 4) ≤ (j - 30) / 2 ∧ (j - 30) / 2 < A 0 then (if (j - 30) % 2 = 0 then A (48 + (j - 30) / 2) else 0)
  else if 9 ≤ j ∧ j < 42 then A (78 + 60 * A 4 + (j - 9)) else if 1936 ≤ j ∧ j < 1961 then A (111 + 60 * A 4 + (j - 1936)) else A j
theorem undoS_o {A : Int → Int} {j : Int} (h : (j < 9 ∧ j ≠ 4) ∨ (42 ≤ j ∧ j < 1936)) : undoS A j = A j := by
  unfold undoS
  rw [if_neg (by omega), if_neg (by omega), if_neg (by omega), if_neg (by omega), if_neg (by omega)]
theorem undoS_4 {A : Int → Int} : undoS A 4 = A 4 - 1 := by
  unfold undoS
  rw [if_pos rfl]
theorem rowT_0 (A : Int → Int) (s : Int) : rowT A s 0 = A (136 + 60 * s) := by unfold rowT; rw [if_pos rfl]
theorem rowT_1 (A : Int → Int) (s : Int) : rowT A s 1 = A (137 + 60 * s) := by unfold rowT; rw [if_neg (by omega), if_pos rfl]
theorem rowT_n {A : Int → Int} {s j : Int} (h : 9 ≤ j ∧ j < 42) : rowT A s j = A (138 + 60 * s + (j - 9)) := by unfold rowT; rw [if_neg (by omega), if_neg (by omega), if_pos h]
theorem rowT_b {A : Int → Int} {s j : Int} (h : 1936 ≤ j ∧ j < 1961) : rowT A s j = A (171 + 60 * s + (j - 1936)) := by unfold rowT; rw [if_neg (by omega), if_neg (by omega), if_neg (by omega), if_pos h]
theorem rowT_o {A : Int → Int} {s j : Int} (h : (2 ≤ j ∧ j < 9) ∨ (42 ≤ j ∧ j < 1936)) : rowT A s j = A j := by unfold rowT; rw [if_neg (by omega), if_neg (by omega), if_neg (by omega), if_neg (by omega)]
/-- what it is in the row's own terms -/
theorem undoS_in {A : Int → Int} (h4 : 0 < A 4) :
    (∀ c : Int, 0 ≤ c → c < 6 → c < rowT A (A 4 - 1) 1 → undoS A (12 + 3 * c) = rowT A (A 4 - 1) (12 + 3 * c) ∧ undoS A (12 + 3 * c + 1) = rowT A (A 4 - 1) (12 + 3 * c + 1) ∧ undoS A (12 + 3 * c + 2) = rowT A (A 4 - 1) (12 + 3 * c + 2)) ∧
    (∀ c : Int, 0 ≤ c → c < 6 → rowT A (A 4 - 1) 1 ≤ c → c < A 1 → undoS A (12 + 3 * c) = A (60 + c) ∧ undoS A (12 + 3 * c + 1) = -1 ∧ undoS A (12 + 3 * c + 2) = 0) ∧
    (∀ h : Int, 0 ≤ h → h < 6 → h < rowT A (A 4 - 1) 0 → undoS A (30 + 2 * h) = rowT A (A 4 - 1) (30 + 2 * h) ∧ undoS A (30 + 2 * h + 1) = rowT A (A 4 - 1) (30 + 2 * h + 1)) ∧
    (∀ h : Int, 0 ≤ h → h < 6 → rowT A (A 4 - 1) 0 ≤ h → h < A 0 → undoS A (30 + 2 * h) = A (48 + h) ∧ undoS A (30 + 2 * h + 1) = 0) ∧
    (undoS A 9 = rowT A (A 4 - 1) 9 ∧ undoS A 10 = rowT A (A 4 - 1) 10 ∧ undoS A 11 = rowT A (A 4 - 1) 11) ∧
    (∀ k : Int, 0 ≤ k → k < 25 → undoS A (1936 + k) = rowT A (A 4 - 1) (1936 + k)) := by
  rw [rowT_0, rowT_1, show 136 + 60 * (A 4 - 1) = 76 + 60 * A 4 by omega, show 137 + 60 * (A 4 - 1) = 77 + 60 * A 4 by omega]
  have key : ∀ j : Int, 9 ≤ j → j < 42 → ¬(12 ≤ j ∧ j < 30 ∧ A (77 + 60 * A 4) ≤ (j - 12) / 3 ∧ (j - 12) / 3 < A 1) → ¬(30 ≤ j ∧ j < 42 ∧ A (76 + 60 * A 4) ≤ (j - 30) / 2 ∧ (j - 30) / 2 < A 0) → undoS A j = rowT A (A 4 - 1) j := by
    intro j j0 j1 j2 j3
    rw [rowT_n ⟨j0, j1⟩]
    unfold undoS
    rw [if_neg (by omega), if_neg j2, if_neg j3, if_pos ⟨j0, j1⟩]
    congr 1; omega
  refine ⟨fun c a b x => ⟨key _ (by omega) (by omega) (by omega) (by omega), key _ (by omega) (by omega) (by omega) (by omega), key _ (by omega) (by omega) (by omega) (by omega)⟩, fun c a b x y => ⟨?_, ?_, ?_⟩, fun c a b x => ⟨key _ (by omega) (by omega) (by omega) (by omega), key _ (by omega) (by omega) (by omega) (by omega)⟩, fun c a b x y => ⟨?_, ?_⟩, ⟨key _ (by omega) (by omega) (by omega) (by omega), key _ (by omega) (by omega) (by omega) (by omega), key _ (by omega) (by omega) (by omega) (by omega)⟩, fun k a b => ?_⟩
  · unfold undoS
    rw [if_neg (by omega), if_pos (by omega), if_pos (by omega), show (12 + 3 * c - 12) / 3 = c by omega]
  · unfold undoS
    rw [if_neg (by omega), if_pos (by omega), if_neg (by omega), if_pos (by omega)]
  · unfold undoS
    rw [if_neg (by omega), if_pos (by omega), if_neg (by omega), if_neg (by omega)]
  · unfold undoS
    rw [if_neg (by omega), if_neg (by omega), if_pos (by omega), if_pos (by omega), show (30 + 2 * c - 30) / 2 = c by omega]
  · unfold undoS
    rw [if_neg (by omega), if_neg (by omega), if_pos (by omega), if_neg (by omega)]
  · rw [rowT_b (by omega)]
    unfold undoS
    rw [if_neg (by omega), if_neg (by omega), if_neg (by omega), if_neg (by omega), if_pos (by omega)]
    congr 1; omega
theorem undoS_si {A : Int → Int} (hS : SI A) (h4 : 0 < A 4) : SI (undoS A) := by
  obtain ⟨hw, w4, h2, h3, hr, hn⟩ := hS
  obtain ⟨u1, u2, u3, u4, u5, u6⟩ := undoS_in h4
  obtain ⟨wr, tb⟩ := hr (A 4 - 1) (by omega) (by omega)
  unfold stT at tb
  rw [if_neg (by omega)] at tb
  have x0 := hw.1
  have x1 := hw.2.1
  have v0 := wr.1
  have v1 := wr.2.1
  have b0 := tb.1
  have b1 := tb.2.1
  have a0 : undoS A 0 = A 0 := undoS_o (by omega)
  have a1 : undoS A 1 = A 1 := undoS_o (by omega)
  have hrow : ∀ s : Int, 0 ≤ s → s < A 4 - 1 → Ag (rowT (undoS A) s) (rowT A s) := by
    intro s s0 s1 j hj
    by_cases h0 : j = 0
    · subst h0
      rw [rowT_0, rowT_0, undoS_o (by omega)]
    · by_cases h1 : j = 1
      · subst h1
        rw [rowT_1, rowT_1, undoS_o (by omega)]
      · by_cases h9 : 9 ≤ j ∧ j < 42
        · rw [rowT_n h9, rowT_n h9, undoS_o (by omega)]
        · by_cases hb : 1936 ≤ j ∧ j < 1961
          · rw [rowT_b hb, rowT_b hb, undoS_o (by omega)]
          · rw [rowT_o (by omega), rowT_o (by omega), undoS_o (by omega)]
  have hold : ∀ j : Int, 42 ≤ j → j < 66 → rowT A (A 4 - 1) j = A j := fun j a b => rowT_o (by omega)
  have hW : WN (undoS A) := by
    refine ⟨by rw [a0]; exact x0, by rw [a1]; exact x1, by rw [u5.1]; exact wr.2.2.1, by rw [u5.2.1]; exact wr.2.2.2.1, by rw [u5.2.2]; exact wr.2.2.2.2.1, fun c c0 c1 => ?_, fun h h0 h1 => ?_, fun i i0 i1 => ?_⟩
    · rw [a1] at c1
      rw [a0, undoS_o (j := 54 + c) (by omega), undoS_o (j := 60 + c) (by omega)]
      have wc := hw.2.2.2.2.2.1 c c0 c1
      by_cases hc : c < rowT A (A 4 - 1) 1
      · obtain ⟨q0, q1, q2⟩ := u1 c c0 (by omega) hc
        have wc2 := wr.2.2.2.2.2.1 c c0 hc
        rw [q0, q1, q2]
        refine ⟨wc2.1, by omega, wc2.2.2.1, wc.2.2.2.1, wc.2.2.2.2.1, fun q => ?_⟩
        have := wc2.2.2.2.2.2 q
        rw [hold _ (by omega) (by omega)] at this
        rw [undoS_o (by omega)]
        exact this
      · obtain ⟨q0, q1, q2⟩ := u2 c c0 (by omega) (by omega) c1
        rw [q0, q1, q2]
        exact ⟨wc.2.2.2.2.1, by omega, by omega, wc.2.2.2.1, wc.2.2.2.2.1, fun q => by omega⟩
    · rw [a0] at h1
      rw [undoS_o (j := 42 + h) (by omega), undoS_o (j := 48 + h) (by omega)]
      have wh := hw.2.2.2.2.2.2.1 h h0 h1
      by_cases hc : h < rowT A (A 4 - 1) 0
      · obtain ⟨q0, q1⟩ := u3 h h0 (by omega) hc
        have wh2 := wr.2.2.2.2.2.2.1 h h0 hc
        rw [q0, q1]
        exact ⟨wh2.1, wh2.2.1, wh.2.2⟩
      · obtain ⟨q0, q1⟩ := u4 h h0 (by omega) (by omega) h1
        rw [q0, q1]
        exact ⟨wh.2.2.2, by omega, wh.2.2⟩
    · rw [u5.2.2] at i1
      have w11 := wr.2.2.2.2.1
      rw [u6 i i0 (by omega)]
      exact wr.2.2.2.2.2.2.2 i i0 i1
  refine ⟨hW, by rw [undoS_4]; omega, by rw [undoS_o (by omega)]; exact h2, by rw [undoS_o (by omega), undoS_o (by omega)]; exact h3, fun s s0 s1 => ?_, ?_⟩
  · rw [undoS_4] at s1
    obtain ⟨ws, ts⟩ := hr s s0 (by omega)
    have g := hrow s s0 s1
    have y0 := ws.1
    have y1 := ws.2.1
    refine ⟨ws.ag g.symm, ?_⟩
    unfold stT at ts ⊢
    rw [if_pos (by omega)] at ts
    rw [undoS_4]
    by_cases hs : s + 1 < A 4 - 1
    · rw [if_pos hs]
      have y2 := (hr (s + 1) (by omega) (by omega)).1.1
      have y3 := (hr (s + 1) (by omega) (by omega)).1.2.1
      exact ts.ag g.symm (hrow (s + 1) (by omega) hs).symm (by omega)
    · rw [if_neg hs]
      rw [show s + 1 = A 4 - 1 by omega] at ts
      have t2 : TB (rowT A s) (undoS A) := by
        obtain ⟨p0, p1, pc, ph⟩ := ts
        refine ⟨by omega, by omega, fun c c0 c1 => ?_, fun h h0 h1 => ?_⟩
        · rw [a1] at c1
          rw [undoS_o (j := 60 + c) (by omega)]
          by_cases hc : c < rowT A (A 4 - 1) 1
          · obtain ⟨q0, q1, q2⟩ := u1 c (by omega) (by omega) hc
            have := pc c c0 hc
            rw [hold (60 + c) (by omega) (by omega)] at this
            rw [q0, q1, q2]
            exact this
          · obtain ⟨q0, q1, q2⟩ := u2 c (by omega) (by omega) (by omega) c1
            exact ⟨q0, q1, q2⟩
        · rw [a0] at h1
          rw [undoS_o (j := 48 + h) (by omega)]
          by_cases hc : h < rowT A (A 4 - 1) 0
          · obtain ⟨q0, q1⟩ := u3 h (by omega) (by omega) hc
            have := ph h h0 hc
            rw [hold (48 + h) (by omega) (by omega)] at this
            rw [q0, q1]
            exact this
          · obtain ⟨q0, q1⟩ := u4 h (by omega) (by omega) (by omega) h1
            exact ⟨q0, q1⟩
      exact t2.ag g.symm (Ag.refl _) (by omega)
  · rw [undoS_o (j := 5) (by omega), undoS_o (j := 6) (by omega), undoS_o (j := 7) (by omega), undoS_o (j := 8) (by omega), a0, a1]
    obtain ⟨n5, n6, n7, n8⟩ := hn
    refine ⟨⟨n5.1, fun i a b => ?_⟩, ⟨n6.1, fun i a b => ?_⟩, ⟨n7.1, fun i a b => ?_⟩, ⟨n8.1, fun i a b => ?_⟩⟩
    · rw [undoS_o (by omega), undoS_o (by omega)]; exact n5.2 i a b
    · rw [undoS_o (by omega), undoS_o (by omega)]; exact n6.2 i a b
    · rw [undoS_o (by omega), undoS_o (by omega)]; exact n7.2 i a b
    · rw [undoS_o (by omega), undoS_o (by omega), undoS_o (by omega)]; exact n8.2 i a b
theorem cq_undo {d : aI} {e : aJ} {A : Int → Int} (hC : CN d 1 A) (hG : RG d 1 A) (hS : SI A) (h4 : 0 < A 4) : ∃ d', FX10_undo d e = some (iI (A 4 - 1), d', e) ∧ CN d' 1 (undoS A) ∧ RG d' 1 (undoS A) ∧ (∀ k, (k < 2 ∨ 11 < k) → d' k = d k) := by
  obtain ⟨f, f0, f1, g1, g2, gr⟩ := hG
  have hg1 : d 11 1 = iI f := g1
  have hg2 : d 11 2 = iI (A 4) := g2
  have w4 := hS.2.1
  obtain ⟨wr, tb⟩ := hS.2.2.2.2.1 (A 4 - 1) (by omega) (by omega)
  unfold stT at tb
  rw [if_neg (by omega)] at tb
  obtain ⟨u1, u2, u3, u4, u5, u6⟩ := undoS_in h4
  have x0 := hS.1.1
  have x1 := hS.1.2.1
  have v0 := wr.1
  have v1 := wr.2.1
  have v11 := wr.2.2.2.2.1
  have n1 : CN (uI d 11 2 (iI (A 4 - 1))) 1 A := hC.of (fun k a b => uI_o (by omega))
  have hrow : RW (uI d 11 2 (iI (A 4 - 1))) 12 ((f + (A 4 - 1)) % 30 * 60) (rowT A (A 4 - 1)) := (gr (A 4 - 1) (by omega) (by omega)).of (fun j _ _ => by rw [uI_o (by omega)]) (by omega) (by omega)
  obtain ⟨d', r1, r2, r3⟩ := cq_restore (e := e) (A' := undoS A) n1 hS.1 hrow wr ⟨tb.1, tb.2.1⟩ (Or.inl rfl) sz12 (by omega) (fun j hj => undoS_o (by omega)) u5 (fun c a b => u1 c a (by omega) b) (fun c a b => by
    obtain ⟨q0, q1, q2⟩ := u2 c (by omega) (by omega) a b
    obtain ⟨p0, p1, p2⟩ := tb.2.2.1 c a b
    exact ⟨q0.trans p0.symm, q1.trans p1.symm, q2.trans p2.symm⟩) (fun c a b => u3 c a (by omega) b) (fun c a b => by
    obtain ⟨q0, q1⟩ := u4 c (by omega) (by omega) a b
    obtain ⟨p0, p1⟩ := tb.2.2.2 c a b
    exact ⟨q0.trans p0.symm, q1.trans p1.symm⟩) (fun k a b => u6 k a (by omega))
  have s1 : d' 11 1 = iI f := by rw [r3 11 (by omega), uI_miss (by omega)]; exact hg1
  have s2 : d' 11 2 = iI (A 4 - 1) := by rw [r3 11 (by omega), uI_hit rfl]
  refine ⟨d', ?_, r2, ⟨f, f0, f1, s1, ?_, fun s s0 s1 => ?_⟩, fun k hk => by rw [r3 k (by omega), uI_o (by omega)]⟩
  · unfold FX10_undo FX6_takeBack
    simp (disch := omega) only [nI_iI, lN_lJ, iI_0, lJ_0, iI_add, iI_sub, iI_mul, iI_neg, lJ_add, lJ_sub, lJ_mul, lJ_neg, i_l, l_i, iI_cl, iI_inb, iI_eqT, iI_eqF, iI_ltT, iI_ltF, iI_leT, iI_leF, lJ_eqT, lJ_eqF, lJ_cG, lJ_cE, lJ_cL, lJ_cF, lJ_cGE, lJ_cLE, lJ_cNL, lJ_cNG, Int.cast_ofNat_Int, c_0, c_1, Int.natCast_add, Int.add_zero, cond_true, cond_false, Bool.and_self, Bool.and_true, Bool.true_and, Option.bind_some, decide_true, uI_hit, uI_miss, uI_o, uA_o, uA_s, ↓reduceIte, eq_self, true_or, or_true, or_false, false_or, true_and, and_true, false_and, and_false, or_self, and_self, not_false_eq_true, not_true_eq_false, tn_i, hg1, hg2, iI_rem, decide_eq_true, r1, s2]
  · rw [undoS_4]; exact s2
  · rw [undoS_4] at s1
    have ws := (hS.2.2.2.2.1 s s0 (by omega)).1
    have y0 := ws.1
    have y1 := ws.2.1
    have y11 := ws.2.2.2.2.1
    refine ((gr s s0 (by omega)).of (d' := d') (fun j _ _ => by rw [r3 12 (by omega), uI_o (by omega)]) (by omega) (by omega)).ag (fun j hj => ?_) (by omega)
    by_cases h0 : j = 0
    · subst h0
      rw [rowT_0, rowT_0, undoS_o (by omega)]
    · by_cases h1 : j = 1
      · subst h1
        rw [rowT_1, rowT_1, undoS_o (by omega)]
      · by_cases h9 : 9 ≤ j ∧ j < 42
        · rw [rowT_n h9, rowT_n h9, undoS_o (by omega)]
        · by_cases hb : 1936 ≤ j ∧ j < 1961
          · rw [rowT_b hb, rowT_b hb, undoS_o (by omega)]
          · rw [rowT_o (by omega), rowT_o (by omega), undoS_o (by omega)]
