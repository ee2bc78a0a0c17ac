/-! ===== a step is kept ===== -/
def kpN (A : Int → Int) : Int := if A 4 = 30 then 29 else A 4
def kpS (A : Int → Int) : Int := if A 4 = 30 then 1 else 0
def keepS (A : Int → Int) : Int → Int := fun j =>
  if j = 4 then kpN A + 1 else if 136 ≤ j ∧ j < 136 + 60 * kpN A then A (j + 60 * kpS A) else if j = 136 + 60 * kpN A then A 0 else if j = 137 + 60 * kpN A then A 1
  else if 138 + 60 * kpN A ≤ j ∧ j < 171 + 60 * kpN A then A (9 + (j - (138 + 60 * kpN A))) else if 171 + 60 * kpN A ≤ j ∧ j < 196 + 60 * kpN A then A (1936 + (j - (171 + 60 * kpN A))) else A j
theorem kp_in {A : Int → Int} (h : 0 ≤ A 4 ∧ A 4 ≤ 30) : 0 ≤ kpN A ∧ kpN A ≤ 29 ∧ (kpS A = 0 ∨ kpS A = 1) ∧ kpN A + kpS A = A 4 := by
  unfold kpN kpS
  split <;> omega
theorem keepS_o {A : Int → Int} (h : 0 ≤ A 4 ∧ A 4 ≤ 30) {j : Int} (hj : (j < 136 ∧ j ≠ 4) ∨ 1936 ≤ j) : keepS A j = A j := by
  have := kp_in h
  unfold keepS
  rw [if_neg (by omega), if_neg (by omega), if_neg (by omega), if_neg (by omega), if_neg (by omega), if_neg (by omega)]
theorem keepS_ag {A : Int → Int} (h : 0 ≤ A 4 ∧ A 4 ≤ 30) : Ag (keepS A) A := fun j hj => keepS_o h (by omega)
theorem keepS_row {A : Int → Int} (h : 0 ≤ A 4 ∧ A 4 ≤ 30) {s : Int} (hs : 0 ≤ s ∧ s < kpN A) : Ag (rowT (keepS A) s) (rowT A (s + kpS A)) := by
  have hk := kp_in h
  intro j hj
  unfold rowT
  by_cases h0 : j = 0
  · rw [if_pos h0, if_pos h0]
    unfold keepS
    rw [if_neg (by omega), if_pos (by omega)]
    congr 1; omega
  · rw [if_neg h0, if_neg h0]
    by_cases h1 : j = 1
    · rw [if_pos h1, if_pos h1]
      unfold keepS
      rw [if_neg (by omega), if_pos (by omega)]
      congr 1; omega
    · rw [if_neg h1, if_neg h1]
      by_cases h2 : 9 ≤ j ∧ j < 42
      · rw [if_pos h2, if_pos h2]
        unfold keepS
        rw [if_neg (by omega), if_pos (by omega)]
        congr 1; omega
      · rw [if_neg h2, if_neg h2]
        by_cases h3 : 1936 ≤ j ∧ j < 1961
        · rw [if_pos h3, if_pos h3]
          unfold keepS
          rw [if_neg (by omega), if_pos (by omega)]
          congr 1; omega
        · rw [if_neg h3, if_neg h3]
          exact keepS_o h (by omega)
theorem keepS_new {A : Int → Int} (h : 0 ≤ A 4 ∧ A 4 ≤ 30) : Ag (rowT (keepS A) (kpN A)) A := by
  have hk := kp_in h
  intro j hj
  unfold rowT
  by_cases h0 : j = 0
  · rw [if_pos h0]
    unfold keepS
    rw [if_neg (by omega), if_neg (by omega), if_pos (by omega), h0]
  · rw [if_neg h0]
    by_cases h1 : j = 1
    · rw [if_pos h1]
      unfold keepS
      rw [if_neg (by omega), if_neg (by omega), if_neg (by omega), if_pos (by omega), h1]
    · rw [if_neg h1]
      by_cases h2 : 9 ≤ j ∧ j < 42
      · rw [if_pos h2]
        unfold keepS
        rw [if_neg (by omega), if_neg (by omega), if_neg (by omega), if_neg (by omega), if_pos (by omega)]
        congr 1; omega
      · rw [if_neg h2]
        by_cases h3 : 1936 ≤ j ∧ j < 1961
        · rw [if_pos h3]
          unfold keepS
          rw [if_neg (by omega), if_neg (by omega), if_neg (by omega), if_neg (by omega), if_neg (by omega), if_pos (by omega)]
          congr 1; omega
        · rw [if_neg h3]
          exact keepS_o h (by omega)
theorem TB.ag {A B A' B' : Int → Int} (h : TB A B) (ha : Ag A A') (hb : Ag B B') (w : 0 ≤ A 0 ∧ 0 ≤ A 1 ∧ B 0 ≤ 6 ∧ B 1 ≤ 6) : TB A' B' := by
  obtain ⟨h0, h1, hc, hh⟩ := h
  have a0 := ha 0 (by omega)
  have a1 := ha 1 (by omega)
  have b0 := hb 0 (by omega)
  have b1 := hb 1 (by omega)
  refine ⟨by omega, by omega, fun c c0 c1 => ?_, fun k k0 k1 => ?_⟩
  · rw [← hb (12 + 3 * c) (by omega), ← hb (12 + 3 * c + 1) (by omega), ← hb (12 + 3 * c + 2) (by omega), ← hb (60 + c) (by omega)]
    exact hc c (by omega) (by omega)
  · rw [← hb (30 + 2 * k) (by omega), ← hb (30 + 2 * k + 1) (by omega), ← hb (48 + k) (by omega)]
    exact hh k (by omega) (by omega)
theorem TB.refl (A : Int → Int) : TB A A := ⟨Int.le_refl _, Int.le_refl _, fun c a b => by omega, fun c a b => by omega⟩
theorem keepS_si {A : Int → Int} (hS : SI A) : SI (keepS A) := by
  obtain ⟨hw, h4, h2, h3, hr, hn⟩ := hS
  have hk := kp_in h4
  have e4 : keepS A 4 = kpN A + 1 := by unfold keepS; rw [if_pos rfl]
  have ag := keepS_ag h4
  have w0 := hw.1
  have w1 := hw.2.1
  refine ⟨hw.ag ag.symm, by rw [e4]; omega, by rw [keepS_o h4 (by omega)]; exact h2, by rw [keepS_o h4 (by omega), keepS_o h4 (by omega)]; exact h3, fun s s0 s1 => ?_, ?_⟩
  · rw [e4] at s1
    by_cases hs : s < kpN A
    · have r1 := hr (s + kpS A) (by omega) (by omega)
      have g1 := keepS_row h4 ⟨s0, hs⟩
      refine ⟨r1.1.ag g1.symm, ?_⟩
      have u0 := r1.1.1
      have u1 := r1.1.2.1
      by_cases hs2 : s + 1 < kpN A
      · have g2 := keepS_row h4 (s := s + 1) ⟨by omega, hs2⟩
        have r2 := hr (s + 1 + kpS A) (by omega) (by omega)
        have t := r1.2
        unfold stT at t ⊢
        rw [if_pos (by omega)] at t
        rw [if_pos (by omega)]
        rw [show s + kpS A + 1 = s + 1 + kpS A by omega] at t
        have v0 := r2.1.1
        have v1 := r2.1.2.1
        exact t.ag g1.symm g2.symm (by omega)
      · have t := r1.2
        have g2 := keepS_new h4
        rw [show kpN A = s + 1 by omega] at g2
        unfold stT at t ⊢
        rw [if_neg (by omega)] at t
        rw [if_pos (by omega)]
        exact t.ag g1.symm g2.symm (by omega)
    · have g2 := keepS_new h4
      rw [show kpN A = s by omega] at g2
      refine ⟨hw.ag g2.symm, ?_⟩
      unfold stT
      rw [if_neg (by omega)]
      exact (TB.refl A).ag g2.symm ag.symm (by omega)
  · rw [keepS_o h4 (j := 5) (by omega), keepS_o h4 (j := 6) (by omega), keepS_o h4 (j := 7) (by omega), keepS_o h4 (j := 8) (by omega), keepS_o h4 (j := 0) (by omega), keepS_o h4 (j := 1) (by omega)]
    obtain ⟨n5, n6, n7, n8⟩ := hn
    refine ⟨⟨n5.1, fun i a b => ?_⟩, ⟨n6.1, fun i a b => ?_⟩, ⟨n7.1, fun i a b => ?_⟩, ⟨n8.1, fun i a b => ?_⟩⟩
    · rw [keepS_o h4 (by omega), keepS_o h4 (by omega)]; exact n5.2 i a b
    · rw [keepS_o h4 (by omega), keepS_o h4 (by omega)]; exact n6.2 i a b
    · rw [keepS_o h4 (by omega), keepS_o h4 (by omega)]; exact n7.2 i a b
    · rw [keepS_o h4 (by omega), keepS_o h4 (by omega), keepS_o h4 (by omega)]; exact n8.2 i a b
/-! class -/
theorem cw_st {d : aI} {e : aJ} {o1 m : Nat} {r : Int} (ho : o1 = 12 ∨ o1 = 107) (hm : szOf o1 = m) (hr : 0 ≤ r ∧ r + 60 ≤ m ∧ m < 10000) (pc pc2 : Nat) (a n : Int) (src : Nat) (h : (pc = 71 ∧ pc2 = 88 ∧ a = 11 ∧ n = 6 ∧ src = 8) ∨ (pc = 88 ∧ pc2 = 105 ∧ a = 17 ∧ n = 6 ∧ src = 9) ∨ (pc = 105 ∧ pc2 = 122 ∧ a = 23 ∧ n = 6 ∧ src = 4) ∨ (pc = 122 ∧ pc2 = 142 ∧ a = 29 ∧ n = 6 ∧ src = 5) ∨ (pc = 142 ∧ pc2 = 162 ∧ a = 35 ∧ n = 25 ∧ src = 10)) :
    stX2_write (pc, [some (.ref 2), some (.ref o1), some (.int (iI r))], d, e) = some (pc2, [some (.ref 2), some (.ref o1), some (.int (iI r))], uA d o1 (va_cpy (d src) (d o1) 0 (r + a).toNat n.toNat), e) := by
  rcases h with ⟨rfl, rfl, rfl, rfl, rfl⟩ | ⟨rfl, rfl, rfl, rfl, rfl⟩ | ⟨rfl, rfl, rfl, rfl, rfl⟩ | ⟨rfl, rfl, rfl, rfl, rfl⟩ | ⟨rfl, rfl, rfl, rfl, rfl⟩
  · show sX2_write_71 d e _ _ = _
    unfold sX2_write_71
    rw [show r + 11 = r + 5 + 6 by omega]
    simp (disch := omega) only [nI_iI, lN_lJ, iI_0, lJ_0, iI_add, iI_sub, iI_mul, iI_neg, lJ_add, lJ_sub, lJ_mul, lJ_neg, i_l, l_i, iI_cl, iI_inb, iI_eqT, iI_eqF, iI_ltT, iI_ltF, iI_leT, iI_leF, lJ_eqT, lJ_eqF, lJ_cG, lJ_cE, lJ_cL, lJ_cF, lJ_cGE, lJ_cLE, lJ_cNL, lJ_cNG, Int.cast_ofNat_Int, c_0, c_1, Int.natCast_add, Int.add_zero, cond_true, cond_false, Bool.and_self, Bool.and_true, Bool.true_and, Option.bind_some, decide_true, uI_hit, uI_miss, uI_o, uA_o, uA_s, ↓reduceIte, eq_self, true_or, or_true, or_false, false_or, true_and, and_true, false_and, and_false, or_self, and_self, not_false_eq_true, not_true_eq_false, tn_i, ho, hm, decide_eq_true]
    rfl
  · show sX2_write_88 d e _ _ = _
    unfold sX2_write_88
    rw [show r + 17 = r + 5 + 12 by omega]
    simp (disch := omega) only [nI_iI, lN_lJ, iI_0, lJ_0, iI_add, iI_sub, iI_mul, iI_neg, lJ_add, lJ_sub, lJ_mul, lJ_neg, i_l, l_i, iI_cl, iI_inb, iI_eqT, iI_eqF, iI_ltT, iI_ltF, iI_leT, iI_leF, lJ_eqT, lJ_eqF, lJ_cG, lJ_cE, lJ_cL, lJ_cF, lJ_cGE, lJ_cLE, lJ_cNL, lJ_cNG, Int.cast_ofNat_Int, c_0, c_1, Int.natCast_add, Int.add_zero, cond_true, cond_false, Bool.and_self, Bool.and_true, Bool.true_and, Option.bind_some, decide_true, uI_hit, uI_miss, uI_o, uA_o, uA_s, ↓reduceIte, eq_self, true_or, or_true, or_false, false_or, true_and, and_true, false_and, and_false, or_self, and_self, not_false_eq_true, not_true_eq_false, tn_i, ho, hm, decide_eq_true]
    rfl
  · show sX2_write_105 d e _ _ = _
    unfold sX2_write_105
    rw [show r + 23 = r + 5 + 18 by omega]
    simp (disch := omega) only [nI_iI, lN_lJ, iI_0, lJ_0, iI_add, iI_sub, iI_mul, iI_neg, lJ_add, lJ_sub, lJ_mul, lJ_neg, i_l, l_i, iI_cl, iI_inb, iI_eqT, iI_eqF, iI_ltT, iI_ltF, iI_leT, iI_leF, lJ_eqT, lJ_eqF, lJ_cG, lJ_cE, lJ_cL, lJ_cF, lJ_cGE, lJ_cLE, lJ_cNL, lJ_cNG, Int.cast_ofNat_Int, c_0, c_1, Int.natCast_add, Int.add_zero, cond_true, cond_false, Bool.and_self, Bool.and_true, Bool.true_and, Option.bind_some, decide_true, uI_hit, uI_miss, uI_o, uA_o, uA_s, ↓reduceIte, eq_self, true_or, or_true, or_false, false_or, true_and, and_true, false_and, and_false, or_self, and_self, not_false_eq_true, not_true_eq_false, tn_i, ho, hm, decide_eq_true]
    rfl
  · show sX2_write_122 d e _ _ = _
    unfold sX2_write_122
    rw [show r + 29 = r + 5 + 18 + 6 by omega]
    simp (disch := omega) only [nI_iI, lN_lJ, iI_0, lJ_0, iI_add, iI_sub, iI_mul, iI_neg, lJ_add, lJ_sub, lJ_mul, lJ_neg, i_l, l_i, iI_cl, iI_inb, iI_eqT, iI_eqF, iI_ltT, iI_ltF, iI_leT, iI_leF, lJ_eqT, lJ_eqF, lJ_cG, lJ_cE, lJ_cL, lJ_cF, lJ_cGE, lJ_cLE, lJ_cNL, lJ_cNG, Int.cast_ofNat_Int, c_0, c_1, Int.natCast_add, Int.add_zero, cond_true, cond_false, Bool.and_self, Bool.and_true, Bool.true_and, Option.bind_some, decide_true, uI_hit, uI_miss, uI_o, uA_o, uA_s, ↓reduceIte, eq_self, true_or, or_true, or_false, false_or, true_and, and_true, false_and, and_false, or_self, and_self, not_false_eq_true, not_true_eq_false, tn_i, ho, hm, decide_eq_true]
    rfl
  · show sX2_write_142 d e _ _ = _
    unfold sX2_write_142
    rw [show r + 35 = r + 5 + 18 + 12 by omega]
    simp (disch := omega) only [nI_iI, lN_lJ, iI_0, lJ_0, iI_add, iI_sub, iI_mul, iI_neg, lJ_add, lJ_sub, lJ_mul, lJ_neg, i_l, l_i, iI_cl, iI_inb, iI_eqT, iI_eqF, iI_ltT, iI_ltF, iI_leT, iI_leF, lJ_eqT, lJ_eqF, lJ_cG, lJ_cE, lJ_cL, lJ_cF, lJ_cGE, lJ_cLE, lJ_cNL, lJ_cNG, Int.cast_ofNat_Int, c_0, c_1, Int.natCast_add, Int.add_zero, cond_true, cond_false, Bool.and_self, Bool.and_true, Bool.true_and, Option.bind_some, decide_true, uI_hit, uI_miss, uI_o, uA_o, uA_s, ↓reduceIte, eq_self, true_or, or_true, or_false, false_or, true_and, and_true, false_and, and_false, or_self, and_self, not_false_eq_true, not_true_eq_false, tn_i, ho, hm, decide_eq_true]
    rfl
theorem cq_write {d : aI} {e : aJ} {A : Int → Int} {o1 m : Nat} {r : Int} (hC : CN d 1 A) (hW : WN A) (ho : o1 = 12 ∨ o1 = 107) (hm : szOf o1 = m) (hr : 0 ≤ r ∧ r + 60 ≤ m ∧ m < 10000) : ∃ d', FX2_write d e o1 (iI r) = some ((), d', e) ∧ RW d' o1 r A ∧ (∀ k, k ≠ o1 → d' k = d k) ∧ (∀ j : Nat, ((j : Int) < r ∨ r + 60 ≤ (j : Int)) → d' o1 j = d o1 j) := by
  have hw := hW
  have hc := hC
  obtain ⟨q8, q9, q10, q11, q12, q3, q4, q5, q6, q7, qh, qt, qb⟩ := hC
  have k8 : d 2 8 = iI (A 0) := q8
  have k9 : d 2 9 = iI (A 1) := q9
  have k10 : d 2 10 = iI (A 11) := q10
  have k11 : d 2 11 = iI (A 9) := q11
  have k12 : d 2 12 = iI (A 10) := q12
  have k3 : ∀ j : Nat, (j : Int) < A 0 → d 3 j = iI (A (42 + j)) := q3
  have k4 : ∀ j : Nat, (j : Int) < A 0 → d 4 j = iI (A (30 + 2 * j)) := q4
  have k5 : ∀ j : Nat, (j : Int) < A 0 → d 5 j = iI (A (30 + 2 * j + 1)) := q5
  have k6 : ∀ j : Nat, (j : Int) < A 1 → d 6 j = iI (A (54 + j)) := q6
  have k7 : ∀ j : Nat, (j : Int) < A 1 → d 7 j = iI (A (12 + 3 * j)) := q7
  have kh : ∀ j : Nat, (j : Int) < A 1 → d 8 j = iI (A (12 + 3 * j + 1)) := qh
  have kt : ∀ j : Nat, (j : Int) < A 1 → d 9 j = iI (A (12 + 3 * j + 2)) := qt
  have kb : ∀ j : Nat, (j : Int) < A 11 → d 10 j = iI (A (1936 + j)) := qb
  obtain ⟨w0, w1, w9, w10, w11, wc, wh, wb⟩ := hW
  unfold FX2_write
  have k1 : stX2_write (0, [some (.ref 2), some (.ref o1), some (.int (iI r))], d, e) = some (71, [some (.ref 2), some (.ref o1), some (.int (iI r))], uA (uI (uI (uI (uI (uI d o1 r.toNat (iI (A 0))) o1 (r + 1).toNat (iI (A 1))) o1 (r + 2).toNat (iI (A 11))) o1 (r + 3).toNat (iI (A 9))) o1 (r + 4).toNat (iI (A 10))) o1 (va_cpy (d 7) (uI (uI (uI (uI (uI d o1 r.toNat (iI (A 0))) o1 (r + 1).toNat (iI (A 1))) o1 (r + 2).toNat (iI (A 11))) o1 (r + 3).toNat (iI (A 9))) o1 (r + 4).toNat (iI (A 10)) o1) 0 (r + 5).toNat 6), e) := by
    show sX2_write_0 d e _ _ = _
    unfold sX2_write_0
    simp (disch := omega) only [nI_iI, lN_lJ, iI_0, lJ_0, iI_add, iI_sub, iI_mul, iI_neg, lJ_add, lJ_sub, lJ_mul, lJ_neg, i_l, l_i, iI_cl, iI_inb, iI_eqT, iI_eqF, iI_ltT, iI_ltF, iI_leT, iI_leF, lJ_eqT, lJ_eqF, lJ_cG, lJ_cE, lJ_cL, lJ_cF, lJ_cGE, lJ_cLE, lJ_cNL, lJ_cNG, Int.cast_ofNat_Int, c_0, c_1, Int.natCast_add, Int.add_zero, cond_true, cond_false, Bool.and_self, Bool.and_true, Bool.true_and, Option.bind_some, decide_true, uI_hit, uI_miss, uI_o, uA_o, uA_s, ↓reduceIte, eq_self, true_or, or_true, or_false, false_or, true_and, and_true, false_and, and_false, or_self, and_self, not_false_eq_true, not_true_eq_false, tn_i, ho, hm, decide_eq_true, k8, k9, k10, k11, k12]
  rw [a_run_step k1 rfl]
  generalize hd0 : uI (uI (uI (uI (uI d o1 r.toNat (iI (A 0))) o1 (r + 1).toNat (iI (A 1))) o1 (r + 2).toNat (iI (A 11))) o1 (r + 3).toNat (iI (A 9))) o1 (r + 4).toNat (iI (A 10)) = d0
  have f0 : ∀ k, k ≠ o1 → d0 k = d k := fun k hk => by rw [← hd0, uI_o hk, uI_o hk, uI_o hk, uI_o hk, uI_o hk]
  have i0 : ∀ j : Nat, ((j : Int) < r ∨ r + 5 ≤ (j : Int)) → d0 o1 j = d o1 j := fun j hj => by rw [← hd0, uI_miss (by omega), uI_miss (by omega), uI_miss (by omega), uI_miss (by omega), uI_miss (by omega)]
  have c0 : d0 o1 r.toNat = iI (A 0) := by rw [← hd0]; simp (disch := omega) only [uI_o, uI_hit, uI_miss, uA_o, uA_s, cpy_in, cpy_out, aU_hit, aU_miss, tn_i, if_pos, if_neg]
  have c1 : d0 o1 (r + 1).toNat = iI (A 1) := by rw [← hd0]; simp (disch := omega) only [uI_o, uI_hit, uI_miss, uA_o, uA_s, cpy_in, cpy_out, aU_hit, aU_miss, tn_i, if_pos, if_neg]
  have c2 : d0 o1 (r + 2).toNat = iI (A 11) := by rw [← hd0]; simp (disch := omega) only [uI_o, uI_hit, uI_miss, uA_o, uA_s, cpy_in, cpy_out, aU_hit, aU_miss, tn_i, if_pos, if_neg]
  have c3 : d0 o1 (r + 3).toNat = iI (A 9) := by rw [← hd0]; simp (disch := omega) only [uI_o, uI_hit, uI_miss, uA_o, uA_s, cpy_in, cpy_out, aU_hit, aU_miss, tn_i, if_pos, if_neg]
  have c4 : d0 o1 (r + 4).toNat = iI (A 10) := by rw [← hd0]; simp (disch := omega) only [uI_o, uI_hit, uI_miss, uA_o, uA_s, cpy_in, cpy_out, aU_hit, aU_miss, tn_i, if_pos, if_neg]
  clear hd0 k1
  rw [a_run_step (cw_st ho hm hr 71 88 11 6 8 (by omega)) rfl, a_run_step (cw_st ho hm hr 88 105 17 6 9 (by omega)) rfl, a_run_step (cw_st ho hm hr 105 122 23 6 4 (by omega)) rfl, a_run_step (cw_st ho hm hr 122 142 29 6 5 (by omega)) rfl, a_run_step (cw_st ho hm hr 142 162 35 25 10 (by omega)) rfl]
  have kend : ∀ d' : aI, stX2_write (162, [some (.ref 2), some (.ref o1), some (.int (iI r))], d', e) = some (100000, [], d', e) := by
    intro d'
    show sX2_write_162 d' e o1 (iI r) = _
    unfold sX2_write_162
    simp (disch := omega) only [nI_iI, lN_lJ, iI_0, lJ_0, iI_add, iI_sub, iI_mul, iI_neg, lJ_add, lJ_sub, lJ_mul, lJ_neg, i_l, l_i, iI_cl, iI_inb, iI_eqT, iI_eqF, iI_ltT, iI_ltF, iI_leT, iI_leF, lJ_eqT, lJ_eqF, lJ_cG, lJ_cE, lJ_cL, lJ_cF, lJ_cGE, lJ_cLE, lJ_cNL, lJ_cNG, Int.cast_ofNat_Int, c_0, c_1, Int.natCast_add, Int.add_zero, cond_true, cond_false, Bool.and_self, Bool.and_true, Bool.true_and, Option.bind_some, decide_true, uI_hit, uI_miss, uI_o, uA_o, uA_s, ↓reduceIte, eq_self, true_or, or_true, or_false, false_or, true_and, and_true, false_and, and_false, or_self, and_self, not_false_eq_true, not_true_eq_false, tn_i, ho]
  rw [a_run_step (kend _) rfl, a_run_end]
  refine ⟨_, rfl, ⟨?_, ?_, ?_, ?_, ?_, fun c hc => ⟨?_, ?_, ?_⟩, fun h hh => ⟨?_, ?_⟩, fun k hk => ?_⟩, fun k hk => ?_, fun j hj => ?_⟩
  · simp (disch := omega) only [uI_o, uI_hit, uI_miss, uA_o, uA_s, cpy_in, cpy_out, aU_hit, aU_miss, tn_i, if_pos, if_neg, c0]
  · simp (disch := omega) only [uI_o, uI_hit, uI_miss, uA_o, uA_s, cpy_in, cpy_out, aU_hit, aU_miss, tn_i, if_pos, if_neg, c1]
  · simp (disch := omega) only [uI_o, uI_hit, uI_miss, uA_o, uA_s, cpy_in, cpy_out, aU_hit, aU_miss, tn_i, if_pos, if_neg, c2]
  · simp (disch := omega) only [uI_o, uI_hit, uI_miss, uA_o, uA_s, cpy_in, cpy_out, aU_hit, aU_miss, tn_i, if_pos, if_neg, c3]
  · simp (disch := omega) only [uI_o, uI_hit, uI_miss, uA_o, uA_s, cpy_in, cpy_out, aU_hit, aU_miss, tn_i, if_pos, if_neg, c4]
  · simp (disch := omega) only [uI_o, uI_hit, uI_miss, uA_o, uA_s, cpy_in, cpy_out, aU_hit, aU_miss, tn_i, if_pos, if_neg, f0]
    rw [show 0 + ((r + 5 + (c : Int)).toNat - (r + 5).toNat) = c by omega]
    exact k7 c hc
  · simp (disch := omega) only [uI_o, uI_hit, uI_miss, uA_o, uA_s, cpy_in, cpy_out, aU_hit, aU_miss, tn_i, if_pos, if_neg, f0]
    rw [show 0 + ((r + 11 + (c : Int)).toNat - (r + 11).toNat) = c by omega]
    exact kh c hc
  · simp (disch := omega) only [uI_o, uI_hit, uI_miss, uA_o, uA_s, cpy_in, cpy_out, aU_hit, aU_miss, tn_i, if_pos, if_neg, f0]
    rw [show 0 + ((r + 17 + (c : Int)).toNat - (r + 17).toNat) = c by omega]
    exact kt c hc
  · simp (disch := omega) only [uI_o, uI_hit, uI_miss, uA_o, uA_s, cpy_in, cpy_out, aU_hit, aU_miss, tn_i, if_pos, if_neg, f0]
    rw [show 0 + ((r + 23 + (h : Int)).toNat - (r + 23).toNat) = h by omega]
    exact k4 h hh
  · simp (disch := omega) only [uI_o, uI_hit, uI_miss, uA_o, uA_s, cpy_in, cpy_out, aU_hit, aU_miss, tn_i, if_pos, if_neg, f0]
    rw [show 0 + ((r + 29 + (h : Int)).toNat - (r + 29).toNat) = h by omega]
    exact k5 h hh
  · simp (disch := omega) only [uI_o, uI_hit, uI_miss, uA_o, uA_s, cpy_in, cpy_out, aU_hit, aU_miss, tn_i, if_pos, if_neg, f0]
    rw [show 0 + ((r + 35 + (k : Int)).toNat - (r + 35).toNat) = k by omega]
    exact kb k hk
  · rw [uA_o hk, uA_o hk, uA_o hk, uA_o hk, uA_o hk, uA_o hk]
    exact f0 k hk
  · simp (disch := omega) only [uI_o, uI_hit, uI_miss, uA_o, uA_s, cpy_in, cpy_out, aU_hit, aU_miss, tn_i, if_pos, if_neg]
    exact i0 j (by omega)
theorem sz12 : szOf 12 = 1800 := rfl
theorem sz107 : szOf 107 = 60 := rfl
theorem cq_keep {d : aI} {e : aJ} {A : Int → Int} (hC : CN d 1 A) (hG : RG d 1 A) (hS : SI A) : ∃ d', FX6_keep d e = some ((), d', e) ∧ RG d' 1 (keepS A) ∧ (∀ k, k ≠ 11 → k ≠ 12 → d' k = d k) := by
  obtain ⟨f, f0, f1, g1, g2, gr⟩ := hG
  have hg1 : d 11 1 = iI f := g1
  have hg2 : d 11 2 = iI (A 4) := g2
  have h4 := hS.2.1
  have hk := kp_in h4
  have e4 : keepS A 4 = kpN A + 1 := by unfold keepS; rw [if_pos rfl]
  obtain ⟨d1, r1, r2, r3, r4⟩ := cq_write (e := e) (o1 := 12) (m := 1800) (r := (f + A 4) % 30 * 60) hC hS.1 (Or.inl rfl) sz12 (by omega)
  have s1 : d1 11 1 = iI f := by rw [r3 11 (by omega)]; exact hg1
  have s2 : d1 11 2 = iI (A 4) := by rw [r3 11 (by omega)]; exact hg2
  have rows : ∀ (d' : aI) (f' : Int), d' 12 = d1 12 → (∀ s, 0 ≤ s → s < kpN A → (f' + s) % 30 = (f + (s + kpS A)) % 30) → (f' + kpN A) % 30 = (f + A 4) % 30 → ∀ s, 0 ≤ s → s < keepS A 4 → RW d' 12 ((f' + s) % 30 * 60) (rowT (keepS A) s) := by
    intro d' f' ed h1 h2 s s0 s1
    rw [e4] at s1
    by_cases hs : s < kpN A
    · rw [h1 s s0 hs]
      have w := (hS.2.2.2.2.1 (s + kpS A) (by omega) (by omega)).1
      have w0 := w.1
      have w1 := w.2.1
      have w11 := w.2.2.2.2.1
      have q := (gr (s + kpS A) (by omega) (by omega)).of (d' := d') (fun j j0 j1 => by rw [ed, r4 j (by omega)]) (by omega) (by omega)
      exact q.ag (keepS_row h4 ⟨s0, hs⟩).symm (by omega)
    · rw [show s = kpN A by omega, h2]
      have w0 := hS.1.1
      have w1 := hS.1.2.1
      have w11 := hS.1.2.2.2.2.1
      have q := r2.of (d' := d') (fun j j0 j1 => by rw [ed]) (by omega) (by omega)
      exact q.ag (keepS_new h4).symm (by omega)
  unfold FX6_keep
  by_cases h30 : A 4 = 30
  · have n1 : kpN A = 29 := by unfold kpN; rw [if_pos h30]
    have n2 : kpS A = 1 := by unfold kpS; rw [if_pos h30]
    refine ⟨uI d1 11 1 (iI ((f + 1) % 30)), ?_, ⟨(f + 1) % 30, by omega, by omega, uI_hit rfl, ?_, rows _ _ (uI_o (by omega)) (fun s a b => by omega) (by omega)⟩, fun k a b => ?_⟩
    · simp (disch := omega) only [nI_iI, lN_lJ, iI_0, lJ_0, iI_add, iI_sub, iI_mul, iI_neg, lJ_add, lJ_sub, lJ_mul, lJ_neg, i_l, l_i, iI_cl, iI_inb, iI_eqT, iI_eqF, iI_ltT, iI_ltF, iI_leT, iI_leF, lJ_eqT, lJ_eqF, lJ_cG, lJ_cE, lJ_cL, lJ_cF, lJ_cGE, lJ_cLE, lJ_cNL, lJ_cNG, Int.cast_ofNat_Int, c_0, c_1, Int.natCast_add, Int.add_zero, cond_true, cond_false, Bool.and_self, Bool.and_true, Bool.true_and, Option.bind_some, decide_true, uI_hit, uI_miss, uI_o, uA_o, uA_s, ↓reduceIte, eq_self, true_or, or_true, or_false, false_or, true_and, and_true, false_and, and_false, or_self, and_self, not_false_eq_true, not_true_eq_false, tn_i, hg1, hg2, iI_rem, r1, s1, s2, decide_eq_true]
    · show uI d1 11 1 (iI ((f + 1) % 30)) 11 2 = _
      rw [uI_miss (by omega), s2, e4, n1, h30]
      rfl
    · rw [uI_o a]
      exact r3 k b
  · have n1 : kpN A = A 4 := by unfold kpN; rw [if_neg h30]
    have n2 : kpS A = 0 := by unfold kpS; rw [if_neg h30]
    refine ⟨uI d1 11 2 (iI (A 4 + 1)), ?_, ⟨f, f0, f1, ?_, ?_, rows _ _ (uI_o (by omega)) (fun s a b => by omega) (by omega)⟩, fun k a b => ?_⟩
    · simp (disch := omega) only [nI_iI, lN_lJ, iI_0, lJ_0, iI_add, iI_sub, iI_mul, iI_neg, lJ_add, lJ_sub, lJ_mul, lJ_neg, i_l, l_i, iI_cl, iI_inb, iI_eqT, iI_eqF, iI_ltT, iI_ltF, iI_leT, iI_leF, lJ_eqT, lJ_eqF, lJ_cG, lJ_cE, lJ_cL, lJ_cF, lJ_cGE, lJ_cLE, lJ_cNL, lJ_cNG, Int.cast_ofNat_Int, c_0, c_1, Int.natCast_add, Int.add_zero, cond_true, cond_false, Bool.and_self, Bool.and_true, Bool.true_and, Option.bind_some, decide_true, uI_hit, uI_miss, uI_o, uA_o, uA_s, ↓reduceIte, eq_self, true_or, or_true, or_false, false_or, true_and, and_true, false_and, and_false, or_self, and_self, not_false_eq_true, not_true_eq_false, tn_i, hg1, hg2, iI_rem, r1, s1, s2, decide_eq_true]
    · show uI d1 11 2 (iI (A 4 + 1)) 11 1 = _
      rw [uI_miss (by omega), s1]
    · show uI d1 11 2 (iI (A 4 + 1)) 11 2 = _
      rw [uI_hit rfl, e4, n1]
    · rw [uI_o a]
      exact r3 k b
