/-! ===== a step is kept: reference ===== -/
theorem MA.cell {d : aI} {o : Nat} {A : Int → Int} (h : MA d o A) {j : Int} (hj : 0 ≤ j ∧ j < 1961) : d o j.toNat = iI (A j) := by
  have := h j.toNat (by omega)
  rw [tn_i hj.1] at this
  exact this
theorem mq_keep {d : aI} {e : aJ} {A : Int → Int} (hA : MA d 109 A) (h4 : 0 ≤ A 4 ∧ A 4 ≤ 30) : ∃ d', FX11_keep d e = some ((), d', e) ∧ MA d' 109 (keepS A) ∧ (∀ o, o ≠ 109 → d' o = d o) := by
  have hk := kp_in h4
  -- behind the shift
  have s1 : ∃ (d1 : aI) (A1 : Int → Int), MA d1 109 A1 ∧ (∀ o, o ≠ 109 → d1 o = d o) ∧ (∀ j : Int, 0 ≤ j → j < 1961 → j ≠ 4 → j ≠ 136 + 60 * kpN A → j ≠ 137 + 60 * kpN A → A1 j = if 136 ≤ j ∧ j < 136 + 60 * kpN A then A (j + 60 * kpS A) else A j) ∧ A1 4 = kpN A ∧ A1 (136 + 60 * kpN A) = A 0 ∧ A1 (137 + 60 * kpN A) = A 1 ∧ a_run stX11_keep (0, [some (.ref 108), none, none], d, e) = a_run stX11_keep (98, [some (.ref 108), some (.int (iI (136 + 60 * kpN A))), some (.int (iI (0 : Nat)))], d1, e) := by
    have r4 := hA.cell (j := 4) (by omega)
    by_cases h30 : A 4 = 30
    · have n1 : kpN A = 29 := by unfold kpN; rw [if_pos h30]
      have n2 : kpS A = 1 := by unfold kpS; rw [if_pos h30]
      have r4' : d 109 4 = iI 30 := by rw [← h30]; exact r4
      rw [a_run_step (st := stX11_keep) (p := (0, [some (.ref 108), none, none], d, e)) (p2 := (13, [some (.ref 108), some (.int (iI (0 : Nat))), none], d, e)) (by
        show sX11_keep_0 d e = _
        unfold sX11_keep_0
        simp (disch := omega) only [nI_iI, lN_lJ, iI_0, lJ_0, iI_add, iI_sub, iI_mul, iI_neg, lJ_add, lJ_sub, lJ_mul, lJ_neg, i_l, l_i, iI_cl, iI_inb, iI_eqT, iI_eqF, iI_ltT, iI_ltF, iI_leT, iI_leF, lJ_eqT, lJ_eqF, lJ_cG, lJ_cE, lJ_cL, lJ_cF, lJ_cGE, lJ_cLE, lJ_cNL, lJ_cNG, Int.cast_ofNat_Int, c_0, c_1, Int.natCast_add, Int.add_zero, cond_true, cond_false, Bool.and_self, Bool.and_true, Bool.true_and, Option.bind_some, decide_true, uI_hit, uI_miss, uI_o, uA_o, uA_s, ↓reduceIte, eq_self, true_or, or_true, or_false, false_or, true_and, and_true, false_and, and_false, or_self, and_self, not_false_eq_true, not_true_eq_false, tn_i, r4']) rfl]
      obtain ⟨d1, a1, b1, c1⟩ := run_cp (st := stX11_keep) (d := d) (A := A) (dst := 136) (src := 196) (fun k d' => (13, [some (.ref 108), some (.int (iI (k : Nat))), none], d', e)) 1740 hA (by omega) (fun _ _ => rfl) (fun k d' hk ha hb => by
        show sX11_keep_13 d' e _ _ = _
        unfold sX11_keep_13
        simp (disch := omega) only [nI_iI, lN_lJ, iI_0, lJ_0, iI_add, iI_sub, iI_mul, iI_neg, lJ_add, lJ_sub, lJ_mul, lJ_neg, i_l, l_i, iI_cl, iI_inb, iI_eqT, iI_eqF, iI_ltT, iI_ltF, iI_leT, iI_leF, lJ_eqT, lJ_eqF, lJ_cG, lJ_cE, lJ_cL, lJ_cF, lJ_cGE, lJ_cLE, lJ_cNL, lJ_cNG, Int.cast_ofNat_Int, c_0, c_1, Int.natCast_add, Int.add_zero, cond_true, cond_false, Bool.and_self, Bool.and_true, Bool.true_and, Option.bind_some, decide_true, uI_hit, uI_miss, uI_o, uA_o, uA_s, ↓reduceIte, eq_self, true_or, or_true, or_false, false_or, true_and, and_true, false_and, and_false, or_self, and_self, not_false_eq_true, not_true_eq_false, tn_i])
      have q4 : d1 109 4 = iI 30 := by
        have := a1.cell (j := 4) (by omega)
        rw [cpS_out (by omega), h30] at this
        exact this
      have q0 : d1 109 0 = iI (A 0) := by
        have := a1.cell (j := 0) (by omega)
        rw [cpS_out (by omega)] at this
        exact this
      have q1 : d1 109 1 = iI (A 1) := by
        have := a1.cell (j := 1) (by omega)
        rw [cpS_out (by omega)] at this
        exact this
      refine ⟨uI (uI (uI d1 109 4 (iI 29)) 109 (136 + 60 * 29 : Int).toNat (iI (A 0))) 109 (136 + 60 * 29 + 1 : Int).toNat (iI (A 1)), _, ((a1.put (k := 4) (k' := 4) rfl).put (k := (136 + 60 * 29 : Int).toNat) (k' := 1876) rfl).put (k := (136 + 60 * 29 + 1 : Int).toNat) (k' := 1877) rfl, fun o ho => by rw [uI_o ho, uI_o ho, uI_o ho]; exact b1 o ho, fun j j0 j1 j2 j3 j4 => ?_, ?_, ?_, ?_, ?_⟩
      · rw [aU_miss (by omega), aU_miss (by omega), aU_miss j2]
        by_cases h : 136 ≤ j ∧ j < 136 + 60 * kpN A
        · rw [if_pos h, cpS_in (by omega)]
          congr 1; omega
        · rw [if_neg h, cpS_out (by omega)]
      · rw [aU_miss (by omega), aU_miss (by omega), aU_hit rfl, n1]
      · rw [aU_miss (by omega), aU_hit (by omega)]
      · rw [aU_hit (by omega)]
      · rw [c1, n1]
        refine a_run_step ?_ rfl
        show sX11_keep_13 d1 e _ _ = _
        unfold sX11_keep_13
        simp (disch := omega) only [nI_iI, lN_lJ, iI_0, lJ_0, iI_add, iI_sub, iI_mul, iI_neg, lJ_add, lJ_sub, lJ_mul, lJ_neg, i_l, l_i, iI_cl, iI_inb, iI_eqT, iI_eqF, iI_ltT, iI_ltF, iI_leT, iI_leF, lJ_eqT, lJ_eqF, lJ_cG, lJ_cE, lJ_cL, lJ_cF, lJ_cGE, lJ_cLE, lJ_cNL, lJ_cNG, Int.cast_ofNat_Int, c_0, c_1, Int.natCast_add, Int.add_zero, cond_true, cond_false, Bool.and_self, Bool.and_true, Bool.true_and, Option.bind_some, decide_true, uI_hit, uI_miss, uI_o, uA_o, uA_s, ↓reduceIte, eq_self, true_or, or_true, or_false, false_or, true_and, and_true, false_and, and_false, or_self, and_self, not_false_eq_true, not_true_eq_false, tn_i, q4, q0, q1, show (30 : Int) - 1 = 29 from rfl]
    · have n1 : kpN A = A 4 := by unfold kpN; rw [if_neg h30]
      have n2 : kpS A = 0 := by unfold kpS; rw [if_neg h30]
      have q0 := hA.cell (j := 0) (by omega)
      have q1 := hA.cell (j := 1) (by omega)
      have q4 : d 109 4 = iI (A 4) := r4
      have q0' : d 109 0 = iI (A 0) := q0
      have q1' : d 109 1 = iI (A 1) := q1
      refine ⟨uI (uI d 109 (136 + 60 * A 4).toNat (iI (A 0))) 109 (136 + 60 * A 4 + 1).toNat (iI (A 1)), _, (hA.put (k := (136 + 60 * A 4).toNat) (k' := 136 + 60 * A 4) (by omega)).put (k := (136 + 60 * A 4 + 1).toNat) (k' := 136 + 60 * A 4 + 1) (by omega), fun o ho => by rw [uI_o ho, uI_o ho], fun j j0 j1 j2 j3 j4 => ?_, ?_, ?_, ?_, ?_⟩
      · rw [aU_miss (by omega), aU_miss (by omega), n2, show j + 60 * 0 = j by omega]
        split <;> rfl
      · rw [aU_miss (by omega), aU_miss (by omega), n1]
      · rw [aU_miss (by omega), aU_hit (by omega)]
      · rw [aU_hit (by omega)]
      · rw [n1]
        refine a_run_step ?_ rfl
        show sX11_keep_0 d e = _
        unfold sX11_keep_0
        simp (disch := omega) only [nI_iI, lN_lJ, iI_0, lJ_0, iI_add, iI_sub, iI_mul, iI_neg, lJ_add, lJ_sub, lJ_mul, lJ_neg, i_l, l_i, iI_cl, iI_inb, iI_eqT, iI_eqF, iI_ltT, iI_ltF, iI_leT, iI_leF, lJ_eqT, lJ_eqF, lJ_cG, lJ_cE, lJ_cL, lJ_cF, lJ_cGE, lJ_cLE, lJ_cNL, lJ_cNG, Int.cast_ofNat_Int, c_0, c_1, Int.natCast_add, Int.add_zero, cond_true, cond_false, Bool.and_self, Bool.and_true, Bool.true_and, Option.bind_some, decide_true, uI_hit, uI_miss, uI_o, uA_o, uA_s, ↓reduceIte, eq_self, true_or, or_true, or_false, false_or, true_and, and_true, false_and, and_false, or_self, and_self, not_false_eq_true, not_true_eq_false, tn_i, q4, q0', q1']
  obtain ⟨d1, A1, a1, b1, c1, c4, c0, c11, t1⟩ := s1
  unfold FX11_keep
  rw [t1]
  obtain ⟨d2, a2, b2, t2⟩ := run_cp (st := stX11_keep) (d := d1) (A := A1) (dst := 138 + 60 * kpN A) (src := 9) (fun k d' => (98, [some (.ref 108), some (.int (iI (136 + 60 * kpN A))), some (.int (iI (k : Nat)))], d', e)) 33 a1 (by omega) (fun _ _ => rfl) (fun k d' hk ha hb => by
    show sX11_keep_98 d' e _ _ = _
    unfold sX11_keep_98
    rw [show 138 + 60 * kpN A + (k : Int) = 136 + 60 * kpN A + 2 + k by omega]
    simp (disch := omega) only [nI_iI, lN_lJ, iI_0, lJ_0, iI_add, iI_sub, iI_mul, iI_neg, lJ_add, lJ_sub, lJ_mul, lJ_neg, i_l, l_i, iI_cl, iI_inb, iI_eqT, iI_eqF, iI_ltT, iI_ltF, iI_leT, iI_leF, lJ_eqT, lJ_eqF, lJ_cG, lJ_cE, lJ_cL, lJ_cF, lJ_cGE, lJ_cLE, lJ_cNL, lJ_cNG, Int.cast_ofNat_Int, c_0, c_1, Int.natCast_add, Int.add_zero, cond_true, cond_false, Bool.and_self, Bool.and_true, Bool.true_and, Option.bind_some, decide_true, uI_hit, uI_miss, uI_o, uA_o, uA_s, ↓reduceIte, eq_self, true_or, or_true, or_false, false_or, true_and, and_true, false_and, and_false, or_self, and_self, not_false_eq_true, not_true_eq_false, tn_i])
  rw [t2, a_run_step (st := stX11_keep) (p2 := (131, [some (.ref 108), some (.int (iI (136 + 60 * kpN A))), some (.int (iI (0 : Nat)))], d2, e)) (by
    show sX11_keep_98 d2 e _ _ = _
    unfold sX11_keep_98
    simp (disch := omega) only [nI_iI, lN_lJ, iI_0, lJ_0, iI_add, iI_sub, iI_mul, iI_neg, lJ_add, lJ_sub, lJ_mul, lJ_neg, i_l, l_i, iI_cl, iI_inb, iI_eqT, iI_eqF, iI_ltT, iI_ltF, iI_leT, iI_leF, lJ_eqT, lJ_eqF, lJ_cG, lJ_cE, lJ_cL, lJ_cF, lJ_cGE, lJ_cLE, lJ_cNL, lJ_cNG, Int.cast_ofNat_Int, c_0, c_1, Int.natCast_add, Int.add_zero, cond_true, cond_false, Bool.and_self, Bool.and_true, Bool.true_and, Option.bind_some, decide_true, uI_hit, uI_miss, uI_o, uA_o, uA_s, ↓reduceIte, eq_self, true_or, or_true, or_false, false_or, true_and, and_true, false_and, and_false, or_self, and_self, not_false_eq_true, not_true_eq_false, tn_i]) rfl]
  obtain ⟨d3, a3, b3, t3⟩ := run_cp (st := stX11_keep) (d := d2) (A := cpS A1 (138 + 60 * kpN A) 9 (33 : Nat)) (dst := 171 + 60 * kpN A) (src := 1936) (fun k d' => (131, [some (.ref 108), some (.int (iI (136 + 60 * kpN A))), some (.int (iI (k : Nat)))], d', e)) 25 a2 (by omega) (fun _ _ => rfl) (fun k d' hk ha hb => by
    show sX11_keep_131 d' e _ _ = _
    unfold sX11_keep_131
    rw [show 171 + 60 * kpN A + (k : Int) = 136 + 60 * kpN A + 2 + 33 + k by omega]
    simp (disch := omega) only [nI_iI, lN_lJ, iI_0, lJ_0, iI_add, iI_sub, iI_mul, iI_neg, lJ_add, lJ_sub, lJ_mul, lJ_neg, i_l, l_i, iI_cl, iI_inb, iI_eqT, iI_eqF, iI_ltT, iI_ltF, iI_leT, iI_leF, lJ_eqT, lJ_eqF, lJ_cG, lJ_cE, lJ_cL, lJ_cF, lJ_cGE, lJ_cLE, lJ_cNL, lJ_cNG, Int.cast_ofNat_Int, c_0, c_1, Int.natCast_add, Int.add_zero, cond_true, cond_false, Bool.and_self, Bool.and_true, Bool.true_and, Option.bind_some, decide_true, uI_hit, uI_miss, uI_o, uA_o, uA_s, ↓reduceIte, eq_self, true_or, or_true, or_false, false_or, true_and, and_true, false_and, and_false, or_self, and_self, not_false_eq_true, not_true_eq_false, tn_i])
  have q4 : d3 109 4 = iI (kpN A) := by
    have := a3.cell (j := 4) (by omega)
    rw [cpS_out (by omega), cpS_out (by omega), c4] at this
    exact this
  rw [t3, a_run_step (st := stX11_keep) (p2 := (100000, [], uI d3 109 4 (iI (kpN A + 1)), e)) (by
    show sX11_keep_131 d3 e _ _ = _
    unfold sX11_keep_131
    simp (disch := omega) only [nI_iI, lN_lJ, iI_0, lJ_0, iI_add, iI_sub, iI_mul, iI_neg, lJ_add, lJ_sub, lJ_mul, lJ_neg, i_l, l_i, iI_cl, iI_inb, iI_eqT, iI_eqF, iI_ltT, iI_ltF, iI_leT, iI_leF, lJ_eqT, lJ_eqF, lJ_cG, lJ_cE, lJ_cL, lJ_cF, lJ_cGE, lJ_cLE, lJ_cNL, lJ_cNG, Int.cast_ofNat_Int, c_0, c_1, Int.natCast_add, Int.add_zero, cond_true, cond_false, Bool.and_self, Bool.and_true, Bool.true_and, Option.bind_some, decide_true, uI_hit, uI_miss, uI_o, uA_o, uA_s, ↓reduceIte, eq_self, true_or, or_true, or_false, false_or, true_and, and_true, false_and, and_false, or_self, and_self, not_false_eq_true, not_true_eq_false, tn_i, q4]) rfl, a_run_end]
  refine ⟨_, rfl, (a3.put (k := 4) (k' := 4) rfl).ext (fun j j0 j1 => ?_), fun o ho => by rw [uI_o ho, b3 o ho, b2 o ho, b1 o ho]⟩
  unfold keepS
  by_cases h : j = 4
  · rw [if_pos h, aU_hit h]
  · rw [if_neg h, aU_miss h]
    by_cases h2 : 136 ≤ j ∧ j < 136 + 60 * kpN A
    · rw [if_pos h2, cpS_out (by omega), cpS_out (by omega), c1 j j0 j1 h (by omega) (by omega), if_pos h2]
    · rw [if_neg h2]
      by_cases h3 : j = 136 + 60 * kpN A
      · rw [if_pos h3, cpS_out (by omega), cpS_out (by omega), h3, c0]
      · rw [if_neg h3]
        by_cases h5 : j = 137 + 60 * kpN A
        · rw [if_pos h5, cpS_out (by omega), cpS_out (by omega), h5, c11]
        · rw [if_neg h5]
          by_cases h6 : 138 + 60 * kpN A ≤ j ∧ j < 171 + 60 * kpN A
          · rw [if_pos h6, cpS_out (by omega), cpS_in (by omega), c1 _ (by omega) (by omega) (by omega) (by omega) (by omega), if_neg (by omega)]
          · rw [if_neg h6]
            by_cases h7 : 171 + 60 * kpN A ≤ j ∧ j < 196 + 60 * kpN A
            · rw [if_pos h7, cpS_in (by omega), cpS_out (by omega)]
              by_cases h8 : 1936 + (j - (171 + 60 * kpN A)) < 136 + 60 * kpN A
              · omega
              · rw [c1 _ (by omega) (by omega) (by omega) (by omega) (by omega), if_neg (by omega)]
            · rw [if_neg h7, cpS_out (by omega), cpS_out (by omega), c1 j j0 j1 h (by omega) (by omega), if_neg h2]
