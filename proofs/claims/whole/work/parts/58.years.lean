/-! ===== a text is played; years ===== -/
theorem o_played (x : Int32) : Op (fun d e => FX10_played d e x) (fun d e => FX11_played d e x) := by
  obtain ⟨t, rfl, h1, h2⟩ := iI_ex x
  intro S0 hS0
  have s2 := hS0.1.2.2.1
  by_cases ht : 0 ≤ t ∧ t < S0.1 2
  · have key : ∀ (m k : Nat) (S : aS), (k : Int) + m = (S0.2.2.1 t.toNat).2.1 → sOK S → S.2 = S0.2 → S.1 2 = S0.1 2 → ∃ (S' : aS) (z : Int), sOK S' ∧
        (∀ (d : aI) (e : aJ), CI d S → ∃ d' e', a_run stX10_played (20, [some (.ref 0), some (.int (iI t)), some (.ref (58 + 5 * t.toNat)), some (.int (iI k))], d, e) = some ([some (.int (iI z))], d', e') ∧ CI d' S' ∧ Fc d d') ∧
        (∀ (d : aI) (e : aJ), MI d S → ∃ d' e', a_run stX11_played (21, [some (.ref 108), some (.int (iI t)), some (.int (iI k))], d, e) = some ([some (.int (iI z))], d', e') ∧ MI d' S' ∧ Fm d d') := by
      intro m
      induction m with
      | zero =>
        intro k S hk hS e1 e2
        have tx : S.2.2.1 t.toNat = S0.2.2.1 t.toNat := by rw [e1]
        have tok := hS0.2.2.2.1 t.toNat (by omega)
        have c24 := tok.1
        refine ⟨S, -1, hS, fun d e hC => ⟨d, e, ?_, hC, Fc.refl d⟩, fun d e hM => ⟨d, e, ?_, hM, Fm.refl d⟩⟩
        · have hT := hC.2.2.1 t.toNat (by omega)
          rw [tx] at hT
          have hn := hT.2.2.1
          rw [a_run_step (st := stX10_played) (p2 := (100000, [some (.int (iI (-1)))], d, e)) (by
            show sX10_played_20 d e (iI t) (58 + 5 * t.toNat) (iI k) = _
            unfold sX10_played_20
            simp (disch := omega) only [nI_iI, lN_lJ, iI_0, lJ_0, iI_add, iI_sub, iI_mul, iI_neg, lJ_add, lJ_sub, lJ_mul, lJ_neg, i_l, l_i, iI_cl, iI_inb, iI_eqT, iI_eqF, iI_ltT, iI_ltF, iI_leT, iI_leF, lJ_eqT, lJ_eqF, lJ_cG, lJ_cE, lJ_cL, lJ_cF, lJ_cGE, lJ_cLE, lJ_cNL, lJ_cNG, Int.cast_ofNat_Int, c_0, c_1, Int.natCast_add, Int.add_zero, cond_true, cond_false, Bool.and_self, Bool.and_true, Bool.true_and, Option.bind_some, decide_true, uI_hit, uI_miss, uI_o, uA_o, uA_s, ↓reduceIte, eq_self, true_or, or_true, or_false, false_or, true_and, and_true, false_and, and_false, or_self, and_self, not_false_eq_true, not_true_eq_false, tn_i, hn, decide_eq_true]) rfl, a_run_end]
        · have hT := hM.2.2.1 t.toNat (by omega)
          rw [tx, tn_i ht.1] at hT
          have hn := hT.2.2.1
          rw [a_run_step (st := stX11_played) (p2 := (100000, [some (.int (iI (-1)))], d, e)) (by
            show sX11_played_21 d e (iI t) (iI k) = _
            unfold sX11_played_21
            simp (disch := omega) only [nI_iI, lN_lJ, iI_0, lJ_0, iI_add, iI_sub, iI_mul, iI_neg, lJ_add, lJ_sub, lJ_mul, lJ_neg, i_l, l_i, iI_cl, iI_inb, iI_eqT, iI_eqF, iI_ltT, iI_ltF, iI_leT, iI_leF, lJ_eqT, lJ_eqF, lJ_cG, lJ_cE, lJ_cL, lJ_cF, lJ_cGE, lJ_cLE, lJ_cNL, lJ_cNG, Int.cast_ofNat_Int, c_0, c_1, Int.natCast_add, Int.add_zero, cond_true, cond_false, Bool.and_self, Bool.and_true, Bool.true_and, Option.bind_some, decide_true, uI_hit, uI_miss, uI_o, uA_o, uA_s, ↓reduceIte, eq_self, true_or, or_true, or_false, false_or, true_and, and_true, false_and, and_false, or_self, and_self, not_false_eq_true, not_true_eq_false, tn_i, hn]) rfl, a_run_end]
      | succ m ih =>
        intro k S hk hS e1 e2
        have tx : S.2.2.1 t.toNat = S0.2.2.1 t.toNat := by rw [e1]
        have tok := hS0.2.2.2.1 t.toNat (by omega)
        have ck := tok.2 k (by omega) (by omega)
        have c24 := tok.1
        obtain ⟨S', z, k1, k2, k3, k4, k5, k6, k7⟩ := act_ok (S := S) hS (so := ((S0.2.2.1 t.toNat).2.2 k).1) (a := ((S0.2.2.1 t.toNat).2.2 k).2.1) (b := ((S0.2.2.1 t.toNat).2.2 k).2.2) (x := 681 * t + 1 + 3 * k) ck.1 ck.2.1 ck.2.2.1 ck.2.2.2 (by omega)
        have cl : ∀ (d : aI) (e : aJ), CI d S → ∃ d' e', FX10_act d e (d (58 + 5 * t.toNat + 1) k) (d (58 + 5 * t.toNat + 2) k) (d (58 + 5 * t.toNat + 3) k) = some (iI z, d', e') ∧ CI d' S' ∧ Fc d d' := by
          intro d e hC
          have hT := hC.2.2.1 t.toNat (by omega)
          rw [tx] at hT
          have hk2 := hT.2.2.2 k (by omega)
          rw [hk2.1]
          exact k2 d e _ _ hC hk2.2
        have cm : ∀ (d : aI) (e : aJ), MI d S → ∃ d' e', FX11_isPlayed d e (iI (681 * t + 1 + 3 * k)) = some (iI z, d', e') ∧ MI d' S' ∧ Fm d d' := by
          intro d e hM
          have hT := hM.2.2.1 t.toNat (by omega)
          rw [tx, tn_i ht.1] at hT
          have hk2 := hT.2.2.2 k (by omega) (by omega)
          exact k3 d e hM hk2.1 (fun q => (hk2.2 q).1) (fun q => (hk2.2 (by omega)).2 q)
        by_cases hz : z = 0
        · refine ⟨S', k, k1, fun d e hC => ?_, fun d e hM => ?_⟩
          · have hT := hC.2.2.1 t.toNat (by omega)
            rw [tx] at hT
            have hn := hT.2.2.1
            obtain ⟨d', e', q1, q2, q3⟩ := cl d e hC
            rw [hz] at q1
            refine ⟨d', e', ?_, q2, q3⟩
            rw [a_run_step (st := stX10_played) (p2 := (100000, [some (.int (iI k))], d', e')) (by
              show sX10_played_20 d e (iI t) (58 + 5 * t.toNat) (iI k) = _
              unfold sX10_played_20
              simp (disch := omega) only [nI_iI, lN_lJ, iI_0, lJ_0, iI_add, iI_sub, iI_mul, iI_neg, lJ_add, lJ_sub, lJ_mul, lJ_neg, i_l, l_i, iI_cl, iI_inb, iI_eqT, iI_eqF, iI_ltT, iI_ltF, iI_leT, iI_leF, lJ_eqT, lJ_eqF, lJ_cG, lJ_cE, lJ_cL, lJ_cF, lJ_cGE, lJ_cLE, lJ_cNL, lJ_cNG, Int.cast_ofNat_Int, c_0, c_1, Int.natCast_add, Int.add_zero, cond_true, cond_false, Bool.and_self, Bool.and_true, Bool.true_and, Option.bind_some, decide_true, uI_hit, uI_miss, uI_o, uA_o, uA_s, ↓reduceIte, eq_self, true_or, or_true, or_false, false_or, true_and, and_true, false_and, and_false, or_self, and_self, not_false_eq_true, not_true_eq_false, tn_i, hn, decide_eq_true, q1, Int.toNat_natCast]) rfl, a_run_end]
          · have hT := hM.2.2.1 t.toNat (by omega)
            rw [tx, tn_i ht.1] at hT
            have hn := hT.2.2.1
            obtain ⟨d', e', q1, q2, q3⟩ := cm d e hM
            rw [hz] at q1
            refine ⟨d', e', ?_, q2, q3⟩
            rw [a_run_step (st := stX11_played) (p2 := (100000, [some (.int (iI k))], d', e')) (by
              show sX11_played_21 d e (iI t) (iI k) = _
              unfold sX11_played_21
              simp (disch := omega) only [nI_iI, lN_lJ, iI_0, lJ_0, iI_add, iI_sub, iI_mul, iI_neg, lJ_add, lJ_sub, lJ_mul, lJ_neg, i_l, l_i, iI_cl, iI_inb, iI_eqT, iI_eqF, iI_ltT, iI_ltF, iI_leT, iI_leF, lJ_eqT, lJ_eqF, lJ_cG, lJ_cE, lJ_cL, lJ_cF, lJ_cGE, lJ_cLE, lJ_cNL, lJ_cNG, Int.cast_ofNat_Int, c_0, c_1, Int.natCast_add, Int.add_zero, cond_true, cond_false, Bool.and_self, Bool.and_true, Bool.true_and, Option.bind_some, decide_true, uI_hit, uI_miss, uI_o, uA_o, uA_s, ↓reduceIte, eq_self, true_or, or_true, or_false, false_or, true_and, and_true, false_and, and_false, or_self, and_self, not_false_eq_true, not_true_eq_false, tn_i, hn, q1]) rfl, a_run_end]
        · have hz1 : z = 1 := by omega
          obtain ⟨S2, z2, j1, j2, j3⟩ := ih (k + 1) S' (by omega) k1 (k4.trans e1) (k5.trans e2)
          refine ⟨S2, z2, j1, fun d e hC => ?_, fun d e hM => ?_⟩
          · have hT := hC.2.2.1 t.toNat (by omega)
            rw [tx] at hT
            have hn := hT.2.2.1
            obtain ⟨d', e', q1, q2, q3⟩ := cl d e hC
            rw [hz1] at q1
            obtain ⟨d2, e2', p1, p2, p3⟩ := j2 d' e' q2
            refine ⟨d2, e2', ?_, p2, q3.trans p3⟩
            rw [← p1]
            refine a_run_step ?_ rfl
            show sX10_played_20 d e (iI t) (58 + 5 * t.toNat) (iI k) = _
            unfold sX10_played_20
            simp (disch := omega) only [nI_iI, lN_lJ, iI_0, lJ_0, iI_add, iI_sub, iI_mul, iI_neg, lJ_add, lJ_sub, lJ_mul, lJ_neg, i_l, l_i, iI_cl, iI_inb, iI_eqT, iI_eqF, iI_ltT, iI_ltF, iI_leT, iI_leF, lJ_eqT, lJ_eqF, lJ_cG, lJ_cE, lJ_cL, lJ_cF, lJ_cGE, lJ_cLE, lJ_cNL, lJ_cNG, Int.cast_ofNat_Int, c_0, c_1, Int.natCast_add, Int.add_zero, cond_true, cond_false, Bool.and_self, Bool.and_true, Bool.true_and, Option.bind_some, decide_true, uI_hit, uI_miss, uI_o, uA_o, uA_s, ↓reduceIte, eq_self, true_or, or_true, or_false, false_or, true_and, and_true, false_and, and_false, or_self, and_self, not_false_eq_true, not_true_eq_false, tn_i, hn, decide_eq_true, q1, Int.toNat_natCast]
          · have hT := hM.2.2.1 t.toNat (by omega)
            rw [tx, tn_i ht.1] at hT
            have hn := hT.2.2.1
            obtain ⟨d', e', q1, q2, q3⟩ := cm d e hM
            rw [hz1] at q1
            obtain ⟨d2, e2', p1, p2, p3⟩ := j3 d' e' q2
            refine ⟨d2, e2', ?_, p2, q3.trans p3⟩
            rw [← p1]
            refine a_run_step ?_ rfl
            show sX11_played_21 d e (iI t) (iI k) = _
            unfold sX11_played_21
            simp (disch := omega) only [nI_iI, lN_lJ, iI_0, lJ_0, iI_add, iI_sub, iI_mul, iI_neg, lJ_add, lJ_sub, lJ_mul, lJ_neg, i_l, l_i, iI_cl, iI_inb, iI_eqT, iI_eqF, iI_ltT, iI_ltF, iI_leT, iI_leF, lJ_eqT, lJ_eqF, lJ_cG, lJ_cE, lJ_cL, lJ_cF, lJ_cGE, lJ_cLE, lJ_cNL, lJ_cNG, Int.cast_ofNat_Int, c_0, c_1, Int.natCast_add, Int.add_zero, cond_true, cond_false, Bool.and_self, Bool.and_true, Bool.true_and, Option.bind_some, decide_true, uI_hit, uI_miss, uI_o, uA_o, uA_s, ↓reduceIte, eq_self, true_or, or_true, or_false, false_or, true_and, and_true, false_and, and_false, or_self, and_self, not_false_eq_true, not_true_eq_false, tn_i, hn, q1]
    have tok := hS0.2.2.2.1 t.toNat (by omega)
    obtain ⟨S', z, k1, k2, k3⟩ := key (S0.2.2.1 t.toNat).2.1.toNat 0 S0 (by have := tok.1; omega) hS0 rfl rfl
    refine ⟨S', iI z, k1, fun d e hC => ?_, fun d e hM => ?_⟩
    · obtain ⟨d', e', q1, q2, q3⟩ := k2 d e hC
      refine ⟨d', e', ?_, q2, q3⟩
      show FX10_played d e (iI t) = _
      unfold FX10_played
      have h6 : d 1 6 = iI (S0.1 2) := hC.1.2.2.1
      rw [a_run_step (st := stX10_played) (p2 := (20, [some (.ref 0), some (.int (iI t)), some (.ref (58 + 5 * t.toNat)), some (.int (iI (0 : Nat)))], d, e)) (by
        show sX10_played_0 d e (iI t) = _
        unfold sX10_played_0
        simp (disch := omega) only [nI_iI, lN_lJ, iI_0, lJ_0, iI_add, iI_sub, iI_mul, iI_neg, lJ_add, lJ_sub, lJ_mul, lJ_neg, i_l, l_i, iI_cl, iI_inb, iI_eqT, iI_eqF, iI_ltT, iI_ltF, iI_leT, iI_leF, lJ_eqT, lJ_eqF, lJ_cG, lJ_cE, lJ_cL, lJ_cF, lJ_cGE, lJ_cLE, lJ_cNL, lJ_cNG, Int.cast_ofNat_Int, c_0, c_1, Int.natCast_add, Int.add_zero, cond_true, cond_false, Bool.and_self, Bool.and_true, Bool.true_and, Option.bind_some, decide_true, uI_hit, uI_miss, uI_o, uA_o, uA_s, ↓reduceIte, eq_self, true_or, or_true, or_false, false_or, true_and, and_true, false_and, and_false, or_self, and_self, not_false_eq_true, not_true_eq_false, tn_i, cq_isText_y h6]) rfl, q1]
      rfl
    · obtain ⟨d', e', q1, q2, q3⟩ := k3 d e hM
      refine ⟨d', e', ?_, q2, q3⟩
      show FX11_played d e (iI t) = _
      unfold FX11_played
      have r2 : d 109 2 = iI (S0.1 2) := hM.1.cell (j := 2) (by omega)
      rw [a_run_step (st := stX11_played) (p2 := (21, [some (.ref 108), some (.int (iI t)), some (.int (iI (0 : Nat)))], d, e)) (by
        show sX11_played_0 d e (iI t) = _
        unfold sX11_played_0
        simp (disch := omega) only [nI_iI, lN_lJ, iI_0, lJ_0, iI_add, iI_sub, iI_mul, iI_neg, lJ_add, lJ_sub, lJ_mul, lJ_neg, i_l, l_i, iI_cl, iI_inb, iI_eqT, iI_eqF, iI_ltT, iI_ltF, iI_leT, iI_leF, lJ_eqT, lJ_eqF, lJ_cG, lJ_cE, lJ_cL, lJ_cF, lJ_cGE, lJ_cLE, lJ_cNL, lJ_cNG, Int.cast_ofNat_Int, c_0, c_1, Int.natCast_add, Int.add_zero, cond_true, cond_false, Bool.and_self, Bool.and_true, Bool.true_and, Option.bind_some, decide_true, uI_hit, uI_miss, uI_o, uA_o, uA_s, ↓reduceIte, eq_self, true_or, or_true, or_false, false_or, true_and, and_true, false_and, and_false, or_self, and_self, not_false_eq_true, not_true_eq_false, tn_i, r2, mq_in_y]) rfl, q1]
      rfl
  · refine ⟨S0, iI (-2), hS0, fun d e hC => ⟨d, e, ?_, hC, Fc.refl d⟩, fun d e hM => ⟨d, e, ?_, hM, Fm.refl d⟩⟩
    · show FX10_played d e (iI t) = _
      unfold FX10_played
      have h6 : d 1 6 = iI (S0.1 2) := hC.1.2.2.1
      rw [a_run_step (st := stX10_played) (p2 := (100000, [some (.int (iI (-2)))], d, e)) (by
        show sX10_played_0 d e (iI t) = _
        unfold sX10_played_0
        simp (disch := omega) only [nI_iI, lN_lJ, iI_0, lJ_0, iI_add, iI_sub, iI_mul, iI_neg, lJ_add, lJ_sub, lJ_mul, lJ_neg, i_l, l_i, iI_cl, iI_inb, iI_eqT, iI_eqF, iI_ltT, iI_ltF, iI_leT, iI_leF, lJ_eqT, lJ_eqF, lJ_cG, lJ_cE, lJ_cL, lJ_cF, lJ_cGE, lJ_cLE, lJ_cNL, lJ_cNG, Int.cast_ofNat_Int, c_0, c_1, Int.natCast_add, Int.add_zero, cond_true, cond_false, Bool.and_self, Bool.and_true, Bool.true_and, Option.bind_some, decide_true, uI_hit, uI_miss, uI_o, uA_o, uA_s, ↓reduceIte, eq_self, true_or, or_true, or_false, false_or, true_and, and_true, false_and, and_false, or_self, and_self, not_false_eq_true, not_true_eq_false, tn_i, cq_isText_n h6]) rfl, a_run_end]
      rfl
    · show FX11_played d e (iI t) = _
      unfold FX11_played
      have r2 : d 109 2 = iI (S0.1 2) := hM.1.cell (j := 2) (by omega)
      rw [a_run_step (st := stX11_played) (p2 := (100000, [some (.int (iI (-2)))], d, e)) (by
        show sX11_played_0 d e (iI t) = _
        unfold sX11_played_0
        simp (disch := omega) only [nI_iI, lN_lJ, iI_0, lJ_0, iI_add, iI_sub, iI_mul, iI_neg, lJ_add, lJ_sub, lJ_mul, lJ_neg, i_l, l_i, iI_cl, iI_inb, iI_eqT, iI_eqF, iI_ltT, iI_ltF, iI_leT, iI_leF, lJ_eqT, lJ_eqF, lJ_cG, lJ_cE, lJ_cL, lJ_cF, lJ_cGE, lJ_cLE, lJ_cNL, lJ_cNG, Int.cast_ofNat_Int, c_0, c_1, Int.natCast_add, Int.add_zero, cond_true, cond_false, Bool.and_self, Bool.and_true, Bool.true_and, Option.bind_some, decide_true, uI_hit, uI_miss, uI_o, uA_o, uA_s, ↓reduceIte, eq_self, true_or, or_true, or_false, false_or, true_and, and_true, false_and, and_false, or_self, and_self, not_false_eq_true, not_true_eq_false, tn_i, r2, mq_in_n]) rfl, a_run_end]
      rfl
