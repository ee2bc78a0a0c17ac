/-! ===== the class reads: and, or, choices, what is opened ===== -/
theorem c5_both {tp : Nat → Int} {L N : Nat} {s : Int} {n : Nat} {Fo : aI → aJ → Int32 → Option (Unit × aI × aJ)} {opd : Nat → Nat → Rs Fn} (ho : HO tp L N s n Fo opd) (hs : s = 0 ∨ s = 1) {k : Nat} (hk : k ≤ 8) (hkn : 8 ≤ k + n) : CSim (fun (g : Gn) v => tv (g v)) tp L N s (1 + 5 * (8 - (k : Int)) + 4) (fun d e => FX5_both Fo d e (iI (k : Nat))) (pBth (KT tp L) (VT tp L) s opd k) ∧ CF tp L N (fun d e => FX5_both Fo d e (iI (k : Nat))) := by
  obtain ⟨p1, p2⟩ := c5_ask ho hs hk hkn
  refine c5_mn (st := stX5_both Fo) (T := fun cnt _ => [some (.ref 83), some (.int (iI (k : Nat))), some (.int (iI (cnt : Nat)))]) (T0 := [some (.ref 83), some (.int (iI (k : Nat))), none]) (op := opA) (F := fun d e => FX5_ask Fo d e (iI (k : Nat))) p1 p2 rfl (by omega) ?_ ?_ ?_ ?_ ?_ ?_
  · intro d d1 e h
    show sX5_both_0 Fo d e _ = _
    unfold sX5_both_0
    simp (disch := omega) only [nI_iI, lN_lJ, iI_0, lJ_0, iI_add, iI_sub, iI_mul, iI_neg, lJ_add, lJ_sub, lJ_mul, lJ_neg, i_l, l_i, iI_cl, iI_inb, iI_eqT, iI_eqF, iI_ltT, iI_ltF, iI_leT, iI_leF, lJ_eqT, lJ_eqF, lJ_cG, lJ_cE, lJ_cL, lJ_cF, lJ_cGE, lJ_cLE, lJ_cNL, lJ_cNG, Int.cast_ofNat_Int, c_0, c_1, Int.natCast_add, Int.add_zero, cond_true, cond_false, Bool.and_self, Bool.and_true, Bool.true_and, Option.bind_some, decide_true, uI_hit, uI_miss, uI_o, uA_o, uA_s, ↓reduceIte, eq_self, true_or, or_true, or_false, false_or, true_and, and_true, false_and, and_false, or_self, and_self, not_false_eq_true, not_true_eq_false, tn_i, h]
  · intro e d c g cnt v d1 d2 d3 r hc ho hcnt h3 h10 hn hF hp
    refine ⟨none, ?_⟩
    show sX5_both_7 Fo d e _ _ = _
    unfold sX5_both_7
    obtain ⟨z, _⟩ := opA_s ho
    subst z; simp (disch := omega) only [nI_iI, lN_lJ, iI_0, lJ_0, iI_add, iI_sub, iI_mul, iI_neg, lJ_add, lJ_sub, lJ_mul, lJ_neg, i_l, l_i, iI_cl, iI_inb, iI_eqT, iI_eqF, iI_ltT, iI_ltF, iI_leT, iI_leF, lJ_eqT, lJ_eqF, lJ_cG, lJ_cE, lJ_cL, lJ_cF, lJ_cGE, lJ_cLE, lJ_cNL, lJ_cNG, Int.cast_ofNat_Int, c_0, c_1, Int.natCast_add, Int.add_zero, cond_true, cond_false, Bool.and_self, Bool.and_true, Bool.true_and, Option.bind_some, decide_true, uI_hit, uI_miss, uI_o, uA_o, uA_s, ↓reduceIte, eq_self, true_or, or_true, or_false, false_or, true_and, and_true, false_and, and_false, or_self, and_self, not_false_eq_true, not_true_eq_false, tn_i, h3, h10, hn, hF, hp]
  · intro e d c cnt v hc ho hcnt h3 h10
    have nn := opA_n ho
    show sX5_both_7 Fo d e _ _ = _
    unfold sX5_both_7
    by_cases z : 300 ≤ cnt
    · simp (disch := omega) only [nI_iI, lN_lJ, iI_0, lJ_0, iI_add, iI_sub, iI_mul, iI_neg, lJ_add, lJ_sub, lJ_mul, lJ_neg, i_l, l_i, iI_cl, iI_inb, iI_eqT, iI_eqF, iI_ltT, iI_ltF, iI_leT, iI_leF, lJ_eqT, lJ_eqF, lJ_cG, lJ_cE, lJ_cL, lJ_cF, lJ_cGE, lJ_cLE, lJ_cNL, lJ_cNG, Int.cast_ofNat_Int, c_0, c_1, Int.natCast_add, Int.add_zero, cond_true, cond_false, Bool.and_self, Bool.and_true, Bool.true_and, Option.bind_some, decide_true, uI_hit, uI_miss, uI_o, uA_o, uA_s, ↓reduceIte, eq_self, true_or, or_true, or_false, false_or, true_and, and_true, false_and, and_false, or_self, and_self, not_false_eq_true, not_true_eq_false, tn_i]
    · simp (disch := omega) only [nI_iI, lN_lJ, iI_0, lJ_0, iI_add, iI_sub, iI_mul, iI_neg, lJ_add, lJ_sub, lJ_mul, lJ_neg, i_l, l_i, iI_cl, iI_inb, iI_eqT, iI_eqF, iI_ltT, iI_ltF, iI_leT, iI_leF, lJ_eqT, lJ_eqF, lJ_cG, lJ_cE, lJ_cL, lJ_cF, lJ_cGE, lJ_cLE, lJ_cNL, lJ_cNG, Int.cast_ofNat_Int, c_0, c_1, Int.natCast_add, Int.add_zero, cond_true, cond_false, Bool.and_self, Bool.and_true, Bool.true_and, Option.bind_some, decide_true, uI_hit, uI_miss, uI_o, uA_o, uA_s, ↓reduceIte, eq_self, true_or, or_true, or_false, false_or, true_and, and_true, false_and, and_false, or_self, and_self, not_false_eq_true, not_true_eq_false, tn_i, h3, h10]
  · intro e d n cnt v hn hcnt h3
    show sX5_both_7 Fo d e _ _ = _
    unfold sX5_both_7
    by_cases z : 300 ≤ cnt
    · simp (disch := omega) only [nI_iI, lN_lJ, iI_0, lJ_0, iI_add, iI_sub, iI_mul, iI_neg, lJ_add, lJ_sub, lJ_mul, lJ_neg, i_l, l_i, iI_cl, iI_inb, iI_eqT, iI_eqF, iI_ltT, iI_ltF, iI_leT, iI_leF, lJ_eqT, lJ_eqF, lJ_cG, lJ_cE, lJ_cL, lJ_cF, lJ_cGE, lJ_cLE, lJ_cNL, lJ_cNG, Int.cast_ofNat_Int, c_0, c_1, Int.natCast_add, Int.add_zero, cond_true, cond_false, Bool.and_self, Bool.and_true, Bool.true_and, Option.bind_some, decide_true, uI_hit, uI_miss, uI_o, uA_o, uA_s, ↓reduceIte, eq_self, true_or, or_true, or_false, false_or, true_and, and_true, false_and, and_false, or_self, and_self, not_false_eq_true, not_true_eq_false, tn_i]
    · simp (disch := omega) only [nI_iI, lN_lJ, iI_0, lJ_0, iI_add, iI_sub, iI_mul, iI_neg, lJ_add, lJ_sub, lJ_mul, lJ_neg, i_l, l_i, iI_cl, iI_inb, iI_eqT, iI_eqF, iI_ltT, iI_ltF, iI_leT, iI_leF, lJ_eqT, lJ_eqF, lJ_cG, lJ_cE, lJ_cL, lJ_cF, lJ_cGE, lJ_cLE, lJ_cNL, lJ_cNG, Int.cast_ofNat_Int, c_0, c_1, Int.natCast_add, Int.add_zero, cond_true, cond_false, Bool.and_self, Bool.and_true, Bool.true_and, Option.bind_some, decide_true, uI_hit, uI_miss, uI_o, uA_o, uA_s, ↓reduceIte, eq_self, true_or, or_true, or_false, false_or, true_and, and_true, false_and, and_false, or_self, and_self, not_false_eq_true, not_true_eq_false, tn_i, h3]
  · intro e d v
    show sX5_both_7 Fo d e _ _ = _
    unfold sX5_both_7
    simp (disch := omega) only [nI_iI, lN_lJ, iI_0, lJ_0, iI_add, iI_sub, iI_mul, iI_neg, lJ_add, lJ_sub, lJ_mul, lJ_neg, i_l, l_i, iI_cl, iI_inb, iI_eqT, iI_eqF, iI_ltT, iI_ltF, iI_leT, iI_leF, lJ_eqT, lJ_eqF, lJ_cG, lJ_cE, lJ_cL, lJ_cF, lJ_cGE, lJ_cLE, lJ_cNL, lJ_cNG, Int.cast_ofNat_Int, c_0, c_1, Int.natCast_add, Int.add_zero, cond_true, cond_false, Bool.and_self, Bool.and_true, Bool.true_and, Option.bind_some, decide_true, uI_hit, uI_miss, uI_o, uA_o, uA_s, ↓reduceIte, eq_self, true_or, or_true, or_false, false_or, true_and, and_true, false_and, and_false, or_self, and_self, not_false_eq_true, not_true_eq_false, tn_i]
  · intro C a b m f g' h c ho h1 h2 h3
    obtain ⟨z, y⟩ := opA_s ho
    subst z; subst y; exact CV.and h1 h2 h3 _ (by omega)
theorem c5_either {tp : Nat → Int} {L N : Nat} {s : Int} {n : Nat} {Fo : aI → aJ → Int32 → Option (Unit × aI × aJ)} {opd : Nat → Nat → Rs Fn} (ho : HO tp L N s n Fo opd) (hs : s = 0 ∨ s = 1) {k : Nat} (hk : k ≤ 8) (hkn : 8 ≤ k + n) : CSim (fun (g : Gn) v => tv (g v)) tp L N s (1 + 5 * (8 - (k : Int)) + 5) (fun d e => FX5_either Fo d e (iI (k : Nat))) (pEth (KT tp L) (VT tp L) s opd k) ∧ CF tp L N (fun d e => FX5_either Fo d e (iI (k : Nat))) := by
  obtain ⟨p1, p2⟩ := c5_both ho hs hk hkn
  refine c5_mn (st := stX5_either Fo) (T := fun cnt _ => [some (.ref 83), some (.int (iI (k : Nat))), some (.int (iI (cnt : Nat)))]) (T0 := [some (.ref 83), some (.int (iI (k : Nat))), none]) (op := opO) (F := fun d e => FX5_both Fo d e (iI (k : Nat))) p1 p2 rfl (by omega) ?_ ?_ ?_ ?_ ?_ ?_
  · intro d d1 e h
    show sX5_either_0 Fo d e _ = _
    unfold sX5_either_0
    simp (disch := omega) only [nI_iI, lN_lJ, iI_0, lJ_0, iI_add, iI_sub, iI_mul, iI_neg, lJ_add, lJ_sub, lJ_mul, lJ_neg, i_l, l_i, iI_cl, iI_inb, iI_eqT, iI_eqF, iI_ltT, iI_ltF, iI_leT, iI_leF, lJ_eqT, lJ_eqF, lJ_cG, lJ_cE, lJ_cL, lJ_cF, lJ_cGE, lJ_cLE, lJ_cNL, lJ_cNG, Int.cast_ofNat_Int, c_0, c_1, Int.natCast_add, Int.add_zero, cond_true, cond_false, Bool.and_self, Bool.and_true, Bool.true_and, Option.bind_some, decide_true, uI_hit, uI_miss, uI_o, uA_o, uA_s, ↓reduceIte, eq_self, true_or, or_true, or_false, false_or, true_and, and_true, false_and, and_false, or_self, and_self, not_false_eq_true, not_true_eq_false, tn_i, h]
  · intro e d c g cnt v d1 d2 d3 r hc ho hcnt h3 h10 hn hF hp
    refine ⟨none, ?_⟩
    show sX5_either_7 Fo d e _ _ = _
    unfold sX5_either_7
    obtain ⟨z, _⟩ := opO_s ho
    subst z; simp (disch := omega) only [nI_iI, lN_lJ, iI_0, lJ_0, iI_add, iI_sub, iI_mul, iI_neg, lJ_add, lJ_sub, lJ_mul, lJ_neg, i_l, l_i, iI_cl, iI_inb, iI_eqT, iI_eqF, iI_ltT, iI_ltF, iI_leT, iI_leF, lJ_eqT, lJ_eqF, lJ_cG, lJ_cE, lJ_cL, lJ_cF, lJ_cGE, lJ_cLE, lJ_cNL, lJ_cNG, Int.cast_ofNat_Int, c_0, c_1, Int.natCast_add, Int.add_zero, cond_true, cond_false, Bool.and_self, Bool.and_true, Bool.true_and, Option.bind_some, decide_true, uI_hit, uI_miss, uI_o, uA_o, uA_s, ↓reduceIte, eq_self, true_or, or_true, or_false, false_or, true_and, and_true, false_and, and_false, or_self, and_self, not_false_eq_true, not_true_eq_false, tn_i, h3, h10, hn, hF, hp]
  · intro e d c cnt v hc ho hcnt h3 h10
    have nn := opO_n ho
    show sX5_either_7 Fo d e _ _ = _
    unfold sX5_either_7
    by_cases z : 300 ≤ cnt
    · simp (disch := omega) only [nI_iI, lN_lJ, iI_0, lJ_0, iI_add, iI_sub, iI_mul, iI_neg, lJ_add, lJ_sub, lJ_mul, lJ_neg, i_l, l_i, iI_cl, iI_inb, iI_eqT, iI_eqF, iI_ltT, iI_ltF, iI_leT, iI_leF, lJ_eqT, lJ_eqF, lJ_cG, lJ_cE, lJ_cL, lJ_cF, lJ_cGE, lJ_cLE, lJ_cNL, lJ_cNG, Int.cast_ofNat_Int, c_0, c_1, Int.natCast_add, Int.add_zero, cond_true, cond_false, Bool.and_self, Bool.and_true, Bool.true_and, Option.bind_some, decide_true, uI_hit, uI_miss, uI_o, uA_o, uA_s, ↓reduceIte, eq_self, true_or, or_true, or_false, false_or, true_and, and_true, false_and, and_false, or_self, and_self, not_false_eq_true, not_true_eq_false, tn_i]
    · simp (disch := omega) only [nI_iI, lN_lJ, iI_0, lJ_0, iI_add, iI_sub, iI_mul, iI_neg, lJ_add, lJ_sub, lJ_mul, lJ_neg, i_l, l_i, iI_cl, iI_inb, iI_eqT, iI_eqF, iI_ltT, iI_ltF, iI_leT, iI_leF, lJ_eqT, lJ_eqF, lJ_cG, lJ_cE, lJ_cL, lJ_cF, lJ_cGE, lJ_cLE, lJ_cNL, lJ_cNG, Int.cast_ofNat_Int, c_0, c_1, Int.natCast_add, Int.add_zero, cond_true, cond_false, Bool.and_self, Bool.and_true, Bool.true_and, Option.bind_some, decide_true, uI_hit, uI_miss, uI_o, uA_o, uA_s, ↓reduceIte, eq_self, true_or, or_true, or_false, false_or, true_and, and_true, false_and, and_false, or_self, and_self, not_false_eq_true, not_true_eq_false, tn_i, h3, h10]
  · intro e d n cnt v hn hcnt h3
    show sX5_either_7 Fo d e _ _ = _
    unfold sX5_either_7
    by_cases z : 300 ≤ cnt
    · simp (disch := omega) only [nI_iI, lN_lJ, iI_0, lJ_0, iI_add, iI_sub, iI_mul, iI_neg, lJ_add, lJ_sub, lJ_mul, lJ_neg, i_l, l_i, iI_cl, iI_inb, iI_eqT, iI_eqF, iI_ltT, iI_ltF, iI_leT, iI_leF, lJ_eqT, lJ_eqF, lJ_cG, lJ_cE, lJ_cL, lJ_cF, lJ_cGE, lJ_cLE, lJ_cNL, lJ_cNG, Int.cast_ofNat_Int, c_0, c_1, Int.natCast_add, Int.add_zero, cond_true, cond_false, Bool.and_self, Bool.and_true, Bool.true_and, Option.bind_some, decide_true, uI_hit, uI_miss, uI_o, uA_o, uA_s, ↓reduceIte, eq_self, true_or, or_true, or_false, false_or, true_and, and_true, false_and, and_false, or_self, and_self, not_false_eq_true, not_true_eq_false, tn_i]
    · simp (disch := omega) only [nI_iI, lN_lJ, iI_0, lJ_0, iI_add, iI_sub, iI_mul, iI_neg, lJ_add, lJ_sub, lJ_mul, lJ_neg, i_l, l_i, iI_cl, iI_inb, iI_eqT, iI_eqF, iI_ltT, iI_ltF, iI_leT, iI_leF, lJ_eqT, lJ_eqF, lJ_cG, lJ_cE, lJ_cL, lJ_cF, lJ_cGE, lJ_cLE, lJ_cNL, lJ_cNG, Int.cast_ofNat_Int, c_0, c_1, Int.natCast_add, Int.add_zero, cond_true, cond_false, Bool.and_self, Bool.and_true, Bool.true_and, Option.bind_some, decide_true, uI_hit, uI_miss, uI_o, uA_o, uA_s, ↓reduceIte, eq_self, true_or, or_true, or_false, false_or, true_and, and_true, false_and, and_false, or_self, and_self, not_false_eq_true, not_true_eq_false, tn_i, h3]
  · intro e d v
    show sX5_either_7 Fo d e _ _ = _
    unfold sX5_either_7
    simp (disch := omega) only [nI_iI, lN_lJ, iI_0, lJ_0, iI_add, iI_sub, iI_mul, iI_neg, lJ_add, lJ_sub, lJ_mul, lJ_neg, i_l, l_i, iI_cl, iI_inb, iI_eqT, iI_eqF, iI_ltT, iI_ltF, iI_leT, iI_leF, lJ_eqT, lJ_eqF, lJ_cG, lJ_cE, lJ_cL, lJ_cF, lJ_cGE, lJ_cLE, lJ_cNL, lJ_cNG, Int.cast_ofNat_Int, c_0, c_1, Int.natCast_add, Int.add_zero, cond_true, cond_false, Bool.and_self, Bool.and_true, Bool.true_and, Option.bind_some, decide_true, uI_hit, uI_miss, uI_o, uA_o, uA_s, ↓reduceIte, eq_self, true_or, or_true, or_false, false_or, true_and, and_true, false_and, and_false, or_self, and_self, not_false_eq_true, not_true_eq_false, tn_i]
  · intro C a b m f g' h c ho h1 h2 h3
    obtain ⟨z, y⟩ := opO_s ho
    subst z; subst y; exact CV.or h1 h2 h3 _ (by omega)
-- a word has at least two letters
theorem kw2 {tp : Nat → Int} (h : ∀ j, 0 ≤ tp j ∧ tp j ≤ 255) {L i : Nat} (q : 300 ≤ KT tp L i) : psT tp L i + 2 ≤ psT tp L (i + 1) := by
  have pl : psT tp L i < L := Classical.byContradiction (fun z => by unfold KT at q; rw [if_neg z] at q; omega)
  have te := (psT_lt pl).2
  have q2 : 300 ≤ tkT tp L (psT tp L i) := by unfold KT at q; rw [if_pos pl] at q; exact q
  generalize psT tp L i = p at *
  have g := h p
  unfold tkT at q2
  by_cases q1 : ltT (tp p)
  · rw [if_pos q1] at q2
    have e1 : teT tp L p = rnE ltT tp L p := by unfold teT; rw [if_pos q1]
    obtain ⟨r1, r2, r3, r4⟩ := rnE_in (p := ltT) (tp := tp) (L := L) (i := p) (by omega)
    have fl := fnd_le (p := fun w => wmT tp p (rnE ltT tp L p - p) w) 26
    unfold wkT at q2
    by_cases f : fnd (fun w => wmT tp p (rnE ltT tp L p - p) w) 26 = -1
    · rw [if_pos f] at q2; omega
    · have y := fnd_yes f
      obtain ⟨⟨k1, k2⟩, k3⟩ := wl_ok (fnd (fun w => wmT tp p (rnE ltT tp L p - p) w) 26).toNat (by omega)
      have y3 := y.2.2
      by_cases l2 : 2 ≤ rnE ltT tp L p - p
      · omega
      · rcases y3 with y3 | y3
        · omega
        · have k4 := (k3 (rnE ltT tp L p - p) (by omega)).1 (by omega)
          rw [y3] at k4
          omega
  · rw [if_neg q1] at q2
    by_cases z2 : fgT (tp p)
    · rw [if_pos z2] at q2; omega
    · rw [if_neg z2] at q2
      by_cases z3 : dbT tp L p
      · rw [if_pos z3] at q2
        by_cases z4 : tp p = 60
        · rw [if_pos z4] at q2; omega
        · rw [if_neg z4] at q2; omega
      · rw [if_neg z3] at q2
        by_cases z4 : sgT (tp p)
        · rw [if_pos z4] at q2; omega
        · rw [if_neg z4] at q2; omega
-- choices
noncomputable def cz3 (r8 : Int32) (d : aI) (e : aJ) : Option (Unit × aI × aJ) := (FX5_expect d e (nI 317)).bind fun q11 => (FX7_land q11.2.1 q11.2.2 r8).bind fun q12 => some ((), q12.2.1, q12.2.2)
noncomputable def cz2 (Fo : aI → aJ → Int32 → Option (Unit × aI × aJ)) (x r4 : Int32) (d : aI) (e : aJ) : Option (Unit × aI × aJ) := (FX5_expect d e (nI 316)).bind fun q6 => (FX7_put q6.2.1 q6.2.2 (nI 316)).bind fun q7 => (FX7_put q7.2.1 q7.2.2 (nI 0)).bind fun q8 => (FX7_land q8.2.1 q8.2.2 r4).bind fun q9 => (FX5_sum Fo q9.2.1 q9.2.2 x).bind fun q10 => cz3 q8.1 q10.2.1 q10.2.2
noncomputable def cz1 (Fo : aI → aJ → Int32 → Option (Unit × aI × aJ)) (x : Int32) (d : aI) (e : aJ) : Option (Unit × aI × aJ) := (FX5_expect d e (nI 315)).bind fun q2 => (FX7_put q2.2.1 q2.2.2 (nI 314)).bind fun q3 => (FX7_put q3.2.1 q3.2.2 (nI 0)).bind fun q4 => (FX5_sum Fo q4.2.1 q4.2.2 x).bind fun q5 => cz2 Fo x q4.1 q5.2.1 q5.2.2
theorem cz_eq {Fo : aI → aJ → Int32 → Option (Unit × aI × aJ)} {d : aI} {e : aJ} {x : Int32} : FX5_choice Fo d e x = (FX5_either Fo d e x).bind fun q1 => cz1 Fo x q1.2.1 q1.2.2 := rfl
theorem ch3F {tp : Nat → Int} {L N : Nat} {n : Int} {p : Nat} {d : aI} {e : aJ} {r : Int} (fs : FS d tp L N n p) (hr : -1 ≤ r ∧ r ≤ 300) : ∃ d', cz3 (iI r) d e = some ((), d', e) ∧ FS d' tp L N n p ∧ KC d d' := by
  obtain ⟨d1, a1, a2, a3⟩ := c5_expF (e := e) (c := 317) fs (by omega)
  obtain ⟨d2, b1, b2, b3⟩ := FS.land (e := e) a2 hr
  exact ⟨d2, (bind_at a1 _).trans (bind_at b1 _), b2, a3.trans b3⟩
theorem ch2F {tp : Nat → Int} {L N : Nat} {n : Int} {p : Nat} {d : aI} {e : aJ} {r : Int} {x : Int32} {Fo : aI → aJ → Int32 → Option (Unit × aI × aJ)} (fs : FS d tp L N n p) (hr : -1 ≤ r ∧ r ≤ 300) (hS : CF tp L N (fun d e => FX5_sum Fo d e x)) : ∃ d', cz2 Fo x (iI r) d e = some ((), d', e) ∧ FS d' tp L N n p ∧ KC d d' := by
  obtain ⟨d1, a1, a2, a3⟩ := c5_expF (e := e) (c := 316) fs (by omega)
  obtain ⟨d2, r2, b1, _, _, b2, b3⟩ := FS.put (e := e) (x := iI 316) a2
  obtain ⟨d3, r3, c1, c4, c5, c2, c3⟩ := FS.put (e := e) (x := iI 0) b2
  obtain ⟨d4, e1, e2, e3⟩ := FS.land (e := e) c2 hr
  obtain ⟨d5, f1, f2, f3⟩ := hS d4 e n p e2
  obtain ⟨d6, g1, g2, g3⟩ := ch3F (e := e) (r := r3) f2 ⟨c4, c5⟩
  exact ⟨d6, (bind_at a1 _).trans ((bind_at b1 _).trans ((bind_at c1 _).trans ((bind_at e1 _).trans ((bind_at f1 _).trans g1)))), g2, a3.trans (b3.trans (c3.trans (e3.trans (f3.trans g3))))⟩
theorem ch1F {tp : Nat → Int} {L N : Nat} {n : Int} {p : Nat} {d : aI} {e : aJ} {x : Int32} {Fo : aI → aJ → Int32 → Option (Unit × aI × aJ)} (fs : FS d tp L N n p) (hS : CF tp L N (fun d e => FX5_sum Fo d e x)) : ∃ d', cz1 Fo x d e = some ((), d', e) ∧ FS d' tp L N n p ∧ KC d d' := by
  obtain ⟨d1, a1, a2, a3⟩ := c5_expF (e := e) (c := 315) fs (by omega)
  obtain ⟨d2, r2, b1, _, _, b2, b3⟩ := FS.put (e := e) (x := iI 314) a2
  obtain ⟨d3, r3, c1, c4, c5, c2, c3⟩ := FS.put (e := e) (x := iI 0) b2
  obtain ⟨d5, f1, f2, f3⟩ := hS d3 e n p c2
  obtain ⟨d6, g1, g2, g3⟩ := ch2F (e := e) (r := r3) (x := x) f2 ⟨c4, c5⟩ hS
  exact ⟨d6, (bind_at a1 _).trans ((bind_at b1 _).trans ((bind_at c1 _).trans ((bind_at f1 _).trans g1))), g2, a3.trans (b3.trans (c3.trans (f3.trans g3)))⟩
theorem CS.land {d : aI} {e : aJ} {tp : Nat → Int} {L N i u : Nat} {s : Int} {r : Nat} (h : CS d tp L N s i u) (hr : r < 300) : FX7_land d e (iI (r : Nat)) = some ((), uI d 92 r (iI (u : Nat)), e) ∧ CS (uI d 92 r (iI (u : Nat))) tp L N s i u ∧ KC d (uI d 92 r (iI (u : Nat))) := by
  have kc : KC d (uI d 92 r (iI (u : Nat))) := KC.put (by omega)
  obtain ⟨⟨a1, a2, a3, a4, a5, a6, a7, a8⟩, b, c, f⟩ := h
  refine ⟨?_, ⟨⟨a1.of kc, a2, a3, a4, a5, ?_, ?_, ?_⟩, ?_, ?_, f⟩, kc⟩
  · unfold FX7_land
    simp (disch := omega) only [nI_iI, lN_lJ, iI_0, lJ_0, iI_add, iI_sub, iI_mul, iI_neg, lJ_add, lJ_sub, lJ_mul, lJ_neg, i_l, l_i, iI_cl, iI_inb, iI_eqT, iI_eqF, iI_ltT, iI_ltF, iI_leT, iI_leF, lJ_eqT, lJ_eqF, lJ_cG, lJ_cE, lJ_cL, lJ_cF, lJ_cGE, lJ_cLE, lJ_cNL, lJ_cNG, Int.cast_ofNat_Int, c_0, c_1, Int.natCast_add, Int.add_zero, cond_true, cond_false, Bool.and_self, Bool.and_true, Bool.true_and, Option.bind_some, decide_true, uI_hit, uI_miss, uI_o, uA_o, uA_s, ↓reduceIte, eq_self, true_or, or_true, or_false, false_or, true_and, and_true, false_and, and_false, or_self, and_self, not_false_eq_true, not_true_eq_false, tn_i, Int.toNat_natCast, a8]
  · rw [uI_o (by omega)]; exact a6
  · rw [uI_o (by omega)]; exact a7
  · rw [uI_o (by omega)]; exact a8
  · rw [uI_o (by omega)]; exact b
  · exact ⟨by rw [uI_o (by omega)]; exact c.1, by rw [uI_o (by omega)]; exact c.2⟩
theorem c5_choice {tp : Nat → Int} {L N : Nat} {s : Int} {n : Nat} {Fo : aI → aJ → Int32 → Option (Unit × aI × aJ)} {opd : Nat → Nat → Rs Fn} (ho : HO tp L N s n Fo opd) (hs : s = 0 ∨ s = 1) {k : Nat} (hk : k ≤ 8) (hkn : 8 ≤ k + n) : CSim (fun f => f) tp L N s (1 + 5 * (8 - (k : Int)) + 5) (fun d e => FX5_choice Fo d e (iI (k : Nat))) (pCh (KT tp L) (VT tp L) s opd k) := by
  intro d e i a cs
  have SF := (c5_sum ho hs hk hkn).2
  have SS := (c5_sum ho hs hk hkn).1
  obtain ⟨d1, e1, e2, e3⟩ := (c5_either ho hs hk hkn).1 d e i a cs
  have e1' : FX5_either Fo d e (iI (k : Nat)) = some ((), d1, e) := e1
  show ∃ d', FX5_choice Fo d e (iI (k : Nat)) = some ((), d', e) ∧ CR (fun f => f) tp L N s _ d d' i a (pCh (KT tp L) (VT tp L) s opd k i) ∧ KC d d'
  unfold pCh
  rw [cz_eq]
  cases hq : pEth (KT tp L) (VT tp L) s opd k i with
  | inl bd =>
    rw [hq] at e2
    obtain ⟨d2, x, y, z⟩ := ch1F (e := e) (x := iI (k : Nat)) (Fo := Fo) (show FS d1 tp L N bd.1 (psT tp L bd.2) from e2) SF
    exact ⟨d2, (bind_at e1' _).trans x, y, e3.trans z⟩
  | inr q =>
    rw [hq] at e2
    obtain ⟨C1, b1, t1, t2, t3, t4, t5, t6⟩ := e2
    have ab1 := t2.2.1
    have bp1 := t1.2.2.2
    obtain ⟨x1, x2⟩ := c5_exp (e := e) (c := 315) t1 (by omega)
    show ∃ d', ((FX5_either Fo d e (iI (k : Nat))).bind fun q1 => cz1 Fo (iI (k : Nat)) q1.2.1 q1.2.2) = some ((), d', e) ∧ CR (fun f => f) tp L N s _ d d' i a (if KT tp L q.1 = 315 then (match pSum (KT tp L) (VT tp L) s opd k (q.1 + 1) with | .inl b => .inl b | .inr p => if KT tp L p.1 = 316 then (match pSum (KT tp L) (VT tp L) s opd k (p.1 + 1) with | .inl b => .inl b | .inr w => if KT tp L w.1 = 317 then .inr (w.1 + 1, fun v => if q.2 v then p.2 v else w.2 v) else .inl (1, w.1)) else .inl (1, p.1)) else .inl (1, q.1)) ∧ KC d d'
    by_cases g1 : KT tp L q.1 = 315
    · rw [if_pos g1]
      obtain ⟨d2, y1, y2, y3, y4, y5⟩ := x1 g1
      have w1 := kw2 t1.1.2.1 (L := L) (i := q.1) (by omega)
      obtain ⟨p1, p2, p3⟩ := y2.put (e := e) (x := iI 314) (by omega)
      obtain ⟨p4, p5, p6⟩ := p2.put (e := e) (x := iI 0) (by omega)
      obtain ⟨d3, s1, s2, s3⟩ := SS _ e (q.1 + 1) (b1 + 1 + 1) p5
      have s1' : FX5_sum Fo _ e (iI (k : Nat)) = some ((), d3, e) := s1
      have P3 := p5.1.lt.2.2
      have bp2 := p5.2.2.2
      cases hq2 : pSum (KT tp L) (VT tp L) s opd k (q.1 + 1) with
      | inl bd =>
        rw [hq2] at s2
        obtain ⟨d4, x, y, z⟩ := ch2F (e := e) (r := ((b1 + 1 : Nat) : Int)) (x := iI (k : Nat)) (Fo := Fo) (show FS d3 tp L N bd.1 (psT tp L bd.2) from s2) (by omega) SF
        exact ⟨d4, (bind_at e1' _).trans ((bind_at y1 _).trans ((bind_at p1 _).trans ((bind_at p4 _).trans ((bind_at s1' _).trans x)))), y, e3.trans (y3.trans (p3.trans (p6.trans (s3.trans z))))⟩
      | inr p =>
        rw [hq2] at s2
        obtain ⟨C2, b2, u1, u2, u3, u4, u5, u6⟩ := s2
        have ab2 := u2.2.1
        have bp3 := u1.2.2.2
        obtain ⟨v1, v2⟩ := c5_exp (e := e) (c := 316) u1 (by omega)
        show ∃ d', ((FX5_either Fo d e (iI (k : Nat))).bind fun q1 => cz1 Fo (iI (k : Nat)) q1.2.1 q1.2.2) = some ((), d', e) ∧ CR (fun f => f) tp L N s _ d d' i a (if KT tp L p.1 = 316 then (match pSum (KT tp L) (VT tp L) s opd k (p.1 + 1) with | .inl b => .inl b | .inr w => if KT tp L w.1 = 317 then .inr (w.1 + 1, fun v => if q.2 v then p.2 v else w.2 v) else .inl (1, w.1)) else .inl (1, p.1)) ∧ KC d d'
        by_cases g2 : KT tp L p.1 = 316
        · rw [if_pos g2]
          obtain ⟨d4, z1, z2, z3, z4', z5⟩ := v1 g2
          have w2 := kw2 u1.1.2.1 (L := L) (i := p.1) (by omega)
          obtain ⟨l1, l2, l3⟩ := z2.put (e := e) (x := iI 316) (by omega)
          obtain ⟨l4, l5, l6⟩ := l2.put (e := e) (x := iI 0) (by omega)
          obtain ⟨m1, m2, m3⟩ := l5.land (e := e) (r := b1 + 1) (by omega)
          obtain ⟨d5, n1, n2, n3⟩ := SS _ e (p.1 + 1) (b2 + 1 + 1) m2
          have n1' : FX5_sum Fo _ e (iI (k : Nat)) = some ((), d5, e) := n1
          have P4 := m2.1.lt.2.2
          have bp4 := m2.2.2.2
          cases hq3 : pSum (KT tp L) (VT tp L) s opd k (p.1 + 1) with
          | inl bd =>
            rw [hq3] at n2
            obtain ⟨d6, x, y, z⟩ := ch3F (e := e) (r := ((b2 + 1 : Nat) : Int)) (show FS d5 tp L N bd.1 (psT tp L bd.2) from n2) (by omega)
            exact ⟨d6, (bind_at e1' _).trans ((bind_at y1 _).trans ((bind_at p1 _).trans ((bind_at p4 _).trans ((bind_at s1' _).trans ((bind_at z1 _).trans ((bind_at l1 _).trans ((bind_at l4 _).trans ((bind_at m1 _).trans ((bind_at n1' _).trans x))))))))), y, e3.trans (y3.trans (p3.trans (p6.trans (s3.trans (z3.trans (l3.trans (l6.trans (m3.trans (n3.trans z)))))))))⟩
          | inr w =>
            rw [hq3] at n2
            obtain ⟨C3, b3, o1, o2, o3, o4, o5, o6⟩ := n2
            have ab3 := o2.2.1
            obtain ⟨r1, r2⟩ := c5_exp (e := e) (c := 317) o1 (by omega)
            show ∃ d', ((FX5_either Fo d e (iI (k : Nat))).bind fun q1 => cz1 Fo (iI (k : Nat)) q1.2.1 q1.2.2) = some ((), d', e) ∧ CR (fun f => f) tp L N s _ d d' i a (if KT tp L w.1 = 317 then .inr (w.1 + 1, fun v => if q.2 v then p.2 v else w.2 v) else .inl (1, w.1)) ∧ KC d d'
            by_cases g3 : KT tp L w.1 = 317
            · rw [if_pos g3]
              obtain ⟨d6, f1, f2, f3, f4, f5⟩ := r1 g3
              obtain ⟨h1, h2, h3⟩ := f2.land (e := e) (r := b2 + 1) (by omega)
              have w3 := kw2 o1.1.2.1 (L := L) (i := w.1) (by omega)
              refine ⟨uI d6 92 (b2 + 1) (iI (b3 : Nat)), (bind_at e1' _).trans ((bind_at y1 _).trans ((bind_at p1 _).trans ((bind_at p4 _).trans ((bind_at s1' _).trans ((bind_at z1 _).trans ((bind_at l1 _).trans ((bind_at l4 _).trans ((bind_at m1 _).trans ((bind_at n1' _).trans ((bind_at f1 _).trans (bind_at h1 _))))))))))), ⟨fun z : Int => if z < b1 then C1 z else if z = b1 then 314 else if z = b1 + 1 then b2 + 2 else if z < b2 then C2 z else if z = b2 then 316 else if z = b2 + 1 then b3 else C3 z, b3, h2, ?_, fun z q1 q2 => ?_, fun z hz => ?_, ?_, ?_⟩, e3.trans (y3.trans (p3.trans (p6.trans (s3.trans (z3.trans (l3.trans (l6.trans (m3.trans (n3.trans (f3.trans h3))))))))))⟩
              · have cc1 := t2.ext (C' := fun z : Int => if z < b1 then C1 z else if z = b1 then 314 else if z = b1 + 1 then b2 + 2 else if z < b2 then C2 z else if z = b2 then 316 else if z = b2 + 1 then b3 else C3 z) (fun z q1 q2 => if_pos q2)
                have cc2 := u2.ext (C' := fun z : Int => if z < b1 then C1 z else if z = b1 then 314 else if z = b1 + 1 then b2 + 2 else if z < b2 then C2 z else if z = b2 then 316 else if z = b2 + 1 then b3 else C3 z) (fun z q1 q2 => by
                  show (if z < b1 then C1 z else if z = b1 then 314 else if z = b1 + 1 then b2 + 2 else if z < b2 then C2 z else if z = b2 then 316 else if z = b2 + 1 then b3 else C3 z) = C2 z
                  rw [if_neg (by omega), if_neg (by omega), if_neg (by omega), if_pos q2])
                have cc3 := o2.ext (C' := fun z : Int => if z < b1 then C1 z else if z = b1 then 314 else if z = b1 + 1 then b2 + 2 else if z < b2 then C2 z else if z = b2 then 316 else if z = b2 + 1 then b3 else C3 z) (fun z q1 q2 => by
                  show (if z < b1 then C1 z else if z = b1 then 314 else if z = b1 + 1 then b2 + 2 else if z < b2 then C2 z else if z = b2 then 316 else if z = b2 + 1 then b3 else C3 z) = C3 z
                  rw [if_neg (by omega), if_neg (by omega), if_neg (by omega), if_neg (by omega), if_neg (by omega), if_neg (by omega)])
                rw [show ((b1 + 1 + 1 : Nat) : Int) = (b1 : Int) + 2 by omega] at cc2
                rw [show ((b2 + 1 + 1 : Nat) : Int) = (b2 : Int) + 2 by omega] at cc3
                refine CV.cond cc1 ?_ ?_ cc2 ?_ ?_ cc3 _ (by omega)
                · show (if (b1 : Int) < b1 then C1 b1 else if (b1 : Int) = b1 then 314 else _) = (314 : Int)
                  rw [if_neg (by omega), if_pos rfl]
                · show (if (b1 : Int) + 1 < b1 then C1 (b1 + 1) else if (b1 : Int) + 1 = b1 then 314 else if (b1 : Int) + 1 = b1 + 1 then (b2 : Int) + 2 else _) = (b2 : Int) + 2
                  rw [if_neg (by omega), if_neg (by omega), if_pos rfl]
                · show (if (b2 : Int) < b1 then C1 b2 else if (b2 : Int) = b1 then 314 else if (b2 : Int) = b1 + 1 then (b2 : Int) + 2 else if (b2 : Int) < b2 then C2 b2 else if (b2 : Int) = b2 then 316 else _) = (316 : Int)
                  rw [if_neg (by omega), if_neg (by omega), if_neg (by omega), if_neg (by omega), if_pos rfl]
                · show (if (b2 : Int) + 1 < b1 then C1 (b2 + 1) else if (b2 : Int) + 1 = b1 then 314 else if (b2 : Int) + 1 = b1 + 1 then (b2 : Int) + 2 else if (b2 : Int) + 1 < b2 then C2 (b2 + 1) else if (b2 : Int) + 1 = b2 then 316 else if (b2 : Int) + 1 = b2 + 1 then (b3 : Int) else C3 (b2 + 1)) = (b3 : Int)
                  rw [if_neg (by omega), if_neg (by omega), if_neg (by omega), if_neg (by omega), if_neg (by omega), if_pos rfl]
              · show uI d6 92 (b2 + 1) (iI (b3 : Nat)) 92 z = iI (if (z : Int) < b1 then C1 z else if (z : Int) = b1 then 314 else if (z : Int) = b1 + 1 then b2 + 2 else if (z : Int) < b2 then C2 z else if (z : Int) = b2 then 316 else if (z : Int) = b2 + 1 then b3 else C3 z)
                by_cases zb : z = b2 + 1
                · rw [uI_hit zb, if_neg (by omega), if_neg (by omega), if_neg (by omega), if_neg (by omega), if_neg (by omega), if_pos (by omega)]
                · rw [uI_miss zb, f4]
                  by_cases z6 : b2 + 1 < z
                  · rw [if_neg (by omega), if_neg (by omega), if_neg (by omega), if_neg (by omega), if_neg (by omega), if_neg (by omega)]
                    exact o3 z (by omega) q2
                  · rw [o4 z (by omega)]
                    by_cases z5 : z = b1 + 1
                    · rw [uI_hit z5, if_neg (by omega), if_neg (by omega), if_pos (by omega)]
                      rw [show ((b2 + 1 + 1 : Nat) : Int) = (b2 : Int) + 2 by omega]
                    · rw [uI_miss z5, uI_o (by omega)]
                      by_cases z4 : z = b2
                      · rw [uI_miss (by omega), uI_o (by omega), uI_hit z4, if_neg (by omega), if_neg (by omega), if_neg (by omega), if_neg (by omega), if_pos (by omega)]
                      · rw [uI_miss (by omega), uI_o (by omega), uI_miss z4, z4']
                        by_cases z3' : b1 + 1 < z
                        · rw [u3 z (by omega) (by omega), if_neg (by omega), if_neg (by omega), if_neg (by omega), if_pos (by omega)]
                        · rw [u4 z (by omega), uI_o (by omega), uI_miss (by omega), uI_o (by omega)]
                          by_cases z2' : z = b1
                          · rw [uI_hit z2', if_neg (by omega), if_pos (by omega)]
                          · rw [uI_miss z2', y4, if_pos (by omega)]
                            exact t3 z q1 (by omega)
              · rw [uI_miss (by omega), f4, o4 z (by omega), uI_miss (by omega), uI_o (by omega), uI_miss (by omega), uI_o (by omega), uI_miss (by omega), z4', u4 z (by omega), uI_o (by omega), uI_miss (by omega), uI_o (by omega), uI_miss (by omega), y4, t4 z hz]
              · show b3 + psT tp L i ≤ a + psT tp L (w.1 + 1); omega
              · show i < w.1 + 1; omega
            · rw [if_neg g3]
              obtain ⟨d6, f1, f2, f3⟩ := r2 g3
              obtain ⟨d7, h1, h2, h3⟩ := FS.land (e := e) (r := ((b2 + 1 : Nat) : Int)) f2 (by omega)
              exact ⟨d7, (bind_at e1' _).trans ((bind_at y1 _).trans ((bind_at p1 _).trans ((bind_at p4 _).trans ((bind_at s1' _).trans ((bind_at z1 _).trans ((bind_at l1 _).trans ((bind_at l4 _).trans ((bind_at m1 _).trans ((bind_at n1' _).trans ((bind_at f1 _).trans (bind_at h1 _))))))))))), h2, e3.trans (y3.trans (p3.trans (p6.trans (s3.trans (z3.trans (l3.trans (l6.trans (m3.trans (n3.trans (f3.trans h3))))))))))⟩
        · rw [if_neg g2]
          obtain ⟨d4, z1, z2, z3⟩ := v2 g2
          obtain ⟨d5, r5, l1, _, _, l2, l3⟩ := FS.put (e := e) (x := iI 316) z2
          obtain ⟨d6, r6, l4, l7, l8, l5, l6⟩ := FS.put (e := e) (x := iI 0) l2
          obtain ⟨d7, m1, m2, m3⟩ := FS.land (e := e) (r := ((b1 + 1 : Nat) : Int)) l5 (by omega)
          obtain ⟨d8, n1, n2, n3⟩ := SF d7 e _ _ m2
          obtain ⟨d9, x, y, z⟩ := ch3F (e := e) (r := r6) n2 ⟨l7, l8⟩
          exact ⟨d9, (bind_at e1' _).trans ((bind_at y1 _).trans ((bind_at p1 _).trans ((bind_at p4 _).trans ((bind_at s1' _).trans ((bind_at z1 _).trans ((bind_at l1 _).trans ((bind_at l4 _).trans ((bind_at m1 _).trans ((bind_at n1 _).trans x))))))))), y, e3.trans (y3.trans (p3.trans (p6.trans (s3.trans (z3.trans (l3.trans (l6.trans (m3.trans (n3.trans z)))))))))⟩
    · rw [if_neg g1]
      obtain ⟨d2, y1, y2, y3⟩ := x2 g1
      obtain ⟨d3, r3, l1, _, _, l2, l3⟩ := FS.put (e := e) (x := iI 314) y2
      obtain ⟨d4, r4, l4, l7, l8, l5, l6⟩ := FS.put (e := e) (x := iI 0) l2
      obtain ⟨d5, n1, n2, n3⟩ := SF d4 e _ _ l5
      obtain ⟨d6, x, y, z⟩ := ch2F (e := e) (r := r4) (x := iI (k : Nat)) (Fo := Fo) n2 ⟨l7, l8⟩ SF
      exact ⟨d6, (bind_at e1' _).trans ((bind_at y1 _).trans ((bind_at l1 _).trans ((bind_at l4 _).trans ((bind_at n1 _).trans x)))), y, e3.trans (y3.trans (l3.trans (l6.trans (n3.trans z))))⟩
theorem c5_opd {tp : Nat → Int} {L N : Nat} {s : Int} (hs : s = 0 ∨ s = 1) : ∀ n, HO tp L N s n (FX5_opened n) (pOpd (KT tp L) (VT tp L) s n)
  | 0 => fun k h1 h8 h9 => by omega
  | n + 1 => by
    intro k h1 h8 h9 d e i a cs q
    have ho := c5_opd (tp := tp) (L := L) (N := N) hs n
    have kr := KT_in cs.1.2.1 (L := L) i
    have k10 := cs.1.2.2.2.2.2.2.1
    have hi : i < N := (cs.1.lt.1).mp (by omega)
    have lt := cs.1.lt.2.1 hi
    have ap := cs.2.2.2
    obtain ⟨d1, n1, n2, n3, n4⟩ := cs.next (e := e) hi
    have ONE := c5_one ho hs (k := k) h8 (by omega)
    have ONF := fun (x : Int32) => c5_oneF (tp := tp) (L := L) (N := N) (Fo := FX5_opened n) (x := x)
    have SUM := (c5_sum ho hs (k := k) h8 (by omega)).1
    have SMF := (c5_sum ho hs (k := k) h8 (by omega)).2
    have CH := c5_choice ho hs (k := k) h8 (by omega)
    show ∃ d', FX5_openedB (FX5_opened n) d e (iI (k : Nat)) = some ((), d', e) ∧ CR (fun f => f) tp L N s (1 + 5 * (9 - (k : Int))) d d' i a (pOpB (KT tp L) (VT tp L) s (pOpd (KT tp L) (VT tp L) s n) k i) ∧ KC d d'
    unfold pOpB
    rcases q with q | q | q | q | q
    · -- (
      rw [if_pos q]
      rw [q] at k10
      obtain ⟨d2, s1, s2, s3⟩ := SUM d1 e (i + 1) a n2
      have s1' : FX5_sum (FX5_opened n) d1 e (iI (k : Nat)) = some ((), d2, e) := s1
      cases hq : pSum (KT tp L) (VT tp L) s (pOpd (KT tp L) (VT tp L) s n) k (i + 1) with
      | inl bd =>
        rw [hq] at s2
        obtain ⟨d3, x, y, z⟩ := c5_expF (e := e) (c := 41) (show FS d2 tp L N bd.1 (psT tp L bd.2) from s2) (by omega)
        refine ⟨d3, ?_, y, n3.trans (s3.trans z)⟩
        unfold FX5_openedB
        simp (disch := omega) only [nI_iI, lN_lJ, iI_0, lJ_0, iI_add, iI_sub, iI_mul, iI_neg, lJ_add, lJ_sub, lJ_mul, lJ_neg, i_l, l_i, iI_cl, iI_inb, iI_eqT, iI_eqF, iI_ltT, iI_ltF, iI_leT, iI_leF, lJ_eqT, lJ_eqF, lJ_cG, lJ_cE, lJ_cL, lJ_cF, lJ_cGE, lJ_cLE, lJ_cNL, lJ_cNG, Int.cast_ofNat_Int, c_0, c_1, Int.natCast_add, Int.add_zero, cond_true, cond_false, Bool.and_self, Bool.and_true, Bool.true_and, Option.bind_some, decide_true, uI_hit, uI_miss, uI_o, uA_o, uA_s, ↓reduceIte, eq_self, true_or, or_true, or_false, false_or, true_and, and_true, false_and, and_false, or_self, and_self, not_false_eq_true, not_true_eq_false, tn_i, n1, k10, s1', x]
      | inr w =>
        rw [hq] at s2
        obtain ⟨C, b, t1, t2, t3, t4, t5, t6⟩ := s2
        obtain ⟨x1, x2⟩ := c5_exp (e := e) (c := 41) t1 (by omega)
        show ∃ d', FX5_openedB (FX5_opened n) d e (iI (k : Nat)) = some ((), d', e) ∧ CR (fun f => f) tp L N s (1 + 5 * (9 - (k : Int))) d d' i a (if KT tp L w.1 = 41 then .inr (w.1 + 1, w.2) else .inl (1, w.1)) ∧ KC d d'
        by_cases g : KT tp L w.1 = 41
        · rw [if_pos g]
          obtain ⟨d3, y1, y2, y3, y4, y5⟩ := x1 g
          have lt2 := t1.1.lt.2.1 y5
          refine ⟨d3, ?_, ⟨C, b, y2, t2.more (by omega), fun z z1 z2 => by rw [y4]; exact t3 z z1 z2, fun z hz => by rw [y4, t4 z hz, n4], ?_, ?_⟩, n3.trans (s3.trans y3)⟩
          · unfold FX5_openedB
            simp (disch := omega) only [nI_iI, lN_lJ, iI_0, lJ_0, iI_add, iI_sub, iI_mul, iI_neg, lJ_add, lJ_sub, lJ_mul, lJ_neg, i_l, l_i, iI_cl, iI_inb, iI_eqT, iI_eqF, iI_ltT, iI_ltF, iI_leT, iI_leF, lJ_eqT, lJ_eqF, lJ_cG, lJ_cE, lJ_cL, lJ_cF, lJ_cGE, lJ_cLE, lJ_cNL, lJ_cNG, Int.cast_ofNat_Int, c_0, c_1, Int.natCast_add, Int.add_zero, cond_true, cond_false, Bool.and_self, Bool.and_true, Bool.true_and, Option.bind_some, decide_true, uI_hit, uI_miss, uI_o, uA_o, uA_s, ↓reduceIte, eq_self, true_or, or_true, or_false, false_or, true_and, and_true, false_and, and_false, or_self, and_self, not_false_eq_true, not_true_eq_false, tn_i, n1, k10, s1', y1]
          · show b + psT tp L i ≤ a + psT tp L (w.1 + 1); omega
          · show i < w.1 + 1; omega
        · rw [if_neg g]
          obtain ⟨d3, y1, y2, y3⟩ := x2 g
          refine ⟨d3, ?_, y2, n3.trans (s3.trans y3)⟩
          unfold FX5_openedB
          simp (disch := omega) only [nI_iI, lN_lJ, iI_0, lJ_0, iI_add, iI_sub, iI_mul, iI_neg, lJ_add, lJ_sub, lJ_mul, lJ_neg, i_l, l_i, iI_cl, iI_inb, iI_eqT, iI_eqF, iI_ltT, iI_ltF, iI_leT, iI_leF, lJ_eqT, lJ_eqF, lJ_cG, lJ_cE, lJ_cL, lJ_cF, lJ_cGE, lJ_cLE, lJ_cNL, lJ_cNG, Int.cast_ofNat_Int, c_0, c_1, Int.natCast_add, Int.add_zero, cond_true, cond_false, Bool.and_self, Bool.and_true, Bool.true_and, Option.bind_some, decide_true, uI_hit, uI_miss, uI_o, uA_o, uA_s, ↓reduceIte, eq_self, true_or, or_true, or_false, false_or, true_and, and_true, false_and, and_false, or_self, and_self, not_false_eq_true, not_true_eq_false, tn_i, n1, k10, s1', y1]
    · -- -
      rw [if_neg (by omega), if_pos q]
      rw [q] at k10
      obtain ⟨d2, s1, s2, s3⟩ := ONE d1 e (i + 1) a n2
      have s1' : FX5_one (FX5_opened n) d1 e (iI (k : Nat)) = some ((), d2, e) := s1
      cases hq : pOne (KT tp L) (VT tp L) s (pOpd (KT tp L) (VT tp L) s n) k (i + 1) with
      | inl bd =>
        rw [hq] at s2
        obtain ⟨d3, r3, x, _, _, y, z⟩ := FS.put (e := e) (x := iI 5) (show FS d2 tp L N bd.1 (psT tp L bd.2) from s2)
        refine ⟨d3, ?_, y, n3.trans (s3.trans z)⟩
        unfold FX5_openedB
        simp (disch := omega) only [nI_iI, lN_lJ, iI_0, lJ_0, iI_add, iI_sub, iI_mul, iI_neg, lJ_add, lJ_sub, lJ_mul, lJ_neg, i_l, l_i, iI_cl, iI_inb, iI_eqT, iI_eqF, iI_ltT, iI_ltF, iI_leT, iI_leF, lJ_eqT, lJ_eqF, lJ_cG, lJ_cE, lJ_cL, lJ_cF, lJ_cGE, lJ_cLE, lJ_cNL, lJ_cNG, Int.cast_ofNat_Int, c_0, c_1, Int.natCast_add, Int.add_zero, cond_true, cond_false, Bool.and_self, Bool.and_true, Bool.true_and, Option.bind_some, decide_true, uI_hit, uI_miss, uI_o, uA_o, uA_s, ↓reduceIte, eq_self, true_or, or_true, or_false, false_or, true_and, and_true, false_and, and_false, or_self, and_self, not_false_eq_true, not_true_eq_false, tn_i, n1, k10, s1', x]
      | inr w =>
        rw [hq] at s2
        obtain ⟨C, b, t1, t2, t3, t4, t5, t6⟩ := s2
        have ab := t2.2.1
        obtain ⟨p1, p2, p3⟩ := t1.put (e := e) (x := iI 5) (by omega)
        refine ⟨uI (uI d2 92 b (iI 5)) 88 5 (iI (b + 1 : Nat)), ?_, ⟨fun z : Int => if z < b then C z else 5, b + 1, p2, ?_, fun z z1 z2 => ?_, fun z hz => ?_, ?_, ?_⟩, n3.trans (s3.trans p3)⟩
        · unfold FX5_openedB
          simp (disch := omega) only [nI_iI, lN_lJ, iI_0, lJ_0, iI_add, iI_sub, iI_mul, iI_neg, lJ_add, lJ_sub, lJ_mul, lJ_neg, i_l, l_i, iI_cl, iI_inb, iI_eqT, iI_eqF, iI_ltT, iI_ltF, iI_leT, iI_leF, lJ_eqT, lJ_eqF, lJ_cG, lJ_cE, lJ_cL, lJ_cF, lJ_cGE, lJ_cLE, lJ_cNL, lJ_cNG, Int.cast_ofNat_Int, c_0, c_1, Int.natCast_add, Int.add_zero, cond_true, cond_false, Bool.and_self, Bool.and_true, Bool.true_and, Option.bind_some, decide_true, uI_hit, uI_miss, uI_o, uA_o, uA_s, ↓reduceIte, eq_self, true_or, or_true, or_false, false_or, true_and, and_true, false_and, and_false, or_self, and_self, not_false_eq_true, not_true_eq_false, tn_i, n1, k10, s1', p1]
        · exact (CV.neg (t2.ext (C' := fun z : Int => if z < b then C z else 5) (fun z z1 z2 => if_pos z2)) (show (if (b : Int) < b then C b else 5) = 5 from if_neg (by omega))).more (by omega)
        · rw [uI_o (by omega)]
          show _ = iI (if (z : Int) < b then C z else 5)
          by_cases zb : z = b
          · rw [uI_hit zb, if_neg (by omega)]
          · rw [uI_miss zb, if_pos (by omega)]; exact t3 z z1 (by omega)
        · rw [uI_o (by omega), uI_miss (by omega), t4 z hz, n4]
        · show b + 1 + psT tp L i ≤ a + psT tp L w.1; omega
        · show i < w.1; omega
    · -- turn
      rw [if_neg (by omega), if_neg (by omega), if_pos q]
      rw [q] at k10
      obtain ⟨d2, s1, s2, s3⟩ := ONE d1 e (i + 1) a n2
      have s1' : FX5_one (FX5_opened n) d1 e (iI (k : Nat)) = some ((), d2, e) := s1
      have fin : ∀ (d2 : aI) (nn : Int) (p : Nat), FS d2 tp L N nn p → ∃ d3 d4 d5 r, FX5_expect d2 e (iI 311) = some ((), d3, e) ∧ FX5_one (FX5_opened n) d3 e (iI (k : Nat)) = some ((), d4, e) ∧ FX7_put d4 e (iI 312) = some (iI r, d5, e) ∧ FS d5 tp L N nn p ∧ KC d2 d5 := by
        intro d2 nn p fs
        obtain ⟨d3, x, y, z⟩ := c5_expF (e := e) (c := 311) fs (by omega)
        obtain ⟨d4, x2, y2, z2⟩ := ONF (iI (k : Nat)) d3 e nn p y
        obtain ⟨d5, r, x3, _, _, y3, z3⟩ := FS.put (e := e) (x := iI 312) y2
        exact ⟨d3, d4, d5, r, x, x2, x3, y3, z.trans (z2.trans z3)⟩
      cases hq : pOne (KT tp L) (VT tp L) s (pOpd (KT tp L) (VT tp L) s n) k (i + 1) with
      | inl bd =>
        rw [hq] at s2
        obtain ⟨d3, d4, d5, r, x1, x2, x3, y, z⟩ := fin d2 _ _ s2
        refine ⟨d5, ?_, y, n3.trans (s3.trans z)⟩
        unfold FX5_openedB
        simp (disch := omega) only [nI_iI, lN_lJ, iI_0, lJ_0, iI_add, iI_sub, iI_mul, iI_neg, lJ_add, lJ_sub, lJ_mul, lJ_neg, i_l, l_i, iI_cl, iI_inb, iI_eqT, iI_eqF, iI_ltT, iI_ltF, iI_leT, iI_leF, lJ_eqT, lJ_eqF, lJ_cG, lJ_cE, lJ_cL, lJ_cF, lJ_cGE, lJ_cLE, lJ_cNL, lJ_cNG, Int.cast_ofNat_Int, c_0, c_1, Int.natCast_add, Int.add_zero, cond_true, cond_false, Bool.and_self, Bool.and_true, Bool.true_and, Option.bind_some, decide_true, uI_hit, uI_miss, uI_o, uA_o, uA_s, ↓reduceIte, eq_self, true_or, or_true, or_false, false_or, true_and, and_true, false_and, and_false, or_self, and_self, not_false_eq_true, not_true_eq_false, tn_i, n1, k10, s1', x1, x2, x3]
      | inr w =>
        rw [hq] at s2
        obtain ⟨C, b, t1, t2, t3, t4, t5, t6⟩ := s2
        have ab := t2.2.1
        obtain ⟨x1, x2⟩ := c5_exp (e := e) (c := 311) t1 (by omega)
        show ∃ d', FX5_openedB (FX5_opened n) d e (iI (k : Nat)) = some ((), d', e) ∧ CR (fun f => f) tp L N s (1 + 5 * (9 - (k : Int))) d d' i a (if KT tp L w.1 = 311 then (match pOne (KT tp L) (VT tp L) s (pOpd (KT tp L) (VT tp L) s n) k (w.1 + 1) with | .inl b => .inl b | .inr p => .inr (p.1, fun v => turnS (w.2 v) (p.2 v))) else .inl (1, w.1)) ∧ KC d d'
        by_cases g : KT tp L w.1 = 311
        · rw [if_pos g]
          obtain ⟨d3, y1, y2, y3, y4, y5⟩ := x1 g
          have lt2 := t1.1.lt.2.1 y5
          obtain ⟨d4, u1, u2, u3⟩ := ONE d3 e (w.1 + 1) b y2
          have u1' : FX5_one (FX5_opened n) d3 e (iI (k : Nat)) = some ((), d4, e) := u1
          cases hq2 : pOne (KT tp L) (VT tp L) s (pOpd (KT tp L) (VT tp L) s n) k (w.1 + 1) with
          | inl bd =>
            rw [hq2] at u2
            obtain ⟨d5, r5, x, _, _, y, z⟩ := FS.put (e := e) (x := iI 312) (show FS d4 tp L N bd.1 (psT tp L bd.2) from u2)
            refine ⟨d5, ?_, y, n3.trans (s3.trans (y3.trans (u3.trans z)))⟩
            unfold FX5_openedB
            simp (disch := omega) only [nI_iI, lN_lJ, iI_0, lJ_0, iI_add, iI_sub, iI_mul, iI_neg, lJ_add, lJ_sub, lJ_mul, lJ_neg, i_l, l_i, iI_cl, iI_inb, iI_eqT, iI_eqF, iI_ltT, iI_ltF, iI_leT, iI_leF, lJ_eqT, lJ_eqF, lJ_cG, lJ_cE, lJ_cL, lJ_cF, lJ_cGE, lJ_cLE, lJ_cNL, lJ_cNG, Int.cast_ofNat_Int, c_0, c_1, Int.natCast_add, Int.add_zero, cond_true, cond_false, Bool.and_self, Bool.and_true, Bool.true_and, Option.bind_some, decide_true, uI_hit, uI_miss, uI_o, uA_o, uA_s, ↓reduceIte, eq_self, true_or, or_true, or_false, false_or, true_and, and_true, false_and, and_false, or_self, and_self, not_false_eq_true, not_true_eq_false, tn_i, n1, k10, s1', y1, u1', x]
          | inr w2 =>
            rw [hq2] at u2
            obtain ⟨C2, b2, v1, v2, v3, v4, v5, v6⟩ := u2
            have ab2 := v2.2.1
            obtain ⟨p1, p2, p3⟩ := v1.put (e := e) (x := iI 312) (by omega)
            have c1 := t2.ext (C' := fun z : Int => if z < b then C z else if z < b2 then C2 z else 312) (fun z z1 z2 => if_pos z2)
            have c2 := v2.ext (C' := fun z : Int => if z < b then C z else if z < b2 then C2 z else 312) (fun z z1 z2 => by
              show (if z < b then C z else if z < b2 then C2 z else 312) = C2 z
              rw [if_neg (by omega), if_pos z2])
            refine ⟨uI (uI d4 92 b2 (iI 312)) 88 5 (iI (b2 + 1 : Nat)), ?_, ⟨fun z : Int => if z < b then C z else if z < b2 then C2 z else 312, b2 + 1, p2, ?_, fun z z1 z2 => ?_, fun z hz => ?_, ?_, ?_⟩, n3.trans (s3.trans (y3.trans (u3.trans p3)))⟩
            · unfold FX5_openedB
              simp (disch := omega) only [nI_iI, lN_lJ, iI_0, lJ_0, iI_add, iI_sub, iI_mul, iI_neg, lJ_add, lJ_sub, lJ_mul, lJ_neg, i_l, l_i, iI_cl, iI_inb, iI_eqT, iI_eqF, iI_ltT, iI_ltF, iI_leT, iI_leF, lJ_eqT, lJ_eqF, lJ_cG, lJ_cE, lJ_cL, lJ_cF, lJ_cGE, lJ_cLE, lJ_cNL, lJ_cNG, Int.cast_ofNat_Int, c_0, c_1, Int.natCast_add, Int.add_zero, cond_true, cond_false, Bool.and_self, Bool.and_true, Bool.true_and, Option.bind_some, decide_true, uI_hit, uI_miss, uI_o, uA_o, uA_s, ↓reduceIte, eq_self, true_or, or_true, or_false, false_or, true_and, and_true, false_and, and_false, or_self, and_self, not_false_eq_true, not_true_eq_false, tn_i, n1, k10, s1', y1, u1', p1]
            · exact CV.turn c1 c2 (show (if (b2 : Int) < b then C b2 else if (b2 : Int) < b2 then C2 b2 else 312) = 312 by rw [if_neg (by omega), if_neg (by omega)]) _ (by omega)
            · rw [uI_o (by omega)]
              show _ = iI (if (z : Int) < b then C z else if (z : Int) < b2 then C2 z else 312)
              by_cases zb : z = b2
              · rw [uI_hit zb, if_neg (by omega), if_neg (by omega)]
              · rw [uI_miss zb]
                by_cases zb2 : z < b
                · rw [if_pos (by omega), v4 z zb2, y4]; exact t3 z z1 zb2
                · rw [if_neg (by omega), if_pos (by omega)]; exact v3 z (by omega) (by omega)
            · rw [uI_o (by omega), uI_miss (by omega), v4 z (by omega), y4, t4 z hz, n4]
            · show b2 + 1 + psT tp L i ≤ a + psT tp L w2.1; omega
            · show i < w2.1; omega
        · rw [if_neg g]
          obtain ⟨d3, y1, y2, y3⟩ := x2 g
          obtain ⟨d4, u1, u2, u3⟩ := ONF (iI (k : Nat)) d3 e _ _ y2
          have u1' : FX5_one (FX5_opened n) d3 e (iI (k : Nat)) = some ((), d4, e) := u1
          obtain ⟨d5, r5, x, _, _, y, z⟩ := FS.put (e := e) (x := iI 312) u2
          refine ⟨d5, ?_, y, n3.trans (s3.trans (y3.trans (u3.trans z)))⟩
          unfold FX5_openedB
          simp (disch := omega) only [nI_iI, lN_lJ, iI_0, lJ_0, iI_add, iI_sub, iI_mul, iI_neg, lJ_add, lJ_sub, lJ_mul, lJ_neg, i_l, l_i, iI_cl, iI_inb, iI_eqT, iI_eqF, iI_ltT, iI_ltF, iI_leT, iI_leF, lJ_eqT, lJ_eqF, lJ_cG, lJ_cE, lJ_cL, lJ_cF, lJ_cGE, lJ_cLE, lJ_cNL, lJ_cNG, Int.cast_ofNat_Int, c_0, c_1, Int.natCast_add, Int.add_zero, cond_true, cond_false, Bool.and_self, Bool.and_true, Bool.true_and, Option.bind_some, decide_true, uI_hit, uI_miss, uI_o, uA_o, uA_s, ↓reduceIte, eq_self, true_or, or_true, or_false, false_or, true_and, and_true, false_and, and_false, or_self, and_self, not_false_eq_true, not_true_eq_false, tn_i, n1, k10, s1', y1, u1', x]
    · -- chill
      rw [if_neg (by omega), if_neg (by omega), if_neg (by omega), if_pos q]
      rw [q] at k10
      obtain ⟨d2, s1, s2, s3⟩ := ONE d1 e (i + 1) a n2
      have s1' : FX5_one (FX5_opened n) d1 e (iI (k : Nat)) = some ((), d2, e) := s1
      cases hq : pOne (KT tp L) (VT tp L) s (pOpd (KT tp L) (VT tp L) s n) k (i + 1) with
      | inl bd =>
        rw [hq] at s2
        obtain ⟨d3, r3, x, _, _, y, z⟩ := FS.put (e := e) (x := iI 313) (show FS d2 tp L N bd.1 (psT tp L bd.2) from s2)
        refine ⟨d3, ?_, y, n3.trans (s3.trans z)⟩
        unfold FX5_openedB
        simp (disch := omega) only [nI_iI, lN_lJ, iI_0, lJ_0, iI_add, iI_sub, iI_mul, iI_neg, lJ_add, lJ_sub, lJ_mul, lJ_neg, i_l, l_i, iI_cl, iI_inb, iI_eqT, iI_eqF, iI_ltT, iI_ltF, iI_leT, iI_leF, lJ_eqT, lJ_eqF, lJ_cG, lJ_cE, lJ_cL, lJ_cF, lJ_cGE, lJ_cLE, lJ_cNL, lJ_cNG, Int.cast_ofNat_Int, c_0, c_1, Int.natCast_add, Int.add_zero, cond_true, cond_false, Bool.and_self, Bool.and_true, Bool.true_and, Option.bind_some, decide_true, uI_hit, uI_miss, uI_o, uA_o, uA_s, ↓reduceIte, eq_self, true_or, or_true, or_false, false_or, true_and, and_true, false_and, and_false, or_self, and_self, not_false_eq_true, not_true_eq_false, tn_i, n1, k10, s1', x]
      | inr w =>
        rw [hq] at s2
        obtain ⟨C, b, t1, t2, t3, t4, t5, t6⟩ := s2
        have ab := t2.2.1
        obtain ⟨p1, p2, p3⟩ := t1.put (e := e) (x := iI 313) (by omega)
        refine ⟨uI (uI d2 92 b (iI 313)) 88 5 (iI (b + 1 : Nat)), ?_, ⟨fun z : Int => if z < b then C z else 313, b + 1, p2, ?_, fun z z1 z2 => ?_, fun z hz => ?_, ?_, ?_⟩, n3.trans (s3.trans p3)⟩
        · unfold FX5_openedB
          simp (disch := omega) only [nI_iI, lN_lJ, iI_0, lJ_0, iI_add, iI_sub, iI_mul, iI_neg, lJ_add, lJ_sub, lJ_mul, lJ_neg, i_l, l_i, iI_cl, iI_inb, iI_eqT, iI_eqF, iI_ltT, iI_ltF, iI_leT, iI_leF, lJ_eqT, lJ_eqF, lJ_cG, lJ_cE, lJ_cL, lJ_cF, lJ_cGE, lJ_cLE, lJ_cNL, lJ_cNG, Int.cast_ofNat_Int, c_0, c_1, Int.natCast_add, Int.add_zero, cond_true, cond_false, Bool.and_self, Bool.and_true, Bool.true_and, Option.bind_some, decide_true, uI_hit, uI_miss, uI_o, uA_o, uA_s, ↓reduceIte, eq_self, true_or, or_true, or_false, false_or, true_and, and_true, false_and, and_false, or_self, and_self, not_false_eq_true, not_true_eq_false, tn_i, n1, k10, s1', p1]
        · exact (CV.chill (t2.ext (C' := fun z : Int => if z < b then C z else 313) (fun z z1 z2 => if_pos z2)) (show (if (b : Int) < b then C b else 313) = 313 from if_neg (by omega))).more (by omega)
        · rw [uI_o (by omega)]
          show _ = iI (if (z : Int) < b then C z else 313)
          by_cases zb : z = b
          · rw [uI_hit zb, if_neg (by omega)]
          · rw [uI_miss zb, if_pos (by omega)]; exact t3 z z1 (by omega)
        · rw [uI_o (by omega), uI_miss (by omega), t4 z hz, n4]
        · show b + 1 + psT tp L i ≤ a + psT tp L w.1; omega
        · show i < w.1; omega
    · -- if
      rw [if_neg (by omega), if_neg (by omega), if_neg (by omega), if_neg (by omega)]
      rw [q] at k10
      obtain ⟨d2, s1, s2, s3⟩ := CH d1 e (i + 1) a n2
      have s1' : FX5_choice (FX5_opened n) d1 e (iI (k : Nat)) = some ((), d2, e) := s1
      refine ⟨d2, ?_, ?_, n3.trans s3⟩
      · unfold FX5_openedB
        simp (disch := omega) only [nI_iI, lN_lJ, iI_0, lJ_0, iI_add, iI_sub, iI_mul, iI_neg, lJ_add, lJ_sub, lJ_mul, lJ_neg, i_l, l_i, iI_cl, iI_inb, iI_eqT, iI_eqF, iI_ltT, iI_ltF, iI_leT, iI_leF, lJ_eqT, lJ_eqF, lJ_cG, lJ_cE, lJ_cL, lJ_cF, lJ_cGE, lJ_cLE, lJ_cNL, lJ_cNG, Int.cast_ofNat_Int, c_0, c_1, Int.natCast_add, Int.add_zero, cond_true, cond_false, Bool.and_self, Bool.and_true, Bool.true_and, Option.bind_some, decide_true, uI_hit, uI_miss, uI_o, uA_o, uA_s, ↓reduceIte, eq_self, true_or, or_true, or_false, false_or, true_and, and_true, false_and, and_false, or_self, and_self, not_false_eq_true, not_true_eq_false, tn_i, n1, k10, s1']
      · cases hq : pCh (KT tp L) (VT tp L) s (pOpd (KT tp L) (VT tp L) s n) k (i + 1) with
        | inl bd => rw [hq] at s2; exact s2
        | inr w =>
          rw [hq] at s2
          obtain ⟨C, b, t1, t2, t3, t4, t5, t6⟩ := s2
          exact ⟨C, b, t1, t2.more (by omega), t3, fun z hz => by rw [t4 z hz, n4], by omega, by omega⟩
