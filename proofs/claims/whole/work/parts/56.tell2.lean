/-! ===== house, cat ===== -/
theorem OpK.tell {lo hi : Int} {FC FM : aI → aJ → Option (Int32 × aI × aJ)} {S : aS} (hS : sOK S) {B : Int → Int} {z : Int} (hz : lo ≤ z ∧ z ≤ hi) (hW : WN B) (ho : Old S.1 B) (tb : TB S.1 B)
    (hc : ∀ (d : aI) (e : aJ), CI d S → ∃ d' e', FC d e = some (iI z, d', e') ∧ CN d' 1 B ∧ Kn d d') (hm : ∀ (d : aI) (e : aJ), MI d S → ∃ d' e', FM d e = some (iI z, d', e') ∧ MA d' 109 B ∧ Kr d d') :
    ∃ (S' : aS) (z : Int), sOK S' ∧ (∀ (d : aI) (e : aJ), CI d S → ∃ d' e', FC d e = some (iI z, d', e') ∧ CI d' S' ∧ Fc d d') ∧ (∀ (d : aI) (e : aJ), MI d S → ∃ d' e', FM d e = some (iI z, d', e') ∧ MI d' S' ∧ Fm d d') ∧ S'.2 = S.2 ∧ S'.1 2 = S.1 2 ∧ lo ≤ z ∧ z ≤ hi := by
  have s2 := hS.1.2.2.1.2
  have b2 : B 2 = S.1 2 := ho.2.2.1 2 (by omega)
  refine ⟨(B, S.2), z, hS.step (hS.1.tell hW ho tb) b2, fun d e hC => ?_, fun d e hM => ?_, rfl, b2, hz.1, hz.2⟩
  · obtain ⟨d', e', q1, q2, q3⟩ := hc d e hC
    exact ⟨d', e', q1, hC.step (hC.1.tell hS.1 q2 (fun k hk => q3 k (by omega)) ho) (fun k a b => q3 k (by omega)) b2 s2, fun k a => q3 k (by omega)⟩
  · obtain ⟨d', e', q1, q2, q3⟩ := hm d e hM
    exact ⟨d', e', q1, hM.step q2 q3 b2, q3.fm⟩
theorem k_house (x y : Int32) : OpK (-1) 9999 (fun d e => FX10_house d e x y) (fun d e => FX11_house d e x y) := by
  obtain ⟨p, rfl, h1, h2⟩ := iI_ex x
  obtain ⟨q, rfl, h3, h4⟩ := iI_ex y
  intro S hS
  have hW := hS.1.1
  have w0 := hW.1
  by_cases hp : 0 ≤ p ∧ p ≤ 9
  · by_cases hq : 0 ≤ q ∧ q ≤ 999
    · by_cases h6 : S.1 0 < 6
      · obtain ⟨k1, k2, k3⟩ := houseS_ok hW hp hq h6
        refine OpK.tell (z := (S.1 0)) hS (by omega) k1 k2 k3 (fun d e hC => ?_) (fun d e hM => ?_)
        · obtain ⟨d', r1, r2, r3⟩ := cq_build (e := e) hC.cn hW (p := p) (q := q) h6
          refine ⟨d', e, ?_, r2, r3⟩
          unfold FX10_house
          simp (disch := omega) only [nI_iI, lN_lJ, iI_0, lJ_0, iI_add, iI_sub, iI_mul, iI_neg, lJ_add, lJ_sub, lJ_mul, lJ_neg, i_l, l_i, iI_cl, iI_inb, iI_eqT, iI_eqF, iI_ltT, iI_ltF, iI_leT, iI_leF, lJ_eqT, lJ_eqF, lJ_cG, lJ_cE, lJ_cL, lJ_cF, lJ_cGE, lJ_cLE, lJ_cNL, lJ_cNG, Int.cast_ofNat_Int, c_0, c_1, Int.natCast_add, Int.add_zero, cond_true, cond_false, Bool.and_self, Bool.and_true, Bool.true_and, Option.bind_some, decide_true, uI_hit, uI_miss, uI_o, uA_o, uA_s, ↓reduceIte, eq_self, true_or, or_true, or_false, false_or, true_and, and_true, false_and, and_false, or_self, and_self, not_false_eq_true, not_true_eq_false, tn_i, cq_in_y, r1]
        · have r0 : d 109 0 = iI (S.1 0) := hM.1.cell (j := 0) (by omega)
          have a1 : MA (uI (uI d 109 (42 + S.1 0).toNat (iI p)) 109 (48 + S.1 0).toNat (iI q)) 109 (aU (aU S.1 (42 + S.1 0) p) (48 + S.1 0) q) := (hM.1.put (by omega)).put (by omega)
          obtain ⟨d2, z1, z2, z3⟩ := mq_beginHouse (e := e) a1 (h := S.1 0) (by omega)
          have c0 : d2 109 0 = iI (S.1 0) := by
            have := z2.cell (j := 0) (by omega)
            rw [aU_miss (by omega), aU_miss (by omega), aU_miss (by omega), aU_miss (by omega)] at this
            exact this
          refine ⟨uI d2 109 0 (iI (S.1 0 + 1)), e, ?_, (z2.put (k := 0) (k' := 0) rfl).ext (fun j _ _ => ?_), Kr.only (fun k hk => by rw [uI_o hk, z3 k hk, uI_o hk, uI_o hk])⟩
          · unfold FX11_house
            simp (disch := omega) only [nI_iI, lN_lJ, iI_0, lJ_0, iI_add, iI_sub, iI_mul, iI_neg, lJ_add, lJ_sub, lJ_mul, lJ_neg, i_l, l_i, iI_cl, iI_inb, iI_eqT, iI_eqF, iI_ltT, iI_ltF, iI_leT, iI_leF, lJ_eqT, lJ_eqF, lJ_cG, lJ_cE, lJ_cL, lJ_cF, lJ_cGE, lJ_cLE, lJ_cNL, lJ_cNG, Int.cast_ofNat_Int, c_0, c_1, Int.natCast_add, Int.add_zero, cond_true, cond_false, Bool.and_self, Bool.and_true, Bool.true_and, Option.bind_some, decide_true, uI_hit, uI_miss, uI_o, uA_o, uA_s, ↓reduceIte, eq_self, true_or, or_true, or_false, false_or, true_and, and_true, false_and, and_false, or_self, and_self, not_false_eq_true, not_true_eq_false, tn_i, mq_isPlace_y, mq_in_y, r0, z1, c0]
          · unfold houseS
            rw [aU_hit (j := 48 + S.1 0) rfl]
      · refine ⟨S, (-1), hS, fun d e hC => ⟨d, e, ?_, hC, Fc.refl d⟩, fun d e hM => ⟨d, e, ?_, hM, Fm.refl d⟩, rfl, rfl, by omega, by omega⟩
        · have k8 : d 2 8 = iI (S.1 0) := hC.cn.1
          unfold FX10_house FX2_build
          simp (disch := omega) only [nI_iI, lN_lJ, iI_0, lJ_0, iI_add, iI_sub, iI_mul, iI_neg, lJ_add, lJ_sub, lJ_mul, lJ_neg, i_l, l_i, iI_cl, iI_inb, iI_eqT, iI_eqF, iI_ltT, iI_ltF, iI_leT, iI_leF, lJ_eqT, lJ_eqF, lJ_cG, lJ_cE, lJ_cL, lJ_cF, lJ_cGE, lJ_cLE, lJ_cNL, lJ_cNG, Int.cast_ofNat_Int, c_0, c_1, Int.natCast_add, Int.add_zero, cond_true, cond_false, Bool.and_self, Bool.and_true, Bool.true_and, Option.bind_some, decide_true, uI_hit, uI_miss, uI_o, uA_o, uA_s, ↓reduceIte, eq_self, true_or, or_true, or_false, false_or, true_and, and_true, false_and, and_false, or_self, and_self, not_false_eq_true, not_true_eq_false, tn_i, cq_in_y, k8]
        · have r0 : d 109 0 = iI (S.1 0) := hM.1.cell (j := 0) (by omega)
          have e6 : S.1 0 = 6 := by omega
          rw [e6] at r0
          unfold FX11_house
          simp (disch := omega) only [nI_iI, lN_lJ, iI_0, lJ_0, iI_add, iI_sub, iI_mul, iI_neg, lJ_add, lJ_sub, lJ_mul, lJ_neg, i_l, l_i, iI_cl, iI_inb, iI_eqT, iI_eqF, iI_ltT, iI_ltF, iI_leT, iI_leF, lJ_eqT, lJ_eqF, lJ_cG, lJ_cE, lJ_cL, lJ_cF, lJ_cGE, lJ_cLE, lJ_cNL, lJ_cNG, Int.cast_ofNat_Int, c_0, c_1, Int.natCast_add, Int.add_zero, cond_true, cond_false, Bool.and_self, Bool.and_true, Bool.true_and, Option.bind_some, decide_true, uI_hit, uI_miss, uI_o, uA_o, uA_s, ↓reduceIte, eq_self, true_or, or_true, or_false, false_or, true_and, and_true, false_and, and_false, or_self, and_self, not_false_eq_true, not_true_eq_false, tn_i, mq_isPlace_y, mq_in_y, r0]
    · refine ⟨S, (-1), hS, fun d e hC => ⟨d, e, ?_, hC, Fc.refl d⟩, fun d e hM => ⟨d, e, ?_, hM, Fm.refl d⟩, rfl, rfl, by omega, by omega⟩
      · unfold FX10_house
        simp (disch := omega) only [nI_iI, lN_lJ, iI_0, lJ_0, iI_add, iI_sub, iI_mul, iI_neg, lJ_add, lJ_sub, lJ_mul, lJ_neg, i_l, l_i, iI_cl, iI_inb, iI_eqT, iI_eqF, iI_ltT, iI_ltF, iI_leT, iI_leF, lJ_eqT, lJ_eqF, lJ_cG, lJ_cE, lJ_cL, lJ_cF, lJ_cGE, lJ_cLE, lJ_cNL, lJ_cNG, Int.cast_ofNat_Int, c_0, c_1, Int.natCast_add, Int.add_zero, cond_true, cond_false, Bool.and_self, Bool.and_true, Bool.true_and, Option.bind_some, decide_true, uI_hit, uI_miss, uI_o, uA_o, uA_s, ↓reduceIte, eq_self, true_or, or_true, or_false, false_or, true_and, and_true, false_and, and_false, or_self, and_self, not_false_eq_true, not_true_eq_false, tn_i, cq_in_y, cq_in_n]
      · unfold FX11_house
        simp (disch := omega) only [nI_iI, lN_lJ, iI_0, lJ_0, iI_add, iI_sub, iI_mul, iI_neg, lJ_add, lJ_sub, lJ_mul, lJ_neg, i_l, l_i, iI_cl, iI_inb, iI_eqT, iI_eqF, iI_ltT, iI_ltF, iI_leT, iI_leF, lJ_eqT, lJ_eqF, lJ_cG, lJ_cE, lJ_cL, lJ_cF, lJ_cGE, lJ_cLE, lJ_cNL, lJ_cNG, Int.cast_ofNat_Int, c_0, c_1, Int.natCast_add, Int.add_zero, cond_true, cond_false, Bool.and_self, Bool.and_true, Bool.true_and, Option.bind_some, decide_true, uI_hit, uI_miss, uI_o, uA_o, uA_s, ↓reduceIte, eq_self, true_or, or_true, or_false, false_or, true_and, and_true, false_and, and_false, or_self, and_self, not_false_eq_true, not_true_eq_false, tn_i, mq_isPlace_y, mq_in_n]
  · refine ⟨S, (-1), hS, fun d e hC => ⟨d, e, ?_, hC, Fc.refl d⟩, fun d e hM => ⟨d, e, ?_, hM, Fm.refl d⟩, rfl, rfl, by omega, by omega⟩
    · unfold FX10_house
      simp (disch := omega) only [nI_iI, lN_lJ, iI_0, lJ_0, iI_add, iI_sub, iI_mul, iI_neg, lJ_add, lJ_sub, lJ_mul, lJ_neg, i_l, l_i, iI_cl, iI_inb, iI_eqT, iI_eqF, iI_ltT, iI_ltF, iI_leT, iI_leF, lJ_eqT, lJ_eqF, lJ_cG, lJ_cE, lJ_cL, lJ_cF, lJ_cGE, lJ_cLE, lJ_cNL, lJ_cNG, Int.cast_ofNat_Int, c_0, c_1, Int.natCast_add, Int.add_zero, cond_true, cond_false, Bool.and_self, Bool.and_true, Bool.true_and, Option.bind_some, decide_true, uI_hit, uI_miss, uI_o, uA_o, uA_s, ↓reduceIte, eq_self, true_or, or_true, or_false, false_or, true_and, and_true, false_and, and_false, or_self, and_self, not_false_eq_true, not_true_eq_false, tn_i, cq_in_n]
    · unfold FX11_house
      simp (disch := omega) only [nI_iI, lN_lJ, iI_0, lJ_0, iI_add, iI_sub, iI_mul, iI_neg, lJ_add, lJ_sub, lJ_mul, lJ_neg, i_l, l_i, iI_cl, iI_inb, iI_eqT, iI_eqF, iI_ltT, iI_ltF, iI_leT, iI_leF, lJ_eqT, lJ_eqF, lJ_cG, lJ_cE, lJ_cL, lJ_cF, lJ_cGE, lJ_cLE, lJ_cNL, lJ_cNG, Int.cast_ofNat_Int, c_0, c_1, Int.natCast_add, Int.add_zero, cond_true, cond_false, Bool.and_self, Bool.and_true, Bool.true_and, Option.bind_some, decide_true, uI_hit, uI_miss, uI_o, uA_o, uA_s, ↓reduceIte, eq_self, true_or, or_true, or_false, false_or, true_and, and_true, false_and, and_false, or_self, and_self, not_false_eq_true, not_true_eq_false, tn_i, mq_isPlace_n]
theorem k_cat (x y : Int32) : OpK (-1) 9999 (fun d e => FX10_cat d e x y) (fun d e => FX11_cat d e x y) := by
  obtain ⟨p, rfl, h1, h2⟩ := iI_ex x
  obtain ⟨q, rfl, h3, h4⟩ := iI_ex y
  intro S hS
  have hW := hS.1.1
  have w1 := hW.2.1
  by_cases hp : 0 ≤ p ∧ p ≤ 9
  · by_cases hq : 0 ≤ q ∧ q ≤ 9
    · by_cases h6 : S.1 1 < 6
      · obtain ⟨k1, k2, k3⟩ := catOfS_ok hW hp hq h6
        refine OpK.tell (z := (S.1 1)) hS (by omega) k1 k2 k3 (fun d e hC => ?_) (fun d e hM => ?_)
        · obtain ⟨d', r1, r2, r3⟩ := cq_bring (e := e) hC.cn hW (p := p) (q := q) h6
          refine ⟨d', e, ?_, r2, r3⟩
          unfold FX10_cat
          simp (disch := omega) only [nI_iI, lN_lJ, iI_0, lJ_0, iI_add, iI_sub, iI_mul, iI_neg, lJ_add, lJ_sub, lJ_mul, lJ_neg, i_l, l_i, iI_cl, iI_inb, iI_eqT, iI_eqF, iI_ltT, iI_ltF, iI_leT, iI_leF, lJ_eqT, lJ_eqF, lJ_cG, lJ_cE, lJ_cL, lJ_cF, lJ_cGE, lJ_cLE, lJ_cNL, lJ_cNG, Int.cast_ofNat_Int, c_0, c_1, Int.natCast_add, Int.add_zero, cond_true, cond_false, Bool.and_self, Bool.and_true, Bool.true_and, Option.bind_some, decide_true, uI_hit, uI_miss, uI_o, uA_o, uA_s, ↓reduceIte, eq_self, true_or, or_true, or_false, false_or, true_and, and_true, false_and, and_false, or_self, and_self, not_false_eq_true, not_true_eq_false, tn_i, cq_in_y, r1]
        · have r0 : d 109 1 = iI (S.1 1) := hM.1.cell (j := 1) (by omega)
          have a1 : MA (uI (uI d 109 (60 + S.1 1).toNat (iI p)) 109 (54 + S.1 1).toNat (iI q)) 109 (aU (aU S.1 (60 + S.1 1) p) (54 + S.1 1) q) := (hM.1.put (by omega)).put (by omega)
          obtain ⟨d2, z1, z2, z3⟩ := mq_beginCat (e := e) a1 (c := S.1 1) (by omega)
          have c0 : d2 109 1 = iI (S.1 1) := by
            have := z2.cell (j := 1) (by omega)
            rw [aU_miss (by omega), aU_miss (by omega), aU_miss (by omega), aU_miss (by omega), aU_miss (by omega)] at this
            exact this
          refine ⟨uI d2 109 1 (iI (S.1 1 + 1)), e, ?_, (z2.put (k := 1) (k' := 1) rfl).ext (fun j _ _ => ?_), Kr.only (fun k hk => by rw [uI_o hk, z3 k hk, uI_o hk, uI_o hk])⟩
          · unfold FX11_cat
            simp (disch := omega) only [nI_iI, lN_lJ, iI_0, lJ_0, iI_add, iI_sub, iI_mul, iI_neg, lJ_add, lJ_sub, lJ_mul, lJ_neg, i_l, l_i, iI_cl, iI_inb, iI_eqT, iI_eqF, iI_ltT, iI_ltF, iI_leT, iI_leF, lJ_eqT, lJ_eqF, lJ_cG, lJ_cE, lJ_cL, lJ_cF, lJ_cGE, lJ_cLE, lJ_cNL, lJ_cNG, Int.cast_ofNat_Int, c_0, c_1, Int.natCast_add, Int.add_zero, cond_true, cond_false, Bool.and_self, Bool.and_true, Bool.true_and, Option.bind_some, decide_true, uI_hit, uI_miss, uI_o, uA_o, uA_s, ↓reduceIte, eq_self, true_or, or_true, or_false, false_or, true_and, and_true, false_and, and_false, or_self, and_self, not_false_eq_true, not_true_eq_false, tn_i, mq_isPlace_y, mq_in_y, r0, z1, c0]
          · unfold catOfS
            rw [aU_miss (j := 60 + S.1 1) (by omega), aU_hit (j := 60 + S.1 1) rfl]
      · refine ⟨S, (-1), hS, fun d e hC => ⟨d, e, ?_, hC, Fc.refl d⟩, fun d e hM => ⟨d, e, ?_, hM, Fm.refl d⟩, rfl, rfl, by omega, by omega⟩
        · have k9 : d 2 9 = iI (S.1 1) := hC.cn.2.1
          unfold FX10_cat FX2_bring
          simp (disch := omega) only [nI_iI, lN_lJ, iI_0, lJ_0, iI_add, iI_sub, iI_mul, iI_neg, lJ_add, lJ_sub, lJ_mul, lJ_neg, i_l, l_i, iI_cl, iI_inb, iI_eqT, iI_eqF, iI_ltT, iI_ltF, iI_leT, iI_leF, lJ_eqT, lJ_eqF, lJ_cG, lJ_cE, lJ_cL, lJ_cF, lJ_cGE, lJ_cLE, lJ_cNL, lJ_cNG, Int.cast_ofNat_Int, c_0, c_1, Int.natCast_add, Int.add_zero, cond_true, cond_false, Bool.and_self, Bool.and_true, Bool.true_and, Option.bind_some, decide_true, uI_hit, uI_miss, uI_o, uA_o, uA_s, ↓reduceIte, eq_self, true_or, or_true, or_false, false_or, true_and, and_true, false_and, and_false, or_self, and_self, not_false_eq_true, not_true_eq_false, tn_i, cq_in_y, k9]
        · have r0 : d 109 1 = iI (S.1 1) := hM.1.cell (j := 1) (by omega)
          have e6 : S.1 1 = 6 := by omega
          rw [e6] at r0
          unfold FX11_cat
          simp (disch := omega) only [nI_iI, lN_lJ, iI_0, lJ_0, iI_add, iI_sub, iI_mul, iI_neg, lJ_add, lJ_sub, lJ_mul, lJ_neg, i_l, l_i, iI_cl, iI_inb, iI_eqT, iI_eqF, iI_ltT, iI_ltF, iI_leT, iI_leF, lJ_eqT, lJ_eqF, lJ_cG, lJ_cE, lJ_cL, lJ_cF, lJ_cGE, lJ_cLE, lJ_cNL, lJ_cNG, Int.cast_ofNat_Int, c_0, c_1, Int.natCast_add, Int.add_zero, cond_true, cond_false, Bool.and_self, Bool.and_true, Bool.true_and, Option.bind_some, decide_true, uI_hit, uI_miss, uI_o, uA_o, uA_s, ↓reduceIte, eq_self, true_or, or_true, or_false, false_or, true_and, and_true, false_and, and_false, or_self, and_self, not_false_eq_true, not_true_eq_false, tn_i, mq_isPlace_y, mq_in_y, r0]
    · refine ⟨S, (-1), hS, fun d e hC => ⟨d, e, ?_, hC, Fc.refl d⟩, fun d e hM => ⟨d, e, ?_, hM, Fm.refl d⟩, rfl, rfl, by omega, by omega⟩
      · unfold FX10_cat
        simp (disch := omega) only [nI_iI, lN_lJ, iI_0, lJ_0, iI_add, iI_sub, iI_mul, iI_neg, lJ_add, lJ_sub, lJ_mul, lJ_neg, i_l, l_i, iI_cl, iI_inb, iI_eqT, iI_eqF, iI_ltT, iI_ltF, iI_leT, iI_leF, lJ_eqT, lJ_eqF, lJ_cG, lJ_cE, lJ_cL, lJ_cF, lJ_cGE, lJ_cLE, lJ_cNL, lJ_cNG, Int.cast_ofNat_Int, c_0, c_1, Int.natCast_add, Int.add_zero, cond_true, cond_false, Bool.and_self, Bool.and_true, Bool.true_and, Option.bind_some, decide_true, uI_hit, uI_miss, uI_o, uA_o, uA_s, ↓reduceIte, eq_self, true_or, or_true, or_false, false_or, true_and, and_true, false_and, and_false, or_self, and_self, not_false_eq_true, not_true_eq_false, tn_i, cq_in_y, cq_in_n]
      · unfold FX11_cat
        simp (disch := omega) only [nI_iI, lN_lJ, iI_0, lJ_0, iI_add, iI_sub, iI_mul, iI_neg, lJ_add, lJ_sub, lJ_mul, lJ_neg, i_l, l_i, iI_cl, iI_inb, iI_eqT, iI_eqF, iI_ltT, iI_ltF, iI_leT, iI_leF, lJ_eqT, lJ_eqF, lJ_cG, lJ_cE, lJ_cL, lJ_cF, lJ_cGE, lJ_cLE, lJ_cNL, lJ_cNG, Int.cast_ofNat_Int, c_0, c_1, Int.natCast_add, Int.add_zero, cond_true, cond_false, Bool.and_self, Bool.and_true, Bool.true_and, Option.bind_some, decide_true, uI_hit, uI_miss, uI_o, uA_o, uA_s, ↓reduceIte, eq_self, true_or, or_true, or_false, false_or, true_and, and_true, false_and, and_false, or_self, and_self, not_false_eq_true, not_true_eq_false, tn_i, mq_isPlace_y, mq_in_n]
  · refine ⟨S, (-1), hS, fun d e hC => ⟨d, e, ?_, hC, Fc.refl d⟩, fun d e hM => ⟨d, e, ?_, hM, Fm.refl d⟩, rfl, rfl, by omega, by omega⟩
    · unfold FX10_cat
      simp (disch := omega) only [nI_iI, lN_lJ, iI_0, lJ_0, iI_add, iI_sub, iI_mul, iI_neg, lJ_add, lJ_sub, lJ_mul, lJ_neg, i_l, l_i, iI_cl, iI_inb, iI_eqT, iI_eqF, iI_ltT, iI_ltF, iI_leT, iI_leF, lJ_eqT, lJ_eqF, lJ_cG, lJ_cE, lJ_cL, lJ_cF, lJ_cGE, lJ_cLE, lJ_cNL, lJ_cNG, Int.cast_ofNat_Int, c_0, c_1, Int.natCast_add, Int.add_zero, cond_true, cond_false, Bool.and_self, Bool.and_true, Bool.true_and, Option.bind_some, decide_true, uI_hit, uI_miss, uI_o, uA_o, uA_s, ↓reduceIte, eq_self, true_or, or_true, or_false, false_or, true_and, and_true, false_and, and_false, or_self, and_self, not_false_eq_true, not_true_eq_false, tn_i, cq_in_n]
    · unfold FX11_cat
      simp (disch := omega) only [nI_iI, lN_lJ, iI_0, lJ_0, iI_add, iI_sub, iI_mul, iI_neg, lJ_add, lJ_sub, lJ_mul, lJ_neg, i_l, l_i, iI_cl, iI_inb, iI_eqT, iI_eqF, iI_ltT, iI_ltF, iI_leT, iI_leF, lJ_eqT, lJ_eqF, lJ_cG, lJ_cE, lJ_cL, lJ_cF, lJ_cGE, lJ_cLE, lJ_cNL, lJ_cNG, Int.cast_ofNat_Int, c_0, c_1, Int.natCast_add, Int.add_zero, cond_true, cond_false, Bool.and_self, Bool.and_true, Bool.true_and, Option.bind_some, decide_true, uI_hit, uI_miss, uI_o, uA_o, uA_s, ↓reduceIte, eq_self, true_or, or_true, or_false, false_or, true_and, and_true, false_and, and_false, or_self, and_self, not_false_eq_true, not_true_eq_false, tn_i, mq_isPlace_n]
theorem o_house (x y : Int32) : Op (fun d e => FX10_house d e x y) (fun d e => FX11_house d e x y) := (k_house x y).op
theorem o_cat (x y : Int32) : Op (fun d e => FX10_cat d e x y) (fun d e => FX11_cat d e x y) := (k_cat x y).op
