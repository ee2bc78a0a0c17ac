/-! ===== seen, told, said, piece ===== -/
theorem n2S_o {A : Int → Int} {cnt base x y j : Int} (h : j ≠ cnt ∧ j ≠ base + 2 * A cnt ∧ j ≠ base + 2 * A cnt + 1) : n2S A cnt base x y j = A j := by
  unfold n2S
  rw [aU_miss h.1, aU_miss h.2.2, aU_miss h.2.1]
theorem n3S_o {A : Int → Int} {x y z j : Int} (h : j ≠ 8 ∧ j ≠ 112 + 3 * A 8 ∧ j ≠ 112 + 3 * A 8 + 1 ∧ j ≠ 112 + 3 * A 8 + 2) : n3S A x y z j = A j := by
  unfold n3S
  rw [aU_miss h.1, aU_miss h.2.2.2, aU_miss h.2.2.1, aU_miss h.2.1]
theorem SI.nts {A : Int → Int} (hS : SI A) : Nts A := hS.2.2.2.2.2
theorem o_seen (x y : Int32) : Op (fun d e => FX10_seen d e x y) (fun d e => FX11_seen d e x y) := by
  obtain ⟨h, rfl, h1, h2⟩ := iI_ex x
  obtain ⟨p, rfl, p1, p2⟩ := iI_ex y
  intro S hS
  have hN := hS.1.nts
  have b5 := hN.1.1
  have b6 := hN.2.1.1
  have b7 := hN.2.2.1.1
  have b8 := hN.2.2.2.1
  have hW := hS.1.1
  have w0 := hW.1
  have w1 := hW.2.1
  by_cases hm : h = -1
  · subst hm
    obtain ⟨k1, k2⟩ := wipe_ok5 hN
    refine Op.note (r := iI 0) hS k1 k2 (fun d e hC => ?_) (fun d e hM => ?_)
    · obtain ⟨m5, m6, m7, m8, m9⟩ := hC.nt
      have t2 := cq_wipe13 m5
      have f2 : ∀ k, k ≠ 13 → uI d 13 4 (iI 0) k = d k := fun k hk => uI_o hk
      refine ⟨uI d 13 4 (iI 0), e, ?_, hC.1.note hS.1 k1 (fun k a => f2 k (by omega)) (t2) (m6.far (fun k a b => f2 k (by omega)) (aU_miss (by omega)) (fun j hj => ⟨aU_miss (by omega), aU_miss (by omega)⟩)) (m7.far (fun k a b => f2 k (by omega)) (aU_miss (by omega)) (fun j hj => ⟨aU_miss (by omega), aU_miss (by omega)⟩)) (m8.far (fun k a b => f2 k (by omega)) (aU_miss (by omega)) (fun j hj => ⟨aU_miss (by omega), aU_miss (by omega)⟩)) (fun j hj => by rw [aU_miss (by omega)] at hj; rw [f2 28 (by omega), aU_miss (by omega)]; exact m9 j hj), fun k a => f2 k (by omega)⟩
      show FX10_seen d e (iI (-1)) (iI p) = _
      unfold FX10_seen FX10_tell
      simp (disch := omega) only [nI_iI, lN_lJ, iI_0, lJ_0, iI_add, iI_sub, iI_mul, iI_neg, lJ_add, lJ_sub, lJ_mul, lJ_neg, i_l, l_i, iI_cl, iI_inb, iI_eqT, iI_eqF, iI_ltT, iI_ltF, iI_leT, iI_leF, lJ_eqT, lJ_eqF, lJ_cG, lJ_cE, lJ_cL, lJ_cF, lJ_cGE, lJ_cLE, lJ_cNL, lJ_cNG, Int.cast_ofNat_Int, c_0, c_1, Int.natCast_add, Int.add_zero, cond_true, cond_false, Bool.and_self, Bool.and_true, Bool.true_and, Option.bind_some, decide_true, uI_hit, uI_miss, uI_o, uA_o, uA_s, ↓reduceIte, eq_self, true_or, or_true, or_false, false_or, true_and, and_true, false_and, and_false, or_self, and_self, not_false_eq_true, not_true_eq_false, tn_i, cq_in_n, decide_eq_true]
    · refine ⟨uI d 109 5 (iI 0), e, ?_, hM.1.put rfl, (Kr.refl d).put⟩
      show FX11_seen d e (iI (-1)) (iI p) = _
      unfold FX11_seen
      simp (disch := omega) only [nI_iI, lN_lJ, iI_0, lJ_0, iI_add, iI_sub, iI_mul, iI_neg, lJ_add, lJ_sub, lJ_mul, lJ_neg, i_l, l_i, iI_cl, iI_inb, iI_eqT, iI_eqF, iI_ltT, iI_ltF, iI_leT, iI_leF, lJ_eqT, lJ_eqF, lJ_cG, lJ_cE, lJ_cL, lJ_cF, lJ_cGE, lJ_cLE, lJ_cNL, lJ_cNG, Int.cast_ofNat_Int, c_0, c_1, Int.natCast_add, Int.add_zero, cond_true, cond_false, Bool.and_self, Bool.and_true, Bool.true_and, Option.bind_some, decide_true, uI_hit, uI_miss, uI_o, uA_o, uA_s, ↓reduceIte, eq_self, true_or, or_true, or_false, false_or, true_and, and_true, false_and, and_false, or_self, and_self, not_false_eq_true, not_true_eq_false, tn_i]
  · by_cases hv : (0 ≤ h ∧ h ≤ 99) ∧ (0 ≤ p ∧ p ≤ 9)
    · by_cases hf : S.1 5 < 10
      · obtain ⟨k1, k2⟩ := n2S_ok5 hN hv.1 hv.2 hf
        refine Op.note (r := iI (S.1 5 + 1)) hS k1 k2 (fun d e hC => ?_) (fun d e hM => ?_)
        · obtain ⟨m5, m6, m7, m8, m9⟩ := hC.nt
          obtain ⟨d', t1, t2, f2⟩ := cq_add13 (e := e) m5 (by omega) (x := h) (y := p)
          have q4 : d' 13 4 = iI (S.1 5 + 1) := by
            have := t2.2.1
            rw [show n2S S.1 5 66 h p 5 = S.1 5 + 1 from aU_hit rfl] at this
            exact this
          refine ⟨d', e, ?_, hC.1.note hS.1 k1 (fun k a => f2 k (by omega)) (t2) (m6.far (fun k a b => f2 k (by omega)) (n2S_o (by omega)) (fun j hj => ⟨n2S_o (by omega), n2S_o (by omega)⟩)) (m7.far (fun k a b => f2 k (by omega)) (n2S_o (by omega)) (fun j hj => ⟨n2S_o (by omega), n2S_o (by omega)⟩)) (m8.far (fun k a b => f2 k (by omega)) (n2S_o (by omega)) (fun j hj => ⟨n2S_o (by omega), n2S_o (by omega)⟩)) (fun j hj => by rw [n2S_o (j := 8) (by omega)] at hj; rw [f2 28 (by omega), n2S_o (by omega)]; exact m9 j hj), fun k a => f2 k (by omega)⟩
          show FX10_seen d e (iI h) (iI p) = _
          unfold FX10_seen FX10_tell
          simp (disch := omega) only [nI_iI, lN_lJ, iI_0, lJ_0, iI_add, iI_sub, iI_mul, iI_neg, lJ_add, lJ_sub, lJ_mul, lJ_neg, i_l, l_i, iI_cl, iI_inb, iI_eqT, iI_eqF, iI_ltT, iI_ltF, iI_leT, iI_leF, lJ_eqT, lJ_eqF, lJ_cG, lJ_cE, lJ_cL, lJ_cF, lJ_cGE, lJ_cLE, lJ_cNL, lJ_cNG, Int.cast_ofNat_Int, c_0, c_1, Int.natCast_add, Int.add_zero, cond_true, cond_false, Bool.and_self, Bool.and_true, Bool.true_and, Option.bind_some, decide_true, uI_hit, uI_miss, uI_o, uA_o, uA_s, ↓reduceIte, eq_self, true_or, or_true, or_false, false_or, true_and, and_true, false_and, and_false, or_self, and_self, not_false_eq_true, not_true_eq_false, tn_i, cq_in_y, t1, q4, decide_eq_true]
        · have r5 : d 109 5 = iI (S.1 5) := hM.1.cell (j := 5) (by omega)
          refine ⟨uI (uI (uI d 109 (66 + 2 * S.1 5).toNat (iI h)) 109 (66 + 2 * S.1 5 + 1).toNat (iI p)) 109 5 (iI (S.1 5 + 1)), e, ?_, ((hM.1.put (by omega)).put (by omega)).put rfl, (((Kr.refl d).put).put).put⟩
          show FX11_seen d e (iI h) (iI p) = _
          unfold FX11_seen
          simp (disch := omega) only [nI_iI, lN_lJ, iI_0, lJ_0, iI_add, iI_sub, iI_mul, iI_neg, lJ_add, lJ_sub, lJ_mul, lJ_neg, i_l, l_i, iI_cl, iI_inb, iI_eqT, iI_eqF, iI_ltT, iI_ltF, iI_leT, iI_leF, lJ_eqT, lJ_eqF, lJ_cG, lJ_cE, lJ_cL, lJ_cF, lJ_cGE, lJ_cLE, lJ_cNL, lJ_cNG, Int.cast_ofNat_Int, c_0, c_1, Int.natCast_add, Int.add_zero, cond_true, cond_false, Bool.and_self, Bool.and_true, Bool.true_and, Option.bind_some, decide_true, uI_hit, uI_miss, uI_o, uA_o, uA_s, ↓reduceIte, eq_self, true_or, or_true, or_false, false_or, true_and, and_true, false_and, and_false, or_self, and_self, not_false_eq_true, not_true_eq_false, tn_i, mq_in_y, mq_isPlace_y, r5]
      · refine ⟨S, iI (-2), hS, fun d e hC => ⟨d, e, ?_, hC, Fc.refl d⟩, fun d e hM => ⟨d, e, ?_, hM, Fm.refl d⟩⟩
        · obtain ⟨m5, m6, m7, m8, m9⟩ := hC.nt
          have q0 : d 13 0 = iI 10 := m5.1
          have q4 : d 13 4 = iI (S.1 5) := m5.2.1
          show FX10_seen d e (iI h) (iI p) = _
          unfold FX10_seen FX10_tell FX3_add
          simp (disch := omega) only [nI_iI, lN_lJ, iI_0, lJ_0, iI_add, iI_sub, iI_mul, iI_neg, lJ_add, lJ_sub, lJ_mul, lJ_neg, i_l, l_i, iI_cl, iI_inb, iI_eqT, iI_eqF, iI_ltT, iI_ltF, iI_leT, iI_leF, lJ_eqT, lJ_eqF, lJ_cG, lJ_cE, lJ_cL, lJ_cF, lJ_cGE, lJ_cLE, lJ_cNL, lJ_cNG, Int.cast_ofNat_Int, c_0, c_1, Int.natCast_add, Int.add_zero, cond_true, cond_false, Bool.and_self, Bool.and_true, Bool.true_and, Option.bind_some, decide_true, uI_hit, uI_miss, uI_o, uA_o, uA_s, ↓reduceIte, eq_self, true_or, or_true, or_false, false_or, true_and, and_true, false_and, and_false, or_self, and_self, not_false_eq_true, not_true_eq_false, tn_i, cq_in_y, q0, q4, decide_eq_true]
        · have r5 : d 109 5 = iI (S.1 5) := hM.1.cell (j := 5) (by omega)
          rw [show S.1 5 = 10 by omega] at r5
          show FX11_seen d e (iI h) (iI p) = _
          unfold FX11_seen
          simp (disch := omega) only [nI_iI, lN_lJ, iI_0, lJ_0, iI_add, iI_sub, iI_mul, iI_neg, lJ_add, lJ_sub, lJ_mul, lJ_neg, i_l, l_i, iI_cl, iI_inb, iI_eqT, iI_eqF, iI_ltT, iI_ltF, iI_leT, iI_leF, lJ_eqT, lJ_eqF, lJ_cG, lJ_cE, lJ_cL, lJ_cF, lJ_cGE, lJ_cLE, lJ_cNL, lJ_cNG, Int.cast_ofNat_Int, c_0, c_1, Int.natCast_add, Int.add_zero, cond_true, cond_false, Bool.and_self, Bool.and_true, Bool.true_and, Option.bind_some, decide_true, uI_hit, uI_miss, uI_o, uA_o, uA_s, ↓reduceIte, eq_self, true_or, or_true, or_false, false_or, true_and, and_true, false_and, and_false, or_self, and_self, not_false_eq_true, not_true_eq_false, tn_i, mq_in_y, mq_isPlace_y, r5]
    · refine ⟨S, iI (-2), hS, fun d e hC => ⟨d, e, ?_, hC, Fc.refl d⟩, fun d e hM => ⟨d, e, ?_, hM, Fm.refl d⟩⟩
      · show FX10_seen d e (iI h) (iI p) = _
        unfold FX10_seen FX10_tell
        by_cases h3 : 0 ≤ h ∧ h ≤ 99
        · simp (disch := omega) only [nI_iI, lN_lJ, iI_0, lJ_0, iI_add, iI_sub, iI_mul, iI_neg, lJ_add, lJ_sub, lJ_mul, lJ_neg, i_l, l_i, iI_cl, iI_inb, iI_eqT, iI_eqF, iI_ltT, iI_ltF, iI_leT, iI_leF, lJ_eqT, lJ_eqF, lJ_cG, lJ_cE, lJ_cL, lJ_cF, lJ_cGE, lJ_cLE, lJ_cNL, lJ_cNG, Int.cast_ofNat_Int, c_0, c_1, Int.natCast_add, Int.add_zero, cond_true, cond_false, Bool.and_self, Bool.and_true, Bool.true_and, Option.bind_some, decide_true, uI_hit, uI_miss, uI_o, uA_o, uA_s, ↓reduceIte, eq_self, true_or, or_true, or_false, false_or, true_and, and_true, false_and, and_false, or_self, and_self, not_false_eq_true, not_true_eq_false, tn_i, cq_in_y, cq_in_n, decide_eq_true]
        · simp (disch := omega) only [nI_iI, lN_lJ, iI_0, lJ_0, iI_add, iI_sub, iI_mul, iI_neg, lJ_add, lJ_sub, lJ_mul, lJ_neg, i_l, l_i, iI_cl, iI_inb, iI_eqT, iI_eqF, iI_ltT, iI_ltF, iI_leT, iI_leF, lJ_eqT, lJ_eqF, lJ_cG, lJ_cE, lJ_cL, lJ_cF, lJ_cGE, lJ_cLE, lJ_cNL, lJ_cNG, Int.cast_ofNat_Int, c_0, c_1, Int.natCast_add, Int.add_zero, cond_true, cond_false, Bool.and_self, Bool.and_true, Bool.true_and, Option.bind_some, decide_true, uI_hit, uI_miss, uI_o, uA_o, uA_s, ↓reduceIte, eq_self, true_or, or_true, or_false, false_or, true_and, and_true, false_and, and_false, or_self, and_self, not_false_eq_true, not_true_eq_false, tn_i, cq_in_n, decide_eq_true]
      · show FX11_seen d e (iI h) (iI p) = _
        unfold FX11_seen
        by_cases h3 : 0 ≤ h ∧ h ≤ 99
        · simp (disch := omega) only [nI_iI, lN_lJ, iI_0, lJ_0, iI_add, iI_sub, iI_mul, iI_neg, lJ_add, lJ_sub, lJ_mul, lJ_neg, i_l, l_i, iI_cl, iI_inb, iI_eqT, iI_eqF, iI_ltT, iI_ltF, iI_leT, iI_leF, lJ_eqT, lJ_eqF, lJ_cG, lJ_cE, lJ_cL, lJ_cF, lJ_cGE, lJ_cLE, lJ_cNL, lJ_cNG, Int.cast_ofNat_Int, c_0, c_1, Int.natCast_add, Int.add_zero, cond_true, cond_false, Bool.and_self, Bool.and_true, Bool.true_and, Option.bind_some, decide_true, uI_hit, uI_miss, uI_o, uA_o, uA_s, ↓reduceIte, eq_self, true_or, or_true, or_false, false_or, true_and, and_true, false_and, and_false, or_self, and_self, not_false_eq_true, not_true_eq_false, tn_i, mq_in_y, mq_isPlace_n]
        · simp (disch := omega) only [nI_iI, lN_lJ, iI_0, lJ_0, iI_add, iI_sub, iI_mul, iI_neg, lJ_add, lJ_sub, lJ_mul, lJ_neg, i_l, l_i, iI_cl, iI_inb, iI_eqT, iI_eqF, iI_ltT, iI_ltF, iI_leT, iI_leF, lJ_eqT, lJ_eqF, lJ_cG, lJ_cE, lJ_cL, lJ_cF, lJ_cGE, lJ_cLE, lJ_cNL, lJ_cNG, Int.cast_ofNat_Int, c_0, c_1, Int.natCast_add, Int.add_zero, cond_true, cond_false, Bool.and_self, Bool.and_true, Bool.true_and, Option.bind_some, decide_true, uI_hit, uI_miss, uI_o, uA_o, uA_s, ↓reduceIte, eq_self, true_or, or_true, or_false, false_or, true_and, and_true, false_and, and_false, or_self, and_self, not_false_eq_true, not_true_eq_false, tn_i, mq_in_n]
theorem o_told (x y : Int32) : Op (fun d e => FX10_told d e x y) (fun d e => FX11_told d e x y) := by
  obtain ⟨h, rfl, h1, h2⟩ := iI_ex x
  obtain ⟨g, rfl, g1, g2⟩ := iI_ex y
  intro S hS
  have hN := hS.1.nts
  have b5 := hN.1.1
  have b6 := hN.2.1.1
  have b7 := hN.2.2.1.1
  have b8 := hN.2.2.2.1
  have hW := hS.1.1
  have w0 := hW.1
  have w1 := hW.2.1
  by_cases hm : h = -1
  · subst hm
    obtain ⟨k1, k2⟩ := wipe_ok6 hN
    refine Op.note (r := iI 0) hS k1 k2 (fun d e hC => ?_) (fun d e hM => ?_)
    · obtain ⟨m5, m6, m7, m8, m9⟩ := hC.nt
      have t2 := cq_wipe17 m6
      have f2 : ∀ k, k ≠ 17 → uI d 17 4 (iI 0) k = d k := fun k hk => uI_o hk
      refine ⟨uI d 17 4 (iI 0), e, ?_, hC.1.note hS.1 k1 (fun k a => f2 k (by omega)) (m5.far (fun k a b => f2 k (by omega)) (aU_miss (by omega)) (fun j hj => ⟨aU_miss (by omega), aU_miss (by omega)⟩)) (t2) (m7.far (fun k a b => f2 k (by omega)) (aU_miss (by omega)) (fun j hj => ⟨aU_miss (by omega), aU_miss (by omega)⟩)) (m8.far (fun k a b => f2 k (by omega)) (aU_miss (by omega)) (fun j hj => ⟨aU_miss (by omega), aU_miss (by omega)⟩)) (fun j hj => by rw [aU_miss (by omega)] at hj; rw [f2 28 (by omega), aU_miss (by omega)]; exact m9 j hj), fun k a => f2 k (by omega)⟩
      show FX10_told d e (iI (-1)) (iI g) = _
      unfold FX10_told FX10_tell
      simp (disch := omega) only [nI_iI, lN_lJ, iI_0, lJ_0, iI_add, iI_sub, iI_mul, iI_neg, lJ_add, lJ_sub, lJ_mul, lJ_neg, i_l, l_i, iI_cl, iI_inb, iI_eqT, iI_eqF, iI_ltT, iI_ltF, iI_leT, iI_leF, lJ_eqT, lJ_eqF, lJ_cG, lJ_cE, lJ_cL, lJ_cF, lJ_cGE, lJ_cLE, lJ_cNL, lJ_cNG, Int.cast_ofNat_Int, c_0, c_1, Int.natCast_add, Int.add_zero, cond_true, cond_false, Bool.and_self, Bool.and_true, Bool.true_and, Option.bind_some, decide_true, uI_hit, uI_miss, uI_o, uA_o, uA_s, ↓reduceIte, eq_self, true_or, or_true, or_false, false_or, true_and, and_true, false_and, and_false, or_self, and_self, not_false_eq_true, not_true_eq_false, tn_i, cq_isHouse_n hC.cn hW, decide_eq_true]
    · refine ⟨uI d 109 6 (iI 0), e, ?_, hM.1.put rfl, (Kr.refl d).put⟩
      show FX11_told d e (iI (-1)) (iI g) = _
      unfold FX11_told
      simp (disch := omega) only [nI_iI, lN_lJ, iI_0, lJ_0, iI_add, iI_sub, iI_mul, iI_neg, lJ_add, lJ_sub, lJ_mul, lJ_neg, i_l, l_i, iI_cl, iI_inb, iI_eqT, iI_eqF, iI_ltT, iI_ltF, iI_leT, iI_leF, lJ_eqT, lJ_eqF, lJ_cG, lJ_cE, lJ_cL, lJ_cF, lJ_cGE, lJ_cLE, lJ_cNL, lJ_cNG, Int.cast_ofNat_Int, c_0, c_1, Int.natCast_add, Int.add_zero, cond_true, cond_false, Bool.and_self, Bool.and_true, Bool.true_and, Option.bind_some, decide_true, uI_hit, uI_miss, uI_o, uA_o, uA_s, ↓reduceIte, eq_self, true_or, or_true, or_false, false_or, true_and, and_true, false_and, and_false, or_self, and_self, not_false_eq_true, not_true_eq_false, tn_i]
  · by_cases hv : (0 ≤ h ∧ h < S.1 0) ∧ (0 ≤ g ∧ g ≤ 99)
    · by_cases hf : S.1 6 < 8
      · obtain ⟨k1, k2⟩ := n2S_ok6 hN hv.1 hv.2 hf
        refine Op.note (r := iI (S.1 6 + 1)) hS k1 k2 (fun d e hC => ?_) (fun d e hM => ?_)
        · obtain ⟨m5, m6, m7, m8, m9⟩ := hC.nt
          obtain ⟨d', t1, t2, f2⟩ := cq_add17 (e := e) m6 (by omega) (x := h) (y := g)
          have q4 : d' 17 4 = iI (S.1 6 + 1) := by
            have := t2.2.1
            rw [show n2S S.1 6 86 h g 6 = S.1 6 + 1 from aU_hit rfl] at this
            exact this
          refine ⟨d', e, ?_, hC.1.note hS.1 k1 (fun k a => f2 k (by omega)) (m5.far (fun k a b => f2 k (by omega)) (n2S_o (by omega)) (fun j hj => ⟨n2S_o (by omega), n2S_o (by omega)⟩)) (t2) (m7.far (fun k a b => f2 k (by omega)) (n2S_o (by omega)) (fun j hj => ⟨n2S_o (by omega), n2S_o (by omega)⟩)) (m8.far (fun k a b => f2 k (by omega)) (n2S_o (by omega)) (fun j hj => ⟨n2S_o (by omega), n2S_o (by omega)⟩)) (fun j hj => by rw [n2S_o (j := 8) (by omega)] at hj; rw [f2 28 (by omega), n2S_o (by omega)]; exact m9 j hj), fun k a => f2 k (by omega)⟩
          show FX10_told d e (iI h) (iI g) = _
          unfold FX10_told FX10_tell
          simp (disch := omega) only [nI_iI, lN_lJ, iI_0, lJ_0, iI_add, iI_sub, iI_mul, iI_neg, lJ_add, lJ_sub, lJ_mul, lJ_neg, i_l, l_i, iI_cl, iI_inb, iI_eqT, iI_eqF, iI_ltT, iI_ltF, iI_leT, iI_leF, lJ_eqT, lJ_eqF, lJ_cG, lJ_cE, lJ_cL, lJ_cF, lJ_cGE, lJ_cLE, lJ_cNL, lJ_cNG, Int.cast_ofNat_Int, c_0, c_1, Int.natCast_add, Int.add_zero, cond_true, cond_false, Bool.and_self, Bool.and_true, Bool.true_and, Option.bind_some, decide_true, uI_hit, uI_miss, uI_o, uA_o, uA_s, ↓reduceIte, eq_self, true_or, or_true, or_false, false_or, true_and, and_true, false_and, and_false, or_self, and_self, not_false_eq_true, not_true_eq_false, tn_i, cq_isHouse_y hC.cn hW, cq_in_y, t1, q4, decide_eq_true]
        · have r6 : d 109 6 = iI (S.1 6) := hM.1.cell (j := 6) (by omega)
          refine ⟨uI (uI (uI d 109 (86 + 2 * S.1 6).toNat (iI h)) 109 (86 + 2 * S.1 6 + 1).toNat (iI g)) 109 6 (iI (S.1 6 + 1)), e, ?_, ((hM.1.put (by omega)).put (by omega)).put rfl, (((Kr.refl d).put).put).put⟩
          show FX11_told d e (iI h) (iI g) = _
          unfold FX11_told
          simp (disch := omega) only [nI_iI, lN_lJ, iI_0, lJ_0, iI_add, iI_sub, iI_mul, iI_neg, lJ_add, lJ_sub, lJ_mul, lJ_neg, i_l, l_i, iI_cl, iI_inb, iI_eqT, iI_eqF, iI_ltT, iI_ltF, iI_leT, iI_leF, lJ_eqT, lJ_eqF, lJ_cG, lJ_cE, lJ_cL, lJ_cF, lJ_cGE, lJ_cLE, lJ_cNL, lJ_cNG, Int.cast_ofNat_Int, c_0, c_1, Int.natCast_add, Int.add_zero, cond_true, cond_false, Bool.and_self, Bool.and_true, Bool.true_and, Option.bind_some, decide_true, uI_hit, uI_miss, uI_o, uA_o, uA_s, ↓reduceIte, eq_self, true_or, or_true, or_false, false_or, true_and, and_true, false_and, and_false, or_self, and_self, not_false_eq_true, not_true_eq_false, tn_i, mq_isHouse_y hM.1 hW, mq_in_y, r6]
      · refine ⟨S, iI (-2), hS, fun d e hC => ⟨d, e, ?_, hC, Fc.refl d⟩, fun d e hM => ⟨d, e, ?_, hM, Fm.refl d⟩⟩
        · obtain ⟨m5, m6, m7, m8, m9⟩ := hC.nt
          have q0 : d 17 0 = iI 8 := m6.1
          have q4 : d 17 4 = iI (S.1 6) := m6.2.1
          show FX10_told d e (iI h) (iI g) = _
          unfold FX10_told FX10_tell FX3_add
          simp (disch := omega) only [nI_iI, lN_lJ, iI_0, lJ_0, iI_add, iI_sub, iI_mul, iI_neg, lJ_add, lJ_sub, lJ_mul, lJ_neg, i_l, l_i, iI_cl, iI_inb, iI_eqT, iI_eqF, iI_ltT, iI_ltF, iI_leT, iI_leF, lJ_eqT, lJ_eqF, lJ_cG, lJ_cE, lJ_cL, lJ_cF, lJ_cGE, lJ_cLE, lJ_cNL, lJ_cNG, Int.cast_ofNat_Int, c_0, c_1, Int.natCast_add, Int.add_zero, cond_true, cond_false, Bool.and_self, Bool.and_true, Bool.true_and, Option.bind_some, decide_true, uI_hit, uI_miss, uI_o, uA_o, uA_s, ↓reduceIte, eq_self, true_or, or_true, or_false, false_or, true_and, and_true, false_and, and_false, or_self, and_self, not_false_eq_true, not_true_eq_false, tn_i, cq_isHouse_y hC.cn hW, cq_in_y, q0, q4, decide_eq_true]
        · have r6 : d 109 6 = iI (S.1 6) := hM.1.cell (j := 6) (by omega)
          rw [show S.1 6 = 8 by omega] at r6
          show FX11_told d e (iI h) (iI g) = _
          unfold FX11_told
          simp (disch := omega) only [nI_iI, lN_lJ, iI_0, lJ_0, iI_add, iI_sub, iI_mul, iI_neg, lJ_add, lJ_sub, lJ_mul, lJ_neg, i_l, l_i, iI_cl, iI_inb, iI_eqT, iI_eqF, iI_ltT, iI_ltF, iI_leT, iI_leF, lJ_eqT, lJ_eqF, lJ_cG, lJ_cE, lJ_cL, lJ_cF, lJ_cGE, lJ_cLE, lJ_cNL, lJ_cNG, Int.cast_ofNat_Int, c_0, c_1, Int.natCast_add, Int.add_zero, cond_true, cond_false, Bool.and_self, Bool.and_true, Bool.true_and, Option.bind_some, decide_true, uI_hit, uI_miss, uI_o, uA_o, uA_s, ↓reduceIte, eq_self, true_or, or_true, or_false, false_or, true_and, and_true, false_and, and_false, or_self, and_self, not_false_eq_true, not_true_eq_false, tn_i, mq_isHouse_y hM.1 hW, mq_in_y, r6]
    · refine ⟨S, iI (-2), hS, fun d e hC => ⟨d, e, ?_, hC, Fc.refl d⟩, fun d e hM => ⟨d, e, ?_, hM, Fm.refl d⟩⟩
      · show FX10_told d e (iI h) (iI g) = _
        unfold FX10_told FX10_tell
        by_cases h3 : 0 ≤ h ∧ h < S.1 0
        · simp (disch := omega) only [nI_iI, lN_lJ, iI_0, lJ_0, iI_add, iI_sub, iI_mul, iI_neg, lJ_add, lJ_sub, lJ_mul, lJ_neg, i_l, l_i, iI_cl, iI_inb, iI_eqT, iI_eqF, iI_ltT, iI_ltF, iI_leT, iI_leF, lJ_eqT, lJ_eqF, lJ_cG, lJ_cE, lJ_cL, lJ_cF, lJ_cGE, lJ_cLE, lJ_cNL, lJ_cNG, Int.cast_ofNat_Int, c_0, c_1, Int.natCast_add, Int.add_zero, cond_true, cond_false, Bool.and_self, Bool.and_true, Bool.true_and, Option.bind_some, decide_true, uI_hit, uI_miss, uI_o, uA_o, uA_s, ↓reduceIte, eq_self, true_or, or_true, or_false, false_or, true_and, and_true, false_and, and_false, or_self, and_self, not_false_eq_true, not_true_eq_false, tn_i, cq_isHouse_y hC.cn hW, cq_in_n, decide_eq_true]
        · simp (disch := omega) only [nI_iI, lN_lJ, iI_0, lJ_0, iI_add, iI_sub, iI_mul, iI_neg, lJ_add, lJ_sub, lJ_mul, lJ_neg, i_l, l_i, iI_cl, iI_inb, iI_eqT, iI_eqF, iI_ltT, iI_ltF, iI_leT, iI_leF, lJ_eqT, lJ_eqF, lJ_cG, lJ_cE, lJ_cL, lJ_cF, lJ_cGE, lJ_cLE, lJ_cNL, lJ_cNG, Int.cast_ofNat_Int, c_0, c_1, Int.natCast_add, Int.add_zero, cond_true, cond_false, Bool.and_self, Bool.and_true, Bool.true_and, Option.bind_some, decide_true, uI_hit, uI_miss, uI_o, uA_o, uA_s, ↓reduceIte, eq_self, true_or, or_true, or_false, false_or, true_and, and_true, false_and, and_false, or_self, and_self, not_false_eq_true, not_true_eq_false, tn_i, cq_isHouse_n hC.cn hW, decide_eq_true]
      · show FX11_told d e (iI h) (iI g) = _
        unfold FX11_told
        by_cases h3 : 0 ≤ h ∧ h < S.1 0
        · simp (disch := omega) only [nI_iI, lN_lJ, iI_0, lJ_0, iI_add, iI_sub, iI_mul, iI_neg, lJ_add, lJ_sub, lJ_mul, lJ_neg, i_l, l_i, iI_cl, iI_inb, iI_eqT, iI_eqF, iI_ltT, iI_ltF, iI_leT, iI_leF, lJ_eqT, lJ_eqF, lJ_cG, lJ_cE, lJ_cL, lJ_cF, lJ_cGE, lJ_cLE, lJ_cNL, lJ_cNG, Int.cast_ofNat_Int, c_0, c_1, Int.natCast_add, Int.add_zero, cond_true, cond_false, Bool.and_self, Bool.and_true, Bool.true_and, Option.bind_some, decide_true, uI_hit, uI_miss, uI_o, uA_o, uA_s, ↓reduceIte, eq_self, true_or, or_true, or_false, false_or, true_and, and_true, false_and, and_false, or_self, and_self, not_false_eq_true, not_true_eq_false, tn_i, mq_isHouse_y hM.1 hW, mq_in_n]
        · simp (disch := omega) only [nI_iI, lN_lJ, iI_0, lJ_0, iI_add, iI_sub, iI_mul, iI_neg, lJ_add, lJ_sub, lJ_mul, lJ_neg, i_l, l_i, iI_cl, iI_inb, iI_eqT, iI_eqF, iI_ltT, iI_ltF, iI_leT, iI_leF, lJ_eqT, lJ_eqF, lJ_cG, lJ_cE, lJ_cL, lJ_cF, lJ_cGE, lJ_cLE, lJ_cNL, lJ_cNG, Int.cast_ofNat_Int, c_0, c_1, Int.natCast_add, Int.add_zero, cond_true, cond_false, Bool.and_self, Bool.and_true, Bool.true_and, Option.bind_some, decide_true, uI_hit, uI_miss, uI_o, uA_o, uA_s, ↓reduceIte, eq_self, true_or, or_true, or_false, false_or, true_and, and_true, false_and, and_false, or_self, and_self, not_false_eq_true, not_true_eq_false, tn_i, mq_isHouse_n hM.1 hW]
theorem o_said (x y z : Int32) : Op (fun d e => FX10_said d e x y z) (fun d e => FX11_said d e x y z) := by
  obtain ⟨c, rfl, c1, c2⟩ := iI_ex x
  obtain ⟨h, rfl, h1, h2⟩ := iI_ex y
  obtain ⟨g, rfl, g1, g2⟩ := iI_ex z
  intro S hS
  have hN := hS.1.nts
  have b5 := hN.1.1
  have b6 := hN.2.1.1
  have b7 := hN.2.2.1.1
  have b8 := hN.2.2.2.1
  have hW := hS.1.1
  have w0 := hW.1
  have w1 := hW.2.1
  by_cases hm : c = -1
  · subst hm
    obtain ⟨k1, k2⟩ := wipe_ok8 hN
    refine Op.note (r := iI 0) hS k1 k2 (fun d e hC => ?_) (fun d e hM => ?_)
    · obtain ⟨m5, m6, m7, m8, m9⟩ := hC.nt
      have t2 := cq_wipe25 m8
      have f2 : ∀ k, k ≠ 25 → uI d 25 4 (iI 0) k = d k := fun k hk => uI_o hk
      refine ⟨uI d 25 4 (iI 0), e, ?_, hC.1.note hS.1 k1 (fun k a => f2 k (by omega)) (m5.far (fun k a b => f2 k (by omega)) (aU_miss (by omega)) (fun j hj => ⟨aU_miss (by omega), aU_miss (by omega)⟩)) (m6.far (fun k a b => f2 k (by omega)) (aU_miss (by omega)) (fun j hj => ⟨aU_miss (by omega), aU_miss (by omega)⟩)) (m7.far (fun k a b => f2 k (by omega)) (aU_miss (by omega)) (fun j hj => ⟨aU_miss (by omega), aU_miss (by omega)⟩)) (t2) (fun j hj => by rw [aU_hit rfl] at hj; omega), fun k a => f2 k (by omega)⟩
      show FX10_said d e (iI (-1)) (iI h) (iI g) = _
      unfold FX10_said FX10_tell
      simp (disch := omega) only [nI_iI, lN_lJ, iI_0, lJ_0, iI_add, iI_sub, iI_mul, iI_neg, lJ_add, lJ_sub, lJ_mul, lJ_neg, i_l, l_i, iI_cl, iI_inb, iI_eqT, iI_eqF, iI_ltT, iI_ltF, iI_leT, iI_leF, lJ_eqT, lJ_eqF, lJ_cG, lJ_cE, lJ_cL, lJ_cF, lJ_cGE, lJ_cLE, lJ_cNL, lJ_cNG, Int.cast_ofNat_Int, c_0, c_1, Int.natCast_add, Int.add_zero, cond_true, cond_false, Bool.and_self, Bool.and_true, Bool.true_and, Option.bind_some, decide_true, uI_hit, uI_miss, uI_o, uA_o, uA_s, ↓reduceIte, eq_self, true_or, or_true, or_false, false_or, true_and, and_true, false_and, and_false, or_self, and_self, not_false_eq_true, not_true_eq_false, tn_i, cq_isCat_n hC.cn hW, decide_eq_true]
    · refine ⟨uI d 109 8 (iI 0), e, ?_, hM.1.put rfl, (Kr.refl d).put⟩
      show FX11_said d e (iI (-1)) (iI h) (iI g) = _
      unfold FX11_said
      simp (disch := omega) only [nI_iI, lN_lJ, iI_0, lJ_0, iI_add, iI_sub, iI_mul, iI_neg, lJ_add, lJ_sub, lJ_mul, lJ_neg, i_l, l_i, iI_cl, iI_inb, iI_eqT, iI_eqF, iI_ltT, iI_ltF, iI_leT, iI_leF, lJ_eqT, lJ_eqF, lJ_cG, lJ_cE, lJ_cL, lJ_cF, lJ_cGE, lJ_cLE, lJ_cNL, lJ_cNG, Int.cast_ofNat_Int, c_0, c_1, Int.natCast_add, Int.add_zero, cond_true, cond_false, Bool.and_self, Bool.and_true, Bool.true_and, Option.bind_some, decide_true, uI_hit, uI_miss, uI_o, uA_o, uA_s, ↓reduceIte, eq_self, true_or, or_true, or_false, false_or, true_and, and_true, false_and, and_false, or_self, and_self, not_false_eq_true, not_true_eq_false, tn_i]
  · by_cases hv : (0 ≤ c ∧ c < S.1 1) ∧ (0 ≤ h ∧ h < S.1 0) ∧ (0 ≤ g ∧ g ≤ 99)
    · by_cases hf : S.1 8 < 8
      · obtain ⟨k1, k2⟩ := n3S_ok hN hv.1 hv.2.1 hv.2.2 hf
        refine Op.note (r := iI (S.1 8 + 1)) hS k1 k2 (fun d e hC => ?_) (fun d e hM => ?_)
        · obtain ⟨m5, m6, m7, m8, m9⟩ := hC.nt
          obtain ⟨d', t1, t2, t3, f2⟩ := cq_add25 (e := e) m8 m9 (by omega) (x := c) (y := h) (z := g)
          have q4 : d' 25 4 = iI (S.1 8 + 1) := by
            have := t2.2.1
            rw [show n3S S.1 c h g 8 = S.1 8 + 1 from aU_hit rfl] at this
            exact this
          refine ⟨d', e, ?_, hC.1.note hS.1 k1 (fun k a => f2 k (by omega)) (m5.far (fun k a b => f2 k (by omega)) (n3S_o (by omega)) (fun j hj => ⟨n3S_o (by omega), n3S_o (by omega)⟩)) (m6.far (fun k a b => f2 k (by omega)) (n3S_o (by omega)) (fun j hj => ⟨n3S_o (by omega), n3S_o (by omega)⟩)) (m7.far (fun k a b => f2 k (by omega)) (n3S_o (by omega)) (fun j hj => ⟨n3S_o (by omega), n3S_o (by omega)⟩)) (t2) (t3), fun k a => f2 k (by omega)⟩
          show FX10_said d e (iI c) (iI h) (iI g) = _
          unfold FX10_said FX10_tell
          simp (disch := omega) only [nI_iI, lN_lJ, iI_0, lJ_0, iI_add, iI_sub, iI_mul, iI_neg, lJ_add, lJ_sub, lJ_mul, lJ_neg, i_l, l_i, iI_cl, iI_inb, iI_eqT, iI_eqF, iI_ltT, iI_ltF, iI_leT, iI_leF, lJ_eqT, lJ_eqF, lJ_cG, lJ_cE, lJ_cL, lJ_cF, lJ_cGE, lJ_cLE, lJ_cNL, lJ_cNG, Int.cast_ofNat_Int, c_0, c_1, Int.natCast_add, Int.add_zero, cond_true, cond_false, Bool.and_self, Bool.and_true, Bool.true_and, Option.bind_some, decide_true, uI_hit, uI_miss, uI_o, uA_o, uA_s, ↓reduceIte, eq_self, true_or, or_true, or_false, false_or, true_and, and_true, false_and, and_false, or_self, and_self, not_false_eq_true, not_true_eq_false, tn_i, cq_isCat_y hC.cn hW, cq_isHouse_y hC.cn hW, cq_in_y, t1, q4, decide_eq_true]
        · have r8 : d 109 8 = iI (S.1 8) := hM.1.cell (j := 8) (by omega)
          refine ⟨uI (uI (uI (uI d 109 (112 + 3 * S.1 8).toNat (iI c)) 109 (112 + 3 * S.1 8 + 1).toNat (iI h)) 109 (112 + 3 * S.1 8 + 2).toNat (iI g)) 109 8 (iI (S.1 8 + 1)), e, ?_, (((hM.1.put (by omega)).put (by omega)).put (by omega)).put rfl, ((((Kr.refl d).put).put).put).put⟩
          show FX11_said d e (iI c) (iI h) (iI g) = _
          unfold FX11_said
          simp (disch := omega) only [nI_iI, lN_lJ, iI_0, lJ_0, iI_add, iI_sub, iI_mul, iI_neg, lJ_add, lJ_sub, lJ_mul, lJ_neg, i_l, l_i, iI_cl, iI_inb, iI_eqT, iI_eqF, iI_ltT, iI_ltF, iI_leT, iI_leF, lJ_eqT, lJ_eqF, lJ_cG, lJ_cE, lJ_cL, lJ_cF, lJ_cGE, lJ_cLE, lJ_cNL, lJ_cNG, Int.cast_ofNat_Int, c_0, c_1, Int.natCast_add, Int.add_zero, cond_true, cond_false, Bool.and_self, Bool.and_true, Bool.true_and, Option.bind_some, decide_true, uI_hit, uI_miss, uI_o, uA_o, uA_s, ↓reduceIte, eq_self, true_or, or_true, or_false, false_or, true_and, and_true, false_and, and_false, or_self, and_self, not_false_eq_true, not_true_eq_false, tn_i, mq_isCat_y hM.1 hW, mq_isHouse_y hM.1 hW, mq_in_y, r8]
      · refine ⟨S, iI (-2), hS, fun d e hC => ⟨d, e, ?_, hC, Fc.refl d⟩, fun d e hM => ⟨d, e, ?_, hM, Fm.refl d⟩⟩
        · obtain ⟨m5, m6, m7, m8, m9⟩ := hC.nt
          have q0 : d 25 0 = iI 8 := m8.1
          have q4 : d 25 4 = iI (S.1 8) := m8.2.1
          show FX10_said d e (iI c) (iI h) (iI g) = _
          unfold FX10_said FX10_tell FX3_add
          simp (disch := omega) only [nI_iI, lN_lJ, iI_0, lJ_0, iI_add, iI_sub, iI_mul, iI_neg, lJ_add, lJ_sub, lJ_mul, lJ_neg, i_l, l_i, iI_cl, iI_inb, iI_eqT, iI_eqF, iI_ltT, iI_ltF, iI_leT, iI_leF, lJ_eqT, lJ_eqF, lJ_cG, lJ_cE, lJ_cL, lJ_cF, lJ_cGE, lJ_cLE, lJ_cNL, lJ_cNG, Int.cast_ofNat_Int, c_0, c_1, Int.natCast_add, Int.add_zero, cond_true, cond_false, Bool.and_self, Bool.and_true, Bool.true_and, Option.bind_some, decide_true, uI_hit, uI_miss, uI_o, uA_o, uA_s, ↓reduceIte, eq_self, true_or, or_true, or_false, false_or, true_and, and_true, false_and, and_false, or_self, and_self, not_false_eq_true, not_true_eq_false, tn_i, cq_isCat_y hC.cn hW, cq_isHouse_y hC.cn hW, cq_in_y, q0, q4, decide_eq_true]
        · have r8 : d 109 8 = iI (S.1 8) := hM.1.cell (j := 8) (by omega)
          rw [show S.1 8 = 8 by omega] at r8
          show FX11_said d e (iI c) (iI h) (iI g) = _
          unfold FX11_said
          simp (disch := omega) only [nI_iI, lN_lJ, iI_0, lJ_0, iI_add, iI_sub, iI_mul, iI_neg, lJ_add, lJ_sub, lJ_mul, lJ_neg, i_l, l_i, iI_cl, iI_inb, iI_eqT, iI_eqF, iI_ltT, iI_ltF, iI_leT, iI_leF, lJ_eqT, lJ_eqF, lJ_cG, lJ_cE, lJ_cL, lJ_cF, lJ_cGE, lJ_cLE, lJ_cNL, lJ_cNG, Int.cast_ofNat_Int, c_0, c_1, Int.natCast_add, Int.add_zero, cond_true, cond_false, Bool.and_self, Bool.and_true, Bool.true_and, Option.bind_some, decide_true, uI_hit, uI_miss, uI_o, uA_o, uA_s, ↓reduceIte, eq_self, true_or, or_true, or_false, false_or, true_and, and_true, false_and, and_false, or_self, and_self, not_false_eq_true, not_true_eq_false, tn_i, mq_isCat_y hM.1 hW, mq_isHouse_y hM.1 hW, mq_in_y, r8]
    · refine ⟨S, iI (-2), hS, fun d e hC => ⟨d, e, ?_, hC, Fc.refl d⟩, fun d e hM => ⟨d, e, ?_, hM, Fm.refl d⟩⟩
      · show FX10_said d e (iI c) (iI h) (iI g) = _
        unfold FX10_said FX10_tell
        by_cases h3 : 0 ≤ c ∧ c < S.1 1
        · by_cases h4 : 0 ≤ h ∧ h < S.1 0
          · simp (disch := omega) only [nI_iI, lN_lJ, iI_0, lJ_0, iI_add, iI_sub, iI_mul, iI_neg, lJ_add, lJ_sub, lJ_mul, lJ_neg, i_l, l_i, iI_cl, iI_inb, iI_eqT, iI_eqF, iI_ltT, iI_ltF, iI_leT, iI_leF, lJ_eqT, lJ_eqF, lJ_cG, lJ_cE, lJ_cL, lJ_cF, lJ_cGE, lJ_cLE, lJ_cNL, lJ_cNG, Int.cast_ofNat_Int, c_0, c_1, Int.natCast_add, Int.add_zero, cond_true, cond_false, Bool.and_self, Bool.and_true, Bool.true_and, Option.bind_some, decide_true, uI_hit, uI_miss, uI_o, uA_o, uA_s, ↓reduceIte, eq_self, true_or, or_true, or_false, false_or, true_and, and_true, false_and, and_false, or_self, and_self, not_false_eq_true, not_true_eq_false, tn_i, cq_isCat_y hC.cn hW, cq_isHouse_y hC.cn hW, cq_in_n, decide_eq_true]
          · simp (disch := omega) only [nI_iI, lN_lJ, iI_0, lJ_0, iI_add, iI_sub, iI_mul, iI_neg, lJ_add, lJ_sub, lJ_mul, lJ_neg, i_l, l_i, iI_cl, iI_inb, iI_eqT, iI_eqF, iI_ltT, iI_ltF, iI_leT, iI_leF, lJ_eqT, lJ_eqF, lJ_cG, lJ_cE, lJ_cL, lJ_cF, lJ_cGE, lJ_cLE, lJ_cNL, lJ_cNG, Int.cast_ofNat_Int, c_0, c_1, Int.natCast_add, Int.add_zero, cond_true, cond_false, Bool.and_self, Bool.and_true, Bool.true_and, Option.bind_some, decide_true, uI_hit, uI_miss, uI_o, uA_o, uA_s, ↓reduceIte, eq_self, true_or, or_true, or_false, false_or, true_and, and_true, false_and, and_false, or_self, and_self, not_false_eq_true, not_true_eq_false, tn_i, cq_isCat_y hC.cn hW, cq_isHouse_n hC.cn hW, decide_eq_true]
        · simp (disch := omega) only [nI_iI, lN_lJ, iI_0, lJ_0, iI_add, iI_sub, iI_mul, iI_neg, lJ_add, lJ_sub, lJ_mul, lJ_neg, i_l, l_i, iI_cl, iI_inb, iI_eqT, iI_eqF, iI_ltT, iI_ltF, iI_leT, iI_leF, lJ_eqT, lJ_eqF, lJ_cG, lJ_cE, lJ_cL, lJ_cF, lJ_cGE, lJ_cLE, lJ_cNL, lJ_cNG, Int.cast_ofNat_Int, c_0, c_1, Int.natCast_add, Int.add_zero, cond_true, cond_false, Bool.and_self, Bool.and_true, Bool.true_and, Option.bind_some, decide_true, uI_hit, uI_miss, uI_o, uA_o, uA_s, ↓reduceIte, eq_self, true_or, or_true, or_false, false_or, true_and, and_true, false_and, and_false, or_self, and_self, not_false_eq_true, not_true_eq_false, tn_i, cq_isCat_n hC.cn hW, decide_eq_true]
      · show FX11_said d e (iI c) (iI h) (iI g) = _
        unfold FX11_said
        by_cases h3 : 0 ≤ c ∧ c < S.1 1
        · by_cases h4 : 0 ≤ h ∧ h < S.1 0
          · simp (disch := omega) only [nI_iI, lN_lJ, iI_0, lJ_0, iI_add, iI_sub, iI_mul, iI_neg, lJ_add, lJ_sub, lJ_mul, lJ_neg, i_l, l_i, iI_cl, iI_inb, iI_eqT, iI_eqF, iI_ltT, iI_ltF, iI_leT, iI_leF, lJ_eqT, lJ_eqF, lJ_cG, lJ_cE, lJ_cL, lJ_cF, lJ_cGE, lJ_cLE, lJ_cNL, lJ_cNG, Int.cast_ofNat_Int, c_0, c_1, Int.natCast_add, Int.add_zero, cond_true, cond_false, Bool.and_self, Bool.and_true, Bool.true_and, Option.bind_some, decide_true, uI_hit, uI_miss, uI_o, uA_o, uA_s, ↓reduceIte, eq_self, true_or, or_true, or_false, false_or, true_and, and_true, false_and, and_false, or_self, and_self, not_false_eq_true, not_true_eq_false, tn_i, mq_isCat_y hM.1 hW, mq_isHouse_y hM.1 hW, mq_in_n]
          · simp (disch := omega) only [nI_iI, lN_lJ, iI_0, lJ_0, iI_add, iI_sub, iI_mul, iI_neg, lJ_add, lJ_sub, lJ_mul, lJ_neg, i_l, l_i, iI_cl, iI_inb, iI_eqT, iI_eqF, iI_ltT, iI_ltF, iI_leT, iI_leF, lJ_eqT, lJ_eqF, lJ_cG, lJ_cE, lJ_cL, lJ_cF, lJ_cGE, lJ_cLE, lJ_cNL, lJ_cNG, Int.cast_ofNat_Int, c_0, c_1, Int.natCast_add, Int.add_zero, cond_true, cond_false, Bool.and_self, Bool.and_true, Bool.true_and, Option.bind_some, decide_true, uI_hit, uI_miss, uI_o, uA_o, uA_s, ↓reduceIte, eq_self, true_or, or_true, or_false, false_or, true_and, and_true, false_and, and_false, or_self, and_self, not_false_eq_true, not_true_eq_false, tn_i, mq_isCat_y hM.1 hW, mq_isHouse_n hM.1 hW]
        · simp (disch := omega) only [nI_iI, lN_lJ, iI_0, lJ_0, iI_add, iI_sub, iI_mul, iI_neg, lJ_add, lJ_sub, lJ_mul, lJ_neg, i_l, l_i, iI_cl, iI_inb, iI_eqT, iI_eqF, iI_ltT, iI_ltF, iI_leT, iI_leF, lJ_eqT, lJ_eqF, lJ_cG, lJ_cE, lJ_cL, lJ_cF, lJ_cGE, lJ_cLE, lJ_cNL, lJ_cNG, Int.cast_ofNat_Int, c_0, c_1, Int.natCast_add, Int.add_zero, cond_true, cond_false, Bool.and_self, Bool.and_true, Bool.true_and, Option.bind_some, decide_true, uI_hit, uI_miss, uI_o, uA_o, uA_s, ↓reduceIte, eq_self, true_or, or_true, or_false, false_or, true_and, and_true, false_and, and_false, or_self, and_self, not_false_eq_true, not_true_eq_false, tn_i, mq_isCat_n hM.1 hW]
