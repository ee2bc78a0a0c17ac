/-! ===== years: reference ===== -/
theorem md_let {d : aI} {e : aJ} {B : Int → Int} (hA : MA d 109 B) (hW : WN B) (hi : d 108 23 = iI 1) {c h : Int} (hr2 : -2147483648 ≤ c ∧ c < 2147483648 ∧ -2147483648 ≤ h ∧ h < 2147483648) : (canLetS B c h → FX11_canLet d e (iI c) (iI h) = some (iI 1, d, e) ∧ ∃ d', FX11_letNow d e (iI c) (iI h) = some ((), d', e) ∧ MA d' 109 (letS B c h) ∧ Kr d d') ∧ (¬canLetS B c h → FX11_canLet d e (iI c) (iI h) = some (iI 0, d, e) ∧ letS B c h = B) := by
  have g := mq_canLet (e := e) hA hW hr2
  refine ⟨fun q => ⟨g.1 q, ?_⟩, fun q => ⟨g.2 q, ?_⟩⟩
  · obtain ⟨d', r1, r2, r3⟩ := mq_letNow (e := e) hA hW q.1 q.2.1 q.2.2.2.2 hi
    refine ⟨d', r1, ?_, Kr.only r3⟩
    unfold letS
    rw [if_pos q]
    exact r2
  · unfold letS
    rw [if_neg q]
theorem md_leave {d : aI} {e : aJ} {B : Int → Int} (hA : MA d 109 B) (hW : WN B) (hi : d 108 23 = iI 1) {h : Int} (hh : 0 ≤ h ∧ h < B 0) : ∃ d', ((FX11_catIn d e (iI h)).bind fun q => if q.1 = -iI 1 then some ((), q.2.1, q.2.2) else (FX11_catIn q.2.1 q.2.2 (iI h)).bind fun q2 => (FX11_outNow q2.2.1 q2.2.2 q2.1 (iI 1)).bind fun q3 => some ((), q3.2.1, q3.2.2)) = some ((), d', e) ∧ MA d' 109 (leaveS B h) ∧ Kr d d' := by
  have w1 := hW.2.1
  unfold leaveS
  have g := mq_catIn (e := e) hA hW (h := h) (by omega)
  by_cases q2 : gst B h = -1
  · rw [if_neg (fun z => z.2 q2)]
    rw [q2] at g
    refine ⟨d, ?_, hA, Kr.refl d⟩
    simp (disch := omega) only [nI_iI, lN_lJ, iI_0, lJ_0, iI_add, iI_sub, iI_mul, iI_neg, lJ_add, lJ_sub, lJ_mul, lJ_neg, i_l, l_i, iI_cl, iI_inb, iI_eqT, iI_eqF, iI_ltT, iI_ltF, iI_leT, iI_leF, lJ_eqT, lJ_eqF, lJ_cG, lJ_cE, lJ_cL, lJ_cF, lJ_cGE, lJ_cLE, lJ_cNL, lJ_cNG, Int.cast_ofNat_Int, c_0, c_1, Int.natCast_add, Int.add_zero, cond_true, cond_false, Bool.and_self, Bool.and_true, Bool.true_and, Option.bind_some, decide_true, uI_hit, uI_miss, uI_o, uA_o, uA_s, ↓reduceIte, eq_self, true_or, or_true, or_false, false_or, true_and, and_true, false_and, and_false, or_self, and_self, not_false_eq_true, not_true_eq_false, tn_i, g]
  · rw [if_pos ⟨hh, q2⟩]
    obtain ⟨g0, g1, g2⟩ := gst_at hW q2
    obtain ⟨d', r1, r2, r3⟩ := mq_outNow (e := e) (b := true) hA hW (c := gst B h) ⟨g0, g1⟩ (by omega) (w := 1) (by omega) hi
    refine ⟨d', ?_, r2, Kr.only r3⟩
    simp (disch := omega) only [nI_iI, lN_lJ, iI_0, lJ_0, iI_add, iI_sub, iI_mul, iI_neg, lJ_add, lJ_sub, lJ_mul, lJ_neg, i_l, l_i, iI_cl, iI_inb, iI_eqT, iI_eqF, iI_ltT, iI_ltF, iI_leT, iI_leF, lJ_eqT, lJ_eqF, lJ_cG, lJ_cE, lJ_cL, lJ_cF, lJ_cGE, lJ_cLE, lJ_cNL, lJ_cNG, Int.cast_ofNat_Int, c_0, c_1, Int.natCast_add, Int.add_zero, cond_true, cond_false, Bool.and_self, Bool.and_true, Bool.true_and, Option.bind_some, decide_true, uI_hit, uI_miss, uI_o, uA_o, uA_s, ↓reduceIte, eq_self, true_or, or_true, or_false, false_or, true_and, and_true, false_and, and_false, or_self, and_self, not_false_eq_true, not_true_eq_false, tn_i, g, r1]
theorem md_walk {d : aI} {e : aJ} {B : Int → Int} (hA : MA d 109 B) (hW : WN B) {c : Int} (hr2 : -2147483648 ≤ c ∧ c < 2147483648) : ((0 ≤ c ∧ c < B 1) ∧ B (12 + 3 * c + 1) = -1 → FX11_canGo d e (iI c) = some (iI 1, d, e) ∧ ∀ up : Bool, ∃ d', FX11_goNow d e (iI c) (iI (tv up)) = some ((), d', e) ∧ MA d' 109 (walkS B c up) ∧ Kr d d') ∧ (¬((0 ≤ c ∧ c < B 1) ∧ B (12 + 3 * c + 1) = -1) → FX11_canGo d e (iI c) = some (iI 0, d, e) ∧ ∀ up : Bool, walkS B c up = B) := by
  have w0 := hW.1
  have w1 := hW.2.1
  refine ⟨fun q => ⟨?_, fun up => ?_⟩, fun q => ⟨?_, fun up => ?_⟩⟩
  · unfold FX11_canGo
    simp (disch := omega) only [nI_iI, lN_lJ, iI_0, lJ_0, iI_add, iI_sub, iI_mul, iI_neg, lJ_add, lJ_sub, lJ_mul, lJ_neg, i_l, l_i, iI_cl, iI_inb, iI_eqT, iI_eqF, iI_ltT, iI_ltF, iI_leT, iI_leF, lJ_eqT, lJ_eqF, lJ_cG, lJ_cE, lJ_cL, lJ_cF, lJ_cGE, lJ_cLE, lJ_cNL, lJ_cNG, Int.cast_ofNat_Int, c_0, c_1, Int.natCast_add, Int.add_zero, cond_true, cond_false, Bool.and_self, Bool.and_true, Bool.true_and, Option.bind_some, decide_true, uI_hit, uI_miss, uI_o, uA_o, uA_s, ↓reduceIte, eq_self, true_or, or_true, or_false, false_or, true_and, and_true, false_and, and_false, or_self, and_self, not_false_eq_true, not_true_eq_false, tn_i, mq_isCat_y hA hW, mq_wo_y hA hW]
  · obtain ⟨d', r1, r2, r3⟩ := mq_goNow (e := e) hA hW q.1 up
    refine ⟨d', r1, ?_, Kr.only r3⟩
    unfold walkS
    rw [if_pos q]
    exact r2
  · unfold FX11_canGo
    by_cases q1 : 0 ≤ c ∧ c < B 1
    · have q2 : B (12 + 3 * c + 1) ≠ -1 := fun z => q ⟨q1, z⟩
      simp (disch := omega) only [nI_iI, lN_lJ, iI_0, lJ_0, iI_add, iI_sub, iI_mul, iI_neg, lJ_add, lJ_sub, lJ_mul, lJ_neg, i_l, l_i, iI_cl, iI_inb, iI_eqT, iI_eqF, iI_ltT, iI_ltF, iI_leT, iI_leF, lJ_eqT, lJ_eqF, lJ_cG, lJ_cE, lJ_cL, lJ_cF, lJ_cGE, lJ_cLE, lJ_cNL, lJ_cNG, Int.cast_ofNat_Int, c_0, c_1, Int.natCast_add, Int.add_zero, cond_true, cond_false, Bool.and_self, Bool.and_true, Bool.true_and, Option.bind_some, decide_true, uI_hit, uI_miss, uI_o, uA_o, uA_s, ↓reduceIte, eq_self, true_or, or_true, or_false, false_or, true_and, and_true, false_and, and_false, or_self, and_self, not_false_eq_true, not_true_eq_false, tn_i, mq_isCat_y hA hW, mq_wo_n hA hW]
    · simp (disch := omega) only [nI_iI, lN_lJ, iI_0, lJ_0, iI_add, iI_sub, iI_mul, iI_neg, lJ_add, lJ_sub, lJ_mul, lJ_neg, i_l, l_i, iI_cl, iI_inb, iI_eqT, iI_eqF, iI_ltT, iI_ltF, iI_leT, iI_leF, lJ_eqT, lJ_eqF, lJ_cG, lJ_cE, lJ_cL, lJ_cF, lJ_cGE, lJ_cLE, lJ_cNL, lJ_cNG, Int.cast_ofNat_Int, c_0, c_1, Int.natCast_add, Int.add_zero, cond_true, cond_false, Bool.and_self, Bool.and_true, Bool.true_and, Option.bind_some, decide_true, uI_hit, uI_miss, uI_o, uA_o, uA_s, ↓reduceIte, eq_self, true_or, or_true, or_false, false_or, true_and, and_true, false_and, and_false, or_self, and_self, not_false_eq_true, not_true_eq_false, tn_i, mq_isCat_n hA hW]
  · unfold walkS
    rw [if_neg q]
theorem mq_happens {d : aI} {e : aJ} {B : Int → Int} {y0 y1 : Option (En → Int)} (hA : MA d 109 B) (hW : WN B) (hX : MX d (B 3) y0 y1) (hi : d 108 23 = iI 1) {x : Int} (hx : 0 ≤ x ∧ x < 30931) : ∃ d' e', FX11_happens d e (iI x) = some ((), d', e') ∧ MA d' 109 (drawnS y0 y1 B x) ∧ Kr d d' := by
  have w0 := hW.1
  have w1 := hW.2.1
  have w9 := hW.2.2.1
  have k8 : d 109 0 = iI (B 0) := hA.cell (j := 0) (by omega)
  have k9 : d 109 1 = iI (B 1) := hA.cell (j := 1) (by omega)
  have r9 : d 109 9 = iI (B 9) := hA.cell (j := 9) (by omega)
  have m0 : 0 < B 0 → 0 ≤ x % B 0 ∧ x % B 0 < B 0 := fun q => ⟨Int.emod_nonneg _ (by omega), Int.emod_lt_of_pos _ q⟩
  have m1 : 0 < B 1 → 0 ≤ x / 6 % B 1 ∧ x / 6 % B 1 < B 1 := fun q => ⟨Int.emod_nonneg _ (by omega), Int.emod_lt_of_pos _ q⟩
  unfold drawnS
  have hcR : -1 ≤ drC B x ∧ drC B x ≤ 6 := by
    unfold drC
    split
    · omega
    · have := m1 (by omega); omega
  have hhR : -1 ≤ drH B x ∧ drH B x ≤ 6 := by
    unfold drH
    split
    · omega
    · have := m0 (by omega); omega
  by_cases q0 : x % 6 = 0 ∨ x % 6 = 1
  · rw [if_pos q0]
    obtain ⟨wy, wn⟩ := md_let (e := e) hA hW hi (c := drC B x) (h := drH B x) (by omega)
    by_cases g : canLetS B (drC B x) (drH B x)
    · obtain ⟨g1, d', r1, r2, r3⟩ := wy g
      refine ⟨d', e, ?_, r2, r3⟩
      have z1 : ¬B 1 = 0 := by have := g.1; omega
      have z0 : ¬B 0 = 0 := by have := g.2.1; omega
      clear g
      unfold drC drH at g1 r1
      unfold FX11_happens
      rw [if_neg z1, if_neg z0] at g1 r1
      have mm1 := m1 (by omega)
      have mm := m0 (by omega)
      rcases q0 with q0 | q0
      · simp (disch := omega) only [nI_iI, lN_lJ, iI_0, lJ_0, iI_add, iI_sub, iI_mul, iI_neg, lJ_add, lJ_sub, lJ_mul, lJ_neg, i_l, l_i, iI_cl, iI_inb, iI_eqT, iI_eqF, iI_ltT, iI_ltF, iI_leT, iI_leF, lJ_eqT, lJ_eqF, lJ_cG, lJ_cE, lJ_cL, lJ_cF, lJ_cGE, lJ_cLE, lJ_cNL, lJ_cNG, Int.cast_ofNat_Int, c_0, c_1, Int.natCast_add, Int.add_zero, cond_true, cond_false, Bool.and_self, Bool.and_true, Bool.true_and, Option.bind_some, decide_true, uI_hit, uI_miss, uI_o, uA_o, uA_s, ↓reduceIte, eq_self, true_or, or_true, or_false, false_or, true_and, and_true, false_and, and_false, or_self, and_self, not_false_eq_true, not_true_eq_false, tn_i, k8, k9, iI_rem, iI_div, g1, r1, decide_eq_true]
      · simp (disch := omega) only [nI_iI, lN_lJ, iI_0, lJ_0, iI_add, iI_sub, iI_mul, iI_neg, lJ_add, lJ_sub, lJ_mul, lJ_neg, i_l, l_i, iI_cl, iI_inb, iI_eqT, iI_eqF, iI_ltT, iI_ltF, iI_leT, iI_leF, lJ_eqT, lJ_eqF, lJ_cG, lJ_cE, lJ_cL, lJ_cF, lJ_cGE, lJ_cLE, lJ_cNL, lJ_cNG, Int.cast_ofNat_Int, c_0, c_1, Int.natCast_add, Int.add_zero, cond_true, cond_false, Bool.and_self, Bool.and_true, Bool.true_and, Option.bind_some, decide_true, uI_hit, uI_miss, uI_o, uA_o, uA_s, ↓reduceIte, eq_self, true_or, or_true, or_false, false_or, true_and, and_true, false_and, and_false, or_self, and_self, not_false_eq_true, not_true_eq_false, tn_i, k8, k9, iI_rem, iI_div, g1, r1, decide_eq_true]
    · obtain ⟨g1, g2⟩ := wn g
      rw [g2]
      refine ⟨d, e, ?_, hA, Kr.refl d⟩
      unfold drC drH at g1
      unfold FX11_happens
      by_cases z1 : B 1 = 0
      · rw [if_pos z1] at g1
        rw [z1] at k9
        by_cases z0 : B 0 = 0
        · rw [if_pos z0] at g1
          rw [z0] at k8
          rcases q0 with q0 | q0
          · simp (disch := omega) only [nI_iI, lN_lJ, iI_0, lJ_0, iI_add, iI_sub, iI_mul, iI_neg, lJ_add, lJ_sub, lJ_mul, lJ_neg, i_l, l_i, iI_cl, iI_inb, iI_eqT, iI_eqF, iI_ltT, iI_ltF, iI_leT, iI_leF, lJ_eqT, lJ_eqF, lJ_cG, lJ_cE, lJ_cL, lJ_cF, lJ_cGE, lJ_cLE, lJ_cNL, lJ_cNG, Int.cast_ofNat_Int, c_0, c_1, Int.natCast_add, Int.add_zero, cond_true, cond_false, Bool.and_self, Bool.and_true, Bool.true_and, Option.bind_some, decide_true, uI_hit, uI_miss, uI_o, uA_o, uA_s, ↓reduceIte, eq_self, true_or, or_true, or_false, false_or, true_and, and_true, false_and, and_false, or_self, and_self, not_false_eq_true, not_true_eq_false, tn_i, k8, k9, iI_rem, iI_div, g1, decide_eq_true]
          · simp (disch := omega) only [nI_iI, lN_lJ, iI_0, lJ_0, iI_add, iI_sub, iI_mul, iI_neg, lJ_add, lJ_sub, lJ_mul, lJ_neg, i_l, l_i, iI_cl, iI_inb, iI_eqT, iI_eqF, iI_ltT, iI_ltF, iI_leT, iI_leF, lJ_eqT, lJ_eqF, lJ_cG, lJ_cE, lJ_cL, lJ_cF, lJ_cGE, lJ_cLE, lJ_cNL, lJ_cNG, Int.cast_ofNat_Int, c_0, c_1, Int.natCast_add, Int.add_zero, cond_true, cond_false, Bool.and_self, Bool.and_true, Bool.true_and, Option.bind_some, decide_true, uI_hit, uI_miss, uI_o, uA_o, uA_s, ↓reduceIte, eq_self, true_or, or_true, or_false, false_or, true_and, and_true, false_and, and_false, or_self, and_self, not_false_eq_true, not_true_eq_false, tn_i, k8, k9, iI_rem, iI_div, g1, decide_eq_true]
        · rw [if_neg z0] at g1
          have mm := m0 (by omega)
          rcases q0 with q0 | q0
          · simp (disch := omega) only [nI_iI, lN_lJ, iI_0, lJ_0, iI_add, iI_sub, iI_mul, iI_neg, lJ_add, lJ_sub, lJ_mul, lJ_neg, i_l, l_i, iI_cl, iI_inb, iI_eqT, iI_eqF, iI_ltT, iI_ltF, iI_leT, iI_leF, lJ_eqT, lJ_eqF, lJ_cG, lJ_cE, lJ_cL, lJ_cF, lJ_cGE, lJ_cLE, lJ_cNL, lJ_cNG, Int.cast_ofNat_Int, c_0, c_1, Int.natCast_add, Int.add_zero, cond_true, cond_false, Bool.and_self, Bool.and_true, Bool.true_and, Option.bind_some, decide_true, uI_hit, uI_miss, uI_o, uA_o, uA_s, ↓reduceIte, eq_self, true_or, or_true, or_false, false_or, true_and, and_true, false_and, and_false, or_self, and_self, not_false_eq_true, not_true_eq_false, tn_i, k8, k9, iI_rem, iI_div, g1, decide_eq_true]
          · simp (disch := omega) only [nI_iI, lN_lJ, iI_0, lJ_0, iI_add, iI_sub, iI_mul, iI_neg, lJ_add, lJ_sub, lJ_mul, lJ_neg, i_l, l_i, iI_cl, iI_inb, iI_eqT, iI_eqF, iI_ltT, iI_ltF, iI_leT, iI_leF, lJ_eqT, lJ_eqF, lJ_cG, lJ_cE, lJ_cL, lJ_cF, lJ_cGE, lJ_cLE, lJ_cNL, lJ_cNG, Int.cast_ofNat_Int, c_0, c_1, Int.natCast_add, Int.add_zero, cond_true, cond_false, Bool.and_self, Bool.and_true, Bool.true_and, Option.bind_some, decide_true, uI_hit, uI_miss, uI_o, uA_o, uA_s, ↓reduceIte, eq_self, true_or, or_true, or_false, false_or, true_and, and_true, false_and, and_false, or_self, and_self, not_false_eq_true, not_true_eq_false, tn_i, k8, k9, iI_rem, iI_div, g1, decide_eq_true]
      · rw [if_neg z1] at g1
        have mm1 := m1 (by omega)
        by_cases z0 : B 0 = 0
        · rw [if_pos z0] at g1
          rw [z0] at k8
          rcases q0 with q0 | q0
          · simp (disch := omega) only [nI_iI, lN_lJ, iI_0, lJ_0, iI_add, iI_sub, iI_mul, iI_neg, lJ_add, lJ_sub, lJ_mul, lJ_neg, i_l, l_i, iI_cl, iI_inb, iI_eqT, iI_eqF, iI_ltT, iI_ltF, iI_leT, iI_leF, lJ_eqT, lJ_eqF, lJ_cG, lJ_cE, lJ_cL, lJ_cF, lJ_cGE, lJ_cLE, lJ_cNL, lJ_cNG, Int.cast_ofNat_Int, c_0, c_1, Int.natCast_add, Int.add_zero, cond_true, cond_false, Bool.and_self, Bool.and_true, Bool.true_and, Option.bind_some, decide_true, uI_hit, uI_miss, uI_o, uA_o, uA_s, ↓reduceIte, eq_self, true_or, or_true, or_false, false_or, true_and, and_true, false_and, and_false, or_self, and_self, not_false_eq_true, not_true_eq_false, tn_i, k8, k9, iI_rem, iI_div, g1, decide_eq_true]
          · simp (disch := omega) only [nI_iI, lN_lJ, iI_0, lJ_0, iI_add, iI_sub, iI_mul, iI_neg, lJ_add, lJ_sub, lJ_mul, lJ_neg, i_l, l_i, iI_cl, iI_inb, iI_eqT, iI_eqF, iI_ltT, iI_ltF, iI_leT, iI_leF, lJ_eqT, lJ_eqF, lJ_cG, lJ_cE, lJ_cL, lJ_cF, lJ_cGE, lJ_cLE, lJ_cNL, lJ_cNG, Int.cast_ofNat_Int, c_0, c_1, Int.natCast_add, Int.add_zero, cond_true, cond_false, Bool.and_self, Bool.and_true, Bool.true_and, Option.bind_some, decide_true, uI_hit, uI_miss, uI_o, uA_o, uA_s, ↓reduceIte, eq_self, true_or, or_true, or_false, false_or, true_and, and_true, false_and, and_false, or_self, and_self, not_false_eq_true, not_true_eq_false, tn_i, k8, k9, iI_rem, iI_div, g1, decide_eq_true]
        · rw [if_neg z0] at g1
          have mm := m0 (by omega)
          rcases q0 with q0 | q0
          · simp (disch := omega) only [nI_iI, lN_lJ, iI_0, lJ_0, iI_add, iI_sub, iI_mul, iI_neg, lJ_add, lJ_sub, lJ_mul, lJ_neg, i_l, l_i, iI_cl, iI_inb, iI_eqT, iI_eqF, iI_ltT, iI_ltF, iI_leT, iI_leF, lJ_eqT, lJ_eqF, lJ_cG, lJ_cE, lJ_cL, lJ_cF, lJ_cGE, lJ_cLE, lJ_cNL, lJ_cNG, Int.cast_ofNat_Int, c_0, c_1, Int.natCast_add, Int.add_zero, cond_true, cond_false, Bool.and_self, Bool.and_true, Bool.true_and, Option.bind_some, decide_true, uI_hit, uI_miss, uI_o, uA_o, uA_s, ↓reduceIte, eq_self, true_or, or_true, or_false, false_or, true_and, and_true, false_and, and_false, or_self, and_self, not_false_eq_true, not_true_eq_false, tn_i, k8, k9, iI_rem, iI_div, g1, decide_eq_true]
          · simp (disch := omega) only [nI_iI, lN_lJ, iI_0, lJ_0, iI_add, iI_sub, iI_mul, iI_neg, lJ_add, lJ_sub, lJ_mul, lJ_neg, i_l, l_i, iI_cl, iI_inb, iI_eqT, iI_eqF, iI_ltT, iI_ltF, iI_leT, iI_leF, lJ_eqT, lJ_eqF, lJ_cG, lJ_cE, lJ_cL, lJ_cF, lJ_cGE, lJ_cLE, lJ_cNL, lJ_cNG, Int.cast_ofNat_Int, c_0, c_1, Int.natCast_add, Int.add_zero, cond_true, cond_false, Bool.and_self, Bool.and_true, Bool.true_and, Option.bind_some, decide_true, uI_hit, uI_miss, uI_o, uA_o, uA_s, ↓reduceIte, eq_self, true_or, or_true, or_false, false_or, true_and, and_true, false_and, and_false, or_self, and_self, not_false_eq_true, not_true_eq_false, tn_i, k8, k9, iI_rem, iI_div, g1, decide_eq_true]
  · rw [if_neg q0]
    by_cases q2 : x % 6 = 2
    · rw [if_pos q2]
      by_cases z0 : B 0 = 0
      · have e1 : leaveS B (drH B x) = B := by
          unfold leaveS drH
          rw [if_pos z0, if_neg (by omega)]
        rw [e1]
        refine ⟨d, e, ?_, hA, Kr.refl d⟩
        rw [z0] at k8
        unfold FX11_happens
        by_cases z1 : B 1 = 0
        · rw [z1] at k9
          simp (disch := omega) only [nI_iI, lN_lJ, iI_0, lJ_0, iI_add, iI_sub, iI_mul, iI_neg, lJ_add, lJ_sub, lJ_mul, lJ_neg, i_l, l_i, iI_cl, iI_inb, iI_eqT, iI_eqF, iI_ltT, iI_ltF, iI_leT, iI_leF, lJ_eqT, lJ_eqF, lJ_cG, lJ_cE, lJ_cL, lJ_cF, lJ_cGE, lJ_cLE, lJ_cNL, lJ_cNG, Int.cast_ofNat_Int, c_0, c_1, Int.natCast_add, Int.add_zero, cond_true, cond_false, Bool.and_self, Bool.and_true, Bool.true_and, Option.bind_some, decide_true, uI_hit, uI_miss, uI_o, uA_o, uA_s, ↓reduceIte, eq_self, true_or, or_true, or_false, false_or, true_and, and_true, false_and, and_false, or_self, and_self, not_false_eq_true, not_true_eq_false, tn_i, k8, k9, iI_rem, iI_div, decide_eq_true]
        · simp (disch := omega) only [nI_iI, lN_lJ, iI_0, lJ_0, iI_add, iI_sub, iI_mul, iI_neg, lJ_add, lJ_sub, lJ_mul, lJ_neg, i_l, l_i, iI_cl, iI_inb, iI_eqT, iI_eqF, iI_ltT, iI_ltF, iI_leT, iI_leF, lJ_eqT, lJ_eqF, lJ_cG, lJ_cE, lJ_cL, lJ_cF, lJ_cGE, lJ_cLE, lJ_cNL, lJ_cNG, Int.cast_ofNat_Int, c_0, c_1, Int.natCast_add, Int.add_zero, cond_true, cond_false, Bool.and_self, Bool.and_true, Bool.true_and, Option.bind_some, decide_true, uI_hit, uI_miss, uI_o, uA_o, uA_s, ↓reduceIte, eq_self, true_or, or_true, or_false, false_or, true_and, and_true, false_and, and_false, or_self, and_self, not_false_eq_true, not_true_eq_false, tn_i, k8, k9, iI_rem, iI_div, decide_eq_true]
      · have mm := m0 (by omega)
        have e1 : drH B x = x % B 0 := if_neg z0
        obtain ⟨d', r1, r2, r3⟩ := md_leave (e := e) hA hW hi (h := drH B x) (by omega)
        refine ⟨d', e, ?_, r2, r3⟩
        rw [e1] at r1
        simp only [iI_neg] at r1
        unfold FX11_happens
        by_cases z1 : B 1 = 0
        · rw [z1] at k9
          simp (disch := omega) only [nI_iI, lN_lJ, iI_0, lJ_0, iI_add, iI_sub, iI_mul, iI_neg, lJ_add, lJ_sub, lJ_mul, lJ_neg, i_l, l_i, iI_cl, iI_inb, iI_eqT, iI_eqF, iI_ltT, iI_ltF, iI_leT, iI_leF, lJ_eqT, lJ_eqF, lJ_cG, lJ_cE, lJ_cL, lJ_cF, lJ_cGE, lJ_cLE, lJ_cNL, lJ_cNG, Int.cast_ofNat_Int, c_0, c_1, Int.natCast_add, Int.add_zero, cond_true, cond_false, Bool.and_self, Bool.and_true, Bool.true_and, Option.bind_some, decide_true, uI_hit, uI_miss, uI_o, uA_o, uA_s, ↓reduceIte, eq_self, true_or, or_true, or_false, false_or, true_and, and_true, false_and, and_false, or_self, and_self, not_false_eq_true, not_true_eq_false, tn_i, k8, k9, iI_rem, iI_div, r1, decide_eq_true]
        · simp (disch := omega) only [nI_iI, lN_lJ, iI_0, lJ_0, iI_add, iI_sub, iI_mul, iI_neg, lJ_add, lJ_sub, lJ_mul, lJ_neg, i_l, l_i, iI_cl, iI_inb, iI_eqT, iI_eqF, iI_ltT, iI_ltF, iI_leT, iI_leF, lJ_eqT, lJ_eqF, lJ_cG, lJ_cE, lJ_cL, lJ_cF, lJ_cGE, lJ_cLE, lJ_cNL, lJ_cNG, Int.cast_ofNat_Int, c_0, c_1, Int.natCast_add, Int.add_zero, cond_true, cond_false, Bool.and_self, Bool.and_true, Bool.true_and, Option.bind_some, decide_true, uI_hit, uI_miss, uI_o, uA_o, uA_s, ↓reduceIte, eq_self, true_or, or_true, or_false, false_or, true_and, and_true, false_and, and_false, or_self, and_self, not_false_eq_true, not_true_eq_false, tn_i, k8, k9, iI_rem, iI_div, r1, decide_eq_true]
    · rw [if_neg q2]
      by_cases q3 : x % 6 = 3
      · rw [if_pos q3]
        obtain ⟨wy, wn⟩ := md_walk (e := e) hA hW (c := drC B x) (by omega)
        by_cases g : (0 ≤ drC B x ∧ drC B x < B 1) ∧ B (12 + 3 * drC B x + 1) = -1
        · obtain ⟨g1, g2⟩ := wy g
          have z1 : ¬B 1 = 0 := by omega
          have mm1 := m1 (by omega)
          have e1 : drC B x = x / 6 % B 1 := if_neg z1
          obtain ⟨d', r1, r2, r3⟩ := g2 (decide (x / 6 % 2 = 0))
          refine ⟨d', e, ?_, r2, r3⟩
          rw [e1] at r1 g1
          unfold FX11_happens
          by_cases u : x / 6 % 2 = 0
          · rw [decide_eq_true u] at r1
            simp only [show tv true = 1 from rfl] at r1
            by_cases z0 : B 0 = 0
            · rw [z0] at k8
              simp (disch := omega) only [nI_iI, lN_lJ, iI_0, lJ_0, iI_add, iI_sub, iI_mul, iI_neg, lJ_add, lJ_sub, lJ_mul, lJ_neg, i_l, l_i, iI_cl, iI_inb, iI_eqT, iI_eqF, iI_ltT, iI_ltF, iI_leT, iI_leF, lJ_eqT, lJ_eqF, lJ_cG, lJ_cE, lJ_cL, lJ_cF, lJ_cGE, lJ_cLE, lJ_cNL, lJ_cNG, Int.cast_ofNat_Int, c_0, c_1, Int.natCast_add, Int.add_zero, cond_true, cond_false, Bool.and_self, Bool.and_true, Bool.true_and, Option.bind_some, decide_true, uI_hit, uI_miss, uI_o, uA_o, uA_s, ↓reduceIte, eq_self, true_or, or_true, or_false, false_or, true_and, and_true, false_and, and_false, or_self, and_self, not_false_eq_true, not_true_eq_false, tn_i, k8, k9, iI_rem, iI_div, g1, r1, decide_eq_true]
            · simp (disch := omega) only [nI_iI, lN_lJ, iI_0, lJ_0, iI_add, iI_sub, iI_mul, iI_neg, lJ_add, lJ_sub, lJ_mul, lJ_neg, i_l, l_i, iI_cl, iI_inb, iI_eqT, iI_eqF, iI_ltT, iI_ltF, iI_leT, iI_leF, lJ_eqT, lJ_eqF, lJ_cG, lJ_cE, lJ_cL, lJ_cF, lJ_cGE, lJ_cLE, lJ_cNL, lJ_cNG, Int.cast_ofNat_Int, c_0, c_1, Int.natCast_add, Int.add_zero, cond_true, cond_false, Bool.and_self, Bool.and_true, Bool.true_and, Option.bind_some, decide_true, uI_hit, uI_miss, uI_o, uA_o, uA_s, ↓reduceIte, eq_self, true_or, or_true, or_false, false_or, true_and, and_true, false_and, and_false, or_self, and_self, not_false_eq_true, not_true_eq_false, tn_i, k8, k9, iI_rem, iI_div, g1, r1, decide_eq_true]
          · rw [decide_eq_false u] at r1
            simp only [show tv false = 0 from rfl] at r1
            by_cases z0 : B 0 = 0
            · rw [z0] at k8
              simp (disch := omega) only [nI_iI, lN_lJ, iI_0, lJ_0, iI_add, iI_sub, iI_mul, iI_neg, lJ_add, lJ_sub, lJ_mul, lJ_neg, i_l, l_i, iI_cl, iI_inb, iI_eqT, iI_eqF, iI_ltT, iI_ltF, iI_leT, iI_leF, lJ_eqT, lJ_eqF, lJ_cG, lJ_cE, lJ_cL, lJ_cF, lJ_cGE, lJ_cLE, lJ_cNL, lJ_cNG, Int.cast_ofNat_Int, c_0, c_1, Int.natCast_add, Int.add_zero, cond_true, cond_false, Bool.and_self, Bool.and_true, Bool.true_and, Option.bind_some, decide_true, uI_hit, uI_miss, uI_o, uA_o, uA_s, ↓reduceIte, eq_self, true_or, or_true, or_false, false_or, true_and, and_true, false_and, and_false, or_self, and_self, not_false_eq_true, not_true_eq_false, tn_i, k8, k9, iI_rem, iI_div, g1, r1, decide_eq_true]
            · simp (disch := omega) only [nI_iI, lN_lJ, iI_0, lJ_0, iI_add, iI_sub, iI_mul, iI_neg, lJ_add, lJ_sub, lJ_mul, lJ_neg, i_l, l_i, iI_cl, iI_inb, iI_eqT, iI_eqF, iI_ltT, iI_ltF, iI_leT, iI_leF, lJ_eqT, lJ_eqF, lJ_cG, lJ_cE, lJ_cL, lJ_cF, lJ_cGE, lJ_cLE, lJ_cNL, lJ_cNG, Int.cast_ofNat_Int, c_0, c_1, Int.natCast_add, Int.add_zero, cond_true, cond_false, Bool.and_self, Bool.and_true, Bool.true_and, Option.bind_some, decide_true, uI_hit, uI_miss, uI_o, uA_o, uA_s, ↓reduceIte, eq_self, true_or, or_true, or_false, false_or, true_and, and_true, false_and, and_false, or_self, and_self, not_false_eq_true, not_true_eq_false, tn_i, k8, k9, iI_rem, iI_div, g1, r1, decide_eq_true]
        · obtain ⟨g1, g2⟩ := wn g
          rw [g2]
          refine ⟨d, e, ?_, hA, Kr.refl d⟩
          unfold drC at g1
          unfold FX11_happens
          by_cases z1 : B 1 = 0
          · rw [if_pos z1] at g1
            rw [z1] at k9
            by_cases z0 : B 0 = 0
            · rw [z0] at k8
              simp (disch := omega) only [nI_iI, lN_lJ, iI_0, lJ_0, iI_add, iI_sub, iI_mul, iI_neg, lJ_add, lJ_sub, lJ_mul, lJ_neg, i_l, l_i, iI_cl, iI_inb, iI_eqT, iI_eqF, iI_ltT, iI_ltF, iI_leT, iI_leF, lJ_eqT, lJ_eqF, lJ_cG, lJ_cE, lJ_cL, lJ_cF, lJ_cGE, lJ_cLE, lJ_cNL, lJ_cNG, Int.cast_ofNat_Int, c_0, c_1, Int.natCast_add, Int.add_zero, cond_true, cond_false, Bool.and_self, Bool.and_true, Bool.true_and, Option.bind_some, decide_true, uI_hit, uI_miss, uI_o, uA_o, uA_s, ↓reduceIte, eq_self, true_or, or_true, or_false, false_or, true_and, and_true, false_and, and_false, or_self, and_self, not_false_eq_true, not_true_eq_false, tn_i, k8, k9, iI_rem, iI_div, g1, decide_eq_true]
            · simp (disch := omega) only [nI_iI, lN_lJ, iI_0, lJ_0, iI_add, iI_sub, iI_mul, iI_neg, lJ_add, lJ_sub, lJ_mul, lJ_neg, i_l, l_i, iI_cl, iI_inb, iI_eqT, iI_eqF, iI_ltT, iI_ltF, iI_leT, iI_leF, lJ_eqT, lJ_eqF, lJ_cG, lJ_cE, lJ_cL, lJ_cF, lJ_cGE, lJ_cLE, lJ_cNL, lJ_cNG, Int.cast_ofNat_Int, c_0, c_1, Int.natCast_add, Int.add_zero, cond_true, cond_false, Bool.and_self, Bool.and_true, Bool.true_and, Option.bind_some, decide_true, uI_hit, uI_miss, uI_o, uA_o, uA_s, ↓reduceIte, eq_self, true_or, or_true, or_false, false_or, true_and, and_true, false_and, and_false, or_self, and_self, not_false_eq_true, not_true_eq_false, tn_i, k8, k9, iI_rem, iI_div, g1, decide_eq_true]
          · rw [if_neg z1] at g1
            have mm1 := m1 (by omega)
            by_cases z0 : B 0 = 0
            · rw [z0] at k8
              simp (disch := omega) only [nI_iI, lN_lJ, iI_0, lJ_0, iI_add, iI_sub, iI_mul, iI_neg, lJ_add, lJ_sub, lJ_mul, lJ_neg, i_l, l_i, iI_cl, iI_inb, iI_eqT, iI_eqF, iI_ltT, iI_ltF, iI_leT, iI_leF, lJ_eqT, lJ_eqF, lJ_cG, lJ_cE, lJ_cL, lJ_cF, lJ_cGE, lJ_cLE, lJ_cNL, lJ_cNG, Int.cast_ofNat_Int, c_0, c_1, Int.natCast_add, Int.add_zero, cond_true, cond_false, Bool.and_self, Bool.and_true, Bool.true_and, Option.bind_some, decide_true, uI_hit, uI_miss, uI_o, uA_o, uA_s, ↓reduceIte, eq_self, true_or, or_true, or_false, false_or, true_and, and_true, false_and, and_false, or_self, and_self, not_false_eq_true, not_true_eq_false, tn_i, k8, k9, iI_rem, iI_div, g1, decide_eq_true]
            · simp (disch := omega) only [nI_iI, lN_lJ, iI_0, lJ_0, iI_add, iI_sub, iI_mul, iI_neg, lJ_add, lJ_sub, lJ_mul, lJ_neg, i_l, l_i, iI_cl, iI_inb, iI_eqT, iI_eqF, iI_ltT, iI_ltF, iI_leT, iI_leF, lJ_eqT, lJ_eqF, lJ_cG, lJ_cE, lJ_cL, lJ_cF, lJ_cGE, lJ_cLE, lJ_cNL, lJ_cNG, Int.cast_ofNat_Int, c_0, c_1, Int.natCast_add, Int.add_zero, cond_true, cond_false, Bool.and_self, Bool.and_true, Bool.true_and, Option.bind_some, decide_true, uI_hit, uI_miss, uI_o, uA_o, uA_s, ↓reduceIte, eq_self, true_or, or_true, or_false, false_or, true_and, and_true, false_and, and_false, or_self, and_self, not_false_eq_true, not_true_eq_false, tn_i, k8, k9, iI_rem, iI_div, g1, decide_eq_true]
      · rw [if_neg q3]
        obtain ⟨q, hq, _, _⟩ := iI_ex (d 108 24)
        by_cases h9 : B 9 < 9999
        · obtain ⟨d', e', r1, r2, r3, r4⟩ := mq_pass (e := e) (wr := true) hA hW hX hi hq
          unfold hourS
          rw [if_pos h9]
          refine ⟨d', e', ?_, r2, r3⟩
          unfold FX11_happens
          by_cases z1 : B 1 = 0
          · rw [z1] at k9
            by_cases z0 : B 0 = 0
            · rw [z0] at k8
              simp (disch := omega) only [nI_iI, lN_lJ, iI_0, lJ_0, iI_add, iI_sub, iI_mul, iI_neg, lJ_add, lJ_sub, lJ_mul, lJ_neg, i_l, l_i, iI_cl, iI_inb, iI_eqT, iI_eqF, iI_ltT, iI_ltF, iI_leT, iI_leF, lJ_eqT, lJ_eqF, lJ_cG, lJ_cE, lJ_cL, lJ_cF, lJ_cGE, lJ_cLE, lJ_cNL, lJ_cNG, Int.cast_ofNat_Int, c_0, c_1, Int.natCast_add, Int.add_zero, cond_true, cond_false, Bool.and_self, Bool.and_true, Bool.true_and, Option.bind_some, decide_true, uI_hit, uI_miss, uI_o, uA_o, uA_s, ↓reduceIte, eq_self, true_or, or_true, or_false, false_or, true_and, and_true, false_and, and_false, or_self, and_self, not_false_eq_true, not_true_eq_false, tn_i, k8, k9, r9, iI_rem, iI_div, r1, decide_eq_true]
            · simp (disch := omega) only [nI_iI, lN_lJ, iI_0, lJ_0, iI_add, iI_sub, iI_mul, iI_neg, lJ_add, lJ_sub, lJ_mul, lJ_neg, i_l, l_i, iI_cl, iI_inb, iI_eqT, iI_eqF, iI_ltT, iI_ltF, iI_leT, iI_leF, lJ_eqT, lJ_eqF, lJ_cG, lJ_cE, lJ_cL, lJ_cF, lJ_cGE, lJ_cLE, lJ_cNL, lJ_cNG, Int.cast_ofNat_Int, c_0, c_1, Int.natCast_add, Int.add_zero, cond_true, cond_false, Bool.and_self, Bool.and_true, Bool.true_and, Option.bind_some, decide_true, uI_hit, uI_miss, uI_o, uA_o, uA_s, ↓reduceIte, eq_self, true_or, or_true, or_false, false_or, true_and, and_true, false_and, and_false, or_self, and_self, not_false_eq_true, not_true_eq_false, tn_i, k8, k9, r9, iI_rem, iI_div, r1, decide_eq_true]
          · by_cases z0 : B 0 = 0
            · rw [z0] at k8
              simp (disch := omega) only [nI_iI, lN_lJ, iI_0, lJ_0, iI_add, iI_sub, iI_mul, iI_neg, lJ_add, lJ_sub, lJ_mul, lJ_neg, i_l, l_i, iI_cl, iI_inb, iI_eqT, iI_eqF, iI_ltT, iI_ltF, iI_leT, iI_leF, lJ_eqT, lJ_eqF, lJ_cG, lJ_cE, lJ_cL, lJ_cF, lJ_cGE, lJ_cLE, lJ_cNL, lJ_cNG, Int.cast_ofNat_Int, c_0, c_1, Int.natCast_add, Int.add_zero, cond_true, cond_false, Bool.and_self, Bool.and_true, Bool.true_and, Option.bind_some, decide_true, uI_hit, uI_miss, uI_o, uA_o, uA_s, ↓reduceIte, eq_self, true_or, or_true, or_false, false_or, true_and, and_true, false_and, and_false, or_self, and_self, not_false_eq_true, not_true_eq_false, tn_i, k8, k9, r9, iI_rem, iI_div, r1, decide_eq_true]
            · simp (disch := omega) only [nI_iI, lN_lJ, iI_0, lJ_0, iI_add, iI_sub, iI_mul, iI_neg, lJ_add, lJ_sub, lJ_mul, lJ_neg, i_l, l_i, iI_cl, iI_inb, iI_eqT, iI_eqF, iI_ltT, iI_ltF, iI_leT, iI_leF, lJ_eqT, lJ_eqF, lJ_cG, lJ_cE, lJ_cL, lJ_cF, lJ_cGE, lJ_cLE, lJ_cNL, lJ_cNG, Int.cast_ofNat_Int, c_0, c_1, Int.natCast_add, Int.add_zero, cond_true, cond_false, Bool.and_self, Bool.and_true, Bool.true_and, Option.bind_some, decide_true, uI_hit, uI_miss, uI_o, uA_o, uA_s, ↓reduceIte, eq_self, true_or, or_true, or_false, false_or, true_and, and_true, false_and, and_false, or_self, and_self, not_false_eq_true, not_true_eq_false, tn_i, k8, k9, r9, iI_rem, iI_div, r1, decide_eq_true]
        · unfold hourS
          rw [if_neg h9]
          refine ⟨d, e, ?_, hA, Kr.refl d⟩
          unfold FX11_happens
          by_cases z1 : B 1 = 0
          · rw [z1] at k9
            by_cases z0 : B 0 = 0
            · rw [z0] at k8
              simp (disch := omega) only [nI_iI, lN_lJ, iI_0, lJ_0, iI_add, iI_sub, iI_mul, iI_neg, lJ_add, lJ_sub, lJ_mul, lJ_neg, i_l, l_i, iI_cl, iI_inb, iI_eqT, iI_eqF, iI_ltT, iI_ltF, iI_leT, iI_leF, lJ_eqT, lJ_eqF, lJ_cG, lJ_cE, lJ_cL, lJ_cF, lJ_cGE, lJ_cLE, lJ_cNL, lJ_cNG, Int.cast_ofNat_Int, c_0, c_1, Int.natCast_add, Int.add_zero, cond_true, cond_false, Bool.and_self, Bool.and_true, Bool.true_and, Option.bind_some, decide_true, uI_hit, uI_miss, uI_o, uA_o, uA_s, ↓reduceIte, eq_self, true_or, or_true, or_false, false_or, true_and, and_true, false_and, and_false, or_self, and_self, not_false_eq_true, not_true_eq_false, tn_i, k8, k9, r9, iI_rem, iI_div, decide_eq_true]
            · simp (disch := omega) only [nI_iI, lN_lJ, iI_0, lJ_0, iI_add, iI_sub, iI_mul, iI_neg, lJ_add, lJ_sub, lJ_mul, lJ_neg, i_l, l_i, iI_cl, iI_inb, iI_eqT, iI_eqF, iI_ltT, iI_ltF, iI_leT, iI_leF, lJ_eqT, lJ_eqF, lJ_cG, lJ_cE, lJ_cL, lJ_cF, lJ_cGE, lJ_cLE, lJ_cNL, lJ_cNG, Int.cast_ofNat_Int, c_0, c_1, Int.natCast_add, Int.add_zero, cond_true, cond_false, Bool.and_self, Bool.and_true, Bool.true_and, Option.bind_some, decide_true, uI_hit, uI_miss, uI_o, uA_o, uA_s, ↓reduceIte, eq_self, true_or, or_true, or_false, false_or, true_and, and_true, false_and, and_false, or_self, and_self, not_false_eq_true, not_true_eq_false, tn_i, k8, k9, r9, iI_rem, iI_div, decide_eq_true]
          · by_cases z0 : B 0 = 0
            · rw [z0] at k8
              simp (disch := omega) only [nI_iI, lN_lJ, iI_0, lJ_0, iI_add, iI_sub, iI_mul, iI_neg, lJ_add, lJ_sub, lJ_mul, lJ_neg, i_l, l_i, iI_cl, iI_inb, iI_eqT, iI_eqF, iI_ltT, iI_ltF, iI_leT, iI_leF, lJ_eqT, lJ_eqF, lJ_cG, lJ_cE, lJ_cL, lJ_cF, lJ_cGE, lJ_cLE, lJ_cNL, lJ_cNG, Int.cast_ofNat_Int, c_0, c_1, Int.natCast_add, Int.add_zero, cond_true, cond_false, Bool.and_self, Bool.and_true, Bool.true_and, Option.bind_some, decide_true, uI_hit, uI_miss, uI_o, uA_o, uA_s, ↓reduceIte, eq_self, true_or, or_true, or_false, false_or, true_and, and_true, false_and, and_false, or_self, and_self, not_false_eq_true, not_true_eq_false, tn_i, k8, k9, r9, iI_rem, iI_div, decide_eq_true]
            · simp (disch := omega) only [nI_iI, lN_lJ, iI_0, lJ_0, iI_add, iI_sub, iI_mul, iI_neg, lJ_add, lJ_sub, lJ_mul, lJ_neg, i_l, l_i, iI_cl, iI_inb, iI_eqT, iI_eqF, iI_ltT, iI_ltF, iI_leT, iI_leF, lJ_eqT, lJ_eqF, lJ_cG, lJ_cE, lJ_cL, lJ_cF, lJ_cGE, lJ_cLE, lJ_cNL, lJ_cNG, Int.cast_ofNat_Int, c_0, c_1, Int.natCast_add, Int.add_zero, cond_true, cond_false, Bool.and_self, Bool.and_true, Bool.true_and, Option.bind_some, decide_true, uI_hit, uI_miss, uI_o, uA_o, uA_s, ↓reduceIte, eq_self, true_or, or_true, or_false, false_or, true_and, and_true, false_and, and_false, or_self, and_self, not_false_eq_true, not_true_eq_false, tn_i, k8, k9, r9, iI_rem, iI_div, decide_eq_true]
theorem o_years (x y : Int32) : Op (fun d e => FX10_years d e x y) (fun d e => FX11_years d e x y) := by
  obtain ⟨s, rfl, h1, h2⟩ := iI_ex x
  obtain ⟨n, rfl, h3, h4⟩ := iI_ex y
  intro S hS
  have k4 := hS.1.2.1
  have hK := keepS_si hS.1
  by_cases hs : 0 ≤ s ∧ s ≤ 9999
  · by_cases hn : 1 ≤ n ∧ n ≤ 40
    · -- the tables
      have hB0 : WN (aU (keepS S.1) 10 (s * 2 + 397)) ∧ Rst (keepS S.1) (aU (keepS S.1) 10 (s * 2 + 397)) := by
        refine ⟨hK.1.rest (fun j a b c e => aU_miss b) (by rw [aU_miss (by omega)]; exact hK.1.2.2.1) (by rw [aU_hit rfl]; omega) (by rw [aU_miss (by omega)]; exact hK.1.2.2.2.2.1) (fun i i0 i1 => ?_), fun j hj => aU_miss (by omega)⟩
        rw [aU_miss (by omega)] at i1 ⊢
        exact hK.1.2.2.2.2.2.2.2 i i0 i1
      generalize hF : (fun (_ : Nat) (B : Int → Int) => drawnS (lawT S) (lawG S) (anewS B) (B 10)) = F
      have hFe : ∀ k B, F k B = drawnS (lawT S) (lawG S) (anewS B) (B 10) := fun k B => by rw [← hF]
      have hBn : ∀ k : Nat, WN (itr F k (aU (keepS S.1) 10 (s * 2 + 397))) ∧ Rst (keepS S.1) (itr F k (aU (keepS S.1) 10 (s * 2 + 397))) := by
        intro k
        induction k with
        | zero => exact hB0
        | succ k ih =>
          have e1 : itr F (k + 1) (aU (keepS S.1) 10 (s * 2 + 397)) = F k (itr F k (aU (keepS S.1) 10 (s * 2 + 397))) := rfl
          rw [e1, hFe]
          have d1 := drawnS_ok (y0 := lawT S) (y1 := lawG S) (x := itr F k (aU (keepS S.1) 10 (s * 2 + 397)) 10) (anewS_wn ih.1)
          refine ⟨d1.1, fun j hj => ?_⟩
          rw [d1.2 j hj, anewS_o (by omega)]
          exact ih.2 j hj
      have w9 := (hBn n.toNat).1.2.2.1
      have hres := OpK.step (lo := 0) (hi := 9999) (FC := fun d e => FX10_years d e (iI s) (iI n)) (FM := fun d e => FX11_years d e (iI s) (iI n)) (z := itr F n.toNat (aU (keepS S.1) 10 (s * 2 + 397)) 9) hS w9 (hBn n.toNat).1 (hBn n.toNat).2 (fun d e hC => ?_) (fun d e hM => ?_)
      · obtain ⟨S', z, a, b, c, _⟩ := hres
        exact ⟨S', iI z, a, b, c⟩
      · obtain ⟨d1, q1, q2, q3⟩ := cq_keep (e := e) hC.cn hC.rg hS.1
        have c1 : CN d1 1 (keepS S.1) := (hC.cn.of (fun k a b => q3 k (by omega) (by omega))).ag hS.1.1 (keepS_ag k4).symm
        have c2 : CN (uI d1 2 12 (iI (s * 2 + 397))) 1 (aU (keepS S.1) 10 (s * 2 + 397)) := by
          have hcc := c1
          obtain ⟨p8, p9, p10, p11, p12, p3, p4, p5, p6, p7, ph, pt, pb⟩ := c1
          refine hcc.upd hK.1 (fun j hj => aU_miss (by omega)) (uI_miss (by omega)) (uI_miss (by omega)) ?_ ?_ ?_ (uI_o (by omega)) (uI_o (by omega)) (fun j hj => ?_) (fun j hj => ?_) (fun j hj => ?_) (fun j hj => ?_) (fun j hj => ?_) (fun j hj => ?_)
          · rw [uI_miss (by omega), aU_miss (by omega)]; exact p10
          · rw [uI_miss (by omega), aU_miss (by omega)]; exact p11
          · rw [uI_hit rfl, aU_hit rfl]
          · rw [uI_o (by omega), aU_miss (by omega)]; exact p4 j hj
          · rw [uI_o (by omega), aU_miss (by omega)]; exact p5 j hj
          · rw [uI_o (by omega), aU_miss (by omega)]; exact p7 j hj
          · rw [uI_o (by omega), aU_miss (by omega)]; exact ph j hj
          · rw [uI_o (by omega), aU_miss (by omega)]; exact pt j hj
          · rw [aU_miss (by omega)] at hj
            rw [uI_o (by omega), aU_miss (by omega)]; exact pb j hj
        have f2 : ∀ k, k ≠ 2 → k ≠ 11 → k ≠ 12 → uI d1 2 12 (iI (s * 2 + 397)) k = d k := fun k a b c => by rw [uI_o a]; exact q3 k b c
        have hR0 := hC.ru hS
        have loop : ∀ m : Nat, (m : Int) ≤ n → ∃ d', CN d' 1 (itr F m (aU (keepS S.1) 10 (s * 2 + 397))) ∧ Kx (uI d1 2 12 (iI (s * 2 + 397))) d' ∧ a_run stX10_years (59, [some (.ref 0), some (.int (iI s)), some (.int (iI n)), some (.int (iI (0 : Nat)))], uI d1 2 12 (iI (s * 2 + 397)), e) = a_run stX10_years (59, [some (.ref 0), some (.int (iI s)), some (.int (iI n)), some (.int (iI (m : Nat)))], d', e) := by
          intro m
          induction m with
          | zero => intro _; exact ⟨_, c2, Kx.refl _, rfl⟩
          | succ m ih =>
            intro hm
            obtain ⟨d2, a1, b1, t1⟩ := ih (by omega)
            have e1 : itr F (m + 1) (aU (keepS S.1) 10 (s * 2 + 397)) = F m (itr F m (aU (keepS S.1) 10 (s * 2 + 397))) := rfl
            rw [e1, hFe]
            obtain ⟨bw, br⟩ := hBn m
            generalize itr F m (aU (keepS S.1) 10 (s * 2 + 397)) = B at a1 bw br
            obtain ⟨d3, r1, r2, r3⟩ := cq_draw (e := e) a1 bw
            have hR : RU d3 (anewS B) (lawT S) (lawG S) := hR0.of (fun k hk => by rw [r3 k (by omega), b1 k (by omega), f2 k (by omega) (by omega) (by omega)]) (by rw [anewS_o (by omega), br 2 (by omega), keepS_o k4 (by omega)]) (by rw [anewS_o (by omega), br 3 (by omega), keepS_o k4 (by omega)])
            obtain ⟨d4, u1, u2, u3⟩ := cq_drawn (e := e) r2 (anewS_wn bw) hR (x := B 10) bw.2.2.2.1
            refine ⟨d4, u2, (b1.trans r3.kx).trans u3, t1.trans (a_run_step ?_ rfl)⟩
            show sX10_years_59 d2 e _ _ _ = _
            unfold sX10_years_59
            simp (disch := omega) only [nI_iI, lN_lJ, iI_0, lJ_0, iI_add, iI_sub, iI_mul, iI_neg, lJ_add, lJ_sub, lJ_mul, lJ_neg, i_l, l_i, iI_cl, iI_inb, iI_eqT, iI_eqF, iI_ltT, iI_ltF, iI_leT, iI_leF, lJ_eqT, lJ_eqF, lJ_cG, lJ_cE, lJ_cL, lJ_cF, lJ_cGE, lJ_cLE, lJ_cNL, lJ_cNG, Int.cast_ofNat_Int, c_0, c_1, Int.natCast_add, Int.add_zero, cond_true, cond_false, Bool.and_self, Bool.and_true, Bool.true_and, Option.bind_some, decide_true, uI_hit, uI_miss, uI_o, uA_o, uA_s, ↓reduceIte, eq_self, true_or, or_true, or_false, false_or, true_and, and_true, false_and, and_false, or_self, and_self, not_false_eq_true, not_true_eq_false, tn_i, r1, u1]
        obtain ⟨d2, a1, b1, t1⟩ := loop n.toNat (by omega)
        have k11 : d2 2 11 = iI (itr F n.toNat (aU (keepS S.1) 10 (s * 2 + 397)) 9) := a1.2.2.2.1
        refine ⟨d2, e, ?_, a1, q2.of (fun k a b => by rw [b1 k (by omega), uI_o (by omega)]), fun k hk => by rw [b1 k (by omega)]; exact f2 k (by omega) (by omega) (by omega)⟩
        show FX10_years d e (iI s) (iI n) = _
        unfold FX10_years
        rw [a_run_step (st := stX10_years) (p := (0, [some (.ref 0), some (.int (iI s)), some (.int (iI n)), none], d, e)) (p2 := (59, [some (.ref 0), some (.int (iI s)), some (.int (iI n)), some (.int (iI (0 : Nat)))], uI d1 2 12 (iI (s * 2 + 397)), e)) (by
          show sX10_years_0 d e _ _ = _
          unfold sX10_years_0
          simp (disch := omega) only [nI_iI, lN_lJ, iI_0, lJ_0, iI_add, iI_sub, iI_mul, iI_neg, lJ_add, lJ_sub, lJ_mul, lJ_neg, i_l, l_i, iI_cl, iI_inb, iI_eqT, iI_eqF, iI_ltT, iI_ltF, iI_leT, iI_leF, lJ_eqT, lJ_eqF, lJ_cG, lJ_cE, lJ_cL, lJ_cF, lJ_cGE, lJ_cLE, lJ_cNL, lJ_cNG, Int.cast_ofNat_Int, c_0, c_1, Int.natCast_add, Int.add_zero, cond_true, cond_false, Bool.and_self, Bool.and_true, Bool.true_and, Option.bind_some, decide_true, uI_hit, uI_miss, uI_o, uA_o, uA_s, ↓reduceIte, eq_self, true_or, or_true, or_false, false_or, true_and, and_true, false_and, and_false, or_self, and_self, not_false_eq_true, not_true_eq_false, tn_i, cq_in_y, q1]) rfl, t1, a_run_step (st := stX10_years) (p2 := (100000, [some (.int (iI (itr F n.toNat (aU (keepS S.1) 10 (s * 2 + 397)) 9)))], d2, e)) (by
          show sX10_years_59 d2 e _ _ _ = _
          unfold sX10_years_59
          simp (disch := omega) only [nI_iI, lN_lJ, iI_0, lJ_0, iI_add, iI_sub, iI_mul, iI_neg, lJ_add, lJ_sub, lJ_mul, lJ_neg, i_l, l_i, iI_cl, iI_inb, iI_eqT, iI_eqF, iI_ltT, iI_ltF, iI_leT, iI_leF, lJ_eqT, lJ_eqF, lJ_cG, lJ_cE, lJ_cL, lJ_cF, lJ_cGE, lJ_cLE, lJ_cNL, lJ_cNG, Int.cast_ofNat_Int, c_0, c_1, Int.natCast_add, Int.add_zero, cond_true, cond_false, Bool.and_self, Bool.and_true, Bool.true_and, Option.bind_some, decide_true, uI_hit, uI_miss, uI_o, uA_o, uA_s, ↓reduceIte, eq_self, true_or, or_true, or_false, false_or, true_and, and_true, false_and, and_false, or_self, and_self, not_false_eq_true, not_true_eq_false, tn_i, k11]) rfl, a_run_end]
        rfl
      · obtain ⟨d1, q1, q2, q3⟩ := mq_keep (e := e) hM.1 k4
        have c2 : MA (uI d1 109 10 (iI (s * 2 + 397))) 109 (aU (keepS S.1) 10 (s * 2 + 397)) := q2.put rfl
        have f2 : ∀ k, k ≠ 109 → uI d1 109 10 (iI (s * 2 + 397)) k = d k := fun k a => by rw [uI_o a]; exact q3 k a
        have hX0 := hM.mx hS
        have loop : ∀ m : Nat, (m : Int) ≤ n → ∃ d' e' v, MA d' 109 (itr F m (aU (keepS S.1) 10 (s * 2 + 397))) ∧ Kr d d' ∧ a_run stX11_years (43, [some (.ref 108), some (.int (iI s)), some (.int (iI n)), some (.int (iI (0 : Nat))), none], uI d1 109 10 (iI (s * 2 + 397)), e) = a_run stX11_years (43, [some (.ref 108), some (.int (iI s)), some (.int (iI n)), some (.int (iI (m : Nat))), v], d', e') := by
          intro m
          induction m with
          | zero => intro _; exact ⟨_, e, none, c2, Kr.only f2, rfl⟩
          | succ m ih =>
            intro hm
            obtain ⟨d2, e2, v, a1, b1, t1⟩ := ih (by omega)
            have e1 : itr F (m + 1) (aU (keepS S.1) 10 (s * 2 + 397)) = F m (itr F m (aU (keepS S.1) 10 (s * 2 + 397))) := rfl
            rw [e1, hFe]
            obtain ⟨bw, br⟩ := hBn m
            generalize itr F m (aU (keepS S.1) 10 (s * 2 + 397)) = B at a1 bw br
            have r10 : d2 109 10 = iI (B 10) := a1.cell (j := 10) (by omega)
            obtain ⟨d3, r1, r2, r3⟩ := mq_anew (e := e2) a1 bw
            have hX : MX d3 (anewS B 3) (lawT S) (lawG S) := by
              rw [anewS_o (by omega), br 3 (by omega), keepS_o k4 (by omega)]
              exact hX0.of (by rw [r3 111 (by omega), b1.1 111 (by omega) (by omega) (by omega)])
            obtain ⟨d4, e4, u1, u2, u3⟩ := mq_happens (e := e2) r2 (anewS_wn bw) hX (by rw [r3 108 (by omega), b1.2 23 (by omega)]; exact hM.2.2.2.2.2.2.2) (x := B 10) bw.2.2.2.1
            refine ⟨d4, e4, some (.int (iI (B 10))), u2, (b1.trans (Kr.only r3)).trans u3, t1.trans (a_run_step ?_ rfl)⟩
            show sX11_years_43 d2 e2 _ _ _ v = _
            unfold sX11_years_43
            simp (disch := omega) only [nI_iI, lN_lJ, iI_0, lJ_0, iI_add, iI_sub, iI_mul, iI_neg, lJ_add, lJ_sub, lJ_mul, lJ_neg, i_l, l_i, iI_cl, iI_inb, iI_eqT, iI_eqF, iI_ltT, iI_ltF, iI_leT, iI_leF, lJ_eqT, lJ_eqF, lJ_cG, lJ_cE, lJ_cL, lJ_cF, lJ_cGE, lJ_cLE, lJ_cNL, lJ_cNG, Int.cast_ofNat_Int, c_0, c_1, Int.natCast_add, Int.add_zero, cond_true, cond_false, Bool.and_self, Bool.and_true, Bool.true_and, Option.bind_some, decide_true, uI_hit, uI_miss, uI_o, uA_o, uA_s, ↓reduceIte, eq_self, true_or, or_true, or_false, false_or, true_and, and_true, false_and, and_false, or_self, and_self, not_false_eq_true, not_true_eq_false, tn_i, r10, r1, u1]
        obtain ⟨d2, e2, v, a1, b1, t1⟩ := loop n.toNat (by omega)
        have r9 : d2 109 9 = iI (itr F n.toNat (aU (keepS S.1) 10 (s * 2 + 397)) 9) := a1.cell (j := 9) (by omega)
        refine ⟨d2, e2, ?_, a1, b1⟩
        show FX11_years d e (iI s) (iI n) = _
        unfold FX11_years
        rw [a_run_step (st := stX11_years) (p := (0, [some (.ref 108), some (.int (iI s)), some (.int (iI n)), none, none], d, e)) (p2 := (43, [some (.ref 108), some (.int (iI s)), some (.int (iI n)), some (.int (iI (0 : Nat))), none], uI d1 109 10 (iI (s * 2 + 397)), e)) (by
          show sX11_years_0 d e _ _ = _
          unfold sX11_years_0
          simp (disch := omega) only [nI_iI, lN_lJ, iI_0, lJ_0, iI_add, iI_sub, iI_mul, iI_neg, lJ_add, lJ_sub, lJ_mul, lJ_neg, i_l, l_i, iI_cl, iI_inb, iI_eqT, iI_eqF, iI_ltT, iI_ltF, iI_leT, iI_leF, lJ_eqT, lJ_eqF, lJ_cG, lJ_cE, lJ_cL, lJ_cF, lJ_cGE, lJ_cLE, lJ_cNL, lJ_cNG, Int.cast_ofNat_Int, c_0, c_1, Int.natCast_add, Int.add_zero, cond_true, cond_false, Bool.and_self, Bool.and_true, Bool.true_and, Option.bind_some, decide_true, uI_hit, uI_miss, uI_o, uA_o, uA_s, ↓reduceIte, eq_self, true_or, or_true, or_false, false_or, true_and, and_true, false_and, and_false, or_self, and_self, not_false_eq_true, not_true_eq_false, tn_i, mq_in_y, q1]) rfl, t1, a_run_step (st := stX11_years) (p2 := (100000, [some (.int (iI (itr F n.toNat (aU (keepS S.1) 10 (s * 2 + 397)) 9)))], d2, e2)) (by
          show sX11_years_43 d2 e2 _ _ _ v = _
          unfold sX11_years_43
          simp (disch := omega) only [nI_iI, lN_lJ, iI_0, lJ_0, iI_add, iI_sub, iI_mul, iI_neg, lJ_add, lJ_sub, lJ_mul, lJ_neg, i_l, l_i, iI_cl, iI_inb, iI_eqT, iI_eqF, iI_ltT, iI_ltF, iI_leT, iI_leF, lJ_eqT, lJ_eqF, lJ_cG, lJ_cE, lJ_cL, lJ_cF, lJ_cGE, lJ_cLE, lJ_cNL, lJ_cNG, Int.cast_ofNat_Int, c_0, c_1, Int.natCast_add, Int.add_zero, cond_true, cond_false, Bool.and_self, Bool.and_true, Bool.true_and, Option.bind_some, decide_true, uI_hit, uI_miss, uI_o, uA_o, uA_s, ↓reduceIte, eq_self, true_or, or_true, or_false, false_or, true_and, and_true, false_and, and_false, or_self, and_self, not_false_eq_true, not_true_eq_false, tn_i, r9]) rfl, a_run_end]
        rfl
    · refine ⟨S, iI (-1), hS, fun d e hC => ⟨d, e, ?_, hC, Fc.refl d⟩, fun d e hM => ⟨d, e, ?_, hM, Fm.refl d⟩⟩
      · show FX10_years d e (iI s) (iI n) = _
        unfold FX10_years
        rw [a_run_step (st := stX10_years) (p := (0, [some (.ref 0), some (.int (iI s)), some (.int (iI n)), none], d, e)) (p2 := (100000, [some (.int (iI (-1)))], d, e)) (by
          show sX10_years_0 d e _ _ = _
          unfold sX10_years_0
          simp (disch := omega) only [nI_iI, lN_lJ, iI_0, lJ_0, iI_add, iI_sub, iI_mul, iI_neg, lJ_add, lJ_sub, lJ_mul, lJ_neg, i_l, l_i, iI_cl, iI_inb, iI_eqT, iI_eqF, iI_ltT, iI_ltF, iI_leT, iI_leF, lJ_eqT, lJ_eqF, lJ_cG, lJ_cE, lJ_cL, lJ_cF, lJ_cGE, lJ_cLE, lJ_cNL, lJ_cNG, Int.cast_ofNat_Int, c_0, c_1, Int.natCast_add, Int.add_zero, cond_true, cond_false, Bool.and_self, Bool.and_true, Bool.true_and, Option.bind_some, decide_true, uI_hit, uI_miss, uI_o, uA_o, uA_s, ↓reduceIte, eq_self, true_or, or_true, or_false, false_or, true_and, and_true, false_and, and_false, or_self, and_self, not_false_eq_true, not_true_eq_false, tn_i, cq_in_y, cq_in_n]) rfl, a_run_end]
        rfl
      · show FX11_years d e (iI s) (iI n) = _
        unfold FX11_years
        rw [a_run_step (st := stX11_years) (p := (0, [some (.ref 108), some (.int (iI s)), some (.int (iI n)), none, none], d, e)) (p2 := (100000, [some (.int (iI (-1)))], d, e)) (by
          show sX11_years_0 d e _ _ = _
          unfold sX11_years_0
          simp (disch := omega) only [nI_iI, lN_lJ, iI_0, lJ_0, iI_add, iI_sub, iI_mul, iI_neg, lJ_add, lJ_sub, lJ_mul, lJ_neg, i_l, l_i, iI_cl, iI_inb, iI_eqT, iI_eqF, iI_ltT, iI_ltF, iI_leT, iI_leF, lJ_eqT, lJ_eqF, lJ_cG, lJ_cE, lJ_cL, lJ_cF, lJ_cGE, lJ_cLE, lJ_cNL, lJ_cNG, Int.cast_ofNat_Int, c_0, c_1, Int.natCast_add, Int.add_zero, cond_true, cond_false, Bool.and_self, Bool.and_true, Bool.true_and, Option.bind_some, decide_true, uI_hit, uI_miss, uI_o, uA_o, uA_s, ↓reduceIte, eq_self, true_or, or_true, or_false, false_or, true_and, and_true, false_and, and_false, or_self, and_self, not_false_eq_true, not_true_eq_false, tn_i, mq_in_y, mq_in_n]) rfl, a_run_end]
        rfl
  · refine ⟨S, iI (-1), hS, fun d e hC => ⟨d, e, ?_, hC, Fc.refl d⟩, fun d e hM => ⟨d, e, ?_, hM, Fm.refl d⟩⟩
    · show FX10_years d e (iI s) (iI n) = _
      unfold FX10_years
      rw [a_run_step (st := stX10_years) (p := (0, [some (.ref 0), some (.int (iI s)), some (.int (iI n)), none], d, e)) (p2 := (100000, [some (.int (iI (-1)))], d, e)) (by
        show sX10_years_0 d e _ _ = _
        unfold sX10_years_0
        simp (disch := omega) only [nI_iI, lN_lJ, iI_0, lJ_0, iI_add, iI_sub, iI_mul, iI_neg, lJ_add, lJ_sub, lJ_mul, lJ_neg, i_l, l_i, iI_cl, iI_inb, iI_eqT, iI_eqF, iI_ltT, iI_ltF, iI_leT, iI_leF, lJ_eqT, lJ_eqF, lJ_cG, lJ_cE, lJ_cL, lJ_cF, lJ_cGE, lJ_cLE, lJ_cNL, lJ_cNG, Int.cast_ofNat_Int, c_0, c_1, Int.natCast_add, Int.add_zero, cond_true, cond_false, Bool.and_self, Bool.and_true, Bool.true_and, Option.bind_some, decide_true, uI_hit, uI_miss, uI_o, uA_o, uA_s, ↓reduceIte, eq_self, true_or, or_true, or_false, false_or, true_and, and_true, false_and, and_false, or_self, and_self, not_false_eq_true, not_true_eq_false, tn_i, cq_in_n]) rfl, a_run_end]
      rfl
    · show FX11_years d e (iI s) (iI n) = _
      unfold FX11_years
      rw [a_run_step (st := stX11_years) (p := (0, [some (.ref 108), some (.int (iI s)), some (.int (iI n)), none, none], d, e)) (p2 := (100000, [some (.int (iI (-1)))], d, e)) (by
        show sX11_years_0 d e _ _ = _
        unfold sX11_years_0
        simp (disch := omega) only [nI_iI, lN_lJ, iI_0, lJ_0, iI_add, iI_sub, iI_mul, iI_neg, lJ_add, lJ_sub, lJ_mul, lJ_neg, i_l, l_i, iI_cl, iI_inb, iI_eqT, iI_eqF, iI_ltT, iI_ltF, iI_leT, iI_leF, lJ_eqT, lJ_eqF, lJ_cG, lJ_cE, lJ_cL, lJ_cF, lJ_cGE, lJ_cLE, lJ_cNL, lJ_cNG, Int.cast_ofNat_Int, c_0, c_1, Int.natCast_add, Int.add_zero, cond_true, cond_false, Bool.and_self, Bool.and_true, Bool.true_and, Option.bind_some, decide_true, uI_hit, uI_miss, uI_o, uA_o, uA_s, ↓reduceIte, eq_self, true_or, or_true, or_false, false_or, true_and, and_true, false_and, and_false, or_self, and_self, not_false_eq_true, not_true_eq_false, tn_i, mq_in_n]) rfl, a_run_end]
      rfl
