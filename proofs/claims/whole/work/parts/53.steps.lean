/-! ===== let, out, go, undo ===== -/
theorem enterS_o {A : Int → Int} {c h j : Int} (hj : j < 1936 ∧ j ≠ 11 ∧ 0 ≤ A 11 ∧ j ≠ 12 + 3 * c + 1 ∧ j ≠ 30 + 2 * h + 1 ∧ 0 ≤ c ∧ 0 ≤ h ∧ c < 6 ∧ h < 6) : enterS A c h j = A j := by
  unfold enterS
  rw [noteS_o (by rw [aU_miss (by omega), aU_miss (by omega)]; omega), aU_miss (by omega), aU_miss (by omega)]
/-- a step by hand: what class and reference make of the night behind the keeping -/
theorem OpK.step {lo hi : Int} {FC FM : aI → aJ → Option (Int32 × aI × aJ)} {S : aS} (hS : sOK S) {B : Int → Int} {z : Int} (hz : lo ≤ z ∧ z ≤ hi) (hW : WN B) (ho : ∀ j : Int, ((0 ≤ j ∧ j < 9) ∨ (42 ≤ j ∧ j < 1936)) → B j = keepS S.1 j)
    (hc : ∀ (d : aI) (e : aJ), CI d S → ∃ d' e', FC d e = some (iI z, d', e') ∧ CN d' 1 B ∧ RG d' 1 (keepS S.1) ∧ (∀ k, (k < 2 ∨ (12 < k ∧ k ≠ 93 ∧ k ≠ 94)) → d' k = d k)) (hm : ∀ (d : aI) (e : aJ), MI d S → ∃ d' e', FM d e = some (iI z, d', e') ∧ MA d' 109 B ∧ Kr d d') :
    ∃ (S' : aS) (z : Int), sOK S' ∧ (∀ (d : aI) (e : aJ), CI d S → ∃ d' e', FC d e = some (iI z, d', e') ∧ CI d' S' ∧ Fc d d') ∧ (∀ (d : aI) (e : aJ), MI d S → ∃ d' e', FM d e = some (iI z, d', e') ∧ MI d' S' ∧ Fm d d') ∧ S'.2 = S.2 ∧ S'.1 2 = S.1 2 ∧ lo ≤ z ∧ z ≤ hi := by
  have h4 := hS.1.2.1
  have s2 := hS.1.2.2.1.2
  have b2 : B 2 = S.1 2 := (ho 2 (by omega)).trans (keepS_o h4 (by omega))
  refine ⟨(B, S.2), z, hS.step (hS.1.step hW ho) b2, fun d e hC => ?_, fun d e hM => ?_, rfl, b2, hz.1, hz.2⟩
  · obtain ⟨d', e', q1, q2, q3, q4⟩ := hc d e hC
    exact ⟨d', e', q1, hC.step (hC.1.step hS.1 q2 q3 (fun k hk => q4 k (by omega)) ho) (fun k a b => q4 k (by omega)) b2 s2, fun k a => q4 k (by omega)⟩
  · obtain ⟨d', e', q1, q2, q3⟩ := hm d e hM
    exact ⟨d', e', q1, hM.step q2 q3 b2, q3.fm⟩
theorem k_let (x y : Int32) : OpK 0 1 (fun d e => FX10_let d e x y) (fun d e => FX11_let d e x y) := by
  obtain ⟨c, rfl, h1, h2⟩ := iI_ex x
  obtain ⟨h, rfl, h3, h4⟩ := iI_ex y
  intro S hS
  have hW := hS.1.1
  have k4 := hS.1.2.1
  by_cases hl : canLetS S.1 c h
  · have hK := keepS_si hS.1
    have w0 := hW.1
    have w1 := hW.2.1
    obtain ⟨l1, l2, l3, l4, l5⟩ := hl
    have o : ∀ j : Int, ((j < 136 ∧ j ≠ 4) ∨ 1936 ≤ j) → keepS S.1 j = S.1 j := fun j hj => keepS_o k4 hj
    have hp : keepS S.1 (12 + 3 * c) = keepS S.1 (42 + h) := by rw [o _ (by omega), o _ (by omega)]; exact l5
    have hc' : 0 ≤ c ∧ c < keepS S.1 1 := by rw [o 1 (by omega)]; exact l1
    have hh' : 0 ≤ h ∧ h < keepS S.1 0 := by rw [o 0 (by omega)]; exact l2
    refine OpK.step (z := 1) hS (by omega) (enterS_wn hK.1 hc' hh' hp) (fun j hj => enterS_o (by have := hK.1.2.2.2.2.1; omega)) (fun d e hC => ?_) (fun d e hM => ?_)
    · obtain ⟨d1, q1, q2, q3⟩ := cq_keep (e := e) hC.cn hC.rg hS.1
      have c1 : CN d1 1 (keepS S.1) := (hC.cn.of (fun k a b => q3 k (by omega) (by omega))).ag hW (keepS_ag k4).symm
      obtain ⟨d2, r1, r2, r3⟩ := cq_enter (e := e) c1 hK.1 hc' hh' hp
      refine ⟨d2, e, ?_, r2, q2.of (fun k a b => r3 k (by omega)), fun k hk => by rw [r3 k (by omega), q3 k (by omega) (by omega)]⟩
      have g := (cq_canEnter (e := e) hC.cn hW (c := c) (h := h) (by omega)).1 ⟨l1, l2, l3, l4, l5⟩
      unfold FX10_let FX10_enter FX10_keepIf
      simp (disch := omega) only [nI_iI, lN_lJ, iI_0, lJ_0, iI_add, iI_sub, iI_mul, iI_neg, lJ_add, lJ_sub, lJ_mul, lJ_neg, i_l, l_i, iI_cl, iI_inb, iI_eqT, iI_eqF, iI_ltT, iI_ltF, iI_leT, iI_leF, lJ_eqT, lJ_eqF, lJ_cG, lJ_cE, lJ_cL, lJ_cF, lJ_cGE, lJ_cLE, lJ_cNL, lJ_cNG, Int.cast_ofNat_Int, c_0, c_1, Int.natCast_add, Int.add_zero, cond_true, cond_false, Bool.and_self, Bool.and_true, Bool.true_and, Option.bind_some, decide_true, uI_hit, uI_miss, uI_o, uA_o, uA_s, ↓reduceIte, eq_self, true_or, or_true, or_false, false_or, true_and, and_true, false_and, and_false, or_self, and_self, not_false_eq_true, not_true_eq_false, tn_i, g, q1, r1, iI_one, decide_eq_true]
    · obtain ⟨d1, q1, q2, q3⟩ := mq_keep (e := e) hM.1 k4
      obtain ⟨d2, r1, r2, r3⟩ := mq_letNow (e := e) q2 hK.1 hc' hh' hp (by rw [q3 108 (by omega)]; exact hM.2.2.2.2.2.2.2)
      refine ⟨d2, e, ?_, r2, (Kr.only q3).trans (Kr.only r3)⟩
      have g := (mq_canLet (e := e) hM.1 hW (c := c) (h := h) (by omega)).1 ⟨l1, l2, l3, l4, l5⟩
      unfold FX11_let
      simp (disch := omega) only [nI_iI, lN_lJ, iI_0, lJ_0, iI_add, iI_sub, iI_mul, iI_neg, lJ_add, lJ_sub, lJ_mul, lJ_neg, i_l, l_i, iI_cl, iI_inb, iI_eqT, iI_eqF, iI_ltT, iI_ltF, iI_leT, iI_leF, lJ_eqT, lJ_eqF, lJ_cG, lJ_cE, lJ_cL, lJ_cF, lJ_cGE, lJ_cLE, lJ_cNL, lJ_cNG, Int.cast_ofNat_Int, c_0, c_1, Int.natCast_add, Int.add_zero, cond_true, cond_false, Bool.and_self, Bool.and_true, Bool.true_and, Option.bind_some, decide_true, uI_hit, uI_miss, uI_o, uA_o, uA_s, ↓reduceIte, eq_self, true_or, or_true, or_false, false_or, true_and, and_true, false_and, and_false, or_self, and_self, not_false_eq_true, not_true_eq_false, tn_i, g, q1, r1, iI_one, decide_eq_true]
  · refine ⟨S, 0, hS, fun d e hC => ⟨d, e, ?_, hC, Fc.refl d⟩, fun d e hM => ⟨d, e, ?_, hM, Fm.refl d⟩, rfl, rfl, by omega, by omega⟩
    · have g := (cq_canEnter (e := e) hC.cn hW (c := c) (h := h) (by omega)).2 hl
      unfold FX10_let FX10_enter
      simp (disch := omega) only [nI_iI, lN_lJ, iI_0, lJ_0, iI_add, iI_sub, iI_mul, iI_neg, lJ_add, lJ_sub, lJ_mul, lJ_neg, i_l, l_i, iI_cl, iI_inb, iI_eqT, iI_eqF, iI_ltT, iI_ltF, iI_leT, iI_leF, lJ_eqT, lJ_eqF, lJ_cG, lJ_cE, lJ_cL, lJ_cF, lJ_cGE, lJ_cLE, lJ_cNL, lJ_cNG, Int.cast_ofNat_Int, c_0, c_1, Int.natCast_add, Int.add_zero, cond_true, cond_false, Bool.and_self, Bool.and_true, Bool.true_and, Option.bind_some, decide_true, uI_hit, uI_miss, uI_o, uA_o, uA_s, ↓reduceIte, eq_self, true_or, or_true, or_false, false_or, true_and, and_true, false_and, and_false, or_self, and_self, not_false_eq_true, not_true_eq_false, tn_i, g, iI_one, decide_eq_true]
    · have g := (mq_canLet (e := e) hM.1 hW (c := c) (h := h) (by omega)).2 hl
      unfold FX11_let
      simp (disch := omega) only [nI_iI, lN_lJ, iI_0, lJ_0, iI_add, iI_sub, iI_mul, iI_neg, lJ_add, lJ_sub, lJ_mul, lJ_neg, i_l, l_i, iI_cl, iI_inb, iI_eqT, iI_eqF, iI_ltT, iI_ltF, iI_leT, iI_leF, lJ_eqT, lJ_eqF, lJ_cG, lJ_cE, lJ_cL, lJ_cF, lJ_cGE, lJ_cLE, lJ_cNL, lJ_cNG, Int.cast_ofNat_Int, c_0, c_1, Int.natCast_add, Int.add_zero, cond_true, cond_false, Bool.and_self, Bool.and_true, Bool.true_and, Option.bind_some, decide_true, uI_hit, uI_miss, uI_o, uA_o, uA_s, ↓reduceIte, eq_self, true_or, or_true, or_false, false_or, true_and, and_true, false_and, and_false, or_self, and_self, not_false_eq_true, not_true_eq_false, tn_i, g, iI_one, decide_eq_true]
theorem gst_at {A : Int → Int} {h : Int} (hW : WN A) (hg : gst A h ≠ -1) : 0 ≤ gst A h ∧ gst A h < A 1 ∧ A (12 + 3 * gst A h + 1) = h := by
  have g := gst_in hW h
  have y : A (12 + 3 * ((gst A h).toNat : Int) + 1) = h := fnd_yes (p := fun c : Nat => A (12 + 3 * c + 1) = h) hg
  rw [tn_i (by omega)] at y
  exact ⟨by omega, g.2, y⟩
theorem k_out (x : Int32) : OpK (-1) 9999 (fun d e => FX10_out d e x) (fun d e => FX11_out d e x) := by
  obtain ⟨h, rfl, h3, h4⟩ := iI_ex x
  intro S hS
  have hW := hS.1.1
  have k4 := hS.1.2.1
  have w0 := hW.1
  have w1 := hW.2.1
  by_cases hh : 0 ≤ h ∧ h < S.1 0
  · by_cases hg : gst S.1 h = -1
    · refine ⟨S, (-1), hS, fun d e hC => ⟨d, e, ?_, hC, Fc.refl d⟩, fun d e hM => ⟨d, e, ?_, hM, Fm.refl d⟩, rfl, rfl, by omega, by omega⟩
      · have g := cq_guest (e := e) hC.cn hW hh
        rw [hg] at g
        unfold FX10_out FX10_leave
        simp (disch := omega) only [nI_iI, lN_lJ, iI_0, lJ_0, iI_add, iI_sub, iI_mul, iI_neg, lJ_add, lJ_sub, lJ_mul, lJ_neg, i_l, l_i, iI_cl, iI_inb, iI_eqT, iI_eqF, iI_ltT, iI_ltF, iI_leT, iI_leF, lJ_eqT, lJ_eqF, lJ_cG, lJ_cE, lJ_cL, lJ_cF, lJ_cGE, lJ_cLE, lJ_cNL, lJ_cNG, Int.cast_ofNat_Int, c_0, c_1, Int.natCast_add, Int.add_zero, cond_true, cond_false, Bool.and_self, Bool.and_true, Bool.true_and, Option.bind_some, decide_true, uI_hit, uI_miss, uI_o, uA_o, uA_s, ↓reduceIte, eq_self, true_or, or_true, or_false, false_or, true_and, and_true, false_and, and_false, or_self, and_self, not_false_eq_true, not_true_eq_false, tn_i, g]
      · have g := mq_catIn (e := e) hM.1 hW (h := h) (by omega)
        rw [hg] at g
        unfold FX11_out
        simp (disch := omega) only [nI_iI, lN_lJ, iI_0, lJ_0, iI_add, iI_sub, iI_mul, iI_neg, lJ_add, lJ_sub, lJ_mul, lJ_neg, i_l, l_i, iI_cl, iI_inb, iI_eqT, iI_eqF, iI_ltT, iI_ltF, iI_leT, iI_leF, lJ_eqT, lJ_eqF, lJ_cG, lJ_cE, lJ_cL, lJ_cF, lJ_cGE, lJ_cLE, lJ_cNL, lJ_cNG, Int.cast_ofNat_Int, c_0, c_1, Int.natCast_add, Int.add_zero, cond_true, cond_false, Bool.and_self, Bool.and_true, Bool.true_and, Option.bind_some, decide_true, uI_hit, uI_miss, uI_o, uA_o, uA_s, ↓reduceIte, eq_self, true_or, or_true, or_false, false_or, true_and, and_true, false_and, and_false, or_self, and_self, not_false_eq_true, not_true_eq_false, tn_i, mq_isHouse_y hM.1 hW, g]
    · obtain ⟨g0, g1, g2⟩ := gst_at hW hg
      have hK := keepS_si hS.1
      have o : ∀ j : Int, ((j < 136 ∧ j ≠ 4) ∨ 1936 ≤ j) → keepS S.1 j = S.1 j := fun j hj => keepS_o k4 hj
      have hc' : 0 ≤ gst S.1 h ∧ gst S.1 h < keepS S.1 1 := by rw [o 1 (by omega)]; exact ⟨g0, g1⟩
      have hin : keepS S.1 (12 + 3 * gst S.1 h + 1) = h := by rw [o _ (by omega)]; exact g2
      refine OpK.step (z := (gst S.1 h)) hS (by omega) (outS_wn hK.1 hc' (by rw [hin]; exact hh.1) (w := 1) (by omega)) (fun j hj => outS_o (by have := hK.1.2.2.2.2.1; omega)) (fun d e hC => ?_) (fun d e hM => ?_)
      · obtain ⟨d1, q1, q2, q3⟩ := cq_keep (e := e) hC.cn hC.rg hS.1
        have c1 : CN d1 1 (keepS S.1) := (hC.cn.of (fun k a b => q3 k (by omega) (by omega))).ag hW (keepS_ag k4).symm
        obtain ⟨d2, r1, r2, r3⟩ := cq_leave (e := e) c1 hK.1 hc' (by rw [hin]; exact hh.1) (w := 1) (by omega)
        rw [hin] at r1
        refine ⟨d2, e, ?_, r2, q2.of (fun k a b => r3 k (by omega)), fun k hk => by rw [r3 k (by omega), q3 k (by omega) (by omega)]⟩
        have g := cq_guest (e := e) hC.cn hW hh
        unfold FX10_out FX10_leave FX10_keepIf
        simp (disch := omega) only [nI_iI, lN_lJ, iI_0, lJ_0, iI_add, iI_sub, iI_mul, iI_neg, lJ_add, lJ_sub, lJ_mul, lJ_neg, i_l, l_i, iI_cl, iI_inb, iI_eqT, iI_eqF, iI_ltT, iI_ltF, iI_leT, iI_leF, lJ_eqT, lJ_eqF, lJ_cG, lJ_cE, lJ_cL, lJ_cF, lJ_cGE, lJ_cLE, lJ_cNL, lJ_cNG, Int.cast_ofNat_Int, c_0, c_1, Int.natCast_add, Int.add_zero, cond_true, cond_false, Bool.and_self, Bool.and_true, Bool.true_and, Option.bind_some, decide_true, uI_hit, uI_miss, uI_o, uA_o, uA_s, ↓reduceIte, eq_self, true_or, or_true, or_false, false_or, true_and, and_true, false_and, and_false, or_self, and_self, not_false_eq_true, not_true_eq_false, tn_i, g, q1, r1]
      · obtain ⟨d1, q1, q2, q3⟩ := mq_keep (e := e) hM.1 k4
        obtain ⟨d2, r1, r2, r3⟩ := mq_outNow (e := e) (b := true) q2 hK.1 hc' (by rw [hin]; exact hh.1) (w := 1) (by omega) (by rw [q3 108 (by omega)]; exact hM.2.2.2.2.2.2.2)
        refine ⟨d2, e, ?_, r2, (Kr.only q3).trans (Kr.only r3)⟩
        have g := mq_catIn (e := e) hM.1 hW (h := h) (by omega)
        unfold FX11_out
        simp (disch := omega) only [nI_iI, lN_lJ, iI_0, lJ_0, iI_add, iI_sub, iI_mul, iI_neg, lJ_add, lJ_sub, lJ_mul, lJ_neg, i_l, l_i, iI_cl, iI_inb, iI_eqT, iI_eqF, iI_ltT, iI_ltF, iI_leT, iI_leF, lJ_eqT, lJ_eqF, lJ_cG, lJ_cE, lJ_cL, lJ_cF, lJ_cGE, lJ_cLE, lJ_cNL, lJ_cNG, Int.cast_ofNat_Int, c_0, c_1, Int.natCast_add, Int.add_zero, cond_true, cond_false, Bool.and_self, Bool.and_true, Bool.true_and, Option.bind_some, decide_true, uI_hit, uI_miss, uI_o, uA_o, uA_s, ↓reduceIte, eq_self, true_or, or_true, or_false, false_or, true_and, and_true, false_and, and_false, or_self, and_self, not_false_eq_true, not_true_eq_false, tn_i, mq_isHouse_y hM.1 hW, g, q1, r1]
  · refine ⟨S, (-1), hS, fun d e hC => ⟨d, e, ?_, hC, Fc.refl d⟩, fun d e hM => ⟨d, e, ?_, hM, Fm.refl d⟩, rfl, rfl, by omega, by omega⟩
    · have g := cq_guest_n (e := e) hC.cn hW (h := h) (by omega)
      unfold FX10_out FX10_leave
      simp (disch := omega) only [nI_iI, lN_lJ, iI_0, lJ_0, iI_add, iI_sub, iI_mul, iI_neg, lJ_add, lJ_sub, lJ_mul, lJ_neg, i_l, l_i, iI_cl, iI_inb, iI_eqT, iI_eqF, iI_ltT, iI_ltF, iI_leT, iI_leF, lJ_eqT, lJ_eqF, lJ_cG, lJ_cE, lJ_cL, lJ_cF, lJ_cGE, lJ_cLE, lJ_cNL, lJ_cNG, Int.cast_ofNat_Int, c_0, c_1, Int.natCast_add, Int.add_zero, cond_true, cond_false, Bool.and_self, Bool.and_true, Bool.true_and, Option.bind_some, decide_true, uI_hit, uI_miss, uI_o, uA_o, uA_s, ↓reduceIte, eq_self, true_or, or_true, or_false, false_or, true_and, and_true, false_and, and_false, or_self, and_self, not_false_eq_true, not_true_eq_false, tn_i, g]
    · unfold FX11_out
      simp (disch := omega) only [nI_iI, lN_lJ, iI_0, lJ_0, iI_add, iI_sub, iI_mul, iI_neg, lJ_add, lJ_sub, lJ_mul, lJ_neg, i_l, l_i, iI_cl, iI_inb, iI_eqT, iI_eqF, iI_ltT, iI_ltF, iI_leT, iI_leF, lJ_eqT, lJ_eqF, lJ_cG, lJ_cE, lJ_cL, lJ_cF, lJ_cGE, lJ_cLE, lJ_cNL, lJ_cNG, Int.cast_ofNat_Int, c_0, c_1, Int.natCast_add, Int.add_zero, cond_true, cond_false, Bool.and_self, Bool.and_true, Bool.true_and, Option.bind_some, decide_true, uI_hit, uI_miss, uI_o, uA_o, uA_s, ↓reduceIte, eq_self, true_or, or_true, or_false, false_or, true_and, and_true, false_and, and_false, or_self, and_self, not_false_eq_true, not_true_eq_false, tn_i, mq_isHouse_n hM.1 hW]
theorem iI_nz {x : Int32} (h : x ≠ 0) : (x = iI 0) = False := eq_false h
theorem k_go (x y : Int32) (hy : y = 0 ∨ y = 1) : OpK 0 1 (fun d e => FX10_go d e x y) (fun d e => FX11_go d e x y) := by
  obtain ⟨c, rfl, h3, h4⟩ := iI_ex x
  obtain ⟨up, rfl⟩ : ∃ up : Bool, y = iI (tv up) := by
    rcases hy with rfl | rfl
    · exact ⟨false, rfl⟩
    · exact ⟨true, rfl⟩
  intro S hS
  have hW := hS.1.1
  have k4 := hS.1.2.1
  have w0 := hW.1
  have w1 := hW.2.1
  by_cases hc : 0 ≤ c ∧ c < S.1 1
  · have wcc := hW.2.2.2.2.2.1 c hc.1 hc.2
    by_cases hi : S.1 (12 + 3 * c + 1) = -1
    · have hK := keepS_si hS.1
      have o : ∀ j : Int, ((j < 136 ∧ j ≠ 4) ∨ 1936 ≤ j) → keepS S.1 j = S.1 j := fun j hj => keepS_o k4 hj
      have hc' : 0 ≤ c ∧ c < keepS S.1 1 := by rw [o 1 (by omega)]; exact hc
      refine OpK.step (z := 1) hS (by omega) (moveS_wn (up := up) hK.1 hc' (by rw [o _ (by omega)]; exact hi)) (fun j hj => moveS_o (by omega)) (fun d e hC => ?_) (fun d e hM => ?_)
      · obtain ⟨d1, q1, q2, q3⟩ := cq_keep (e := e) hC.cn hC.rg hS.1
        have c1 : CN d1 1 (keepS S.1) := (hC.cn.of (fun k a b => q3 k (by omega) (by omega))).ag hW (keepS_ag k4).symm
        obtain ⟨d2, r1, r2, r3⟩ := cq_move (e := e) c1 hK.1 hc' up
        have m8 : d 8 c.toNat = iI (-1) := by
          have := hC.cn.2.2.2.2.2.2.2.2.2.2.1 c.toNat (by omega)
          rw [tn_i (by omega), hi] at this
          exact this
        refine ⟨d2, e, ?_, r2, q2.of (fun k a b => r3 k (by omega)), fun k hk => by rw [r3 k (by omega), q3 k (by omega) (by omega)]⟩
        unfold FX10_go FX10_walk FX10_keepIf
        cases up
        · have r1' : FX2_move d1 e (iI c) (iI (-1)) = some ((), d2, e) := r1
          simp only [show tv false = 0 from rfl]
          simp (disch := omega) only [nI_iI, lN_lJ, iI_0, lJ_0, iI_add, iI_sub, iI_mul, iI_neg, lJ_add, lJ_sub, lJ_mul, lJ_neg, i_l, l_i, iI_cl, iI_inb, iI_eqT, iI_eqF, iI_ltT, iI_ltF, iI_leT, iI_leF, lJ_eqT, lJ_eqF, lJ_cG, lJ_cE, lJ_cL, lJ_cF, lJ_cGE, lJ_cLE, lJ_cNL, lJ_cNG, Int.cast_ofNat_Int, c_0, c_1, Int.natCast_add, Int.add_zero, cond_true, cond_false, Bool.and_self, Bool.and_true, Bool.true_and, Option.bind_some, decide_true, uI_hit, uI_miss, uI_o, uA_o, uA_s, ↓reduceIte, eq_self, true_or, or_true, or_false, false_or, true_and, and_true, false_and, and_false, or_self, and_self, not_false_eq_true, not_true_eq_false, tn_i, cq_isCat_y hC.cn hW, m8, q1, r1', iI_one, decide_eq_true]
        · have r1' : FX2_move d1 e (iI c) (iI 1) = some ((), d2, e) := r1
          simp only [show tv true = 1 from rfl]
          simp (disch := omega) only [nI_iI, lN_lJ, iI_0, lJ_0, iI_add, iI_sub, iI_mul, iI_neg, lJ_add, lJ_sub, lJ_mul, lJ_neg, i_l, l_i, iI_cl, iI_inb, iI_eqT, iI_eqF, iI_ltT, iI_ltF, iI_leT, iI_leF, lJ_eqT, lJ_eqF, lJ_cG, lJ_cE, lJ_cL, lJ_cF, lJ_cGE, lJ_cLE, lJ_cNL, lJ_cNG, Int.cast_ofNat_Int, c_0, c_1, Int.natCast_add, Int.add_zero, cond_true, cond_false, Bool.and_self, Bool.and_true, Bool.true_and, Option.bind_some, decide_true, uI_hit, uI_miss, uI_o, uA_o, uA_s, ↓reduceIte, eq_self, true_or, or_true, or_false, false_or, true_and, and_true, false_and, and_false, or_self, and_self, not_false_eq_true, not_true_eq_false, tn_i, cq_isCat_y hC.cn hW, m8, q1, r1', iI_one, decide_eq_true]
      · obtain ⟨d1, q1, q2, q3⟩ := mq_keep (e := e) hM.1 k4
        obtain ⟨d2, r1, r2, r3⟩ := mq_goNow (e := e) q2 hK.1 hc' up
        refine ⟨d2, e, ?_, r2, (Kr.only q3).trans (Kr.only r3)⟩
        unfold FX11_go FX11_canGo
        simp (disch := omega) only [nI_iI, lN_lJ, iI_0, lJ_0, iI_add, iI_sub, iI_mul, iI_neg, lJ_add, lJ_sub, lJ_mul, lJ_neg, i_l, l_i, iI_cl, iI_inb, iI_eqT, iI_eqF, iI_ltT, iI_ltF, iI_leT, iI_leF, lJ_eqT, lJ_eqF, lJ_cG, lJ_cE, lJ_cL, lJ_cF, lJ_cGE, lJ_cLE, lJ_cNL, lJ_cNG, Int.cast_ofNat_Int, c_0, c_1, Int.natCast_add, Int.add_zero, cond_true, cond_false, Bool.and_self, Bool.and_true, Bool.true_and, Option.bind_some, decide_true, uI_hit, uI_miss, uI_o, uA_o, uA_s, ↓reduceIte, eq_self, true_or, or_true, or_false, false_or, true_and, and_true, false_and, and_false, or_self, and_self, not_false_eq_true, not_true_eq_false, tn_i, mq_isCat_y hM.1 hW, mq_wo_y hM.1 hW, q1, r1, iI_one, decide_eq_true]
    · refine ⟨S, 0, hS, fun d e hC => ⟨d, e, ?_, hC, Fc.refl d⟩, fun d e hM => ⟨d, e, ?_, hM, Fm.refl d⟩, rfl, rfl, by omega, by omega⟩
      · have m8 := hC.cn.2.2.2.2.2.2.2.2.2.2.1 c.toNat (by omega)
        rw [tn_i (by omega)] at m8
        have m8' : d 8 c.toNat = iI (S.1 (12 + 3 * c + 1)) := m8
        unfold FX10_go FX10_walk
        simp (disch := omega) only [nI_iI, lN_lJ, iI_0, lJ_0, iI_add, iI_sub, iI_mul, iI_neg, lJ_add, lJ_sub, lJ_mul, lJ_neg, i_l, l_i, iI_cl, iI_inb, iI_eqT, iI_eqF, iI_ltT, iI_ltF, iI_leT, iI_leF, lJ_eqT, lJ_eqF, lJ_cG, lJ_cE, lJ_cL, lJ_cF, lJ_cGE, lJ_cLE, lJ_cNL, lJ_cNG, Int.cast_ofNat_Int, c_0, c_1, Int.natCast_add, Int.add_zero, cond_true, cond_false, Bool.and_self, Bool.and_true, Bool.true_and, Option.bind_some, decide_true, uI_hit, uI_miss, uI_o, uA_o, uA_s, ↓reduceIte, eq_self, true_or, or_true, or_false, false_or, true_and, and_true, false_and, and_false, or_self, and_self, not_false_eq_true, not_true_eq_false, tn_i, cq_isCat_y hC.cn hW, m8', iI_one, decide_eq_true]
      · unfold FX11_go FX11_canGo
        simp (disch := omega) only [nI_iI, lN_lJ, iI_0, lJ_0, iI_add, iI_sub, iI_mul, iI_neg, lJ_add, lJ_sub, lJ_mul, lJ_neg, i_l, l_i, iI_cl, iI_inb, iI_eqT, iI_eqF, iI_ltT, iI_ltF, iI_leT, iI_leF, lJ_eqT, lJ_eqF, lJ_cG, lJ_cE, lJ_cL, lJ_cF, lJ_cGE, lJ_cLE, lJ_cNL, lJ_cNG, Int.cast_ofNat_Int, c_0, c_1, Int.natCast_add, Int.add_zero, cond_true, cond_false, Bool.and_self, Bool.and_true, Bool.true_and, Option.bind_some, decide_true, uI_hit, uI_miss, uI_o, uA_o, uA_s, ↓reduceIte, eq_self, true_or, or_true, or_false, false_or, true_and, and_true, false_and, and_false, or_self, and_self, not_false_eq_true, not_true_eq_false, tn_i, mq_isCat_y hM.1 hW, mq_wo_n hM.1 hW, iI_one, decide_eq_true]
  · refine ⟨S, 0, hS, fun d e hC => ⟨d, e, ?_, hC, Fc.refl d⟩, fun d e hM => ⟨d, e, ?_, hM, Fm.refl d⟩, rfl, rfl, by omega, by omega⟩
    · unfold FX10_go FX10_walk
      simp (disch := omega) only [nI_iI, lN_lJ, iI_0, lJ_0, iI_add, iI_sub, iI_mul, iI_neg, lJ_add, lJ_sub, lJ_mul, lJ_neg, i_l, l_i, iI_cl, iI_inb, iI_eqT, iI_eqF, iI_ltT, iI_ltF, iI_leT, iI_leF, lJ_eqT, lJ_eqF, lJ_cG, lJ_cE, lJ_cL, lJ_cF, lJ_cGE, lJ_cLE, lJ_cNL, lJ_cNG, Int.cast_ofNat_Int, c_0, c_1, Int.natCast_add, Int.add_zero, cond_true, cond_false, Bool.and_self, Bool.and_true, Bool.true_and, Option.bind_some, decide_true, uI_hit, uI_miss, uI_o, uA_o, uA_s, ↓reduceIte, eq_self, true_or, or_true, or_false, false_or, true_and, and_true, false_and, and_false, or_self, and_self, not_false_eq_true, not_true_eq_false, tn_i, cq_isCat_n hC.cn hW, iI_one, decide_eq_true]
    · unfold FX11_go FX11_canGo
      simp (disch := omega) only [nI_iI, lN_lJ, iI_0, lJ_0, iI_add, iI_sub, iI_mul, iI_neg, lJ_add, lJ_sub, lJ_mul, lJ_neg, i_l, l_i, iI_cl, iI_inb, iI_eqT, iI_eqF, iI_ltT, iI_ltF, iI_leT, iI_leF, lJ_eqT, lJ_eqF, lJ_cG, lJ_cE, lJ_cL, lJ_cF, lJ_cGE, lJ_cLE, lJ_cNL, lJ_cNG, Int.cast_ofNat_Int, c_0, c_1, Int.natCast_add, Int.add_zero, cond_true, cond_false, Bool.and_self, Bool.and_true, Bool.true_and, Option.bind_some, decide_true, uI_hit, uI_miss, uI_o, uA_o, uA_s, ↓reduceIte, eq_self, true_or, or_true, or_false, false_or, true_and, and_true, false_and, and_false, or_self, and_self, not_false_eq_true, not_true_eq_false, tn_i, mq_isCat_n hM.1 hW, iI_one, decide_eq_true]
theorem o_undo : Op FX10_undo FX11_undo := by
  intro S hS
  have hW := hS.1.1
  have k4 := hS.1.2.1
  by_cases h : S.1 4 = 0
  · refine ⟨S, iI (-1), hS, fun d e hC => ⟨d, e, ?_, hC, Fc.refl d⟩, fun d e hM => ⟨d, e, ?_, hM, Fm.refl d⟩⟩
    · obtain ⟨f, f0, f1, g1, g2, gr⟩ := hC.rg
      have hg2 : d 11 2 = iI (S.1 4) := g2
      rw [h] at hg2
      unfold FX10_undo
      simp (disch := omega) only [nI_iI, lN_lJ, iI_0, lJ_0, iI_add, iI_sub, iI_mul, iI_neg, lJ_add, lJ_sub, lJ_mul, lJ_neg, i_l, l_i, iI_cl, iI_inb, iI_eqT, iI_eqF, iI_ltT, iI_ltF, iI_leT, iI_leF, lJ_eqT, lJ_eqF, lJ_cG, lJ_cE, lJ_cL, lJ_cF, lJ_cGE, lJ_cLE, lJ_cNL, lJ_cNG, Int.cast_ofNat_Int, c_0, c_1, Int.natCast_add, Int.add_zero, cond_true, cond_false, Bool.and_self, Bool.and_true, Bool.true_and, Option.bind_some, decide_true, uI_hit, uI_miss, uI_o, uA_o, uA_s, ↓reduceIte, eq_self, true_or, or_true, or_false, false_or, true_and, and_true, false_and, and_false, or_self, and_self, not_false_eq_true, not_true_eq_false, tn_i, hg2]
    · have r4 : d 109 4 = iI (S.1 4) := hM.1.cell (j := 4) (by omega)
      rw [h] at r4
      unfold FX11_undo
      rw [a_run_step (st := stX11_undo) (p := (0, [some (.ref 108), none, none], d, e)) (p2 := (100000, [some (.int (iI (-1)))], d, e)) (by
        show sX11_undo_0 d e = _
        unfold sX11_undo_0
        simp (disch := omega) only [nI_iI, lN_lJ, iI_0, lJ_0, iI_add, iI_sub, iI_mul, iI_neg, lJ_add, lJ_sub, lJ_mul, lJ_neg, i_l, l_i, iI_cl, iI_inb, iI_eqT, iI_eqF, iI_ltT, iI_ltF, iI_leT, iI_leF, lJ_eqT, lJ_eqF, lJ_cG, lJ_cE, lJ_cL, lJ_cF, lJ_cGE, lJ_cLE, lJ_cNL, lJ_cNG, Int.cast_ofNat_Int, c_0, c_1, Int.natCast_add, Int.add_zero, cond_true, cond_false, Bool.and_self, Bool.and_true, Bool.true_and, Option.bind_some, decide_true, uI_hit, uI_miss, uI_o, uA_o, uA_s, ↓reduceIte, eq_self, true_or, or_true, or_false, false_or, true_and, and_true, false_and, and_false, or_self, and_self, not_false_eq_true, not_true_eq_false, tn_i, r4]) rfl, a_run_end]
      rfl
  · have h0 : 0 < S.1 4 := by omega
    have s2 := hS.1.2.2.1.2
    have b2 : undoS S.1 2 = S.1 2 := undoS_o (by omega)
    have hU := undoS_si hS.1 h0
    refine ⟨(undoS S.1, S.2), iI (S.1 4 - 1), hS.step hU b2, fun d e hC => ?_, fun d e hM => ?_⟩
    · obtain ⟨d', q1, q2, q3, q4⟩ := cq_undo (e := e) hC.cn hC.rg hS.1 h0
      have q4' : ∀ k, 12 ≤ k ∨ k = 1 → d' k = d k := fun k hk => q4 k (by omega)
      obtain ⟨c1, c2, c3, c4, c5, c6, c7, c8, c9⟩ := hC.1
      have hn := hS.1.2.2.2.2.2
      have u : ∀ j : Int, ((j < 9 ∧ j ≠ 4) ∨ (42 ≤ j ∧ j < 1936)) → undoS S.1 j = S.1 j := fun j hj => undoS_o hj
      refine ⟨d', e, q1, hC.step ⟨q2, q3, ?_, ?_, ?_, ?_, ?_, ?_, ?_⟩ (fun k a b => q4' k (by omega)) b2 s2, fun k a => q4' k (by omega)⟩
      · rw [q4' 1 (by omega), u 2 (by omega)]; exact c3
      · rw [q4' 1 (by omega), u 3 (by omega)]; exact c4
      · exact (c5.of (fun k a b => q4' k (by omega))).ag (u 5 (by omega)) (fun j hj => ⟨u _ (by omega), u _ (by omega)⟩)
      · exact (c6.of (fun k a b => q4' k (by omega))).ag (u 6 (by omega)) (fun j hj => ⟨u _ (by omega), u _ (by omega)⟩)
      · exact (c7.of (fun k a b => q4' k (by omega))).ag (u 7 (by omega)) (fun j hj => ⟨u _ (by omega), u _ (by omega)⟩)
      · exact (c8.of (fun k a b => q4' k (by omega))).ag (u 8 (by omega)) (fun j hj => ⟨u _ (by omega), u _ (by omega)⟩)
      · rw [q4' 28 (by omega), u 8 (by omega)]
        intro j hj
        rw [u _ (by omega)]
        exact c9 j hj
    · obtain ⟨d', q1, q2, q3⟩ := mq_undo (e := e) hM.1 hS.1 h0
      exact ⟨d', e, q1, hM.step q2 (Kr.only q3) b2, (Kr.only q3).fm⟩
theorem o_let (x y : Int32) : Op (fun d e => FX10_let d e x y) (fun d e => FX11_let d e x y) := (k_let x y).op
theorem o_out (x : Int32) : Op (fun d e => FX10_out d e x) (fun d e => FX11_out d e x) := (k_out x).op
theorem o_go (x y : Int32) (hy : y = 0 ∨ y = 1) : Op (fun d e => FX10_go d e x y) (fun d e => FX11_go d e x y) := (k_go x y hy).op
