/-! ===== operations: what is wanted of class and reference ===== -/
def Op {α : Type} (FC FM : aI → aJ → Option (α × aI × aJ)) : Prop := ∀ S : aS, sOK S → ∃ (S' : aS) (r : α), sOK S' ∧ (∀ (d : aI) (e : aJ), CI d S → ∃ d' e', FC d e = some (r, d', e') ∧ CI d' S' ∧ Fc d d') ∧ (∀ (d : aI) (e : aJ), MI d S → ∃ d' e', FM d e = some (r, d', e') ∧ MI d' S' ∧ Fm d d')
theorem Op.quest {α : Type} {FC FM : aI → aJ → Option (α × aI × aJ)} (h : ∀ S : aS, sOK S → ∃ r : α, (∀ (d : aI) (e : aJ), CI d S → ∃ d' e', FC d e = some (r, d', e') ∧ Kc d d') ∧ (∀ (d : aI) (e : aJ), MI d S → ∃ d' e', FM d e = some (r, d', e') ∧ Km d d')) : Op FC FM := by
  intro S hS
  obtain ⟨r, hc, hm⟩ := h S hS
  have s2 := hS.1.2.2.1.2
  refine ⟨S, r, hS, fun d e hC => ?_, fun d e hM => ?_⟩
  · obtain ⟨d', e', q1, q2⟩ := hc d e hC
    exact ⟨d', e', q1, hC.of (fun k hk => q2 k (Or.inl hk)) s2, q2.fc⟩
  · obtain ⟨d', e', q1, q2⟩ := hm d e hM
    exact ⟨d', e', q1, hM.of q2, q2.fm⟩
/-- questions that touch nothing at all -/
theorem Op.pure {α : Type} {FC FM : aI → aJ → Option (α × aI × aJ)} (h : ∀ S : aS, sOK S → ∃ r : α, (∀ (d : aI) (e : aJ), CI d S → FC d e = some (r, d, e)) ∧ (∀ (d : aI) (e : aJ), MI d S → FM d e = some (r, d, e))) : Op FC FM :=
  Op.quest (fun S hS => by
    obtain ⟨r, hc, hm⟩ := h S hS
    exact ⟨r, fun d e hC => ⟨d, e, hc d e hC, Kc.refl d⟩, fun d e hM => ⟨d, e, hm d e hM, Km.refl d⟩⟩)
/-- the same of an operation that keeps the texts, its answer between two numbers -/
def OpK (lo hi : Int) (FC FM : aI → aJ → Option (Int32 × aI × aJ)) : Prop := ∀ S : aS, sOK S → ∃ (S' : aS) (z : Int), sOK S' ∧ (∀ (d : aI) (e : aJ), CI d S → ∃ d' e', FC d e = some (iI z, d', e') ∧ CI d' S' ∧ Fc d d') ∧ (∀ (d : aI) (e : aJ), MI d S → ∃ d' e', FM d e = some (iI z, d', e') ∧ MI d' S' ∧ Fm d d') ∧ S'.2 = S.2 ∧ S'.1 2 = S.1 2 ∧ lo ≤ z ∧ z ≤ hi
theorem OpK.op {lo hi : Int} {FC FM : aI → aJ → Option (Int32 × aI × aJ)} (h : OpK lo hi FC FM) : Op FC FM := by
  intro S hS
  obtain ⟨S', z, h1, h2, h3, _⟩ := h S hS
  exact ⟨S', iI z, h1, h2, h3⟩
theorem CI.cn {d : aI} {S : aS} (h : CI d S) : CN d 1 S.1 := h.1.1
theorem CI.rg {d : aI} {S : aS} (h : CI d S) : RG d 1 S.1 := h.1.2.1
theorem o_coldest : Op FX10_coldest FX11_coldest := Op.pure (fun S hS => ⟨_, fun d e hC => cq_coldest hC.cn hS.1.1, fun d e hM => mq_coldest hM.1 hS.1.1⟩)
theorem o_dreamless : Op FX10_dreamless FX11_dreamless := Op.pure (fun S hS => ⟨_, fun d e hC => cq_dreamless hC.cn hS.1.1, fun d e hM => mq_dreamless hM.1 hS.1.1⟩)
theorem o_free : Op FX10_free FX11_free := Op.pure (fun S hS => ⟨_, fun d e hC => cq_free hC.cn hS.1.1, fun d e hM => mq_free hM.1 hS.1.1⟩)
theorem o_gap : Op FX10_gap FX11_gap := Op.pure (fun S hS => ⟨_, fun d e hC => cq_gap hC.cn hS.1.1, fun d e hM => mq_gap hM.1 hS.1.1⟩)
theorem o_at (x : Int32) : Op (fun d e => FX10_at d e x) (fun d e => FX11_at d e x) := by
  obtain ⟨z, rfl, h1, h2⟩ := iI_ex x
  exact Op.pure (fun S hS => ⟨_, fun d e hC => cq_at hC.cn hS.1.1 ⟨h1, h2⟩, fun d e hM => mq_atA hM.1 hS.1.1 ⟨h1, h2⟩⟩)
theorem o_order (x : Int32) : Op (fun d e => FX10_order d e x) (fun d e => FX11_order d e x) := by
  obtain ⟨z, rfl, h1, h2⟩ := iI_ex x
  exact Op.pure (fun S hS => ⟨_, fun d e hC => cq_order hC.cn hS.1.1 ⟨h1, h2⟩, fun d e hM => mq_order hM.1 hS.1.1 ⟨h1, h2⟩⟩)
theorem o_is (x : Int32) : Op (fun d e => FX10_is d e x) (fun d e => FX11_is d e x) := by
  obtain ⟨z, rfl, h1, h2⟩ := iI_ex x
  exact Op.pure (fun S hS => ⟨_, fun d e hC => cq_is hC.cn hS.1.1 ⟨h1, h2⟩, fun d e hM => mq_is hM.1 hS.1.1 ⟨h1, h2⟩⟩)
theorem o_of (x y : Int32) : Op (fun d e => FX10_of d e x y) (fun d e => FX11_of d e x y) := by
  obtain ⟨z, rfl, h1, h2⟩ := iI_ex x
  obtain ⟨w, rfl, h3, h4⟩ := iI_ex y
  exact Op.pure (fun S hS => ⟨_, fun d e hC => cq_of hC.cn hS.1.1 ⟨h3, h4⟩ ⟨h1, h2⟩, fun d e hM => mq_of hM.1 hS.1.1 ⟨h3, h4⟩ ⟨h1, h2⟩⟩)
theorem o_ofHouse (x y : Int32) : Op (fun d e => FX10_ofHouse d e x y) (fun d e => FX11_ofHouse d e x y) := by
  obtain ⟨z, rfl, h1, h2⟩ := iI_ex x
  obtain ⟨w, rfl, h3, h4⟩ := iI_ex y
  exact Op.pure (fun S hS => ⟨_, fun d e hC => cq_ofHouse hC.cn hS.1.1 ⟨h3, h4⟩ ⟨h1, h2⟩, fun d e hM => mq_ofHouse hM.1 hS.1.1 ⟨h3, h4⟩ ⟨h1, h2⟩⟩)
theorem o_far (x y : Int32) : Op (fun d e => FX10_far d e x y) (fun d e => FX11_far d e x y) := by
  obtain ⟨z, rfl, h1, h2⟩ := iI_ex x
  obtain ⟨w, rfl, h3, h4⟩ := iI_ex y
  exact Op.pure (fun S hS => ⟨_, fun d e hC => cq_far hC.cn hS.1.1 ⟨h1, h2⟩ ⟨h3, h4⟩, fun d e hM => mq_far hM.1 hS.1.1 ⟨h1, h2⟩ ⟨h3, h4⟩⟩)
theorem o_nearest (x : Int32) : Op (fun d e => FX10_nearest d e x) (fun d e => FX11_nearest d e x) := by
  obtain ⟨z, rfl, h1, h2⟩ := iI_ex x
  refine Op.pure (fun S hS => ?_)
  by_cases h : 0 ≤ z ∧ z < S.1 1
  · exact ⟨_, fun d e hC => cq_nearest hC.cn hS.1.1 h, fun d e hM => mq_nearest hM.1 hS.1.1 h⟩
  · exact ⟨_, fun d e hC => cq_nearest_n hC.cn hS.1.1 (by omega), fun d e hM => mq_nearest_n hM.1 hS.1.1 (by omega)⟩
theorem o_takes (x y : Int32) : Op (fun d e => FX10_takes d e x y) (fun d e => FX11_takes d e x y) := by
  obtain ⟨c, rfl, h1, h2⟩ := iI_ex x
  obtain ⟨h, rfl, h3, h4⟩ := iI_ex y
  refine Op.quest (fun S hS => ?_)
  have hW := hS.1.1
  by_cases hc : 0 ≤ c ∧ c < S.1 1
  · by_cases hh : 0 ≤ h ∧ h < S.1 0
    · refine ⟨iI (takesS S.1 (lawT S) c h), fun d e hC => ?_, fun d e hM => ?_⟩
      · obtain ⟨o, p1, p2, p3, p4⟩ := cq_rule (e := e) (hC.ru hS)
        obtain ⟨d', q1, q2⟩ := cq_taking (e := e) hC.cn hW p2 p3 hc hh
        refine ⟨d', e, ?_, fun k hk => q2 k (by omega) (by omega)⟩
        unfold FX10_takes
        simp (disch := omega) only [nI_iI, lN_lJ, iI_0, lJ_0, iI_add, iI_sub, iI_mul, iI_neg, lJ_add, lJ_sub, lJ_mul, lJ_neg, i_l, l_i, iI_cl, iI_inb, iI_eqT, iI_eqF, iI_ltT, iI_ltF, iI_leT, iI_leF, lJ_eqT, lJ_eqF, lJ_cG, lJ_cE, lJ_cL, lJ_cF, lJ_cGE, lJ_cLE, lJ_cNL, lJ_cNG, Int.cast_ofNat_Int, c_0, c_1, Int.natCast_add, Int.add_zero, cond_true, cond_false, Bool.and_self, Bool.and_true, Bool.true_and, Option.bind_some, decide_true, uI_hit, uI_miss, uI_o, uA_o, uA_s, ↓reduceIte, eq_self, true_or, or_true, or_false, false_or, true_and, and_true, false_and, and_false, or_self, and_self, not_false_eq_true, not_true_eq_false, tn_i, cq_isCat_y hC.cn hW, cq_isHouse_y hC.cn hW, p1, q1]
      · obtain ⟨d', e', q1, q2⟩ := mq_takesOf (e := e) hM.1 hW (hM.mx hS) hc hh
        have r3 : d 109 3 = iI (S.1 3) := hM.1.cell (j := 3) (by omega)
        refine ⟨d', e', ?_, fun k a b => q2 k (by omega) (by omega), fun j _ => by rw [q2 108 (by omega) (by omega)]⟩
        unfold FX11_takes
        simp (disch := omega) only [nI_iI, lN_lJ, iI_0, lJ_0, iI_add, iI_sub, iI_mul, iI_neg, lJ_add, lJ_sub, lJ_mul, lJ_neg, i_l, l_i, iI_cl, iI_inb, iI_eqT, iI_eqF, iI_ltT, iI_ltF, iI_leT, iI_leF, lJ_eqT, lJ_eqF, lJ_cG, lJ_cE, lJ_cL, lJ_cF, lJ_cGE, lJ_cLE, lJ_cNL, lJ_cNG, Int.cast_ofNat_Int, c_0, c_1, Int.natCast_add, Int.add_zero, cond_true, cond_false, Bool.and_self, Bool.and_true, Bool.true_and, Option.bind_some, decide_true, uI_hit, uI_miss, uI_o, uA_o, uA_s, ↓reduceIte, eq_self, true_or, or_true, or_false, false_or, true_and, and_true, false_and, and_false, or_self, and_self, not_false_eq_true, not_true_eq_false, tn_i, mq_isCat_y hM.1 hW, mq_isHouse_y hM.1 hW, r3, q1]
    · refine ⟨iI (-100), fun d e hC => ⟨d, e, ?_, Kc.refl d⟩, fun d e hM => ⟨d, e, ?_, Km.refl d⟩⟩
      · unfold FX10_takes
        simp (disch := omega) only [nI_iI, lN_lJ, iI_0, lJ_0, iI_add, iI_sub, iI_mul, iI_neg, lJ_add, lJ_sub, lJ_mul, lJ_neg, i_l, l_i, iI_cl, iI_inb, iI_eqT, iI_eqF, iI_ltT, iI_ltF, iI_leT, iI_leF, lJ_eqT, lJ_eqF, lJ_cG, lJ_cE, lJ_cL, lJ_cF, lJ_cGE, lJ_cLE, lJ_cNL, lJ_cNG, Int.cast_ofNat_Int, c_0, c_1, Int.natCast_add, Int.add_zero, cond_true, cond_false, Bool.and_self, Bool.and_true, Bool.true_and, Option.bind_some, decide_true, uI_hit, uI_miss, uI_o, uA_o, uA_s, ↓reduceIte, eq_self, true_or, or_true, or_false, false_or, true_and, and_true, false_and, and_false, or_self, and_self, not_false_eq_true, not_true_eq_false, tn_i, cq_isCat_y hC.cn hW, cq_isHouse_n hC.cn hW]
      · unfold FX11_takes
        simp (disch := omega) only [nI_iI, lN_lJ, iI_0, lJ_0, iI_add, iI_sub, iI_mul, iI_neg, lJ_add, lJ_sub, lJ_mul, lJ_neg, i_l, l_i, iI_cl, iI_inb, iI_eqT, iI_eqF, iI_ltT, iI_ltF, iI_leT, iI_leF, lJ_eqT, lJ_eqF, lJ_cG, lJ_cE, lJ_cL, lJ_cF, lJ_cGE, lJ_cLE, lJ_cNL, lJ_cNG, Int.cast_ofNat_Int, c_0, c_1, Int.natCast_add, Int.add_zero, cond_true, cond_false, Bool.and_self, Bool.and_true, Bool.true_and, Option.bind_some, decide_true, uI_hit, uI_miss, uI_o, uA_o, uA_s, ↓reduceIte, eq_self, true_or, or_true, or_false, false_or, true_and, and_true, false_and, and_false, or_self, and_self, not_false_eq_true, not_true_eq_false, tn_i, mq_isCat_y hM.1 hW, mq_isHouse_n hM.1 hW]
  · refine ⟨iI (-100), fun d e hC => ⟨d, e, ?_, Kc.refl d⟩, fun d e hM => ⟨d, e, ?_, Km.refl d⟩⟩
    · unfold FX10_takes
      simp (disch := omega) only [nI_iI, lN_lJ, iI_0, lJ_0, iI_add, iI_sub, iI_mul, iI_neg, lJ_add, lJ_sub, lJ_mul, lJ_neg, i_l, l_i, iI_cl, iI_inb, iI_eqT, iI_eqF, iI_ltT, iI_ltF, iI_leT, iI_leF, lJ_eqT, lJ_eqF, lJ_cG, lJ_cE, lJ_cL, lJ_cF, lJ_cGE, lJ_cLE, lJ_cNL, lJ_cNG, Int.cast_ofNat_Int, c_0, c_1, Int.natCast_add, Int.add_zero, cond_true, cond_false, Bool.and_self, Bool.and_true, Bool.true_and, Option.bind_some, decide_true, uI_hit, uI_miss, uI_o, uA_o, uA_s, ↓reduceIte, eq_self, true_or, or_true, or_false, false_or, true_and, and_true, false_and, and_false, or_self, and_self, not_false_eq_true, not_true_eq_false, tn_i, cq_isCat_n hC.cn hW]
    · unfold FX11_takes
      simp (disch := omega) only [nI_iI, lN_lJ, iI_0, lJ_0, iI_add, iI_sub, iI_mul, iI_neg, lJ_add, lJ_sub, lJ_mul, lJ_neg, i_l, l_i, iI_cl, iI_inb, iI_eqT, iI_eqF, iI_ltT, iI_ltF, iI_leT, iI_leF, lJ_eqT, lJ_eqF, lJ_cG, lJ_cE, lJ_cL, lJ_cF, lJ_cGE, lJ_cLE, lJ_cNL, lJ_cNG, Int.cast_ofNat_Int, c_0, c_1, Int.natCast_add, Int.add_zero, cond_true, cond_false, Bool.and_self, Bool.and_true, Bool.true_and, Option.bind_some, decide_true, uI_hit, uI_miss, uI_o, uA_o, uA_s, ↓reduceIte, eq_self, true_or, or_true, or_false, false_or, true_and, and_true, false_and, and_false, or_self, and_self, not_false_eq_true, not_true_eq_false, tn_i, mq_isCat_n hM.1 hW]
theorem o_goes (x : Int32) : Op (fun d e => FX10_goes d e x) (fun d e => FX11_goes d e x) := by
  obtain ⟨c, rfl, h1, h2⟩ := iI_ex x
  refine Op.quest (fun S hS => ?_)
  have hW := hS.1.1
  by_cases hc : 0 ≤ c ∧ c < S.1 1
  · refine ⟨iI (goesS S.1 (lawG S) c), fun d e hC => ?_, fun d e hM => ?_⟩
    · obtain ⟨o, p1, p2, p3, p4⟩ := cq_rule (e := e) (hC.ru hS)
      obtain ⟨d', q1, q2⟩ := cq_going (e := e) hC.cn hW p2 p4 hc
      refine ⟨d', e, ?_, fun k hk => q2 k (by omega) (by omega)⟩
      unfold FX10_goes
      simp (disch := omega) only [nI_iI, lN_lJ, iI_0, lJ_0, iI_add, iI_sub, iI_mul, iI_neg, lJ_add, lJ_sub, lJ_mul, lJ_neg, i_l, l_i, iI_cl, iI_inb, iI_eqT, iI_eqF, iI_ltT, iI_ltF, iI_leT, iI_leF, lJ_eqT, lJ_eqF, lJ_cG, lJ_cE, lJ_cL, lJ_cF, lJ_cGE, lJ_cLE, lJ_cNL, lJ_cNG, Int.cast_ofNat_Int, c_0, c_1, Int.natCast_add, Int.add_zero, cond_true, cond_false, Bool.and_self, Bool.and_true, Bool.true_and, Option.bind_some, decide_true, uI_hit, uI_miss, uI_o, uA_o, uA_s, ↓reduceIte, eq_self, true_or, or_true, or_false, false_or, true_and, and_true, false_and, and_false, or_self, and_self, not_false_eq_true, not_true_eq_false, tn_i, cq_isCat_y hC.cn hW, p1, q1]
    · obtain ⟨d', e', q1, q2⟩ := mq_goesOf (e := e) hM.1 hW (hM.mx hS) hc
      refine ⟨d', e', ?_, fun k a b => q2 k (by omega) (by omega), fun j _ => by rw [q2 108 (by omega) (by omega)]⟩
      unfold FX11_goes
      simp (disch := omega) only [nI_iI, lN_lJ, iI_0, lJ_0, iI_add, iI_sub, iI_mul, iI_neg, lJ_add, lJ_sub, lJ_mul, lJ_neg, i_l, l_i, iI_cl, iI_inb, iI_eqT, iI_eqF, iI_ltT, iI_ltF, iI_leT, iI_leF, lJ_eqT, lJ_eqF, lJ_cG, lJ_cE, lJ_cL, lJ_cF, lJ_cGE, lJ_cLE, lJ_cNL, lJ_cNG, Int.cast_ofNat_Int, c_0, c_1, Int.natCast_add, Int.add_zero, cond_true, cond_false, Bool.and_self, Bool.and_true, Bool.true_and, Option.bind_some, decide_true, uI_hit, uI_miss, uI_o, uA_o, uA_s, ↓reduceIte, eq_self, true_or, or_true, or_false, false_or, true_and, and_true, false_and, and_false, or_self, and_self, not_false_eq_true, not_true_eq_false, tn_i, mq_isCat_y hM.1 hW, q1]
  · refine ⟨iI (-100), fun d e hC => ⟨d, e, ?_, Kc.refl d⟩, fun d e hM => ⟨d, e, ?_, Km.refl d⟩⟩
    · unfold FX10_goes
      simp (disch := omega) only [nI_iI, lN_lJ, iI_0, lJ_0, iI_add, iI_sub, iI_mul, iI_neg, lJ_add, lJ_sub, lJ_mul, lJ_neg, i_l, l_i, iI_cl, iI_inb, iI_eqT, iI_eqF, iI_ltT, iI_ltF, iI_leT, iI_leF, lJ_eqT, lJ_eqF, lJ_cG, lJ_cE, lJ_cL, lJ_cF, lJ_cGE, lJ_cLE, lJ_cNL, lJ_cNG, Int.cast_ofNat_Int, c_0, c_1, Int.natCast_add, Int.add_zero, cond_true, cond_false, Bool.and_self, Bool.and_true, Bool.true_and, Option.bind_some, decide_true, uI_hit, uI_miss, uI_o, uA_o, uA_s, ↓reduceIte, eq_self, true_or, or_true, or_false, false_or, true_and, and_true, false_and, and_false, or_self, and_self, not_false_eq_true, not_true_eq_false, tn_i, cq_isCat_n hC.cn hW]
    · unfold FX11_goes
      simp (disch := omega) only [nI_iI, lN_lJ, iI_0, lJ_0, iI_add, iI_sub, iI_mul, iI_neg, lJ_add, lJ_sub, lJ_mul, lJ_neg, i_l, l_i, iI_cl, iI_inb, iI_eqT, iI_eqF, iI_ltT, iI_ltF, iI_leT, iI_leF, lJ_eqT, lJ_eqF, lJ_cG, lJ_cE, lJ_cL, lJ_cF, lJ_cGE, lJ_cLE, lJ_cNL, lJ_cNG, Int.cast_ofNat_Int, c_0, c_1, Int.natCast_add, Int.add_zero, cond_true, cond_false, Bool.and_self, Bool.and_true, Bool.true_and, Option.bind_some, decide_true, uI_hit, uI_miss, uI_o, uA_o, uA_s, ↓reduceIte, eq_self, true_or, or_true, or_false, false_or, true_and, and_true, false_and, and_false, or_self, and_self, not_false_eq_true, not_true_eq_false, tn_i, mq_isCat_n hM.1 hW]
/-! ===== let, out, go ===== -/
abbrev canLetS (A : Int → Int) (c h : Int) : Prop := (0 ≤ c ∧ c < A 1) ∧ (0 ≤ h ∧ h < A 0) ∧ A (12 + 3 * c + 1) = -1 ∧ gst A h = -1 ∧ A (12 + 3 * c) = A (42 + h)
theorem cq_canEnter {d : aI} {e : aJ} {A : Int → Int} (hC : CN d 1 A) (hW : WN A) {c h : Int} (hr : -2147483648 ≤ c ∧ c < 2147483648 ∧ -2147483648 ≤ h ∧ h < 2147483648) : (canLetS A c h → FX2_canEnter d e (iI c) (iI h) = some (iI 1, d, e)) ∧ (¬canLetS A c h → FX2_canEnter d e (iI c) (iI h) = some (iI 0, d, e)) := by
  have hw := hW
  have hcc := hC
  obtain ⟨q8, q9, q10, q11, q12, q3, q4, q5, q6, q7, qh, qt, qb⟩ := hC
  have k8 : d 2 8 = iI (A 0) := q8
  have k9 : d 2 9 = iI (A 1) := q9
  have k10 : d 2 10 = iI (A 11) := q10
  have k11 : d 2 11 = iI (A 9) := q11
  have k12 : d 2 12 = iI (A 10) := q12
  have k3 : ∀ j : Nat, (j : Int) < A 0 → d 3 j = iI (A (42 + j)) := q3
  have k4 : ∀ j : Nat, (j : Int) < A 0 → d 4 j = iI (A (30 + 2 * j)) := q4
  have k5 : ∀ j : Nat, (j : Int) < A 0 → d 5 j = iI (A (30 + 2 * j + 1)) := q5
  have k6 : ∀ j : Nat, (j : Int) < A 1 → d 6 j = iI (A (54 + j)) := q6
  have k7 : ∀ j : Nat, (j : Int) < A 1 → d 7 j = iI (A (12 + 3 * j)) := q7
  have kh : ∀ j : Nat, (j : Int) < A 1 → d 8 j = iI (A (12 + 3 * j + 1)) := qh
  have kt : ∀ j : Nat, (j : Int) < A 1 → d 9 j = iI (A (12 + 3 * j + 2)) := qt
  have kb : ∀ j : Nat, (j : Int) < A 11 → d 10 j = iI (A (1936 + j)) := qb
  obtain ⟨w0, w1, w9, w10, w11, wc, wh, wb⟩ := hW
  by_cases h1 : 0 ≤ c ∧ c < A 1
  · by_cases h2 : 0 ≤ h ∧ h < A 0
    · have wcc := wc c h1.1 h1.2
      have whh := wh h h2.1 h2.2
      have m8 := kh c.toNat (by omega)
      have m7 := k7 c.toNat (by omega)
      have m3 := k3 h.toNat (by omega)
      rw [tn_i (by omega)] at m8 m7 m3
      have gi := gst_in hw h
      by_cases h3 : A (12 + 3 * c + 1) = -1
      · by_cases h4 : A (12 + 3 * c) = A (42 + h)
        · by_cases h5 : gst A h = -1
          · refine ⟨fun _ => ?_, fun q => absurd ⟨h1, h2, h3, h5, h4⟩ q⟩
            unfold FX2_canEnter
            simp (disch := omega) only [nI_iI, lN_lJ, iI_0, lJ_0, iI_add, iI_sub, iI_mul, iI_neg, lJ_add, lJ_sub, lJ_mul, lJ_neg, i_l, l_i, iI_cl, iI_inb, iI_eqT, iI_eqF, iI_ltT, iI_ltF, iI_leT, iI_leF, lJ_eqT, lJ_eqF, lJ_cG, lJ_cE, lJ_cL, lJ_cF, lJ_cGE, lJ_cLE, lJ_cNL, lJ_cNG, Int.cast_ofNat_Int, c_0, c_1, Int.natCast_add, Int.add_zero, cond_true, cond_false, Bool.and_self, Bool.and_true, Bool.true_and, Option.bind_some, decide_true, uI_hit, uI_miss, uI_o, uA_o, uA_s, ↓reduceIte, eq_self, true_or, or_true, or_false, false_or, true_and, and_true, false_and, and_false, or_self, and_self, not_false_eq_true, not_true_eq_false, tn_i, cq_isCat_y hcc hw, cq_isHouse_y hcc hw, m8, m7, m3, cq_guest hcc hw]
          · refine ⟨fun q => absurd q.2.2.2.1 h5, fun _ => ?_⟩
            unfold FX2_canEnter
            simp (disch := omega) only [nI_iI, lN_lJ, iI_0, lJ_0, iI_add, iI_sub, iI_mul, iI_neg, lJ_add, lJ_sub, lJ_mul, lJ_neg, i_l, l_i, iI_cl, iI_inb, iI_eqT, iI_eqF, iI_ltT, iI_ltF, iI_leT, iI_leF, lJ_eqT, lJ_eqF, lJ_cG, lJ_cE, lJ_cL, lJ_cF, lJ_cGE, lJ_cLE, lJ_cNL, lJ_cNG, Int.cast_ofNat_Int, c_0, c_1, Int.natCast_add, Int.add_zero, cond_true, cond_false, Bool.and_self, Bool.and_true, Bool.true_and, Option.bind_some, decide_true, uI_hit, uI_miss, uI_o, uA_o, uA_s, ↓reduceIte, eq_self, true_or, or_true, or_false, false_or, true_and, and_true, false_and, and_false, or_self, and_self, not_false_eq_true, not_true_eq_false, tn_i, cq_isCat_y hcc hw, cq_isHouse_y hcc hw, m8, m7, m3, cq_guest hcc hw]
        · refine ⟨fun q => absurd q.2.2.2.2 h4, fun _ => ?_⟩
          unfold FX2_canEnter
          simp (disch := omega) only [nI_iI, lN_lJ, iI_0, lJ_0, iI_add, iI_sub, iI_mul, iI_neg, lJ_add, lJ_sub, lJ_mul, lJ_neg, i_l, l_i, iI_cl, iI_inb, iI_eqT, iI_eqF, iI_ltT, iI_ltF, iI_leT, iI_leF, lJ_eqT, lJ_eqF, lJ_cG, lJ_cE, lJ_cL, lJ_cF, lJ_cGE, lJ_cLE, lJ_cNL, lJ_cNG, Int.cast_ofNat_Int, c_0, c_1, Int.natCast_add, Int.add_zero, cond_true, cond_false, Bool.and_self, Bool.and_true, Bool.true_and, Option.bind_some, decide_true, uI_hit, uI_miss, uI_o, uA_o, uA_s, ↓reduceIte, eq_self, true_or, or_true, or_false, false_or, true_and, and_true, false_and, and_false, or_self, and_self, not_false_eq_true, not_true_eq_false, tn_i, cq_isCat_y hcc hw, cq_isHouse_y hcc hw, m8, m7, m3]
      · refine ⟨fun q => absurd q.2.2.1 h3, fun _ => ?_⟩
        unfold FX2_canEnter
        simp (disch := omega) only [nI_iI, lN_lJ, iI_0, lJ_0, iI_add, iI_sub, iI_mul, iI_neg, lJ_add, lJ_sub, lJ_mul, lJ_neg, i_l, l_i, iI_cl, iI_inb, iI_eqT, iI_eqF, iI_ltT, iI_ltF, iI_leT, iI_leF, lJ_eqT, lJ_eqF, lJ_cG, lJ_cE, lJ_cL, lJ_cF, lJ_cGE, lJ_cLE, lJ_cNL, lJ_cNG, Int.cast_ofNat_Int, c_0, c_1, Int.natCast_add, Int.add_zero, cond_true, cond_false, Bool.and_self, Bool.and_true, Bool.true_and, Option.bind_some, decide_true, uI_hit, uI_miss, uI_o, uA_o, uA_s, ↓reduceIte, eq_self, true_or, or_true, or_false, false_or, true_and, and_true, false_and, and_false, or_self, and_self, not_false_eq_true, not_true_eq_false, tn_i, cq_isCat_y hcc hw, cq_isHouse_y hcc hw, m8]
    · refine ⟨fun q => absurd q.2.1 h2, fun _ => ?_⟩
      unfold FX2_canEnter
      simp (disch := omega) only [nI_iI, lN_lJ, iI_0, lJ_0, iI_add, iI_sub, iI_mul, iI_neg, lJ_add, lJ_sub, lJ_mul, lJ_neg, i_l, l_i, iI_cl, iI_inb, iI_eqT, iI_eqF, iI_ltT, iI_ltF, iI_leT, iI_leF, lJ_eqT, lJ_eqF, lJ_cG, lJ_cE, lJ_cL, lJ_cF, lJ_cGE, lJ_cLE, lJ_cNL, lJ_cNG, Int.cast_ofNat_Int, c_0, c_1, Int.natCast_add, Int.add_zero, cond_true, cond_false, Bool.and_self, Bool.and_true, Bool.true_and, Option.bind_some, decide_true, uI_hit, uI_miss, uI_o, uA_o, uA_s, ↓reduceIte, eq_self, true_or, or_true, or_false, false_or, true_and, and_true, false_and, and_false, or_self, and_self, not_false_eq_true, not_true_eq_false, tn_i, cq_isCat_y hcc hw, cq_isHouse_n hcc hw]
  · refine ⟨fun q => absurd q.1 h1, fun _ => ?_⟩
    unfold FX2_canEnter
    simp (disch := omega) only [nI_iI, lN_lJ, iI_0, lJ_0, iI_add, iI_sub, iI_mul, iI_neg, lJ_add, lJ_sub, lJ_mul, lJ_neg, i_l, l_i, iI_cl, iI_inb, iI_eqT, iI_eqF, iI_ltT, iI_ltF, iI_leT, iI_leF, lJ_eqT, lJ_eqF, lJ_cG, lJ_cE, lJ_cL, lJ_cF, lJ_cGE, lJ_cLE, lJ_cNL, lJ_cNG, Int.cast_ofNat_Int, c_0, c_1, Int.natCast_add, Int.add_zero, cond_true, cond_false, Bool.and_self, Bool.and_true, Bool.true_and, Option.bind_some, decide_true, uI_hit, uI_miss, uI_o, uA_o, uA_s, ↓reduceIte, eq_self, true_or, or_true, or_false, false_or, true_and, and_true, false_and, and_false, or_self, and_self, not_false_eq_true, not_true_eq_false, tn_i, cq_isCat_n hcc hw]
theorem mq_canLet {d : aI} {e : aJ} {A : Int → Int} (hA : MA d 109 A) (hW : WN A) {c h : Int} (hr2 : -2147483648 ≤ c ∧ c < 2147483648 ∧ -2147483648 ≤ h ∧ h < 2147483648) : (canLetS A c h → FX11_canLet d e (iI c) (iI h) = some (iI 1, d, e)) ∧ (¬canLetS A c h → FX11_canLet d e (iI c) (iI h) = some (iI 0, d, e)) := by
  have hw := hW
  have w0 := hW.1
  have w1 := hW.2.1
  by_cases h1 : 0 ≤ c ∧ c < A 1
  · by_cases h2 : 0 ≤ h ∧ h < A 0
    · have wcc := hW.2.2.2.2.2.1 c h1.1 h1.2
      have whh := hW.2.2.2.2.2.2.1 h h2.1 h2.2
      have gi := gst_in hw h
      have g0 := mq_get (e := e) hA (c := c) (w := 0) (by omega)
      rw [show 12 + 3 * c + 0 = 12 + 3 * c by omega] at g0
      have r2 := hA.cell (j := 42 + h) (by omega)
      by_cases h3 : A (12 + 3 * c + 1) = -1
      · by_cases h5 : gst A h = -1
        · by_cases h4 : A (12 + 3 * c) = A (42 + h)
          · refine ⟨fun _ => ?_, fun q => absurd ⟨h1, h2, h3, h5, h4⟩ q⟩
            unfold FX11_canLet
            simp (disch := omega) only [nI_iI, lN_lJ, iI_0, lJ_0, iI_add, iI_sub, iI_mul, iI_neg, lJ_add, lJ_sub, lJ_mul, lJ_neg, i_l, l_i, iI_cl, iI_inb, iI_eqT, iI_eqF, iI_ltT, iI_ltF, iI_leT, iI_leF, lJ_eqT, lJ_eqF, lJ_cG, lJ_cE, lJ_cL, lJ_cF, lJ_cGE, lJ_cLE, lJ_cNL, lJ_cNG, Int.cast_ofNat_Int, c_0, c_1, Int.natCast_add, Int.add_zero, cond_true, cond_false, Bool.and_self, Bool.and_true, Bool.true_and, Option.bind_some, decide_true, uI_hit, uI_miss, uI_o, uA_o, uA_s, ↓reduceIte, eq_self, true_or, or_true, or_false, false_or, true_and, and_true, false_and, and_false, or_self, and_self, not_false_eq_true, not_true_eq_false, tn_i, mq_isCat_y hA hw, mq_isHouse_y hA hw, mq_wo_y hA hw, mq_catIn hA hw, g0, r2]
          · refine ⟨fun q => absurd q.2.2.2.2 h4, fun _ => ?_⟩
            unfold FX11_canLet
            simp (disch := omega) only [nI_iI, lN_lJ, iI_0, lJ_0, iI_add, iI_sub, iI_mul, iI_neg, lJ_add, lJ_sub, lJ_mul, lJ_neg, i_l, l_i, iI_cl, iI_inb, iI_eqT, iI_eqF, iI_ltT, iI_ltF, iI_leT, iI_leF, lJ_eqT, lJ_eqF, lJ_cG, lJ_cE, lJ_cL, lJ_cF, lJ_cGE, lJ_cLE, lJ_cNL, lJ_cNG, Int.cast_ofNat_Int, c_0, c_1, Int.natCast_add, Int.add_zero, cond_true, cond_false, Bool.and_self, Bool.and_true, Bool.true_and, Option.bind_some, decide_true, uI_hit, uI_miss, uI_o, uA_o, uA_s, ↓reduceIte, eq_self, true_or, or_true, or_false, false_or, true_and, and_true, false_and, and_false, or_self, and_self, not_false_eq_true, not_true_eq_false, tn_i, mq_isCat_y hA hw, mq_isHouse_y hA hw, mq_wo_y hA hw, mq_catIn hA hw, g0, r2]
        · refine ⟨fun q => absurd q.2.2.2.1 h5, fun _ => ?_⟩
          unfold FX11_canLet
          simp (disch := omega) only [nI_iI, lN_lJ, iI_0, lJ_0, iI_add, iI_sub, iI_mul, iI_neg, lJ_add, lJ_sub, lJ_mul, lJ_neg, i_l, l_i, iI_cl, iI_inb, iI_eqT, iI_eqF, iI_ltT, iI_ltF, iI_leT, iI_leF, lJ_eqT, lJ_eqF, lJ_cG, lJ_cE, lJ_cL, lJ_cF, lJ_cGE, lJ_cLE, lJ_cNL, lJ_cNG, Int.cast_ofNat_Int, c_0, c_1, Int.natCast_add, Int.add_zero, cond_true, cond_false, Bool.and_self, Bool.and_true, Bool.true_and, Option.bind_some, decide_true, uI_hit, uI_miss, uI_o, uA_o, uA_s, ↓reduceIte, eq_self, true_or, or_true, or_false, false_or, true_and, and_true, false_and, and_false, or_self, and_self, not_false_eq_true, not_true_eq_false, tn_i, mq_isCat_y hA hw, mq_isHouse_y hA hw, mq_wo_y hA hw, mq_catIn hA hw]
      · refine ⟨fun q => absurd q.2.2.1 h3, fun _ => ?_⟩
        unfold FX11_canLet
        simp (disch := omega) only [nI_iI, lN_lJ, iI_0, lJ_0, iI_add, iI_sub, iI_mul, iI_neg, lJ_add, lJ_sub, lJ_mul, lJ_neg, i_l, l_i, iI_cl, iI_inb, iI_eqT, iI_eqF, iI_ltT, iI_ltF, iI_leT, iI_leF, lJ_eqT, lJ_eqF, lJ_cG, lJ_cE, lJ_cL, lJ_cF, lJ_cGE, lJ_cLE, lJ_cNL, lJ_cNG, Int.cast_ofNat_Int, c_0, c_1, Int.natCast_add, Int.add_zero, cond_true, cond_false, Bool.and_self, Bool.and_true, Bool.true_and, Option.bind_some, decide_true, uI_hit, uI_miss, uI_o, uA_o, uA_s, ↓reduceIte, eq_self, true_or, or_true, or_false, false_or, true_and, and_true, false_and, and_false, or_self, and_self, not_false_eq_true, not_true_eq_false, tn_i, mq_isCat_y hA hw, mq_isHouse_y hA hw, mq_wo_n hA hw]
    · refine ⟨fun q => absurd q.2.1 h2, fun _ => ?_⟩
      unfold FX11_canLet
      simp (disch := omega) only [nI_iI, lN_lJ, iI_0, lJ_0, iI_add, iI_sub, iI_mul, iI_neg, lJ_add, lJ_sub, lJ_mul, lJ_neg, i_l, l_i, iI_cl, iI_inb, iI_eqT, iI_eqF, iI_ltT, iI_ltF, iI_leT, iI_leF, lJ_eqT, lJ_eqF, lJ_cG, lJ_cE, lJ_cL, lJ_cF, lJ_cGE, lJ_cLE, lJ_cNL, lJ_cNG, Int.cast_ofNat_Int, c_0, c_1, Int.natCast_add, Int.add_zero, cond_true, cond_false, Bool.and_self, Bool.and_true, Bool.true_and, Option.bind_some, decide_true, uI_hit, uI_miss, uI_o, uA_o, uA_s, ↓reduceIte, eq_self, true_or, or_true, or_false, false_or, true_and, and_true, false_and, and_false, or_self, and_self, not_false_eq_true, not_true_eq_false, tn_i, mq_isCat_y hA hw, mq_isHouse_n hA hw]
  · refine ⟨fun q => absurd q.1 h1, fun _ => ?_⟩
    unfold FX11_canLet
    simp (disch := omega) only [nI_iI, lN_lJ, iI_0, lJ_0, iI_add, iI_sub, iI_mul, iI_neg, lJ_add, lJ_sub, lJ_mul, lJ_neg, i_l, l_i, iI_cl, iI_inb, iI_eqT, iI_eqF, iI_ltT, iI_ltF, iI_leT, iI_leF, lJ_eqT, lJ_eqF, lJ_cG, lJ_cE, lJ_cL, lJ_cF, lJ_cGE, lJ_cLE, lJ_cNL, lJ_cNG, Int.cast_ofNat_Int, c_0, c_1, Int.natCast_add, Int.add_zero, cond_true, cond_false, Bool.and_self, Bool.and_true, Bool.true_and, Option.bind_some, decide_true, uI_hit, uI_miss, uI_o, uA_o, uA_s, ↓reduceIte, eq_self, true_or, or_true, or_false, false_or, true_and, and_true, false_and, and_false, or_self, and_self, not_false_eq_true, not_true_eq_false, tn_i, mq_isCat_n hA hw]
