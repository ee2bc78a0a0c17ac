/-! ===== hours ===== -/
def hrS (S : aS) : aS := (passA true (lawT S) (lawG S) (keepS S.1), S.2)
def hrN (S : aS) : Int := passN true (lawT S) (lawG S) (keepS S.1)
theorem hrS_ok {S : aS} (hS : sOK S) (h9 : S.1 9 < 9999) : sOK (hrS S) ∧ (hrS S).1 9 = S.1 9 + 1 ∧ (∀ j : Int, ((0 ≤ j ∧ j < 9) ∨ (42 ≤ j ∧ j < 1936)) → (hrS S).1 j = keepS S.1 j) ∧ (hrS S).1 2 = S.1 2 ∧ 0 ≤ hrN S ∧ hrN S ≤ 5994 := by
  have k4 := hS.1.2.1
  have hK := keepS_si hS.1
  have o9 : keepS S.1 9 = S.1 9 := keepS_o k4 (by omega)
  have p := passA_ok (wr := true) (y0 := lawT S) (y1 := lawG S) hK.1 (by rw [o9]; exact h9)
  have ho : ∀ j : Int, ((0 ≤ j ∧ j < 9) ∨ (42 ≤ j ∧ j < 1936)) → (hrS S).1 j = keepS S.1 j := fun j hj => p.2.1 j (by omega) (by omega) (by omega) (by omega)
  have b2 : (hrS S).1 2 = S.1 2 := (ho 2 (by omega)).trans (keepS_o k4 (by omega))
  refine ⟨hS.step (hS.1.step p.1 ho) b2, ?_, ho, b2, p.2.2.2.1, p.2.2.2.2⟩
  have := p.2.2.1
  rw [o9] at this
  exact this
theorem cq_hr {d : aI} {e : aJ} {S : aS} (hC : CI d S) (hS : sOK S) (h9 : S.1 9 < 9999) : ∃ d', FX10_pass d e (iI 1) = some (iI (hrN S), d', e) ∧ CI d' (hrS S) ∧ Fc d d' := by
  obtain ⟨o1, o2, o3, o4, o5⟩ := hrS_ok hS h9
  have s2 := hS.1.2.2.1.2
  obtain ⟨d', q1, q2, q3, q4⟩ := cq_pass1 (e := e) hC.cn hC.rg hS.1 (hC.ru hS) h9
  exact ⟨d', q1, hC.step (hC.1.step hS.1 q2 q3 (fun k hk => q4 k (by omega)) o3) (fun k a b => q4 k (by omega)) o4 s2, fun k a => q4 k (by omega)⟩
theorem MX.keep {d d' : aI} {A : Int → Int} {y0 y1 : Option (En → Int)} (h : MX d (A 3) y0 y1) (k4 : 0 ≤ A 4 ∧ A 4 ≤ 30) (g : d' 111 = d 111) : MX d' (keepS A 3) y0 y1 := by
  rw [keepS_o k4 (by omega)]
  exact h.of g
theorem mq_hr {d : aI} {e : aJ} {S : aS} {q : Int} (hM : MI d S) (hS : sOK S) (h9 : S.1 9 < 9999) (hq : d 108 24 = iI q) : ∃ d1 d' e', FX11_keep d e = some ((), d1, e) ∧ FX11_pass d1 e = some ((), d', e') ∧ MI d' (hrS S) ∧ Fm d d' ∧ d' 108 24 = iI (q + hrN S) := by
  obtain ⟨o1, o2, o3, o4, o5⟩ := hrS_ok hS h9
  have k4 := hS.1.2.1
  have hK := keepS_si hS.1
  obtain ⟨d1, q1, q2, q3⟩ := mq_keep (e := e) hM.1 k4
  obtain ⟨d', e', p1, p2, p3, p4⟩ := mq_pass (e := e) (wr := true) (q := q) q2 hK.1 ((hM.mx hS).keep k4 (q3 111 (by omega))) (by rw [q3 108 (by omega)]; exact hM.2.2.2.2.2.2.2) (by rw [q3 108 (by omega)]; exact hq)
  exact ⟨d1, d', e', q1, p1, hM.step p2 ((Kr.only q3).trans p3) o4, ((Kr.only q3).trans p3).fm, p4⟩
/-- n hours, as many of them as can pass, and what is taken -/
def hsF (_ : Nat) (p : aS × Int) : aS × Int := if p.1.1 9 < 9999 then (hrS p.1, p.2 + hrN p.1) else p
def hsS (n : Nat) (S : aS) : aS × Int := itr hsF n (S, 0)
theorem hsS_s (n : Nat) (S : aS) : hsS (n + 1) S = if (hsS n S).1.1 9 < 9999 then (hrS (hsS n S).1, (hsS n S).2 + hrN (hsS n S).1) else hsS n S := rfl
theorem hsS_ok {S : aS} (hS : sOK S) (n : Nat) : sOK (hsS n S).1 ∧ (hsS n S).1.1 9 = (if S.1 9 + n ≤ 9999 then S.1 9 + n else 9999) ∧ 0 ≤ (hsS n S).2 ∧ (hsS n S).2 ≤ 5994 * n := by
  have w9 := hS.1.1.2.2.1
  induction n with
  | zero =>
    refine ⟨hS, ?_, Int.le_refl _, Int.le_refl _⟩
    show S.1 9 = _
    split <;> omega
  | succ n ih =>
    obtain ⟨i1, i2, i3, i4⟩ := ih
    rw [hsS_s]
    generalize hsS n S = p at i1 i2 i3 i4
    by_cases h : p.1.1 9 < 9999
    · rw [if_pos h]
      obtain ⟨o1, o2, o3, o4, o5, o6⟩ := hrS_ok i1 h
      refine ⟨o1, ?_, by show 0 ≤ p.2 + hrN p.1; omega, by show p.2 + hrN p.1 ≤ _; omega⟩
      show (hrS p.1).1 9 = _
      rw [o2, i2]
      rw [i2] at h
      by_cases h3 : S.1 9 + n ≤ 9999
      · rw [if_pos h3] at h ⊢
        rw [if_pos (by omega)]; omega
      · rw [if_neg h3] at h
        omega
    · rw [if_neg h]
      refine ⟨i1, ?_, i3, by omega⟩
      rw [i2] at h ⊢
      by_cases h3 : S.1 9 + n ≤ 9999
      · rw [if_pos h3] at h ⊢
        rw [if_neg (by omega)]; omega
      · rw [if_neg h3, if_neg (by omega)]
theorem hsS_end {S : aS} (hS : sOK S) {m n : Nat} (hm : S.1 9 + m = 9999) (hn : m ≤ n) : hsS n S = hsS m S := by
  induction n with
  | zero => rw [show m = 0 by omega]
  | succ n ih =>
    by_cases h : m = n + 1
    · rw [h]
    · have i := ih (by omega)
      have o := (hsS_ok hS m).2.1
      rw [if_pos (by omega)] at o
      rw [hsS_s, i, if_neg (by omega)]
/-- the class's hours, one after the other -/
theorem cq_hs {d : aI} {S : aS} (hC : CI d S) (hS : sOK S) (n : Nat) (hn : S.1 9 + n ≤ 9999) (st : aP → Option aP) (T : Nat → Int → aI → aJ → aP) (hp : ∀ k s d' e', Nat.beq (T k s d' e').1 100000 = false) (hs : ∀ (k : Nat) (s : Int) (d' d2 : aI) (e' e2 : aJ) (r : Int), k < n → 0 ≤ r → r ≤ 5994 → 0 ≤ s → s ≤ 5994 * k → FX10_pass d' e' (iI 1) = some (iI r, d2, e2) → st (T k s d' e') = some (T (k + 1) (s + r) d2 e2)) (e : aJ) : ∃ d', a_run st (T 0 0 d e) = a_run st (T n (hsS n S).2 d' e) ∧ CI d' (hsS n S).1 ∧ Fc d d' := by
  induction n with
  | zero => exact ⟨d, rfl, hC, Fc.refl d⟩
  | succ n ih =>
    obtain ⟨d1, t1, c1, f1⟩ := ih (by omega) (fun k s d' d2 e' e2 r hk => hs k s d' d2 e' e2 r (by omega))
    obtain ⟨i1, i2, i3, i4⟩ := hsS_ok hS n
    rw [if_pos (by omega)] at i2
    rw [hsS_s, if_pos (by omega)]
    generalize hsS n S = p at t1 c1 i1 i2 i3 i4
    obtain ⟨o1, o2, o3, o4, o5, o6⟩ := hrS_ok i1 (by omega)
    obtain ⟨d2, q1, q2, q3⟩ := cq_hr (e := e) c1 i1 (by omega)
    exact ⟨d2, t1.trans (a_run_step (hs n p.2 d1 d2 e e (hrN p.1) (by omega) o5 o6 i3 i4 q1) (hp _ _ _ _)), q2, f1.trans q3⟩
theorem cq_allPass {d : aI} {e : aJ} {S : aS} (hC : CI d S) (hS : sOK S) {n : Int} (hn : 0 ≤ n ∧ n ≤ 60) : ∃ d', FX10_allPass d e (iI n) = some (iI (if S.1 9 + n ≤ 9999 then 1 else 0), d', e) ∧ CI d' (hsS n.toNat S).1 ∧ Fc d d' := by
  have w9 := hS.1.1.2.2.1
  have hstep : ∀ (m : Nat), (m : Int) ≤ n → ∀ (k : Nat) (s : Int) (d' d2 : aI) (e' e2 : aJ) (r : Int), k < m → 0 ≤ r → r ≤ 5994 → 0 ≤ s → s ≤ 5994 * k → FX10_pass d' e' (iI 1) = some (iI r, d2, e2) → stX10_allPass (2, [some (.ref 0), some (.int (iI n)), some (.int (iI (k : Nat)))], d', e') = some (2, [some (.ref 0), some (.int (iI n)), some (.int (iI ((k + 1 : Nat) : Int)))], d2, e2) := by
    intro m hm k s d' d2 e' e2 r hk r0 r1 s0 s1 hr
    show sX10_allPass_2 d' e' (iI n) _ = _
    unfold sX10_allPass_2
    simp (disch := omega) only [nI_iI, lN_lJ, iI_0, lJ_0, iI_add, iI_sub, iI_mul, iI_neg, lJ_add, lJ_sub, lJ_mul, lJ_neg, i_l, l_i, iI_cl, iI_inb, iI_eqT, iI_eqF, iI_ltT, iI_ltF, iI_leT, iI_leF, lJ_eqT, lJ_eqF, lJ_cG, lJ_cE, lJ_cL, lJ_cF, lJ_cGE, lJ_cLE, lJ_cNL, lJ_cNG, Int.cast_ofNat_Int, c_0, c_1, Int.natCast_add, Int.add_zero, cond_true, cond_false, Bool.and_self, Bool.and_true, Bool.true_and, Option.bind_some, decide_true, uI_hit, uI_miss, uI_o, uA_o, uA_s, ↓reduceIte, eq_self, true_or, or_true, or_false, false_or, true_and, and_true, false_and, and_false, or_self, and_self, not_false_eq_true, not_true_eq_false, tn_i, hr]
  unfold FX10_allPass
  rw [a_run_step (st := stX10_allPass) (p := (0, [some (.ref 0), some (.int (iI n)), none], d, e)) (p2 := (2, [some (.ref 0), some (.int (iI n)), some (.int (iI (0 : Nat)))], d, e)) rfl rfl]
  by_cases h : S.1 9 + n ≤ 9999
  · rw [if_pos h]
    obtain ⟨d', t1, c1, f1⟩ := cq_hs hC hS n.toNat (by omega) stX10_allPass (fun k s d' e' => (2, [some (.ref 0), some (.int (iI n)), some (.int (iI (k : Nat)))], d', e')) (fun _ _ _ _ => rfl) (hstep n.toNat (by omega)) e
    refine ⟨d', ?_, c1, f1⟩
    rw [t1, a_run_step (st := stX10_allPass) (p2 := (100000, [some (.int (iI 1))], d', e)) (by
      show sX10_allPass_2 d' e (iI n) _ = _
      unfold sX10_allPass_2
      simp (disch := omega) only [nI_iI, lN_lJ, iI_0, lJ_0, iI_add, iI_sub, iI_mul, iI_neg, lJ_add, lJ_sub, lJ_mul, lJ_neg, i_l, l_i, iI_cl, iI_inb, iI_eqT, iI_eqF, iI_ltT, iI_ltF, iI_leT, iI_leF, lJ_eqT, lJ_eqF, lJ_cG, lJ_cE, lJ_cL, lJ_cF, lJ_cGE, lJ_cLE, lJ_cNL, lJ_cNG, Int.cast_ofNat_Int, c_0, c_1, Int.natCast_add, Int.add_zero, cond_true, cond_false, Bool.and_self, Bool.and_true, Bool.true_and, Option.bind_some, decide_true, uI_hit, uI_miss, uI_o, uA_o, uA_s, ↓reduceIte, eq_self, true_or, or_true, or_false, false_or, true_and, and_true, false_and, and_false, or_self, and_self, not_false_eq_true, not_true_eq_false, tn_i]) rfl, a_run_end]
    rfl
  · rw [if_neg h]
    have hm : S.1 9 + ((9999 - S.1 9).toNat : Int) = 9999 := by omega
    obtain ⟨d', t1, c1, f1⟩ := cq_hs hC hS (9999 - S.1 9).toNat (by omega) stX10_allPass (fun k s d' e' => (2, [some (.ref 0), some (.int (iI n)), some (.int (iI (k : Nat)))], d', e')) (fun _ _ _ _ => rfl) (hstep (9999 - S.1 9).toNat (by omega)) e
    obtain ⟨i1, i2, i3, i4⟩ := hsS_ok hS (9999 - S.1 9).toNat
    rw [if_pos (by omega)] at i2
    rw [hsS_end hS hm (n := n.toNat) (by omega)]
    have g := cq_pass_n (e := e) (x1 := iI 1) c1.cn (by omega)
    refine ⟨d', ?_, c1, f1⟩
    rw [t1, a_run_step (st := stX10_allPass) (p2 := (100000, [some (.int (iI 0))], d', e)) (by
      show sX10_allPass_2 d' e (iI n) _ = _
      unfold sX10_allPass_2
      simp (disch := omega) only [nI_iI, lN_lJ, iI_0, lJ_0, iI_add, iI_sub, iI_mul, iI_neg, lJ_add, lJ_sub, lJ_mul, lJ_neg, i_l, l_i, iI_cl, iI_inb, iI_eqT, iI_eqF, iI_ltT, iI_ltF, iI_leT, iI_leF, lJ_eqT, lJ_eqF, lJ_cG, lJ_cE, lJ_cL, lJ_cF, lJ_cGE, lJ_cLE, lJ_cNL, lJ_cNG, Int.cast_ofNat_Int, c_0, c_1, Int.natCast_add, Int.add_zero, cond_true, cond_false, Bool.and_self, Bool.and_true, Bool.true_and, Option.bind_some, decide_true, uI_hit, uI_miss, uI_o, uA_o, uA_s, ↓reduceIte, eq_self, true_or, or_true, or_false, false_or, true_and, and_true, false_and, and_false, or_self, and_self, not_false_eq_true, not_true_eq_false, tn_i, g]) rfl, a_run_end]
    rfl
theorem mq_hs {d : aI} {S : aS} (hM : MI d S) (hS : sOK S) (hq : d 108 24 = iI 0) (n : Nat) (hn : S.1 9 + n ≤ 9999) (h60 : n ≤ 60) (x : Int) (hx : (n : Int) ≤ x ∧ x ≤ 60) (e : aJ) : ∃ d' e', a_run stX11_arePassed (7, [some (.ref 108), some (.int (iI x)), some (.int (iI (0 : Nat)))], d, e) = a_run stX11_arePassed (7, [some (.ref 108), some (.int (iI x)), some (.int (iI (n : Nat)))], d', e') ∧ MI d' (hsS n S).1 ∧ Fm d d' ∧ d' 108 24 = iI (hsS n S).2 := by
  induction n with
  | zero => exact ⟨d, e, rfl, hM, Fm.refl d, hq⟩
  | succ n ih =>
    obtain ⟨d1, e1, t1, c1, f1, s1⟩ := ih (by omega) (by omega) (by omega)
    obtain ⟨i1, i2, i3, i4⟩ := hsS_ok hS n
    rw [if_pos (by omega)] at i2
    rw [hsS_s, if_pos (by omega)]
    generalize hsS n S = p at t1 c1 i1 i2 i3 i4 s1
    obtain ⟨d2, d3, e3, q1, q2, q3, q4, q5⟩ := mq_hr (e := e1) c1 i1 (by omega) s1
    have r9 : d1 109 9 = iI (p.1.1 9) := c1.1.cell (j := 9) (by omega)
    have w9 := hS.1.1.2.2.1
    refine ⟨d3, e3, t1.trans (a_run_step ?_ rfl), q3, f1.trans q4, q5⟩
    show sX11_arePassed_7 d1 e1 (iI x) _ = _
    unfold sX11_arePassed_7
    simp (disch := omega) only [nI_iI, lN_lJ, iI_0, lJ_0, iI_add, iI_sub, iI_mul, iI_neg, lJ_add, lJ_sub, lJ_mul, lJ_neg, i_l, l_i, iI_cl, iI_inb, iI_eqT, iI_eqF, iI_ltT, iI_ltF, iI_leT, iI_leF, lJ_eqT, lJ_eqF, lJ_cG, lJ_cE, lJ_cL, lJ_cF, lJ_cGE, lJ_cLE, lJ_cNL, lJ_cNG, Int.cast_ofNat_Int, c_0, c_1, Int.natCast_add, Int.add_zero, cond_true, cond_false, Bool.and_self, Bool.and_true, Bool.true_and, Option.bind_some, decide_true, uI_hit, uI_miss, uI_o, uA_o, uA_s, ↓reduceIte, eq_self, true_or, or_true, or_false, false_or, true_and, and_true, false_and, and_false, or_self, and_self, not_false_eq_true, not_true_eq_false, tn_i, r9, q1, q2]
theorem mq_arePassed {d : aI} {e : aJ} {S : aS} (hM : MI d S) (hS : sOK S) {n : Int} (hn : 0 ≤ n ∧ n ≤ 60) : ∃ d' e', FX11_arePassed d e (iI n) = some (iI (if S.1 9 + n ≤ 9999 then 1 else 0), d', e') ∧ MI d' (hsS n.toNat S).1 ∧ Fm d d' ∧ d' 108 24 = iI (hsS n.toNat S).2 := by
  have w9 := hS.1.1.2.2.1
  have m0 : MI (uI d 108 24 (iI 0)) S := hM.of ⟨fun k a b => uI_o b, fun j hj => uI_miss (by omega)⟩
  have f0 : Fm d (uI d 108 24 (iI 0)) := fun k a => uI_o (by omega)
  unfold FX11_arePassed
  rw [a_run_step (st := stX11_arePassed) (p := (0, [some (.ref 108), some (.int (iI n)), none], d, e)) (p2 := (7, [some (.ref 108), some (.int (iI n)), some (.int (iI (0 : Nat)))], uI d 108 24 (iI 0), e)) rfl rfl]
  by_cases h : S.1 9 + n ≤ 9999
  · rw [if_pos h]
    obtain ⟨d', e', t1, c1, f1, s1⟩ := mq_hs m0 hS (uI_hit rfl) n.toNat (by omega) (by omega) n (by omega) e
    refine ⟨d', e', ?_, c1, f0.trans f1, s1⟩
    rw [t1, a_run_step (st := stX11_arePassed) (p2 := (100000, [some (.int (iI 1))], d', e')) (by
      show sX11_arePassed_7 d' e' (iI n) _ = _
      unfold sX11_arePassed_7
      simp (disch := omega) only [nI_iI, lN_lJ, iI_0, lJ_0, iI_add, iI_sub, iI_mul, iI_neg, lJ_add, lJ_sub, lJ_mul, lJ_neg, i_l, l_i, iI_cl, iI_inb, iI_eqT, iI_eqF, iI_ltT, iI_ltF, iI_leT, iI_leF, lJ_eqT, lJ_eqF, lJ_cG, lJ_cE, lJ_cL, lJ_cF, lJ_cGE, lJ_cLE, lJ_cNL, lJ_cNG, Int.cast_ofNat_Int, c_0, c_1, Int.natCast_add, Int.add_zero, cond_true, cond_false, Bool.and_self, Bool.and_true, Bool.true_and, Option.bind_some, decide_true, uI_hit, uI_miss, uI_o, uA_o, uA_s, ↓reduceIte, eq_self, true_or, or_true, or_false, false_or, true_and, and_true, false_and, and_false, or_self, and_self, not_false_eq_true, not_true_eq_false, tn_i]) rfl, a_run_end]
    rfl
  · rw [if_neg h]
    have hm : S.1 9 + ((9999 - S.1 9).toNat : Int) = 9999 := by omega
    obtain ⟨d', e', t1, c1, f1, s1⟩ := mq_hs m0 hS (uI_hit rfl) (9999 - S.1 9).toNat (by omega) (by omega) n (by omega) e
    obtain ⟨i1, i2, i3, i4⟩ := hsS_ok hS (9999 - S.1 9).toNat
    rw [if_pos (by omega)] at i2
    rw [hsS_end hS hm (n := n.toNat) (by omega)]
    have r9 : d' 109 9 = iI ((hsS (9999 - S.1 9).toNat S).1.1 9) := c1.1.cell (j := 9) (by omega)
    rw [i2] at r9
    refine ⟨d', e', ?_, c1, f0.trans f1, s1⟩
    rw [t1, a_run_step (st := stX11_arePassed) (p2 := (100000, [some (.int (iI 0))], d', e')) (by
      show sX11_arePassed_7 d' e' (iI n) _ = _
      unfold sX11_arePassed_7
      simp (disch := omega) only [nI_iI, lN_lJ, iI_0, lJ_0, iI_add, iI_sub, iI_mul, iI_neg, lJ_add, lJ_sub, lJ_mul, lJ_neg, i_l, l_i, iI_cl, iI_inb, iI_eqT, iI_eqF, iI_ltT, iI_ltF, iI_leT, iI_leF, lJ_eqT, lJ_eqF, lJ_cG, lJ_cE, lJ_cL, lJ_cF, lJ_cGE, lJ_cLE, lJ_cNL, lJ_cNG, Int.cast_ofNat_Int, c_0, c_1, Int.natCast_add, Int.add_zero, cond_true, cond_false, Bool.and_self, Bool.and_true, Bool.true_and, Option.bind_some, decide_true, uI_hit, uI_miss, uI_o, uA_o, uA_s, ↓reduceIte, eq_self, true_or, or_true, or_false, false_or, true_and, and_true, false_and, and_false, or_self, and_self, not_false_eq_true, not_true_eq_false, tn_i, r9]) rfl, a_run_end]
    rfl
theorem o_hour (x : Int32) : Op (fun d e => FX10_hour d e x) (fun d e => FX11_hour d e x) := by
  obtain ⟨n, rfl, h1, h2⟩ := iI_ex x
  intro S hS
  have w9 := hS.1.1.2.2.1
  by_cases hn : 1 ≤ n ∧ n ≤ 60
  · by_cases h : S.1 9 + n ≤ 9999
    · obtain ⟨i1, i2, i3, i4⟩ := hsS_ok hS n.toNat
      refine ⟨(hsS n.toNat S).1, iI (hsS n.toNat S).2, i1, fun d e hC => ?_, fun d e hM => ?_⟩
      · obtain ⟨d', t1, c1, f1⟩ := cq_hs hC hS n.toNat (by omega) stX10_hour (fun k s d' e' => (34, [some (.ref 0), some (.int (iI n)), some (.int (iI s)), some (.int (iI (k : Nat)))], d', e')) (fun _ _ _ _ => rfl) (fun k s d' d2 e' e2 r hk r0 r1 s0 s1 hr => by
          show sX10_hour_34 d' e' (iI n) (iI s) _ = _
          unfold sX10_hour_34
          simp (disch := omega) only [nI_iI, lN_lJ, iI_0, lJ_0, iI_add, iI_sub, iI_mul, iI_neg, lJ_add, lJ_sub, lJ_mul, lJ_neg, i_l, l_i, iI_cl, iI_inb, iI_eqT, iI_eqF, iI_ltT, iI_ltF, iI_leT, iI_leF, lJ_eqT, lJ_eqF, lJ_cG, lJ_cE, lJ_cL, lJ_cF, lJ_cGE, lJ_cLE, lJ_cNL, lJ_cNG, Int.cast_ofNat_Int, c_0, c_1, Int.natCast_add, Int.add_zero, cond_true, cond_false, Bool.and_self, Bool.and_true, Bool.true_and, Option.bind_some, decide_true, uI_hit, uI_miss, uI_o, uA_o, uA_s, ↓reduceIte, eq_self, true_or, or_true, or_false, false_or, true_and, and_true, false_and, and_false, or_self, and_self, not_false_eq_true, not_true_eq_false, tn_i, hr]) e
        refine ⟨d', e, ?_, c1, f1⟩
        have k11 : d 2 11 = iI (S.1 9) := hC.cn.2.2.2.1
        show FX10_hour d e (iI n) = _
        unfold FX10_hour
        rw [a_run_step (st := stX10_hour) (p := (0, [some (.ref 0), some (.int (iI n)), none, none], d, e)) (p2 := (34, [some (.ref 0), some (.int (iI n)), some (.int (iI 0)), some (.int (iI (0 : Nat)))], d, e)) (by
          show sX10_hour_0 d e (iI n) = _
          unfold sX10_hour_0
          simp (disch := omega) only [nI_iI, lN_lJ, iI_0, lJ_0, iI_add, iI_sub, iI_mul, iI_neg, lJ_add, lJ_sub, lJ_mul, lJ_neg, i_l, l_i, iI_cl, iI_inb, iI_eqT, iI_eqF, iI_ltT, iI_ltF, iI_leT, iI_leF, lJ_eqT, lJ_eqF, lJ_cG, lJ_cE, lJ_cL, lJ_cF, lJ_cGE, lJ_cLE, lJ_cNL, lJ_cNG, Int.cast_ofNat_Int, c_0, c_1, Int.natCast_add, Int.add_zero, cond_true, cond_false, Bool.and_self, Bool.and_true, Bool.true_and, Option.bind_some, decide_true, uI_hit, uI_miss, uI_o, uA_o, uA_s, ↓reduceIte, eq_self, true_or, or_true, or_false, false_or, true_and, and_true, false_and, and_false, or_self, and_self, not_false_eq_true, not_true_eq_false, tn_i, cq_in_y, k11]) rfl, t1, a_run_step (st := stX10_hour) (p2 := (100000, [some (.int (iI (hsS n.toNat S).2))], d', e)) (by
          show sX10_hour_34 d' e (iI n) _ _ = _
          unfold sX10_hour_34
          simp (disch := omega) only [nI_iI, lN_lJ, iI_0, lJ_0, iI_add, iI_sub, iI_mul, iI_neg, lJ_add, lJ_sub, lJ_mul, lJ_neg, i_l, l_i, iI_cl, iI_inb, iI_eqT, iI_eqF, iI_ltT, iI_ltF, iI_leT, iI_leF, lJ_eqT, lJ_eqF, lJ_cG, lJ_cE, lJ_cL, lJ_cF, lJ_cGE, lJ_cLE, lJ_cNL, lJ_cNG, Int.cast_ofNat_Int, c_0, c_1, Int.natCast_add, Int.add_zero, cond_true, cond_false, Bool.and_self, Bool.and_true, Bool.true_and, Option.bind_some, decide_true, uI_hit, uI_miss, uI_o, uA_o, uA_s, ↓reduceIte, eq_self, true_or, or_true, or_false, false_or, true_and, and_true, false_and, and_false, or_self, and_self, not_false_eq_true, not_true_eq_false, tn_i]) rfl, a_run_end]
        rfl
      · obtain ⟨d', e', t1, c1, f1, s1⟩ := mq_arePassed (e := e) hM hS (n := n) (by omega)
        rw [if_pos h] at t1
        have r9 : d 109 9 = iI (S.1 9) := hM.1.cell (j := 9) (by omega)
        refine ⟨d', e', ?_, c1, f1⟩
        show FX11_hour d e (iI n) = _
        unfold FX11_hour
        simp (disch := omega) only [nI_iI, lN_lJ, iI_0, lJ_0, iI_add, iI_sub, iI_mul, iI_neg, lJ_add, lJ_sub, lJ_mul, lJ_neg, i_l, l_i, iI_cl, iI_inb, iI_eqT, iI_eqF, iI_ltT, iI_ltF, iI_leT, iI_leF, lJ_eqT, lJ_eqF, lJ_cG, lJ_cE, lJ_cL, lJ_cF, lJ_cGE, lJ_cLE, lJ_cNL, lJ_cNG, Int.cast_ofNat_Int, c_0, c_1, Int.natCast_add, Int.add_zero, cond_true, cond_false, Bool.and_self, Bool.and_true, Bool.true_and, Option.bind_some, decide_true, uI_hit, uI_miss, uI_o, uA_o, uA_s, ↓reduceIte, eq_self, true_or, or_true, or_false, false_or, true_and, and_true, false_and, and_false, or_self, and_self, not_false_eq_true, not_true_eq_false, tn_i, mq_in_y, r9, t1, s1]
    · refine ⟨S, iI (-1), hS, fun d e hC => ⟨d, e, ?_, hC, Fc.refl d⟩, fun d e hM => ⟨d, e, ?_, hM, Fm.refl d⟩⟩
      · have k11 : d 2 11 = iI (S.1 9) := hC.cn.2.2.2.1
        show FX10_hour d e (iI n) = _
        unfold FX10_hour
        rw [a_run_step (st := stX10_hour) (p := (0, [some (.ref 0), some (.int (iI n)), none, none], d, e)) (p2 := (100000, [some (.int (iI (-1)))], d, e)) (by
          show sX10_hour_0 d e (iI n) = _
          unfold sX10_hour_0
          simp (disch := omega) only [nI_iI, lN_lJ, iI_0, lJ_0, iI_add, iI_sub, iI_mul, iI_neg, lJ_add, lJ_sub, lJ_mul, lJ_neg, i_l, l_i, iI_cl, iI_inb, iI_eqT, iI_eqF, iI_ltT, iI_ltF, iI_leT, iI_leF, lJ_eqT, lJ_eqF, lJ_cG, lJ_cE, lJ_cL, lJ_cF, lJ_cGE, lJ_cLE, lJ_cNL, lJ_cNG, Int.cast_ofNat_Int, c_0, c_1, Int.natCast_add, Int.add_zero, cond_true, cond_false, Bool.and_self, Bool.and_true, Bool.true_and, Option.bind_some, decide_true, uI_hit, uI_miss, uI_o, uA_o, uA_s, ↓reduceIte, eq_self, true_or, or_true, or_false, false_or, true_and, and_true, false_and, and_false, or_self, and_self, not_false_eq_true, not_true_eq_false, tn_i, cq_in_y, k11]) rfl, a_run_end]
        rfl
      · have r9 : d 109 9 = iI (S.1 9) := hM.1.cell (j := 9) (by omega)
        show FX11_hour d e (iI n) = _
        unfold FX11_hour
        simp (disch := omega) only [nI_iI, lN_lJ, iI_0, lJ_0, iI_add, iI_sub, iI_mul, iI_neg, lJ_add, lJ_sub, lJ_mul, lJ_neg, i_l, l_i, iI_cl, iI_inb, iI_eqT, iI_eqF, iI_ltT, iI_ltF, iI_leT, iI_leF, lJ_eqT, lJ_eqF, lJ_cG, lJ_cE, lJ_cL, lJ_cF, lJ_cGE, lJ_cLE, lJ_cNL, lJ_cNG, Int.cast_ofNat_Int, c_0, c_1, Int.natCast_add, Int.add_zero, cond_true, cond_false, Bool.and_self, Bool.and_true, Bool.true_and, Option.bind_some, decide_true, uI_hit, uI_miss, uI_o, uA_o, uA_s, ↓reduceIte, eq_self, true_or, or_true, or_false, false_or, true_and, and_true, false_and, and_false, or_self, and_self, not_false_eq_true, not_true_eq_false, tn_i, mq_in_y, r9]
  · refine ⟨S, iI (-1), hS, fun d e hC => ⟨d, e, ?_, hC, Fc.refl d⟩, fun d e hM => ⟨d, e, ?_, hM, Fm.refl d⟩⟩
    · show FX10_hour d e (iI n) = _
      unfold FX10_hour
      rw [a_run_step (st := stX10_hour) (p := (0, [some (.ref 0), some (.int (iI n)), none, none], d, e)) (p2 := (100000, [some (.int (iI (-1)))], d, e)) (by
        show sX10_hour_0 d e (iI n) = _
        unfold sX10_hour_0
        simp (disch := omega) only [nI_iI, lN_lJ, iI_0, lJ_0, iI_add, iI_sub, iI_mul, iI_neg, lJ_add, lJ_sub, lJ_mul, lJ_neg, i_l, l_i, iI_cl, iI_inb, iI_eqT, iI_eqF, iI_ltT, iI_ltF, iI_leT, iI_leF, lJ_eqT, lJ_eqF, lJ_cG, lJ_cE, lJ_cL, lJ_cF, lJ_cGE, lJ_cLE, lJ_cNL, lJ_cNG, Int.cast_ofNat_Int, c_0, c_1, Int.natCast_add, Int.add_zero, cond_true, cond_false, Bool.and_self, Bool.and_true, Bool.true_and, Option.bind_some, decide_true, uI_hit, uI_miss, uI_o, uA_o, uA_s, ↓reduceIte, eq_self, true_or, or_true, or_false, false_or, true_and, and_true, false_and, and_false, or_self, and_self, not_false_eq_true, not_true_eq_false, tn_i, cq_in_n]) rfl, a_run_end]
      rfl
    · show FX11_hour d e (iI n) = _
      unfold FX11_hour
      simp (disch := omega) only [nI_iI, lN_lJ, iI_0, lJ_0, iI_add, iI_sub, iI_mul, iI_neg, lJ_add, lJ_sub, lJ_mul, lJ_neg, i_l, l_i, iI_cl, iI_inb, iI_eqT, iI_eqF, iI_ltT, iI_ltF, iI_leT, iI_leF, lJ_eqT, lJ_eqF, lJ_cG, lJ_cE, lJ_cL, lJ_cF, lJ_cGE, lJ_cLE, lJ_cNL, lJ_cNG, Int.cast_ofNat_Int, c_0, c_1, Int.natCast_add, Int.add_zero, cond_true, cond_false, Bool.and_self, Bool.and_true, Bool.true_and, Option.bind_some, decide_true, uI_hit, uI_miss, uI_o, uA_o, uA_s, ↓reduceIte, eq_self, true_or, or_true, or_false, false_or, true_and, and_true, false_and, and_false, or_self, and_self, not_false_eq_true, not_true_eq_false, tn_i, mq_in_n]
