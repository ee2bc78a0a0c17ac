/-! ===== the reference reads: behind one ===== -/
noncomputable def SMR (d : aI) (e : aJ) : Option (aL × aI × aJ) := a_run stX11_summed (15, [some (.ref 108), some (.int (iI 0))], d, e)
noncomputable def FNs (f : Int) (d : aI) (e : aJ) : Option (aL × aI × aJ) := if f = 0 then SMR d e else some ([some (.int (iI f))], d, e)
theorem run_b {d d' : aI} {e e' : aJ} {f : Int} {v : Option Value} (w : d 108 18 = iI 0) (h : FX11_beginOne d e = some (iI f, d', e')) (hf : 0 ≤ f ∧ f ≤ 6) : a_run stX11_summed (15, [some (.ref 108), v], d, e) = FNs f d' e' := by
  unfold FNs
  by_cases q : f = 0
  · subst q
    rw [if_pos rfl]
    exact a_run_step (by
      show sX11_summed_15 d e v = _
      unfold sX11_summed_15
      simp (disch := omega) only [nI_iI, lN_lJ, iI_0, lJ_0, iI_add, iI_sub, iI_mul, iI_neg, lJ_add, lJ_sub, lJ_mul, lJ_neg, i_l, l_i, iI_cl, iI_inb, iI_eqT, iI_eqF, iI_ltT, iI_ltF, iI_leT, iI_leF, lJ_eqT, lJ_eqF, lJ_cG, lJ_cE, lJ_cL, lJ_cF, lJ_cGE, lJ_cLE, lJ_cNL, lJ_cNG, Int.cast_ofNat_Int, c_0, c_1, Int.natCast_add, Int.add_zero, cond_true, cond_false, Bool.and_self, Bool.and_true, Bool.true_and, Option.bind_some, decide_true, uI_hit, uI_miss, uI_o, uA_o, uA_s, ↓reduceIte, eq_self, true_or, or_true, or_false, false_or, true_and, and_true, false_and, and_false, or_self, and_self, not_false_eq_true, not_true_eq_false, tn_i, w, h]) rfl
  · rw [if_neg q, a_run_step (st := stX11_summed) (p2 := (100000, [some (.int (iI f))], d', e')) (by
      show sX11_summed_15 d e v = _
      unfold sX11_summed_15
      simp (disch := omega) only [nI_iI, lN_lJ, iI_0, lJ_0, iI_add, iI_sub, iI_mul, iI_neg, lJ_add, lJ_sub, lJ_mul, lJ_neg, i_l, l_i, iI_cl, iI_inb, iI_eqT, iI_eqF, iI_ltT, iI_ltF, iI_leT, iI_leF, lJ_eqT, lJ_eqF, lJ_cG, lJ_cE, lJ_cL, lJ_cF, lJ_cGE, lJ_cLE, lJ_cNL, lJ_cNG, Int.cast_ofNat_Int, c_0, c_1, Int.natCast_add, Int.add_zero, cond_true, cond_false, Bool.and_self, Bool.and_true, Bool.true_and, Option.bind_some, decide_true, uI_hit, uI_miss, uI_o, uA_o, uA_s, ↓reduceIte, eq_self, true_or, or_true, or_false, false_or, true_and, and_true, false_and, and_false, or_self, and_self, not_false_eq_true, not_true_eq_false, tn_i, w, h]) rfl, a_run_end]
theorem run_h {d d' : aI} {e e' : aJ} {f : Int} {v : Option Value} (w : d 108 18 = iI 1) (h : FX11_behindOne d e = some (iI f, d', e')) (hf : 0 ≤ f ∧ f ≤ 6) : a_run stX11_summed (15, [some (.ref 108), v], d, e) = FNs f d' e' := by
  unfold FNs
  by_cases q : f = 0
  · subst q
    rw [if_pos rfl]
    exact a_run_step (by
      show sX11_summed_15 d e v = _
      unfold sX11_summed_15
      simp (disch := omega) only [nI_iI, lN_lJ, iI_0, lJ_0, iI_add, iI_sub, iI_mul, iI_neg, lJ_add, lJ_sub, lJ_mul, lJ_neg, i_l, l_i, iI_cl, iI_inb, iI_eqT, iI_eqF, iI_ltT, iI_ltF, iI_leT, iI_leF, lJ_eqT, lJ_eqF, lJ_cG, lJ_cE, lJ_cL, lJ_cF, lJ_cGE, lJ_cLE, lJ_cNL, lJ_cNG, Int.cast_ofNat_Int, c_0, c_1, Int.natCast_add, Int.add_zero, cond_true, cond_false, Bool.and_self, Bool.and_true, Bool.true_and, Option.bind_some, decide_true, uI_hit, uI_miss, uI_o, uA_o, uA_s, ↓reduceIte, eq_self, true_or, or_true, or_false, false_or, true_and, and_true, false_and, and_false, or_self, and_self, not_false_eq_true, not_true_eq_false, tn_i, w, h]) rfl
  · rw [if_neg q, a_run_step (st := stX11_summed) (p2 := (100000, [some (.int (iI f))], d', e')) (by
      show sX11_summed_15 d e v = _
      unfold sX11_summed_15
      simp (disch := omega) only [nI_iI, lN_lJ, iI_0, lJ_0, iI_add, iI_sub, iI_mul, iI_neg, lJ_add, lJ_sub, lJ_mul, lJ_neg, i_l, l_i, iI_cl, iI_inb, iI_eqT, iI_eqF, iI_ltT, iI_ltF, iI_leT, iI_leF, lJ_eqT, lJ_eqF, lJ_cG, lJ_cE, lJ_cL, lJ_cF, lJ_cGE, lJ_cLE, lJ_cNL, lJ_cNG, Int.cast_ofNat_Int, c_0, c_1, Int.natCast_add, Int.add_zero, cond_true, cond_false, Bool.and_self, Bool.and_true, Bool.true_and, Option.bind_some, decide_true, uI_hit, uI_miss, uI_o, uA_o, uA_s, ↓reduceIte, eq_self, true_or, or_true, or_false, false_or, true_and, and_true, false_and, and_false, or_self, and_self, not_false_eq_true, not_true_eq_false, tn_i, w, h]) rfl, a_run_end]
theorem run_x {d : aI} {e : aJ} {v : Option Value} {on : Int} (w : d 108 18 = iI 1) (h : FX11_behindOne d e = some (iI (-1), d, e)) (ho : FX11_openNow d e = some (iI on, d, e)) (h1 : 40 ≤ on ∧ on ≤ 44) : a_run stX11_summed (15, [some (.ref 108), v], d, e) = some ([some (.int (iI 1))], d, e) := by
  rw [a_run_step (st := stX11_summed) (p2 := (100000, [some (.int (iI 1))], d, e)) (by
      show sX11_summed_15 d e v = _
      unfold sX11_summed_15
      simp (disch := omega) only [nI_iI, lN_lJ, iI_0, lJ_0, iI_add, iI_sub, iI_mul, iI_neg, lJ_add, lJ_sub, lJ_mul, lJ_neg, i_l, l_i, iI_cl, iI_inb, iI_eqT, iI_eqF, iI_ltT, iI_ltF, iI_leT, iI_leF, lJ_eqT, lJ_eqF, lJ_cG, lJ_cE, lJ_cL, lJ_cF, lJ_cGE, lJ_cLE, lJ_cNL, lJ_cNG, Int.cast_ofNat_Int, c_0, c_1, Int.natCast_add, Int.add_zero, cond_true, cond_false, Bool.and_self, Bool.and_true, Bool.true_and, Option.bind_some, decide_true, uI_hit, uI_miss, uI_o, uA_o, uA_s, ↓reduceIte, eq_self, true_or, or_true, or_false, false_or, true_and, and_true, false_and, and_false, or_self, and_self, not_false_eq_true, not_true_eq_false, tn_i, w, h, ho]) rfl, a_run_end]
theorem run_e {d d' : aI} {e : aJ} {v : Option Value} (w : d 108 18 = iI 1) (h : FX11_behindOne d e = some (iI (-1), d, e)) (ho : FX11_openNow d e = some (iI (-1), d, e)) (h1 : FX11_settle d e (iI 1) = some ((), d', e)) : a_run stX11_summed (15, [some (.ref 108), v], d, e) = some ([some (.int (iI 0))], d', e) := by
  rw [a_run_step (st := stX11_summed) (p2 := (100000, [some (.int (iI 0))], d', e)) (by
      show sX11_summed_15 d e v = _
      unfold sX11_summed_15
      simp (disch := omega) only [nI_iI, lN_lJ, iI_0, lJ_0, iI_add, iI_sub, iI_mul, iI_neg, lJ_add, lJ_sub, lJ_mul, lJ_neg, i_l, l_i, iI_cl, iI_inb, iI_eqT, iI_eqF, iI_ltT, iI_ltF, iI_leT, iI_leF, lJ_eqT, lJ_eqF, lJ_cG, lJ_cE, lJ_cL, lJ_cF, lJ_cGE, lJ_cLE, lJ_cNL, lJ_cNG, Int.cast_ofNat_Int, c_0, c_1, Int.natCast_add, Int.add_zero, cond_true, cond_false, Bool.and_self, Bool.and_true, Bool.true_and, Option.bind_some, decide_true, uI_hit, uI_miss, uI_o, uA_o, uA_s, ↓reduceIte, eq_self, true_or, or_true, or_false, false_or, true_and, and_true, false_and, and_false, or_self, and_self, not_false_eq_true, not_true_eq_false, tn_i, w, h, ho, h1, iI_one]) rfl, a_run_end]
theorem rk_lt {o : Int} (h : 1 ≤ rkO o) : o < 40 := by
  refine Classical.byContradiction (fun q => ?_)
  unfold rkO at h
  rw [if_neg q] at h
  omega
theorem opN_app : ∀ (pend base : List Int), (∀ o, o ∈ pend → 1 ≤ rkO o) → opN (pend ++ base) = opN base
  | [], _, _ => rfl
  | o :: p, base, h => by
    have := rk_lt (h o List.mem_cons_self)
    show (if 40 ≤ o then o else opN (p ++ base)) = opN base
    rw [if_neg (by omega)]
    exact opN_app p base (fun x hx => h x (List.mem_cons_of_mem _ hx))
theorem cmD_app : ∀ (pend base : List Int), (∀ o, o ∈ pend → 5 ≤ rkO o) → cmD (pend ++ base) = cmD base
  | [], _, _ => rfl
  | o :: p, base, h => by
    have := h o List.mem_cons_self
    show (if 4 < rkO o then cmD (p ++ base) else decide (rkO o = 4)) = cmD base
    rw [if_pos (by omega)]
    exact cmD_app p base (fun x hx => h x (List.mem_cons_of_mem _ hx))
theorem btO_in (c : Int) (pl : List Int) : btO c pl = -1 ∨ (6 ≤ btO c pl ∧ btO c pl ≤ 15) ∨ btO c pl = 21 ∨ btO c pl = 22 := by
  have := cmO_in c
  have : cmO c = -1 ∨ 10 ≤ cmO c := by
    unfold cmO
    repeat' split
    all_goals omega
  unfold btO
  repeat' split
  all_goals omega
theorem MS.on {d : aI} {e : aJ} {T : Nat} {s : Int} {tp : Nat → Int} {L t : Nat} {pl : List Int} {a k : Nat} {w : Bool} {O V : Int → Int} (h : MS d e T s tp L t pl a k w O V) : FX11_openNow d e = some (iI (opN pl), d, e) ∧ FX11_openAt d e = some (iI (opAt pl), d, e) := m_openNow (e := e) h.2.2.2.2.2.1.1 h.2.2.2.2.2.1.2 h.2.2.2.2.2.2.1.1 h.2.2.2.2.2.2.1.2
theorem MS.w1 {d : aI} {e : aJ} {T : Nat} {s : Int} {tp : Nat → Int} {L t : Nat} {pl : List Int} {a k : Nat} {O V : Int → Int} (h : MS d e T s tp L t pl a k true O V) : d 108 18 = iI 1 := h.2.2.2.2.2.2.2.2.1
theorem MS.w0 {d : aI} {e : aJ} {T : Nat} {s : Int} {tp : Nat → Int} {L t : Nat} {pl : List Int} {a k : Nat} {O V : Int → Int} (h : MS d e T s tp L t pl a k false O V) : d 108 18 = iI 0 := h.2.2.2.2.2.2.2.2.1
/-- a sign stands between -/
theorem h_bt {d : aI} {e : aJ} {T : Nat} {s : Int} {tp : Nat → Int} {L t : Nat} {pend base : List Int} {a k : Nat} {O V : Int → Int} {oc lv : Int} (h : MS d e T s tp L t (pend ++ base) a (k + dcO pend) true O V) (ho : btO (KT tp L t) (pend ++ base) = oc) (h0 : 0 ≤ oc) (hlv : lv = if rkO oc = 4 then 5 else rkO oc) (hb : ∀ o r, base = o :: r → rkO o < lv) (hp : ∀ o, o ∈ pend → lv ≤ rkO o) (ha : a + pend.length ≤ 300) (hl : base.length < 100) : ∃ d' e' O' V', SMR d e = SMR d' e' ∧ MS d' e' T s tp L (t + 1) (oc :: base) (a + pend.length) k false O' V' ∧ KM T d d' e e' ∧ (∀ i : Int, i < a → O' i = O i ∧ V' i = V i) ∧ (∀ (m : Nat) (o : Int), pend[m]? = some o → O' (a + m) = o) := by
  have bt := m_between h
  rw [ho] at bt
  have bi := btO_in (KT tp L t) (pend ++ base)
  rw [ho] at bi
  have rk := fun d => m_rank (d := d) (e := e) (o := oc) (by omega)
  have ri := rkO_in oc
  have oi : 0 ≤ oc ∧ oc ≤ 22 := by omega
  have r1 : 1 ≤ rkO oc := by
    rcases bi with q | q | q | q
    · omega
    · unfold rkO
      repeat' split
      all_goals omega
    · rw [q]; decide
    · rw [q]; decide
  obtain ⟨d1, O1, V1, x1, x2, x3, x4, x5, x6⟩ := h.settle (lvl := lv) (by rw [hlv]; split <;> omega) hb hp ha
  have m2 := (x2.push (o := oc) hl (by omega)).whole false
  obtain ⟨d2, e2, n1, n2, n3, n4, n5⟩ := m2.next
  have c16 : d1 108 16 = iI (base.length : Nat) := x2.2.2.2.2.2.1.1
  have n1' : FX11_nextToken (uI (uI (uI d1 113 base.length (iI oc)) 108 16 (iI ((base.length : Int) + 1))) 108 18 (iI 0)) e = some ((), d2, e2) := n1
  refine ⟨d2, e2, O1, V1, ?_, n2, x3.trans ((KM.put (by omega)).trans ((KM.put (by omega)).trans ((KM.put (by omega)).trans n3))), x4, x5⟩
  have bh : FX11_behindOne d e = some (iI 0, d2, e2) := by
    unfold FX11_behindOne
    generalize base.length = n at *
    by_cases q4 : rkO oc = 4
    · rw [if_pos q4] at hlv
      rw [q4] at rk
      rw [hlv] at x1
      clear bi r1
      simp (disch := omega) only [nI_iI, lN_lJ, iI_0, lJ_0, iI_add, iI_sub, iI_mul, iI_neg, lJ_add, lJ_sub, lJ_mul, lJ_neg, i_l, l_i, iI_cl, iI_inb, iI_eqT, iI_eqF, iI_ltT, iI_ltF, iI_leT, iI_leF, lJ_eqT, lJ_eqF, lJ_cG, lJ_cE, lJ_cL, lJ_cF, lJ_cGE, lJ_cLE, lJ_cNL, lJ_cNG, Int.cast_ofNat_Int, c_0, c_1, Int.natCast_add, Int.add_zero, cond_true, cond_false, Bool.and_self, Bool.and_true, Bool.true_and, Option.bind_some, decide_true, uI_hit, uI_miss, uI_o, uA_o, uA_s, ↓reduceIte, eq_self, true_or, or_true, or_false, false_or, true_and, and_true, false_and, and_false, or_self, and_self, not_false_eq_true, not_true_eq_false, tn_i, Int.toNat_natCast, bt, rk, x1, c16, n1']
    · rw [if_neg q4] at hlv
      rw [hlv] at x1
      generalize rkO oc = r at *
      clear bi
      simp (disch := omega) only [nI_iI, lN_lJ, iI_0, lJ_0, iI_add, iI_sub, iI_mul, iI_neg, lJ_add, lJ_sub, lJ_mul, lJ_neg, i_l, l_i, iI_cl, iI_inb, iI_eqT, iI_eqF, iI_ltT, iI_ltF, iI_leT, iI_leF, lJ_eqT, lJ_eqF, lJ_cG, lJ_cE, lJ_cL, lJ_cF, lJ_cGE, lJ_cLE, lJ_cNL, lJ_cNG, Int.cast_ofNat_Int, c_0, c_1, Int.natCast_add, Int.add_zero, cond_true, cond_false, Bool.and_self, Bool.and_true, Bool.true_and, Option.bind_some, decide_true, uI_hit, uI_miss, uI_o, uA_o, uA_s, ↓reduceIte, eq_self, true_or, or_true, or_false, false_or, true_and, and_true, false_and, and_false, or_self, and_self, not_false_eq_true, not_true_eq_false, tn_i, Int.toNat_natCast, bt, rk, x1, c16, n1']
  exact run_h h.w1 bh (by omega)
/-- it can't go on here -/
theorem h_no {d : aI} {e : aJ} {T : Nat} {s : Int} {tp : Nat → Int} {L t : Nat} {pl : List Int} {a k : Nat} {w : Bool} {O V : Int → Int} (h : MS d e T s tp L t pl a k w O V) (ho : btO (KT tp L t) pl = -1) (hp : ptO (KT tp L t) pl = -1) : FX11_behindOne d e = some (iI (-1), d, e) := by
  have bt := m_between h
  rw [ho] at bt
  have pt := m_part h
  rw [hp] at pt
  have on := h.on.1
  have oi := opN_in pl h.2.2.2.2.2.2.1.2
  generalize opN pl = q at *
  unfold FX11_behindOne
  simp (disch := omega) only [nI_iI, lN_lJ, iI_0, lJ_0, iI_add, iI_sub, iI_mul, iI_neg, lJ_add, lJ_sub, lJ_mul, lJ_neg, i_l, l_i, iI_cl, iI_inb, iI_eqT, iI_eqF, iI_ltT, iI_ltF, iI_leT, iI_leF, lJ_eqT, lJ_eqF, lJ_cG, lJ_cE, lJ_cL, lJ_cF, lJ_cGE, lJ_cLE, lJ_cNL, lJ_cNG, Int.cast_ofNat_Int, c_0, c_1, Int.natCast_add, Int.add_zero, cond_true, cond_false, Bool.and_self, Bool.and_true, Bool.true_and, Option.bind_some, decide_true, uI_hit, uI_miss, uI_o, uA_o, uA_s, ↓reduceIte, eq_self, true_or, or_true, or_false, false_or, true_and, and_true, false_and, and_false, or_self, and_self, not_false_eq_true, not_true_eq_false, tn_i, bt, on, pt]
theorem h_flt {d : aI} {e : aJ} {T : Nat} {s : Int} {tp : Nat → Int} {L t : Nat} {pl : List Int} {a k : Nat} {O V : Int → Int} (h : MS d e T s tp L t pl a k true O V) (ho : btO (KT tp L t) pl = -1) (hp : ptO (KT tp L t) pl = -1) (on : 40 ≤ opN pl) : SMR d e = some ([some (.int (iI 1))], d, e) := by
  have oi := opN_in pl h.2.2.2.2.2.2.1.2
  exact run_x h.w1 (h_no h ho hp) h.on.1 (by omega)
/-- the next part of what is open -/
theorem h_pt {d : aI} {e : aJ} {T : Nat} {s : Int} {tp : Nat → Int} {L t : Nat} {pend base : List Int} {o p : Int} {a k : Nat} {O V : Int → Int} (h : MS d e T s tp L t (pend ++ o :: base) a (k + dcO pend) true O V) (ho : btO (KT tp L t) (pend ++ o :: base) = -1) (hpt : ptO (KT tp L t) (pend ++ o :: base) = p) (p0 : p = 43 ∨ p = 44) (o4 : 40 ≤ o ∧ o ≤ 44) (hp : ∀ o, o ∈ pend → 1 ≤ rkO o) (ha : a + pend.length ≤ 300) : ∃ d' e' O' V', SMR d e = SMR d' e' ∧ MS d' e' T s tp L (t + 1) (p :: base) (a + pend.length) k false O' V' ∧ KM T d d' e e' ∧ (∀ i : Int, i < a → O' i = O i ∧ V' i = V i) ∧ (∀ (m : Nat) (o : Int), pend[m]? = some o → O' (a + m) = o) := by
  have bt := m_between h
  rw [ho] at bt
  have pt := m_part h
  rw [hpt, opN_app pend (o :: base) hp] at pt
  have on := h.on.1
  rw [opN_app pend (o :: base) hp] at on
  have oe : opN (o :: base) = o := if_pos o4.1
  rw [oe] at on pt
  obtain ⟨d1, O1, V1, x1, x2, x3, x4, x5, x6⟩ := h.settle (lvl := 1) (by omega) (fun o2 r hr => by
    injection hr with h1 h2
    rw [← h1]
    unfold rkO
    rw [if_neg (by omega)]
    omega) hp ha
  obtain ⟨d2, e2, n1, n2, n3, n4, n5⟩ := x2.next
  have oa := n2.on.2
  have oae : opAt (o :: base) = (base.length : Int) := if_pos o4.1
  rw [oae] at oa
  have m3 := (n2.top (o2 := p) (by omega)).whole false
  have m3' : MS (uI (uI d2 113 base.length (iI p)) 108 18 (iI 0)) e2 T s tp L (t + 1) (p :: base) (a + pend.length) k false O1 V1 := m3
  have bl : base.length + 1 ≤ 100 := x2.2.2.2.2.2.1.2
  refine ⟨_, e2, O1, V1, ?_, m3', x3.trans (n3.trans ((KM.put (by omega)).trans (KM.put (by omega)))), x4, x5⟩
  have bh : FX11_behindOne d e = some (iI 0, uI (uI d2 113 base.length (iI p)) 108 18 (iI 0), e2) := by
    unfold FX11_behindOne
    generalize base.length = n at *
    simp (disch := omega) only [nI_iI, lN_lJ, iI_0, lJ_0, iI_add, iI_sub, iI_mul, iI_neg, lJ_add, lJ_sub, lJ_mul, lJ_neg, i_l, l_i, iI_cl, iI_inb, iI_eqT, iI_eqF, iI_ltT, iI_ltF, iI_leT, iI_leF, lJ_eqT, lJ_eqF, lJ_cG, lJ_cE, lJ_cL, lJ_cF, lJ_cGE, lJ_cLE, lJ_cNL, lJ_cNG, Int.cast_ofNat_Int, c_0, c_1, Int.natCast_add, Int.add_zero, cond_true, cond_false, Bool.and_self, Bool.and_true, Bool.true_and, Option.bind_some, decide_true, uI_hit, uI_miss, uI_o, uA_o, uA_s, ↓reduceIte, eq_self, true_or, or_true, or_false, false_or, true_and, and_true, false_and, and_false, or_self, and_self, not_false_eq_true, not_true_eq_false, tn_i, Int.toNat_natCast, bt, on, pt, x1, n1, oa]
  exact run_h h.w1 bh (by omega)
/-- what is open is shut -/
theorem h_shut {d : aI} {e : aJ} {T : Nat} {s : Int} {tp : Nat → Int} {L t : Nat} {pend base : List Int} {o : Int} {a k : Nat} {O V : Int → Int} (h : MS d e T s tp L t (pend ++ o :: base) a (k + 1 + dcO pend) true O V) (ho : btO (KT tp L t) (pend ++ o :: base) = -1) (hpt : ptO (KT tp L t) (pend ++ o :: base) = 0) (o4 : o = 40 ∨ o = 44) (hp : ∀ o, o ∈ pend → 1 ≤ rkO o) (ha : a + pend.length < 300) : ∃ d' e' O' V' b, MS d' e' T s tp L (t + 1) base b k true O' V' ∧ KM T d d' e e' ∧ (∀ i : Int, i < a → O' i = O i ∧ V' i = V i) ∧ (∀ (m : Nat) (o : Int), pend[m]? = some o → O' (a + m) = o) ∧ (o = 40 → b = a + pend.length) ∧ (o = 44 → b = a + pend.length + 1 ∧ O' (a + pend.length : Nat) = 3) ∧ (∀ f d2 e2, 0 ≤ f ∧ f ≤ 6 → FX11_endOne d' e' = some (iI f, d2, e2) → SMR d e = FNs f d2 e2) := by
  have bt := m_between h
  rw [ho] at bt
  have pt := m_part h
  rw [hpt, opN_app pend (o :: base) hp] at pt
  have on := h.on.1
  rw [opN_app pend (o :: base) hp] at on
  have oe : opN (o :: base) = o := if_pos (by omega)
  rw [oe] at on pt
  obtain ⟨d1, O1, V1, x1, x2, x3, x4, x5, x6⟩ := MS.settle (k := k + 1) (lvl := 1) (by omega) h (fun o2 r hr => by
    injection hr with h1 h2
    rw [← h1]
    unfold rkO
    rw [if_neg (by omega)]
    omega) hp (by omega)
  obtain ⟨d2, e2, n1, n2, n3, n4, n5⟩ := x2.next
  have c16 : d2 108 16 = iI ((base.length : Int) + 1) := n2.2.2.2.2.2.1.1
  have c17 : d2 108 17 = iI ((k : Int) + 1) := n2.2.2.2.2.2.2.2.1.1
  have k8 : k + 1 ≤ 8 := n2.2.2.2.2.2.2.2.1.2
  have bl : base.length + 1 ≤ 100 := x2.2.2.2.2.2.1.2
  have m3 : MS (uI (uI d2 108 17 (iI (k : Nat))) 108 16 (iI (base.length : Nat))) e2 T s tp L (t + 1) base (a + pend.length) k true O1 V1 := (n2.opens (k2 := k) (by omega)).drop
  have km : KM T d (uI (uI d2 108 17 (iI (k : Nat))) 108 16 (iI (base.length : Nat))) e e2 := x3.trans (n3.trans ((KM.put (by omega)).trans (KM.put (by omega))))
  rcases o4 with q | q
  · subst q
    refine ⟨_, e2, O1, V1, _, m3, km, x4, x5, fun _ => rfl, fun z => by omega, fun f d3 e3 hf he => ?_⟩
    have bh : FX11_behindOne d e = some (iI f, d3, e3) := by
      unfold FX11_behindOne
      generalize base.length = n at *
      simp (disch := omega) only [nI_iI, lN_lJ, iI_0, lJ_0, iI_add, iI_sub, iI_mul, iI_neg, lJ_add, lJ_sub, lJ_mul, lJ_neg, i_l, l_i, iI_cl, iI_inb, iI_eqT, iI_eqF, iI_ltT, iI_ltF, iI_leT, iI_leF, lJ_eqT, lJ_eqF, lJ_cG, lJ_cE, lJ_cL, lJ_cF, lJ_cGE, lJ_cLE, lJ_cNL, lJ_cNG, Int.cast_ofNat_Int, c_0, c_1, Int.natCast_add, Int.add_zero, cond_true, cond_false, Bool.and_self, Bool.and_true, Bool.true_and, Option.bind_some, decide_true, uI_hit, uI_miss, uI_o, uA_o, uA_s, ↓reduceIte, eq_self, true_or, or_true, or_false, false_or, true_and, and_true, false_and, and_false, or_self, and_self, not_false_eq_true, not_true_eq_false, tn_i, Int.toNat_natCast, bt, on, pt, x1, n1, c16, c17, Int.add_sub_cancel, he]
    exact run_h h.w1 bh hf
  · subst q
    obtain ⟨d4, y1, y2, y3, y4, y5⟩ := m3.emit (o := 3) (v := 0) ha
    refine ⟨d4, e2, _, _, _, y2, km.trans y3, fun i hi => ?_, fun m o hm => ?_, fun z => by omega, fun _ => ⟨rfl, if_pos rfl⟩, fun f d3 e3 hf he => ?_⟩
    · show (if i = ((a + pend.length : Nat) : Int) then 3 else O1 i) = O i ∧ (if i = ((a + pend.length : Nat) : Int) then 0 else V1 i) = V i
      rw [if_neg (by omega), if_neg (by omega)]
      exact x4 i hi
    · have ml : m < pend.length := (List.getElem?_eq_some_iff.mp hm).1
      show (if (a : Int) + m = ((a + pend.length : Nat) : Int) then 3 else O1 (a + m)) = o
      rw [if_neg (by omega)]
      exact x5 m o hm
    · have bh : FX11_behindOne d e = some (iI f, d3, e3) := by
        unfold FX11_behindOne
        generalize base.length = n at *
        simp (disch := omega) only [nI_iI, lN_lJ, iI_0, lJ_0, iI_add, iI_sub, iI_mul, iI_neg, lJ_add, lJ_sub, lJ_mul, lJ_neg, i_l, l_i, iI_cl, iI_inb, iI_eqT, iI_eqF, iI_ltT, iI_ltF, iI_leT, iI_leF, lJ_eqT, lJ_eqF, lJ_cG, lJ_cE, lJ_cL, lJ_cF, lJ_cGE, lJ_cLE, lJ_cNL, lJ_cNG, Int.cast_ofNat_Int, c_0, c_1, Int.natCast_add, Int.add_zero, cond_true, cond_false, Bool.and_self, Bool.and_true, Bool.true_and, Option.bind_some, decide_true, uI_hit, uI_miss, uI_o, uA_o, uA_s, ↓reduceIte, eq_self, true_or, or_true, or_false, false_or, true_and, and_true, false_and, and_false, or_self, and_self, not_false_eq_true, not_true_eq_false, tn_i, Int.toNat_natCast, bt, on, pt, x1, n1, c16, c17, Int.add_sub_cancel, y1, he]
      exact run_h h.w1 bh hf
