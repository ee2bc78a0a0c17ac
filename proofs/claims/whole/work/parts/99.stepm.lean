/-! ===== the reference reads: where one begins, what stands behind it ===== -/
theorem bind_eta {o : Option (Int32 × aI × aJ)} {f : Int32} {d : aI} {e : aJ} (h : o = some (f, d, e)) : (o.bind fun q => some (q.1, q.2.1, q.2.2)) = some (f, d, e) := by rw [h]; rfl
theorem b_num {d : aI} {e : aJ} {T : Nat} {s : Int} {tp : Nat → Int} {L t : Nat} {pl : List Int} {a k : Nat} {w : Bool} {O V : Int → Int} (h : MS d e T s tp L t pl a k w O V) (q : KT tp L t = 1) : (VT tp L t ≤ 9999 → ∀ d1 d2 e2 f d3 e3, FX11_emit d e (iI 0) (iI (VT tp L t)) = some ((), d1, e) → FX11_nextToken d1 e = some ((), d2, e2) → FX11_endOne d2 e2 = some (iI f, d3, e3) → FX11_beginOne d e = some (iI f, d3, e3)) ∧ (¬VT tp L t ≤ 9999 → FX11_beginOne d e = some (iI 2, d, e)) := by
  have h5 := h.1.2.2.2
  have rk := rk_kt h5 (L := L) (t := t)
  have r1 : RKT tp L t = 1 := rk.2.1.mp q
  have h9 := h.2.1.2.2.1
  rw [r1] at h9
  have h10 := h.2.1.2.2.2.1 r1
  have kr := KT_in h5 (L := L) t
  have rn := rnE_in (p := fgT) (tp := tp) (L := L) (i := psT tp L t) (psT_le t)
  have nv := nv_vl (tp := tp) (i := psT tp L t) (rnE fgT tp L (psT tp L t) - psT tp L t) (fun j hj => rn.2.2.1 _ (by omega) (by omega))
  have nm := m_name h.2.1 h5
  rw [q] at nm
  have nm' : FX11_nameOf d e = some (iI (-1), d, e) := nm
  unfold VT
  generalize nvT tp (psT tp L t) (rnE fgT tp L (psT tp L t) - psT tp L t) = x at *
  generalize vlT tp (psT tp L t) (rnE fgT tp L (psT tp L t) - psT tp L t) = y at *
  constructor
  · intro v d1 d2 e2 f d3 e3 x1 x2 x3
    have xy : y = x := by omega
    rw [xy] at x1
    unfold FX11_beginOne
    simp (config := {maxSteps := 4000000}) (disch := omega) only [nI_iI, lN_lJ, iI_0, lJ_0, iI_add, iI_sub, iI_mul, iI_neg, lJ_add, lJ_sub, lJ_mul, lJ_neg, i_l, l_i, iI_cl, iI_inb, iI_eqT, iI_eqF, iI_ltT, iI_ltF, iI_leT, iI_leF, lJ_eqT, lJ_eqF, lJ_cG, lJ_cE, lJ_cL, lJ_cF, lJ_cGE, lJ_cLE, lJ_cNL, lJ_cNG, Int.cast_ofNat_Int, c_0, c_1, Int.natCast_add, Int.add_zero, cond_true, cond_false, Bool.and_self, Bool.and_true, Bool.true_and, Option.bind_some, decide_true, uI_hit, uI_miss, uI_o, uA_o, uA_s, ↓reduceIte, eq_self, true_or, or_true, or_false, false_or, true_and, and_true, false_and, and_false, or_self, and_self, not_false_eq_true, not_true_eq_false, tn_i, h9, h10, nm', x1, x2, x3]
  · intro v
    unfold FX11_beginOne
    simp (config := {maxSteps := 4000000}) (disch := omega) only [nI_iI, lN_lJ, iI_0, lJ_0, iI_add, iI_sub, iI_mul, iI_neg, lJ_add, lJ_sub, lJ_mul, lJ_neg, i_l, l_i, iI_cl, iI_inb, iI_eqT, iI_eqF, iI_ltT, iI_ltF, iI_leT, iI_leF, lJ_eqT, lJ_eqF, lJ_cG, lJ_cE, lJ_cL, lJ_cF, lJ_cGE, lJ_cLE, lJ_cNL, lJ_cNG, Int.cast_ofNat_Int, c_0, c_1, Int.natCast_add, Int.add_zero, cond_true, cond_false, Bool.and_self, Bool.and_true, Bool.true_and, Option.bind_some, decide_true, uI_hit, uI_miss, uI_o, uA_o, uA_s, ↓reduceIte, eq_self, true_or, or_true, or_false, false_or, true_and, and_true, false_and, and_false, or_self, and_self, not_false_eq_true, not_true_eq_false, tn_i, h9, h10]
theorem b_name {d : aI} {e : aJ} {T : Nat} {s : Int} {tp : Nat → Int} {L t : Nat} {pl : List Int} {a k : Nat} {w : Bool} {O V : Int → Int} (h : MS d e T s tp L t pl a k w O V) (q : nmI (KT tp L t) < 8) : (nmP s (nmI (KT tp L t)) → ∀ d1 d2 e2 f d3 e3, FX11_emit d e (iI 1) (iI (nmI (KT tp L t) : Nat)) = some ((), d1, e) → FX11_nextToken d1 e = some ((), d2, e2) → FX11_endOne d2 e2 = some (iI f, d3, e3) → FX11_beginOne d e = some (iI f, d3, e3)) ∧ (¬nmP s (nmI (KT tp L t)) → FX11_beginOne d e = some (iI 5, d, e)) := by
  have h5 := h.1.2.2.2
  have rk := rk_kt h5 (L := L) (t := t)
  have nc := nm_cases q
  have r2 : RKT tp L t = 2 := rk.2.2.2.2.2.1 (by omega)
  have h9 := h.2.1.2.2.1
  rw [r2] at h9
  have nm := m_name h.2.1 h5
  rw [if_pos q] at nm
  have io := m_isOf (d := d) (e := e) (k := nmI (KT tp L t)) h.2.2.2.2.1.1 h.2.2.2.2.1.2 q
  generalize nmI (KT tp L t) = n at *
  constructor
  · intro v d1 d2 e2 f d3 e3 x1 x2 x3
    rw [if_pos v] at io
    unfold FX11_beginOne
    simp (config := {maxSteps := 4000000}) (disch := omega) only [nI_iI, lN_lJ, iI_0, lJ_0, iI_add, iI_sub, iI_mul, iI_neg, lJ_add, lJ_sub, lJ_mul, lJ_neg, i_l, l_i, iI_cl, iI_inb, iI_eqT, iI_eqF, iI_ltT, iI_ltF, iI_leT, iI_leF, lJ_eqT, lJ_eqF, lJ_cG, lJ_cE, lJ_cL, lJ_cF, lJ_cGE, lJ_cLE, lJ_cNL, lJ_cNG, Int.cast_ofNat_Int, c_0, c_1, Int.natCast_add, Int.add_zero, cond_true, cond_false, Bool.and_self, Bool.and_true, Bool.true_and, Option.bind_some, decide_true, uI_hit, uI_miss, uI_o, uA_o, uA_s, ↓reduceIte, eq_self, true_or, or_true, or_false, false_or, true_and, and_true, false_and, and_false, or_self, and_self, not_false_eq_true, not_true_eq_false, tn_i, h9, nm, io, x1, x2, x3]
  · intro v
    rw [if_neg v] at io
    unfold FX11_beginOne
    simp (config := {maxSteps := 4000000}) (disch := omega) only [nI_iI, lN_lJ, iI_0, lJ_0, iI_add, iI_sub, iI_mul, iI_neg, lJ_add, lJ_sub, lJ_mul, lJ_neg, i_l, l_i, iI_cl, iI_inb, iI_eqT, iI_eqF, iI_ltT, iI_ltF, iI_leT, iI_leF, lJ_eqT, lJ_eqF, lJ_cG, lJ_cE, lJ_cL, lJ_cF, lJ_cGE, lJ_cLE, lJ_cNL, lJ_cNG, Int.cast_ofNat_Int, c_0, c_1, Int.natCast_add, Int.add_zero, cond_true, cond_false, Bool.and_self, Bool.and_true, Bool.true_and, Option.bind_some, decide_true, uI_hit, uI_miss, uI_o, uA_o, uA_s, ↓reduceIte, eq_self, true_or, or_true, or_false, false_or, true_and, and_true, false_and, and_false, or_self, and_self, not_false_eq_true, not_true_eq_false, tn_i, h9, nm, io]
def opnO (c : Int) : Int := if c = 40 then 40 else if c = 45 then 5 else if c = 312 then 41 else if c = 313 then 2 else 42
theorem b_open {d : aI} {e : aJ} {T : Nat} {s : Int} {tp : Nat → Int} {L t : Nat} {pl : List Int} {a k : Nat} {w : Bool} {O V : Int → Int} (h : MS d e T s tp L t pl a k w O V) (q : opnT (KT tp L t)) {f : Int} {d3 : aI} {e3 : aJ} (x : FX11_opened d e (iI (opnO (KT tp L t))) = some (iI f, d3, e3)) : FX11_beginOne d e = some (iI f, d3, e3) := by
  have h5 := h.1.2.2.2
  have rk := rk_kt h5 (L := L) (t := t)
  have h9 := h.2.1.2.2.1
  have nm := m_name h.2.1 h5
  have i12 := m_isw (w := 12) h.2.1 h5 (by omega)
  have i13 := m_isw (w := 13) h.2.1 h5 (by omega)
  have i14 := m_isw (w := 14) h.2.1 h5 (by omega)
  have m12 := mw_12 (d := d) (e := e)
  have m13 := mw_13 (d := d) (e := e)
  have m14 := mw_14 (d := d) (e := e)
  rcases q with q | q | q | q | q
  · rw [(rk.2.2.2.2.1 40 (by omega)).mp q] at h9
    rw [q] at nm x
    have nm' : FX11_nameOf d e = some (iI (-1), d, e) := nm
    have x' : FX11_opened d e (iI 40) = some (iI f, d3, e3) := x
    unfold FX11_beginOne
    simp (config := {maxSteps := 4000000}) (disch := omega) only [nI_iI, lN_lJ, iI_0, lJ_0, iI_add, iI_sub, iI_mul, iI_neg, lJ_add, lJ_sub, lJ_mul, lJ_neg, i_l, l_i, iI_cl, iI_inb, iI_eqT, iI_eqF, iI_ltT, iI_ltF, iI_leT, iI_leF, lJ_eqT, lJ_eqF, lJ_cG, lJ_cE, lJ_cL, lJ_cF, lJ_cGE, lJ_cLE, lJ_cNL, lJ_cNG, Int.cast_ofNat_Int, c_0, c_1, Int.natCast_add, Int.add_zero, cond_true, cond_false, Bool.and_self, Bool.and_true, Bool.true_and, Option.bind_some, decide_true, uI_hit, uI_miss, uI_o, uA_o, uA_s, ↓reduceIte, eq_self, true_or, or_true, or_false, false_or, true_and, and_true, false_and, and_false, or_self, and_self, not_false_eq_true, not_true_eq_false, tn_i, h9, nm', x']
  · rw [(rk.2.2.2.2.1 45 (by omega)).mp q] at h9
    rw [q] at nm x
    have nm' : FX11_nameOf d e = some (iI (-1), d, e) := nm
    have x' : FX11_opened d e (iI 5) = some (iI f, d3, e3) := x
    unfold FX11_beginOne
    simp (config := {maxSteps := 4000000}) (disch := omega) only [nI_iI, lN_lJ, iI_0, lJ_0, iI_add, iI_sub, iI_mul, iI_neg, lJ_add, lJ_sub, lJ_mul, lJ_neg, i_l, l_i, iI_cl, iI_inb, iI_eqT, iI_eqF, iI_ltT, iI_ltF, iI_leT, iI_leF, lJ_eqT, lJ_eqF, lJ_cG, lJ_cE, lJ_cL, lJ_cF, lJ_cGE, lJ_cLE, lJ_cNL, lJ_cNG, Int.cast_ofNat_Int, c_0, c_1, Int.natCast_add, Int.add_zero, cond_true, cond_false, Bool.and_self, Bool.and_true, Bool.true_and, Option.bind_some, decide_true, uI_hit, uI_miss, uI_o, uA_o, uA_s, ↓reduceIte, eq_self, true_or, or_true, or_false, false_or, true_and, and_true, false_and, and_false, or_self, and_self, not_false_eq_true, not_true_eq_false, tn_i, h9, nm', x']
  · rw [rk.2.2.2.2.2.1 (by omega)] at h9
    rw [q] at nm x i12
    have nm' : FX11_nameOf d e = some (iI (-1), d, e) := nm
    have i12' : FX11_isWord d e (lJ (wzT 12 : Nat)) = some (iI 1, d, e) := i12
    have x' : FX11_opened d e (iI 41) = some (iI f, d3, e3) := x
    unfold FX11_beginOne
    simp (config := {maxSteps := 4000000}) (disch := omega) only [nI_iI, lN_lJ, iI_0, lJ_0, iI_add, iI_sub, iI_mul, iI_neg, lJ_add, lJ_sub, lJ_mul, lJ_neg, i_l, l_i, iI_cl, iI_inb, iI_eqT, iI_eqF, iI_ltT, iI_ltF, iI_leT, iI_leF, lJ_eqT, lJ_eqF, lJ_cG, lJ_cE, lJ_cL, lJ_cF, lJ_cGE, lJ_cLE, lJ_cNL, lJ_cNG, Int.cast_ofNat_Int, c_0, c_1, Int.natCast_add, Int.add_zero, cond_true, cond_false, Bool.and_self, Bool.and_true, Bool.true_and, Option.bind_some, decide_true, uI_hit, uI_miss, uI_o, uA_o, uA_s, ↓reduceIte, eq_self, true_or, or_true, or_false, false_or, true_and, and_true, false_and, and_false, or_self, and_self, not_false_eq_true, not_true_eq_false, tn_i, h9, nm', m12, i12', x']
  · rw [rk.2.2.2.2.2.1 (by omega)] at h9
    rw [q] at nm x i12 i13
    have nm' : FX11_nameOf d e = some (iI (-1), d, e) := nm
    have i12' : FX11_isWord d e (lJ (wzT 12 : Nat)) = some (iI 0, d, e) := i12
    have i13' : FX11_isWord d e (lJ (wzT 13 : Nat)) = some (iI 1, d, e) := i13
    have x' : FX11_opened d e (iI 2) = some (iI f, d3, e3) := x
    unfold FX11_beginOne
    simp (config := {maxSteps := 4000000}) (disch := omega) only [nI_iI, lN_lJ, iI_0, lJ_0, iI_add, iI_sub, iI_mul, iI_neg, lJ_add, lJ_sub, lJ_mul, lJ_neg, i_l, l_i, iI_cl, iI_inb, iI_eqT, iI_eqF, iI_ltT, iI_ltF, iI_leT, iI_leF, lJ_eqT, lJ_eqF, lJ_cG, lJ_cE, lJ_cL, lJ_cF, lJ_cGE, lJ_cLE, lJ_cNL, lJ_cNG, Int.cast_ofNat_Int, c_0, c_1, Int.natCast_add, Int.add_zero, cond_true, cond_false, Bool.and_self, Bool.and_true, Bool.true_and, Option.bind_some, decide_true, uI_hit, uI_miss, uI_o, uA_o, uA_s, ↓reduceIte, eq_self, true_or, or_true, or_false, false_or, true_and, and_true, false_and, and_false, or_self, and_self, not_false_eq_true, not_true_eq_false, tn_i, h9, nm', m12, i12', m13, i13', x']
  · rw [rk.2.2.2.2.2.1 (by omega)] at h9
    rw [q] at nm x i12 i13 i14
    have nm' : FX11_nameOf d e = some (iI (-1), d, e) := nm
    have i12' : FX11_isWord d e (lJ (wzT 12 : Nat)) = some (iI 0, d, e) := i12
    have i13' : FX11_isWord d e (lJ (wzT 13 : Nat)) = some (iI 0, d, e) := i13
    have i14' : FX11_isWord d e (lJ (wzT 14 : Nat)) = some (iI 1, d, e) := i14
    have x' : FX11_opened d e (iI 42) = some (iI f, d3, e3) := x
    unfold FX11_beginOne
    simp (config := {maxSteps := 4000000}) (disch := omega) only [nI_iI, lN_lJ, iI_0, lJ_0, iI_add, iI_sub, iI_mul, iI_neg, lJ_add, lJ_sub, lJ_mul, lJ_neg, i_l, l_i, iI_cl, iI_inb, iI_eqT, iI_eqF, iI_ltT, iI_ltF, iI_leT, iI_leF, lJ_eqT, lJ_eqF, lJ_cG, lJ_cE, lJ_cL, lJ_cF, lJ_cGE, lJ_cLE, lJ_cNL, lJ_cNG, Int.cast_ofNat_Int, c_0, c_1, Int.natCast_add, Int.add_zero, cond_true, cond_false, Bool.and_self, Bool.and_true, Bool.true_and, Option.bind_some, decide_true, uI_hit, uI_miss, uI_o, uA_o, uA_s, ↓reduceIte, eq_self, true_or, or_true, or_false, false_or, true_and, and_true, false_and, and_false, or_self, and_self, not_false_eq_true, not_true_eq_false, tn_i, h9, nm', m12, i12', m13, i13', m14, i14', x']
/-- whether something may be asked from here on -/
def akD : List Int → Bool
  | [] => false
  | o :: r => decide (opN (o :: r) = 42) && (decide (40 ≤ o) || decide (1 ≤ rkO o ∧ rkO o ≤ 3))
theorem m_akD {d : aI} {e : aJ} {pl : List Int} (h6 : d 108 16 = iI (pl.length : Nat)) (hl : pl.length ≤ 100) (h7 : PLs d pl) (hr : ∀ o, o ∈ pl → 0 ≤ o ∧ o ≤ 44) : FX11_isAskAhead d e = some (iI (tv (akD pl)), d, e) := by
  have on := (m_openNow (e := e) h6 hl h7 hr).1
  have oi := opN_in pl hr
  unfold FX11_isAskAhead
  cases pl with
  | nil =>
    have on' : FX11_openNow d e = some (iI (-1), d, e) := on
    show _ = some (iI 0, d, e)
    simp (disch := omega) only [nI_iI, lN_lJ, iI_0, lJ_0, iI_add, iI_sub, iI_mul, iI_neg, lJ_add, lJ_sub, lJ_mul, lJ_neg, i_l, l_i, iI_cl, iI_inb, iI_eqT, iI_eqF, iI_ltT, iI_ltF, iI_leT, iI_leF, lJ_eqT, lJ_eqF, lJ_cG, lJ_cE, lJ_cL, lJ_cF, lJ_cGE, lJ_cLE, lJ_cNL, lJ_cNG, Int.cast_ofNat_Int, c_0, c_1, Int.natCast_add, Int.add_zero, cond_true, cond_false, Bool.and_self, Bool.and_true, Bool.true_and, Option.bind_some, decide_true, uI_hit, uI_miss, uI_o, uA_o, uA_s, ↓reduceIte, eq_self, true_or, or_true, or_false, false_or, true_and, and_true, false_and, and_false, or_self, and_self, not_false_eq_true, not_true_eq_false, tn_i, on']
  | cons o r =>
    have or := hr o List.mem_cons_self
    have rk := m_rank (d := d) (e := e) or
    have ri := rkO_in o
    have p1 := h7.1
    have h6' : d 108 16 = iI ((r.length : Int) + 1) := h6
    have l2 : r.length + 1 ≤ 100 := hl
    show _ = some (iI (tv (decide (opN (o :: r) = 42) && (decide (40 ≤ o) || decide (1 ≤ rkO o ∧ rkO o ≤ 3)))), d, e)
    generalize opN (o :: r) = q at *
    generalize r.length = n at *
    by_cases q2 : q = 42
    · rw [decide_eq_true q2, Bool.true_and]
      rw [q2] at on
      by_cases o4 : 40 ≤ o
      · rw [decide_eq_true o4, Bool.true_or]
        show _ = some (iI 1, d, e)
        simp (disch := omega) only [nI_iI, lN_lJ, iI_0, lJ_0, iI_add, iI_sub, iI_mul, iI_neg, lJ_add, lJ_sub, lJ_mul, lJ_neg, i_l, l_i, iI_cl, iI_inb, iI_eqT, iI_eqF, iI_ltT, iI_ltF, iI_leT, iI_leF, lJ_eqT, lJ_eqF, lJ_cG, lJ_cE, lJ_cL, lJ_cF, lJ_cGE, lJ_cLE, lJ_cNL, lJ_cNG, Int.cast_ofNat_Int, c_0, c_1, Int.natCast_add, Int.add_zero, cond_true, cond_false, Bool.and_self, Bool.and_true, Bool.true_and, Option.bind_some, decide_true, uI_hit, uI_miss, uI_o, uA_o, uA_s, ↓reduceIte, eq_self, true_or, or_true, or_false, false_or, true_and, and_true, false_and, and_false, or_self, and_self, not_false_eq_true, not_true_eq_false, tn_i, Int.toNat_natCast, on, h6', Int.add_sub_cancel, p1]
      · rw [decide_eq_false o4, Bool.false_or]
        generalize rkO o = x at *
        by_cases k : 1 ≤ x ∧ x ≤ 3
        · rw [decide_eq_true k]
          show _ = some (iI 1, d, e)
          simp (disch := omega) only [nI_iI, lN_lJ, iI_0, lJ_0, iI_add, iI_sub, iI_mul, iI_neg, lJ_add, lJ_sub, lJ_mul, lJ_neg, i_l, l_i, iI_cl, iI_inb, iI_eqT, iI_eqF, iI_ltT, iI_ltF, iI_leT, iI_leF, lJ_eqT, lJ_eqF, lJ_cG, lJ_cE, lJ_cL, lJ_cF, lJ_cGE, lJ_cLE, lJ_cNL, lJ_cNG, Int.cast_ofNat_Int, c_0, c_1, Int.natCast_add, Int.add_zero, cond_true, cond_false, Bool.and_self, Bool.and_true, Bool.true_and, Option.bind_some, decide_true, uI_hit, uI_miss, uI_o, uA_o, uA_s, ↓reduceIte, eq_self, true_or, or_true, or_false, false_or, true_and, and_true, false_and, and_false, or_self, and_self, not_false_eq_true, not_true_eq_false, tn_i, Int.toNat_natCast, on, h6', Int.add_sub_cancel, p1, rk, mq_in_y]
        · rw [decide_eq_false k]
          show _ = some (iI 0, d, e)
          simp (disch := omega) only [nI_iI, lN_lJ, iI_0, lJ_0, iI_add, iI_sub, iI_mul, iI_neg, lJ_add, lJ_sub, lJ_mul, lJ_neg, i_l, l_i, iI_cl, iI_inb, iI_eqT, iI_eqF, iI_ltT, iI_ltF, iI_leT, iI_leF, lJ_eqT, lJ_eqF, lJ_cG, lJ_cE, lJ_cL, lJ_cF, lJ_cGE, lJ_cLE, lJ_cNL, lJ_cNG, Int.cast_ofNat_Int, c_0, c_1, Int.natCast_add, Int.add_zero, cond_true, cond_false, Bool.and_self, Bool.and_true, Bool.true_and, Option.bind_some, decide_true, uI_hit, uI_miss, uI_o, uA_o, uA_s, ↓reduceIte, eq_self, true_or, or_true, or_false, false_or, true_and, and_true, false_and, and_false, or_self, and_self, not_false_eq_true, not_true_eq_false, tn_i, Int.toNat_natCast, on, h6', Int.add_sub_cancel, p1, rk, mq_in_n]
    · rw [decide_eq_false q2, Bool.false_and]
      show _ = some (iI 0, d, e)
      simp (disch := omega) only [nI_iI, lN_lJ, iI_0, lJ_0, iI_add, iI_sub, iI_mul, iI_neg, lJ_add, lJ_sub, lJ_mul, lJ_neg, i_l, l_i, iI_cl, iI_inb, iI_eqT, iI_eqF, iI_ltT, iI_ltF, iI_leT, iI_leF, lJ_eqT, lJ_eqF, lJ_cG, lJ_cE, lJ_cL, lJ_cF, lJ_cGE, lJ_cLE, lJ_cNL, lJ_cNG, Int.cast_ofNat_Int, c_0, c_1, Int.natCast_add, Int.add_zero, cond_true, cond_false, Bool.and_self, Bool.and_true, Bool.true_and, Option.bind_some, decide_true, uI_hit, uI_miss, uI_o, uA_o, uA_s, ↓reduceIte, eq_self, true_or, or_true, or_false, false_or, true_and, and_true, false_and, and_false, or_self, and_self, not_false_eq_true, not_true_eq_false, tn_i, on]
theorem b_not {d : aI} {e : aJ} {T : Nat} {s : Int} {tp : Nat → Int} {L t : Nat} {pl : List Int} {a k : Nat} {w : Bool} {O V : Int → Int} (h : MS d e T s tp L t pl a k w O V) (q : KT tp L t = 320) : (akD pl = true → ∀ f d3 e3, FX11_opened d e (iI 20) = some (iI f, d3, e3) → FX11_beginOne d e = some (iI f, d3, e3)) ∧ (akD pl = false → FX11_beginOne d e = some (iI 1, d, e)) := by
  have h5 := h.1.2.2.2
  have rk := rk_kt h5 (L := L) (t := t)
  have h9 := h.2.1.2.2.1
  rw [rk.2.2.2.2.2.1 (by omega)] at h9
  have nm := m_name h.2.1 h5
  rw [q] at nm
  have nm' : FX11_nameOf d e = some (iI (-1), d, e) := nm
  have i12 := m_isw (w := 12) h.2.1 h5 (by omega)
  have i13 := m_isw (w := 13) h.2.1 h5 (by omega)
  have i14 := m_isw (w := 14) h.2.1 h5 (by omega)
  have i20 := m_isw (w := 20) h.2.1 h5 (by omega)
  rw [q] at i12 i13 i14 i20
  have i12' : FX11_isWord d e (lJ (wzT 12 : Nat)) = some (iI 0, d, e) := i12
  have i13' : FX11_isWord d e (lJ (wzT 13 : Nat)) = some (iI 0, d, e) := i13
  have i14' : FX11_isWord d e (lJ (wzT 14 : Nat)) = some (iI 0, d, e) := i14
  have i20' : FX11_isWord d e (lJ (wzT 20 : Nat)) = some (iI 1, d, e) := i20
  have m12 := mw_12 (d := d) (e := e)
  have m13 := mw_13 (d := d) (e := e)
  have m14 := mw_14 (d := d) (e := e)
  have m20 := mw_20 (d := d) (e := e)
  have ak := m_akD (e := e) h.2.2.2.2.2.1.1 h.2.2.2.2.2.1.2 h.2.2.2.2.2.2.1.1 h.2.2.2.2.2.2.1.2
  constructor
  · intro z f d3 e3 x
    rw [z] at ak
    have ak' : FX11_isAskAhead d e = some (iI 1, d, e) := ak
    unfold FX11_beginOne
    simp (config := {maxSteps := 4000000}) (disch := omega) only [nI_iI, lN_lJ, iI_0, lJ_0, iI_add, iI_sub, iI_mul, iI_neg, lJ_add, lJ_sub, lJ_mul, lJ_neg, i_l, l_i, iI_cl, iI_inb, iI_eqT, iI_eqF, iI_ltT, iI_ltF, iI_leT, iI_leF, lJ_eqT, lJ_eqF, lJ_cG, lJ_cE, lJ_cL, lJ_cF, lJ_cGE, lJ_cLE, lJ_cNL, lJ_cNG, Int.cast_ofNat_Int, c_0, c_1, Int.natCast_add, Int.add_zero, cond_true, cond_false, Bool.and_self, Bool.and_true, Bool.true_and, Option.bind_some, decide_true, uI_hit, uI_miss, uI_o, uA_o, uA_s, ↓reduceIte, eq_self, true_or, or_true, or_false, false_or, true_and, and_true, false_and, and_false, or_self, and_self, not_false_eq_true, not_true_eq_false, tn_i, h9, nm', m12, i12', m13, i13', m14, i14', m20, i20', ak', x]
  · intro z
    rw [z] at ak
    have ak' : FX11_isAskAhead d e = some (iI 0, d, e) := ak
    unfold FX11_beginOne
    simp (config := {maxSteps := 4000000}) (disch := omega) only [nI_iI, lN_lJ, iI_0, lJ_0, iI_add, iI_sub, iI_mul, iI_neg, lJ_add, lJ_sub, lJ_mul, lJ_neg, i_l, l_i, iI_cl, iI_inb, iI_eqT, iI_eqF, iI_ltT, iI_ltF, iI_leT, iI_leF, lJ_eqT, lJ_eqF, lJ_cG, lJ_cE, lJ_cL, lJ_cF, lJ_cGE, lJ_cLE, lJ_cNL, lJ_cNG, Int.cast_ofNat_Int, c_0, c_1, Int.natCast_add, Int.add_zero, cond_true, cond_false, Bool.and_self, Bool.and_true, Bool.true_and, Option.bind_some, decide_true, uI_hit, uI_miss, uI_o, uA_o, uA_s, ↓reduceIte, eq_self, true_or, or_true, or_false, false_or, true_and, and_true, false_and, and_false, or_self, and_self, not_false_eq_true, not_true_eq_false, tn_i, h9, nm', m12, i12', m13, i13', m14, i14', m20, i20', ak']
theorem b_none {d : aI} {e : aJ} {T : Nat} {s : Int} {tp : Nat → Int} {L t : Nat} {pl : List Int} {a k : Nat} {w : Bool} {O V : Int → Int} (h : MS d e T s tp L t pl a k w O V) (q1 : KT tp L t ≠ 1) (q2 : ¬opnT (KT tp L t)) (q3 : ¬nmI (KT tp L t) < 8) (q4 : KT tp L t = 320 → akD pl = false) : FX11_beginOne d e = some (iI 1, d, e) := by
  by_cases q5 : KT tp L t = 320
  · exact (b_not h q5).2 (q4 q5)
  · have h5 := h.1.2.2.2
    have rk := rk_kt h5 (L := L) (t := t)
    have kr := KT_in h5 (L := L) t
    have h9 := h.2.1.2.2.1
    have nm := m_name h.2.1 h5
    rw [if_neg q3] at nm
    have i12 := m_isw (w := 12) h.2.1 h5 (by omega)
    have i13 := m_isw (w := 13) h.2.1 h5 (by omega)
    have i14 := m_isw (w := 14) h.2.1 h5 (by omega)
    have i20 := m_isw (w := 20) h.2.1 h5 (by omega)
    rw [if_neg (fun z : KT tp L t = 300 + ((12 : Nat) : Int) => q2 (by omega))] at i12
    rw [if_neg (fun z : KT tp L t = 300 + ((13 : Nat) : Int) => q2 (by omega))] at i13
    rw [if_neg (fun z : KT tp L t = 300 + ((14 : Nat) : Int) => q2 (by omega))] at i14
    rw [if_neg (fun z : KT tp L t = 300 + ((20 : Nat) : Int) => q5 (by omega))] at i20
    have m12 := mw_12 (d := d) (e := e)
    have m13 := mw_13 (d := d) (e := e)
    have m14 := mw_14 (d := d) (e := e)
    have m20 := mw_20 (d := d) (e := e)
    have r1 : RKT tp L t ≠ 1 := fun z => q1 (rk.2.1.mpr z)
    have r40 : RKT tp L t ≠ 40 := fun z => q2 (by have := (rk.2.2.2.2.1 40 (by omega)).mpr z; omega)
    have r45 : RKT tp L t ≠ 45 := fun z => q2 (by have := (rk.2.2.2.2.1 45 (by omega)).mpr z; omega)
    have rr := rk.2.2.2.2.2.2
    clear rk q2 q3
    generalize RKT tp L t = r at *
    unfold FX11_beginOne
    simp (config := {maxSteps := 4000000}) (disch := omega) only [nI_iI, lN_lJ, iI_0, lJ_0, iI_add, iI_sub, iI_mul, iI_neg, lJ_add, lJ_sub, lJ_mul, lJ_neg, i_l, l_i, iI_cl, iI_inb, iI_eqT, iI_eqF, iI_ltT, iI_ltF, iI_leT, iI_leF, lJ_eqT, lJ_eqF, lJ_cG, lJ_cE, lJ_cL, lJ_cF, lJ_cGE, lJ_cLE, lJ_cNL, lJ_cNG, Int.cast_ofNat_Int, c_0, c_1, Int.natCast_add, Int.add_zero, cond_true, cond_false, Bool.and_self, Bool.and_true, Bool.true_and, Option.bind_some, decide_true, uI_hit, uI_miss, uI_o, uA_o, uA_s, ↓reduceIte, eq_self, true_or, or_true, or_false, false_or, true_and, and_true, false_and, and_false, or_self, and_self, not_false_eq_true, not_true_eq_false, tn_i, h9, nm, m12, i12, m13, i13, m14, i14, m20, i20]
-- behind one
def cmO (c : Int) : Int := if c = 60 then 10 else if c = 3 then 11 else if c = 62 then 12 else if c = 4 then 13 else if c = 61 then 14 else if c = 35 then 15 else -1
def btO (c : Int) (pl : List Int) : Int := if c = 43 then 6 else if c = 45 then 7 else if c = 42 then 8 else if c = 47 then 9 else if opN pl = 42 then (if cmD pl = true then (if c = 319 then 21 else if c = 318 then 22 else -1) else cmO c) else -1
def ptO (c : Int) (pl : List Int) : Int := if opN pl = 40 then (if c = 41 then 0 else -1) else if opN pl = 42 then (if c = 315 ∧ cmD pl = true then 43 else -1) else if opN pl = 43 then (if c = 316 then 44 else -1) else if opN pl = 44 then (if c = 317 then 0 else -1) else -1
theorem m_cmpOf {d : aI} {e : aJ} {tp : Nat → Int} {L t : Nat} (h : RT d e tp L t) (h5 : ∀ j, 0 ≤ tp j ∧ tp j ≤ 255) : FX11_compareOf d e = some (iI (cmO (KT tp L t)), d, e) := by
  have h9 := h.2.2.1
  have rk := rk_kt h5 (L := L) (t := t)
  have g := fun c hc => (rk.2.2.2.2.1 c hc)
  have g60 := g 60 (by omega)
  have g62 := g 62 (by omega)
  have g61 := g 61 (by omega)
  have g35 := g 35 (by omega)
  have g3 := rk.2.2.1
  have g4 := rk.2.2.2.1
  have rr := rk.2.2.2.2.2.2
  clear rk g
  unfold FX11_compareOf cmO
  generalize KT tp L t = c at *
  generalize RKT tp L t = r at *
  by_cases q1 : c = 60
  · rw [if_pos q1]; simp (disch := omega) only [nI_iI, lN_lJ, iI_0, lJ_0, iI_add, iI_sub, iI_mul, iI_neg, lJ_add, lJ_sub, lJ_mul, lJ_neg, i_l, l_i, iI_cl, iI_inb, iI_eqT, iI_eqF, iI_ltT, iI_ltF, iI_leT, iI_leF, lJ_eqT, lJ_eqF, lJ_cG, lJ_cE, lJ_cL, lJ_cF, lJ_cGE, lJ_cLE, lJ_cNL, lJ_cNG, Int.cast_ofNat_Int, c_0, c_1, Int.natCast_add, Int.add_zero, cond_true, cond_false, Bool.and_self, Bool.and_true, Bool.true_and, Option.bind_some, decide_true, uI_hit, uI_miss, uI_o, uA_o, uA_s, ↓reduceIte, eq_self, true_or, or_true, or_false, false_or, true_and, and_true, false_and, and_false, or_self, and_self, not_false_eq_true, not_true_eq_false, tn_i, h9]
  · rw [if_neg q1]
    by_cases q2 : c = 3
    · rw [if_pos q2]; simp (disch := omega) only [nI_iI, lN_lJ, iI_0, lJ_0, iI_add, iI_sub, iI_mul, iI_neg, lJ_add, lJ_sub, lJ_mul, lJ_neg, i_l, l_i, iI_cl, iI_inb, iI_eqT, iI_eqF, iI_ltT, iI_ltF, iI_leT, iI_leF, lJ_eqT, lJ_eqF, lJ_cG, lJ_cE, lJ_cL, lJ_cF, lJ_cGE, lJ_cLE, lJ_cNL, lJ_cNG, Int.cast_ofNat_Int, c_0, c_1, Int.natCast_add, Int.add_zero, cond_true, cond_false, Bool.and_self, Bool.and_true, Bool.true_and, Option.bind_some, decide_true, uI_hit, uI_miss, uI_o, uA_o, uA_s, ↓reduceIte, eq_self, true_or, or_true, or_false, false_or, true_and, and_true, false_and, and_false, or_self, and_self, not_false_eq_true, not_true_eq_false, tn_i, h9]
    · rw [if_neg q2]
      by_cases q3 : c = 62
      · rw [if_pos q3]; simp (disch := omega) only [nI_iI, lN_lJ, iI_0, lJ_0, iI_add, iI_sub, iI_mul, iI_neg, lJ_add, lJ_sub, lJ_mul, lJ_neg, i_l, l_i, iI_cl, iI_inb, iI_eqT, iI_eqF, iI_ltT, iI_ltF, iI_leT, iI_leF, lJ_eqT, lJ_eqF, lJ_cG, lJ_cE, lJ_cL, lJ_cF, lJ_cGE, lJ_cLE, lJ_cNL, lJ_cNG, Int.cast_ofNat_Int, c_0, c_1, Int.natCast_add, Int.add_zero, cond_true, cond_false, Bool.and_self, Bool.and_true, Bool.true_and, Option.bind_some, decide_true, uI_hit, uI_miss, uI_o, uA_o, uA_s, ↓reduceIte, eq_self, true_or, or_true, or_false, false_or, true_and, and_true, false_and, and_false, or_self, and_self, not_false_eq_true, not_true_eq_false, tn_i, h9]
      · rw [if_neg q3]
        by_cases q4 : c = 4
        · rw [if_pos q4]; simp (disch := omega) only [nI_iI, lN_lJ, iI_0, lJ_0, iI_add, iI_sub, iI_mul, iI_neg, lJ_add, lJ_sub, lJ_mul, lJ_neg, i_l, l_i, iI_cl, iI_inb, iI_eqT, iI_eqF, iI_ltT, iI_ltF, iI_leT, iI_leF, lJ_eqT, lJ_eqF, lJ_cG, lJ_cE, lJ_cL, lJ_cF, lJ_cGE, lJ_cLE, lJ_cNL, lJ_cNG, Int.cast_ofNat_Int, c_0, c_1, Int.natCast_add, Int.add_zero, cond_true, cond_false, Bool.and_self, Bool.and_true, Bool.true_and, Option.bind_some, decide_true, uI_hit, uI_miss, uI_o, uA_o, uA_s, ↓reduceIte, eq_self, true_or, or_true, or_false, false_or, true_and, and_true, false_and, and_false, or_self, and_self, not_false_eq_true, not_true_eq_false, tn_i, h9]
        · rw [if_neg q4]
          by_cases q5 : c = 61
          · rw [if_pos q5]; simp (disch := omega) only [nI_iI, lN_lJ, iI_0, lJ_0, iI_add, iI_sub, iI_mul, iI_neg, lJ_add, lJ_sub, lJ_mul, lJ_neg, i_l, l_i, iI_cl, iI_inb, iI_eqT, iI_eqF, iI_ltT, iI_ltF, iI_leT, iI_leF, lJ_eqT, lJ_eqF, lJ_cG, lJ_cE, lJ_cL, lJ_cF, lJ_cGE, lJ_cLE, lJ_cNL, lJ_cNG, Int.cast_ofNat_Int, c_0, c_1, Int.natCast_add, Int.add_zero, cond_true, cond_false, Bool.and_self, Bool.and_true, Bool.true_and, Option.bind_some, decide_true, uI_hit, uI_miss, uI_o, uA_o, uA_s, ↓reduceIte, eq_self, true_or, or_true, or_false, false_or, true_and, and_true, false_and, and_false, or_self, and_self, not_false_eq_true, not_true_eq_false, tn_i, h9]
          · rw [if_neg q5]
            by_cases q6 : c = 35
            · rw [if_pos q6]; simp (disch := omega) only [nI_iI, lN_lJ, iI_0, lJ_0, iI_add, iI_sub, iI_mul, iI_neg, lJ_add, lJ_sub, lJ_mul, lJ_neg, i_l, l_i, iI_cl, iI_inb, iI_eqT, iI_eqF, iI_ltT, iI_ltF, iI_leT, iI_leF, lJ_eqT, lJ_eqF, lJ_cG, lJ_cE, lJ_cL, lJ_cF, lJ_cGE, lJ_cLE, lJ_cNL, lJ_cNG, Int.cast_ofNat_Int, c_0, c_1, Int.natCast_add, Int.add_zero, cond_true, cond_false, Bool.and_self, Bool.and_true, Bool.true_and, Option.bind_some, decide_true, uI_hit, uI_miss, uI_o, uA_o, uA_s, ↓reduceIte, eq_self, true_or, or_true, or_false, false_or, true_and, and_true, false_and, and_false, or_self, and_self, not_false_eq_true, not_true_eq_false, tn_i, h9]
            · rw [if_neg q6]; simp (disch := omega) only [nI_iI, lN_lJ, iI_0, lJ_0, iI_add, iI_sub, iI_mul, iI_neg, lJ_add, lJ_sub, lJ_mul, lJ_neg, i_l, l_i, iI_cl, iI_inb, iI_eqT, iI_eqF, iI_ltT, iI_ltF, iI_leT, iI_leF, lJ_eqT, lJ_eqF, lJ_cG, lJ_cE, lJ_cL, lJ_cF, lJ_cGE, lJ_cLE, lJ_cNL, lJ_cNG, Int.cast_ofNat_Int, c_0, c_1, Int.natCast_add, Int.add_zero, cond_true, cond_false, Bool.and_self, Bool.and_true, Bool.true_and, Option.bind_some, decide_true, uI_hit, uI_miss, uI_o, uA_o, uA_s, ↓reduceIte, eq_self, true_or, or_true, or_false, false_or, true_and, and_true, false_and, and_false, or_self, and_self, not_false_eq_true, not_true_eq_false, tn_i, h9]
theorem cmO_in (c : Int) : -1 ≤ cmO c ∧ cmO c ≤ 15 := by
  unfold cmO
  repeat' split
  all_goals omega
theorem m_between {d : aI} {e : aJ} {T : Nat} {s : Int} {tp : Nat → Int} {L t : Nat} {pl : List Int} {a k : Nat} {w : Bool} {O V : Int → Int} (h : MS d e T s tp L t pl a k w O V) : FX11_betweenOf d e = some (iI (btO (KT tp L t) pl), d, e) := by
  have h5 := h.1.2.2.2
  have h9 := h.2.1.2.2.1
  have rk := rk_kt h5 (L := L) (t := t)
  have g43 := rk.2.2.2.2.1 43 (by omega)
  have g45 := rk.2.2.2.2.1 45 (by omega)
  have g42 := rk.2.2.2.2.1 42 (by omega)
  have g47 := rk.2.2.2.2.1 47 (by omega)
  have rr := rk.2.2.2.2.2.2
  have on := (m_openNow (e := e) h.2.2.2.2.2.1.1 h.2.2.2.2.2.1.2 h.2.2.2.2.2.2.1.1 h.2.2.2.2.2.2.1.2).1
  have oi := opN_in pl h.2.2.2.2.2.2.1.2
  have cm := m_isCmp (e := e) h.2.2.2.2.2.1.1 h.2.2.2.2.2.1.2 h.2.2.2.2.2.2.1.1 h.2.2.2.2.2.2.1.2
  have co := m_cmpOf h.2.1 h5
  have i19 := m_isw (w := 19) h.2.1 h5 (by omega)
  have i18 := m_isw (w := 18) h.2.1 h5 (by omega)
  have m19 := mw_19 (d := d) (e := e)
  have m18 := mw_18 (d := d) (e := e)
  clear rk
  unfold FX11_betweenOf btO
  generalize KT tp L t = c at *
  generalize RKT tp L t = r at *
  generalize opN pl = q at *
  by_cases q1 : c = 43
  · rw [if_pos q1]; simp (disch := omega) only [nI_iI, lN_lJ, iI_0, lJ_0, iI_add, iI_sub, iI_mul, iI_neg, lJ_add, lJ_sub, lJ_mul, lJ_neg, i_l, l_i, iI_cl, iI_inb, iI_eqT, iI_eqF, iI_ltT, iI_ltF, iI_leT, iI_leF, lJ_eqT, lJ_eqF, lJ_cG, lJ_cE, lJ_cL, lJ_cF, lJ_cGE, lJ_cLE, lJ_cNL, lJ_cNG, Int.cast_ofNat_Int, c_0, c_1, Int.natCast_add, Int.add_zero, cond_true, cond_false, Bool.and_self, Bool.and_true, Bool.true_and, Option.bind_some, decide_true, uI_hit, uI_miss, uI_o, uA_o, uA_s, ↓reduceIte, eq_self, true_or, or_true, or_false, false_or, true_and, and_true, false_and, and_false, or_self, and_self, not_false_eq_true, not_true_eq_false, tn_i, h9]
  · rw [if_neg q1]
    by_cases q2 : c = 45
    · rw [if_pos q2]; simp (disch := omega) only [nI_iI, lN_lJ, iI_0, lJ_0, iI_add, iI_sub, iI_mul, iI_neg, lJ_add, lJ_sub, lJ_mul, lJ_neg, i_l, l_i, iI_cl, iI_inb, iI_eqT, iI_eqF, iI_ltT, iI_ltF, iI_leT, iI_leF, lJ_eqT, lJ_eqF, lJ_cG, lJ_cE, lJ_cL, lJ_cF, lJ_cGE, lJ_cLE, lJ_cNL, lJ_cNG, Int.cast_ofNat_Int, c_0, c_1, Int.natCast_add, Int.add_zero, cond_true, cond_false, Bool.and_self, Bool.and_true, Bool.true_and, Option.bind_some, decide_true, uI_hit, uI_miss, uI_o, uA_o, uA_s, ↓reduceIte, eq_self, true_or, or_true, or_false, false_or, true_and, and_true, false_and, and_false, or_self, and_self, not_false_eq_true, not_true_eq_false, tn_i, h9]
    · rw [if_neg q2]
      by_cases q3 : c = 42
      · rw [if_pos q3]; simp (disch := omega) only [nI_iI, lN_lJ, iI_0, lJ_0, iI_add, iI_sub, iI_mul, iI_neg, lJ_add, lJ_sub, lJ_mul, lJ_neg, i_l, l_i, iI_cl, iI_inb, iI_eqT, iI_eqF, iI_ltT, iI_ltF, iI_leT, iI_leF, lJ_eqT, lJ_eqF, lJ_cG, lJ_cE, lJ_cL, lJ_cF, lJ_cGE, lJ_cLE, lJ_cNL, lJ_cNG, Int.cast_ofNat_Int, c_0, c_1, Int.natCast_add, Int.add_zero, cond_true, cond_false, Bool.and_self, Bool.and_true, Bool.true_and, Option.bind_some, decide_true, uI_hit, uI_miss, uI_o, uA_o, uA_s, ↓reduceIte, eq_self, true_or, or_true, or_false, false_or, true_and, and_true, false_and, and_false, or_self, and_self, not_false_eq_true, not_true_eq_false, tn_i, h9]
      · rw [if_neg q3]
        by_cases q4 : c = 47
        · rw [if_pos q4]; simp (disch := omega) only [nI_iI, lN_lJ, iI_0, lJ_0, iI_add, iI_sub, iI_mul, iI_neg, lJ_add, lJ_sub, lJ_mul, lJ_neg, i_l, l_i, iI_cl, iI_inb, iI_eqT, iI_eqF, iI_ltT, iI_ltF, iI_leT, iI_leF, lJ_eqT, lJ_eqF, lJ_cG, lJ_cE, lJ_cL, lJ_cF, lJ_cGE, lJ_cLE, lJ_cNL, lJ_cNG, Int.cast_ofNat_Int, c_0, c_1, Int.natCast_add, Int.add_zero, cond_true, cond_false, Bool.and_self, Bool.and_true, Bool.true_and, Option.bind_some, decide_true, uI_hit, uI_miss, uI_o, uA_o, uA_s, ↓reduceIte, eq_self, true_or, or_true, or_false, false_or, true_and, and_true, false_and, and_false, or_self, and_self, not_false_eq_true, not_true_eq_false, tn_i, h9]
        · rw [if_neg q4]
          by_cases q5 : q = 42
          · rw [if_pos q5]
            by_cases q6 : cmD pl = true
            · rw [if_pos q6]
              rw [q6] at cm
              have cm' : FX11_isCompared d e = some (iI 1, d, e) := cm
              by_cases q7 : c = 319
              · rw [if_pos q7]
                rw [if_pos (show c = 300 + ((19 : Nat) : Int) by omega)] at i19
                simp (disch := omega) only [nI_iI, lN_lJ, iI_0, lJ_0, iI_add, iI_sub, iI_mul, iI_neg, lJ_add, lJ_sub, lJ_mul, lJ_neg, i_l, l_i, iI_cl, iI_inb, iI_eqT, iI_eqF, iI_ltT, iI_ltF, iI_leT, iI_leF, lJ_eqT, lJ_eqF, lJ_cG, lJ_cE, lJ_cL, lJ_cF, lJ_cGE, lJ_cLE, lJ_cNL, lJ_cNG, Int.cast_ofNat_Int, c_0, c_1, Int.natCast_add, Int.add_zero, cond_true, cond_false, Bool.and_self, Bool.and_true, Bool.true_and, Option.bind_some, decide_true, uI_hit, uI_miss, uI_o, uA_o, uA_s, ↓reduceIte, eq_self, true_or, or_true, or_false, false_or, true_and, and_true, false_and, and_false, or_self, and_self, not_false_eq_true, not_true_eq_false, tn_i, h9, on, cm', m19, i19]
              · rw [if_neg q7]
                rw [if_neg (show ¬c = 300 + ((19 : Nat) : Int) by omega)] at i19
                by_cases q8 : c = 318
                · rw [if_pos q8]
                  rw [if_pos (show c = 300 + ((18 : Nat) : Int) by omega)] at i18
                  simp (disch := omega) only [nI_iI, lN_lJ, iI_0, lJ_0, iI_add, iI_sub, iI_mul, iI_neg, lJ_add, lJ_sub, lJ_mul, lJ_neg, i_l, l_i, iI_cl, iI_inb, iI_eqT, iI_eqF, iI_ltT, iI_ltF, iI_leT, iI_leF, lJ_eqT, lJ_eqF, lJ_cG, lJ_cE, lJ_cL, lJ_cF, lJ_cGE, lJ_cLE, lJ_cNL, lJ_cNG, Int.cast_ofNat_Int, c_0, c_1, Int.natCast_add, Int.add_zero, cond_true, cond_false, Bool.and_self, Bool.and_true, Bool.true_and, Option.bind_some, decide_true, uI_hit, uI_miss, uI_o, uA_o, uA_s, ↓reduceIte, eq_self, true_or, or_true, or_false, false_or, true_and, and_true, false_and, and_false, or_self, and_self, not_false_eq_true, not_true_eq_false, tn_i, h9, on, cm', m19, i19, m18, i18]
                · rw [if_neg q8]
                  rw [if_neg (show ¬c = 300 + ((18 : Nat) : Int) by omega)] at i18
                  simp (disch := omega) only [nI_iI, lN_lJ, iI_0, lJ_0, iI_add, iI_sub, iI_mul, iI_neg, lJ_add, lJ_sub, lJ_mul, lJ_neg, i_l, l_i, iI_cl, iI_inb, iI_eqT, iI_eqF, iI_ltT, iI_ltF, iI_leT, iI_leF, lJ_eqT, lJ_eqF, lJ_cG, lJ_cE, lJ_cL, lJ_cF, lJ_cGE, lJ_cLE, lJ_cNL, lJ_cNG, Int.cast_ofNat_Int, c_0, c_1, Int.natCast_add, Int.add_zero, cond_true, cond_false, Bool.and_self, Bool.and_true, Bool.true_and, Option.bind_some, decide_true, uI_hit, uI_miss, uI_o, uA_o, uA_s, ↓reduceIte, eq_self, true_or, or_true, or_false, false_or, true_and, and_true, false_and, and_false, or_self, and_self, not_false_eq_true, not_true_eq_false, tn_i, h9, on, cm', m19, i19, m18, i18]
            · rw [if_neg q6]
              have q6' : cmD pl = false := Bool.not_eq_true _ ▸ q6
              rw [q6'] at cm
              have cm' : FX11_isCompared d e = some (iI 0, d, e) := cm
              simp (disch := omega) only [nI_iI, lN_lJ, iI_0, lJ_0, iI_add, iI_sub, iI_mul, iI_neg, lJ_add, lJ_sub, lJ_mul, lJ_neg, i_l, l_i, iI_cl, iI_inb, iI_eqT, iI_eqF, iI_ltT, iI_ltF, iI_leT, iI_leF, lJ_eqT, lJ_eqF, lJ_cG, lJ_cE, lJ_cL, lJ_cF, lJ_cGE, lJ_cLE, lJ_cNL, lJ_cNG, Int.cast_ofNat_Int, c_0, c_1, Int.natCast_add, Int.add_zero, cond_true, cond_false, Bool.and_self, Bool.and_true, Bool.true_and, Option.bind_some, decide_true, uI_hit, uI_miss, uI_o, uA_o, uA_s, ↓reduceIte, eq_self, true_or, or_true, or_false, false_or, true_and, and_true, false_and, and_false, or_self, and_self, not_false_eq_true, not_true_eq_false, tn_i, h9, on, cm', co]
          · rw [if_neg q5]
            simp (disch := omega) only [nI_iI, lN_lJ, iI_0, lJ_0, iI_add, iI_sub, iI_mul, iI_neg, lJ_add, lJ_sub, lJ_mul, lJ_neg, i_l, l_i, iI_cl, iI_inb, iI_eqT, iI_eqF, iI_ltT, iI_ltF, iI_leT, iI_leF, lJ_eqT, lJ_eqF, lJ_cG, lJ_cE, lJ_cL, lJ_cF, lJ_cGE, lJ_cLE, lJ_cNL, lJ_cNG, Int.cast_ofNat_Int, c_0, c_1, Int.natCast_add, Int.add_zero, cond_true, cond_false, Bool.and_self, Bool.and_true, Bool.true_and, Option.bind_some, decide_true, uI_hit, uI_miss, uI_o, uA_o, uA_s, ↓reduceIte, eq_self, true_or, or_true, or_false, false_or, true_and, and_true, false_and, and_false, or_self, and_self, not_false_eq_true, not_true_eq_false, tn_i, h9, on]
theorem m_part {d : aI} {e : aJ} {T : Nat} {s : Int} {tp : Nat → Int} {L t : Nat} {pl : List Int} {a k : Nat} {w : Bool} {O V : Int → Int} (h : MS d e T s tp L t pl a k w O V) : FX11_partOf d e (iI (opN pl)) = some (iI (ptO (KT tp L t) pl), d, e) := by
  have h5 := h.1.2.2.2
  have h9 := h.2.1.2.2.1
  have rk := rk_kt h5 (L := L) (t := t)
  have g41 := rk.2.2.2.2.1 41 (by omega)
  have rr := rk.2.2.2.2.2.2
  have oi := opN_in pl h.2.2.2.2.2.2.1.2
  have cm := m_isCmp (e := e) h.2.2.2.2.2.1.1 h.2.2.2.2.2.1.2 h.2.2.2.2.2.2.1.1 h.2.2.2.2.2.2.1.2
  have i15 := m_isw (w := 15) h.2.1 h5 (by omega)
  have i16 := m_isw (w := 16) h.2.1 h5 (by omega)
  have i17 := m_isw (w := 17) h.2.1 h5 (by omega)
  have m15 := mw_15 (d := d) (e := e)
  have m16 := mw_16 (d := d) (e := e)
  have m17 := mw_17 (d := d) (e := e)
  clear rk
  unfold FX11_partOf ptO
  generalize KT tp L t = c at *
  generalize RKT tp L t = r at *
  generalize opN pl = q at *
  by_cases q0 : q = 40
  · rw [if_pos q0]
    by_cases q1 : c = 41
    · rw [if_pos q1]; simp (disch := omega) only [nI_iI, lN_lJ, iI_0, lJ_0, iI_add, iI_sub, iI_mul, iI_neg, lJ_add, lJ_sub, lJ_mul, lJ_neg, i_l, l_i, iI_cl, iI_inb, iI_eqT, iI_eqF, iI_ltT, iI_ltF, iI_leT, iI_leF, lJ_eqT, lJ_eqF, lJ_cG, lJ_cE, lJ_cL, lJ_cF, lJ_cGE, lJ_cLE, lJ_cNL, lJ_cNG, Int.cast_ofNat_Int, c_0, c_1, Int.natCast_add, Int.add_zero, cond_true, cond_false, Bool.and_self, Bool.and_true, Bool.true_and, Option.bind_some, decide_true, uI_hit, uI_miss, uI_o, uA_o, uA_s, ↓reduceIte, eq_self, true_or, or_true, or_false, false_or, true_and, and_true, false_and, and_false, or_self, and_self, not_false_eq_true, not_true_eq_false, tn_i, h9]
    · rw [if_neg q1]; simp (disch := omega) only [nI_iI, lN_lJ, iI_0, lJ_0, iI_add, iI_sub, iI_mul, iI_neg, lJ_add, lJ_sub, lJ_mul, lJ_neg, i_l, l_i, iI_cl, iI_inb, iI_eqT, iI_eqF, iI_ltT, iI_ltF, iI_leT, iI_leF, lJ_eqT, lJ_eqF, lJ_cG, lJ_cE, lJ_cL, lJ_cF, lJ_cGE, lJ_cLE, lJ_cNL, lJ_cNG, Int.cast_ofNat_Int, c_0, c_1, Int.natCast_add, Int.add_zero, cond_true, cond_false, Bool.and_self, Bool.and_true, Bool.true_and, Option.bind_some, decide_true, uI_hit, uI_miss, uI_o, uA_o, uA_s, ↓reduceIte, eq_self, true_or, or_true, or_false, false_or, true_and, and_true, false_and, and_false, or_self, and_self, not_false_eq_true, not_true_eq_false, tn_i, h9]
  · rw [if_neg q0]
    by_cases q2 : q = 42
    · rw [if_pos q2]
      by_cases q3 : c = 315
      · rw [if_pos (show c = 300 + ((15 : Nat) : Int) by omega)] at i15
        by_cases q6 : cmD pl = true
        · rw [if_pos (show c = 315 ∧ cmD pl = true from ⟨q3, q6⟩)]
          rw [q6] at cm
          have cm' : FX11_isCompared d e = some (iI 1, d, e) := cm
          simp (disch := omega) only [nI_iI, lN_lJ, iI_0, lJ_0, iI_add, iI_sub, iI_mul, iI_neg, lJ_add, lJ_sub, lJ_mul, lJ_neg, i_l, l_i, iI_cl, iI_inb, iI_eqT, iI_eqF, iI_ltT, iI_ltF, iI_leT, iI_leF, lJ_eqT, lJ_eqF, lJ_cG, lJ_cE, lJ_cL, lJ_cF, lJ_cGE, lJ_cLE, lJ_cNL, lJ_cNG, Int.cast_ofNat_Int, c_0, c_1, Int.natCast_add, Int.add_zero, cond_true, cond_false, Bool.and_self, Bool.and_true, Bool.true_and, Option.bind_some, decide_true, uI_hit, uI_miss, uI_o, uA_o, uA_s, ↓reduceIte, eq_self, true_or, or_true, or_false, false_or, true_and, and_true, false_and, and_false, or_self, and_self, not_false_eq_true, not_true_eq_false, tn_i, m15, i15, cm']
        · rw [if_neg (show ¬(c = 315 ∧ cmD pl = true) from fun z => q6 z.2)]
          have q6' : cmD pl = false := Bool.not_eq_true _ ▸ q6
          rw [q6'] at cm
          have cm' : FX11_isCompared d e = some (iI 0, d, e) := cm
          simp (disch := omega) only [nI_iI, lN_lJ, iI_0, lJ_0, iI_add, iI_sub, iI_mul, iI_neg, lJ_add, lJ_sub, lJ_mul, lJ_neg, i_l, l_i, iI_cl, iI_inb, iI_eqT, iI_eqF, iI_ltT, iI_ltF, iI_leT, iI_leF, lJ_eqT, lJ_eqF, lJ_cG, lJ_cE, lJ_cL, lJ_cF, lJ_cGE, lJ_cLE, lJ_cNL, lJ_cNG, Int.cast_ofNat_Int, c_0, c_1, Int.natCast_add, Int.add_zero, cond_true, cond_false, Bool.and_self, Bool.and_true, Bool.true_and, Option.bind_some, decide_true, uI_hit, uI_miss, uI_o, uA_o, uA_s, ↓reduceIte, eq_self, true_or, or_true, or_false, false_or, true_and, and_true, false_and, and_false, or_self, and_self, not_false_eq_true, not_true_eq_false, tn_i, m15, i15, cm']
      · rw [if_neg (show ¬(c = 315 ∧ cmD pl = true) from fun z => q3 z.1)]
        rw [if_neg (show ¬c = 300 + ((15 : Nat) : Int) by omega)] at i15
        simp (disch := omega) only [nI_iI, lN_lJ, iI_0, lJ_0, iI_add, iI_sub, iI_mul, iI_neg, lJ_add, lJ_sub, lJ_mul, lJ_neg, i_l, l_i, iI_cl, iI_inb, iI_eqT, iI_eqF, iI_ltT, iI_ltF, iI_leT, iI_leF, lJ_eqT, lJ_eqF, lJ_cG, lJ_cE, lJ_cL, lJ_cF, lJ_cGE, lJ_cLE, lJ_cNL, lJ_cNG, Int.cast_ofNat_Int, c_0, c_1, Int.natCast_add, Int.add_zero, cond_true, cond_false, Bool.and_self, Bool.and_true, Bool.true_and, Option.bind_some, decide_true, uI_hit, uI_miss, uI_o, uA_o, uA_s, ↓reduceIte, eq_self, true_or, or_true, or_false, false_or, true_and, and_true, false_and, and_false, or_self, and_self, not_false_eq_true, not_true_eq_false, tn_i, m15, i15]
    · rw [if_neg q2]
      by_cases q4 : q = 43
      · rw [if_pos q4]
        by_cases q3 : c = 316
        · rw [if_pos q3]
          rw [if_pos (show c = 300 + ((16 : Nat) : Int) by omega)] at i16
          simp (disch := omega) only [nI_iI, lN_lJ, iI_0, lJ_0, iI_add, iI_sub, iI_mul, iI_neg, lJ_add, lJ_sub, lJ_mul, lJ_neg, i_l, l_i, iI_cl, iI_inb, iI_eqT, iI_eqF, iI_ltT, iI_ltF, iI_leT, iI_leF, lJ_eqT, lJ_eqF, lJ_cG, lJ_cE, lJ_cL, lJ_cF, lJ_cGE, lJ_cLE, lJ_cNL, lJ_cNG, Int.cast_ofNat_Int, c_0, c_1, Int.natCast_add, Int.add_zero, cond_true, cond_false, Bool.and_self, Bool.and_true, Bool.true_and, Option.bind_some, decide_true, uI_hit, uI_miss, uI_o, uA_o, uA_s, ↓reduceIte, eq_self, true_or, or_true, or_false, false_or, true_and, and_true, false_and, and_false, or_self, and_self, not_false_eq_true, not_true_eq_false, tn_i, m16, i16]
        · rw [if_neg q3]
          rw [if_neg (show ¬c = 300 + ((16 : Nat) : Int) by omega)] at i16
          simp (disch := omega) only [nI_iI, lN_lJ, iI_0, lJ_0, iI_add, iI_sub, iI_mul, iI_neg, lJ_add, lJ_sub, lJ_mul, lJ_neg, i_l, l_i, iI_cl, iI_inb, iI_eqT, iI_eqF, iI_ltT, iI_ltF, iI_leT, iI_leF, lJ_eqT, lJ_eqF, lJ_cG, lJ_cE, lJ_cL, lJ_cF, lJ_cGE, lJ_cLE, lJ_cNL, lJ_cNG, Int.cast_ofNat_Int, c_0, c_1, Int.natCast_add, Int.add_zero, cond_true, cond_false, Bool.and_self, Bool.and_true, Bool.true_and, Option.bind_some, decide_true, uI_hit, uI_miss, uI_o, uA_o, uA_s, ↓reduceIte, eq_self, true_or, or_true, or_false, false_or, true_and, and_true, false_and, and_false, or_self, and_self, not_false_eq_true, not_true_eq_false, tn_i, m16, i16]
      · rw [if_neg q4]
        by_cases q5 : q = 44
        · rw [if_pos q5]
          by_cases q3 : c = 317
          · rw [if_pos q3]
            rw [if_pos (show c = 300 + ((17 : Nat) : Int) by omega)] at i17
            simp (disch := omega) only [nI_iI, lN_lJ, iI_0, lJ_0, iI_add, iI_sub, iI_mul, iI_neg, lJ_add, lJ_sub, lJ_mul, lJ_neg, i_l, l_i, iI_cl, iI_inb, iI_eqT, iI_eqF, iI_ltT, iI_ltF, iI_leT, iI_leF, lJ_eqT, lJ_eqF, lJ_cG, lJ_cE, lJ_cL, lJ_cF, lJ_cGE, lJ_cLE, lJ_cNL, lJ_cNG, Int.cast_ofNat_Int, c_0, c_1, Int.natCast_add, Int.add_zero, cond_true, cond_false, Bool.and_self, Bool.and_true, Bool.true_and, Option.bind_some, decide_true, uI_hit, uI_miss, uI_o, uA_o, uA_s, ↓reduceIte, eq_self, true_or, or_true, or_false, false_or, true_and, and_true, false_and, and_false, or_self, and_self, not_false_eq_true, not_true_eq_false, tn_i, m17, i17]
          · rw [if_neg q3]
            rw [if_neg (show ¬c = 300 + ((17 : Nat) : Int) by omega)] at i17
            simp (disch := omega) only [nI_iI, lN_lJ, iI_0, lJ_0, iI_add, iI_sub, iI_mul, iI_neg, lJ_add, lJ_sub, lJ_mul, lJ_neg, i_l, l_i, iI_cl, iI_inb, iI_eqT, iI_eqF, iI_ltT, iI_ltF, iI_leT, iI_leF, lJ_eqT, lJ_eqF, lJ_cG, lJ_cE, lJ_cL, lJ_cF, lJ_cGE, lJ_cLE, lJ_cNL, lJ_cNG, Int.cast_ofNat_Int, c_0, c_1, Int.natCast_add, Int.add_zero, cond_true, cond_false, Bool.and_self, Bool.and_true, Bool.true_and, Option.bind_some, decide_true, uI_hit, uI_miss, uI_o, uA_o, uA_s, ↓reduceIte, eq_self, true_or, or_true, or_false, false_or, true_and, and_true, false_and, and_false, or_self, and_self, not_false_eq_true, not_true_eq_false, tn_i, m17, i17]
        · rw [if_neg q5]
          by_cases q6 : q = 41
          · simp (disch := omega) only [nI_iI, lN_lJ, iI_0, lJ_0, iI_add, iI_sub, iI_mul, iI_neg, lJ_add, lJ_sub, lJ_mul, lJ_neg, i_l, l_i, iI_cl, iI_inb, iI_eqT, iI_eqF, iI_ltT, iI_ltF, iI_leT, iI_leF, lJ_eqT, lJ_eqF, lJ_cG, lJ_cE, lJ_cL, lJ_cF, lJ_cGE, lJ_cLE, lJ_cNL, lJ_cNG, Int.cast_ofNat_Int, c_0, c_1, Int.natCast_add, Int.add_zero, cond_true, cond_false, Bool.and_self, Bool.and_true, Bool.true_and, Option.bind_some, decide_true, uI_hit, uI_miss, uI_o, uA_o, uA_s, ↓reduceIte, eq_self, true_or, or_true, or_false, false_or, true_and, and_true, false_and, and_false, or_self, and_self, not_false_eq_true, not_true_eq_false, tn_i]
          · simp (disch := omega) only [nI_iI, lN_lJ, iI_0, lJ_0, iI_add, iI_sub, iI_mul, iI_neg, lJ_add, lJ_sub, lJ_mul, lJ_neg, i_l, l_i, iI_cl, iI_inb, iI_eqT, iI_eqF, iI_ltT, iI_ltF, iI_leT, iI_leF, lJ_eqT, lJ_eqF, lJ_cG, lJ_cE, lJ_cL, lJ_cF, lJ_cGE, lJ_cLE, lJ_cNL, lJ_cNG, Int.cast_ofNat_Int, c_0, c_1, Int.natCast_add, Int.add_zero, cond_true, cond_false, Bool.and_self, Bool.and_true, Bool.true_and, Option.bind_some, decide_true, uI_hit, uI_miss, uI_o, uA_o, uA_s, ↓reduceIte, eq_self, true_or, or_true, or_false, false_or, true_and, and_true, false_and, and_false, or_self, and_self, not_false_eq_true, not_true_eq_false, tn_i]
