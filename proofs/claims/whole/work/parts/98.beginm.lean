/-! ===== the reference reads: one step ===== -/
theorem ceT_le {tp : Nat → Int} {L t : Nat} : ceT tp L t ≤ L ∧ rnE blT tp L (ceT tp L t) = psT tp L (t + 1) := by
  have p := psT_le (tp := tp) (L := L) t
  refine ⟨?_, rfl⟩
  unfold ceT
  by_cases q : psT tp L t < L
  · rw [if_pos q]; exact (teT_in q).2
  · rw [if_neg q]; exact p
theorem MS.next {d : aI} {e : aJ} {T : Nat} {s : Int} {tp : Nat → Int} {L t : Nat} {pl : List Int} {a k : Nat} {w : Bool} {O V : Int → Int} (h : MS d e T s tp L t pl a k w O V) : ∃ d' e', FX11_nextToken d e = some ((), d', e') ∧ MS d' e' T s tp L (t + 1) pl a k w O V ∧ KM T d d' e e' ∧ (∀ j, j ≠ 7 → j ≠ 8 → j ≠ 9 → j ≠ 10 → d' 108 j = d 108 j) ∧ d' 113 = d 113 := by
  obtain ⟨h1, h2, h3, h4, h5, h6, h7, h8, h9, h10⟩ := h
  have ce := ceT_le (tp := tp) (L := L) (t := t)
  obtain ⟨d', e', x, y, z⟩ := m_next (e := e) h1 (L - ceT tp L t) (ceT tp L t) d h1 (by omega) ce.2 h2.2.1
  have f : ∀ j, j ≠ 7 → j ≠ 8 → j ≠ 9 → j ≠ 10 → d' 108 j = d 108 j := fun j a b c f => z.1 108 j (Or.inr ⟨a, b, c, f⟩)
  have f113 : d' 113 = d 113 := z.obj (by omega)
  have f111 : d' 111 = d 111 := z.obj (by omega)
  refine ⟨d', e', ?_, ⟨h1.of (f 4 (by omega) (by omega) (by omega) (by omega)) (z.obj (by omega)), y, ⟨by rw [f 12 (by omega) (by omega) (by omega) (by omega)]; exact h3.1, h3.2⟩, ⟨by rw [f 13 (by omega) (by omega) (by omega) (by omega)]; exact h4.1, h4.2⟩, ⟨by rw [f 14 (by omega) (by omega) (by omega) (by omega)]; exact h5.1, h5.2⟩, ⟨by rw [f 16 (by omega) (by omega) (by omega) (by omega)]; exact h6.1, h6.2⟩, ⟨h7.1.of (fun j _ => by rw [f113]), h7.2⟩, ⟨by rw [f 17 (by omega) (by omega) (by omega) (by omega)]; exact h8.1, h8.2⟩, by rw [f 18 (by omega) (by omega) (by omega) (by omega)]; exact h9, fun i hi => by rw [f111]; exact h10 i hi⟩, z.km2, f, f113⟩
  unfold FX11_nextToken
  rw [x]
  rfl
theorem MS.whole {d : aI} {e : aJ} {T : Nat} {s : Int} {tp : Nat → Int} {L t : Nat} {pl : List Int} {a k : Nat} {w : Bool} {O V : Int → Int} (h : MS d e T s tp L t pl a k w O V) (w2 : Bool) : MS (uI d 108 18 (iI (tv w2))) e T s tp L t pl a k w2 O V := by
  obtain ⟨h1, h2, h3, h4, h5, h6, h7, h8, h9, h10⟩ := h
  exact ⟨h1.of (by rw [uI_miss (by omega)]) (by rw [uI_o (by omega)]), h2.of (fun j hj => by rw [uI_miss (by omega)]), ⟨by rw [uI_miss (by omega)]; exact h3.1, h3.2⟩, ⟨by rw [uI_miss (by omega)]; exact h4.1, h4.2⟩, ⟨by rw [uI_miss (by omega)]; exact h5.1, h5.2⟩, ⟨by rw [uI_miss (by omega)]; exact h6.1, h6.2⟩, ⟨h7.1.of (fun j _ => by rw [uI_o (by omega)]), h7.2⟩, ⟨by rw [uI_miss (by omega)]; exact h8.1, h8.2⟩, uI_hit rfl, fun i hi => by rw [uI_o (by omega)]; exact h10 i hi⟩
/-- the pile grows -/
theorem MS.push {d : aI} {e : aJ} {T : Nat} {s : Int} {tp : Nat → Int} {L t : Nat} {pl : List Int} {a k : Nat} {w : Bool} {O V : Int → Int} {o : Int} (h : MS d e T s tp L t pl a k w O V) (hl : pl.length < 100) (ho : 0 ≤ o ∧ o ≤ 44) : MS (uI (uI d 113 pl.length (iI o)) 108 16 (iI (pl.length + 1 : Nat))) e T s tp L t (o :: pl) a k w O V := by
  obtain ⟨h1, h2, h3, h4, h5, h6, h7, h8, h9, h10⟩ := h
  refine ⟨h1.of (by rw [uI_miss (by omega), uI_o (by omega)]) (by rw [uI_o (by omega), uI_o (by omega)]), h2.of (fun j hj => by rw [uI_miss (by omega), uI_o (by omega)]), ⟨by rw [uI_miss (by omega), uI_o (by omega)]; exact h3.1, h3.2⟩, ⟨by rw [uI_miss (by omega), uI_o (by omega)]; exact h4.1, h4.2⟩, ⟨by rw [uI_miss (by omega), uI_o (by omega)]; exact h5.1, h5.2⟩, ⟨uI_hit rfl, by show pl.length + 1 ≤ 100; omega⟩, ⟨⟨by rw [uI_o (by omega), uI_hit rfl], h7.1.of (fun j hj => by rw [uI_o (by omega), uI_miss (by omega)])⟩, fun x hx => ?_⟩, ⟨by rw [uI_miss (by omega), uI_o (by omega)]; exact h8.1, h8.2⟩, by rw [uI_miss (by omega), uI_o (by omega)]; exact h9, fun i hi => by rw [uI_o (by omega), uI_o (by omega)]; exact h10 i hi⟩
  rcases List.mem_cons.mp hx with z | z
  · rw [z]; exact ho
  · exact h7.2 x z
theorem MS.opens {d : aI} {e : aJ} {T : Nat} {s : Int} {tp : Nat → Int} {L t : Nat} {pl : List Int} {a k : Nat} {w : Bool} {O V : Int → Int} (h : MS d e T s tp L t pl a k w O V) {k2 : Nat} (hk : k2 ≤ 8) : MS (uI d 108 17 (iI (k2 : Nat))) e T s tp L t pl a k2 w O V := by
  obtain ⟨h1, h2, h3, h4, h5, h6, h7, h8, h9, h10⟩ := h
  exact ⟨h1.of (by rw [uI_miss (by omega)]) (by rw [uI_o (by omega)]), h2.of (fun j hj => by rw [uI_miss (by omega)]), ⟨by rw [uI_miss (by omega)]; exact h3.1, h3.2⟩, ⟨by rw [uI_miss (by omega)]; exact h4.1, h4.2⟩, ⟨by rw [uI_miss (by omega)]; exact h5.1, h5.2⟩, ⟨by rw [uI_miss (by omega)]; exact h6.1, h6.2⟩, ⟨h7.1.of (fun j _ => by rw [uI_o (by omega)]), h7.2⟩, ⟨uI_hit rfl, hk⟩, by rw [uI_miss (by omega)]; exact h9, fun i hi => by rw [uI_o (by omega)]; exact h10 i hi⟩
/-- what is open at last becomes its next part -/
theorem MS.top {d : aI} {e : aJ} {T : Nat} {s : Int} {tp : Nat → Int} {L t : Nat} {pl : List Int} {a k : Nat} {w : Bool} {O V : Int → Int} {o o2 : Int} (h : MS d e T s tp L t (o :: pl) a k w O V) (ho : 0 ≤ o2 ∧ o2 ≤ 44) : MS (uI d 113 pl.length (iI o2)) e T s tp L t (o2 :: pl) a k w O V := by
  obtain ⟨h1, h2, h3, h4, h5, h6, h7, h8, h9, h10⟩ := h
  refine ⟨h1.of (by rw [uI_o (by omega)]) (by rw [uI_o (by omega)]), h2.of (fun j hj => by rw [uI_o (by omega)]), ⟨by rw [uI_o (by omega)]; exact h3.1, h3.2⟩, ⟨by rw [uI_o (by omega)]; exact h4.1, h4.2⟩, ⟨by rw [uI_o (by omega)]; exact h5.1, h5.2⟩, ⟨by rw [uI_o (by omega)]; exact h6.1, h6.2⟩, ⟨⟨uI_hit rfl, h7.1.2.of (fun j hj => by rw [uI_miss (by omega)])⟩, fun x hx => ?_⟩, ⟨by rw [uI_o (by omega)]; exact h8.1, h8.2⟩, by rw [uI_o (by omega)]; exact h9, fun i hi => by rw [uI_o (by omega)]; exact h10 i hi⟩
  rcases List.mem_cons.mp hx with z | z
  · rw [z]; exact ho
  · exact h7.2 x (List.mem_cons_of_mem _ z)
/-- the last leaves the pile -/
theorem MS.drop {d : aI} {e : aJ} {T : Nat} {s : Int} {tp : Nat → Int} {L t : Nat} {pl : List Int} {a k : Nat} {w : Bool} {O V : Int → Int} {o : Int} (h : MS d e T s tp L t (o :: pl) a k w O V) : MS (uI d 108 16 (iI (pl.length : Nat))) e T s tp L t pl a k w O V := by
  obtain ⟨h1, h2, h3, h4, h5, h6, h7, h8, h9, h10⟩ := h
  have l := h6.2
  have l2 : pl.length + 1 ≤ 100 := l
  exact ⟨h1.of (by rw [uI_miss (by omega)]) (by rw [uI_o (by omega)]), h2.of (fun j hj => by rw [uI_miss (by omega)]), ⟨by rw [uI_miss (by omega)]; exact h3.1, h3.2⟩, ⟨by rw [uI_miss (by omega)]; exact h4.1, h4.2⟩, ⟨by rw [uI_miss (by omega)]; exact h5.1, h5.2⟩, ⟨uI_hit rfl, by omega⟩, ⟨h7.1.2.of (fun j _ => by rw [uI_o (by omega)]), fun x hx => h7.2 x (List.mem_cons_of_mem _ hx)⟩, ⟨by rw [uI_miss (by omega)]; exact h8.1, h8.2⟩, by rw [uI_miss (by omega)]; exact h9, fun i hi => by rw [uI_o (by omega)]; exact h10 i hi⟩
/-- one that waits is written -/
theorem MS.pop {d : aI} {e : aJ} {T : Nat} {s : Int} {tp : Nat → Int} {L t : Nat} {pl : List Int} {a k : Nat} {w : Bool} {O V : Int → Int} {o : Int} (h : MS d e T s tp L t (o :: pl) a (k + 1) w O V) (ho : rkO o = 7) (ha : a < 300) : ∃ d', FX11_settle d e (iI 7) = FX11_settle d' e (iI 7) ∧ MS d' e T s tp L t pl (a + 1) k w (fun i => if i = a then o else O i) (fun i => if i = a then 0 else V i) ∧ KM T d d' e e := by
  have h0 := h
  obtain ⟨h1, h2, h3, h4, h5, ⟨h6, h6b⟩, h7, h8, h9, h10⟩ := h
  have l2 : pl.length + 1 ≤ 100 := h6b
  have c6 : d 108 16 = iI ((pl.length + 1 : Nat) : Int) := h6
  have p1 : d 113 pl.length = iI o := h7.1.1
  have or := h7.2 o List.mem_cons_self
  have rk := m_rank (d := d) (e := e) or
  obtain ⟨d2, e1, ms2, km2, f2, f3⟩ := h0.drop.emit (o := o) (v := 0) ha
  have c16 : d2 108 16 = iI (pl.length : Nat) := by rw [f2 16 (by omega), uI_hit rfl]
  have c17 : d2 108 17 = iI ((k : Int) + 1) := by rw [f2 17 (by omega), uI_miss (by omega)]; exact h8.1
  have p2 : d2 113 pl.length = iI o := by rw [f3, uI_o (by omega)]; exact p1
  have rk2 := m_rank (d := d2) (e := e) or
  have k8 : k ≤ 8 := by have := h8.2; omega
  refine ⟨uI d2 108 17 (iI (k : Nat)), ?_, ms2.opens k8, (KM.put (by omega)).trans (km2.trans (KM.put (by omega)))⟩
  unfold FX11_settle
  rw [ho] at rk rk2
  rw [a_run_step (st := stX11_settle) (p := (0, [some (.ref 108), some (.int (iI 7))], d, e)) (p2 := (0, [some (.ref 108), some (.int (iI 7))], uI d2 108 17 (iI (k : Nat)), e)) (by
    show sX11_settle_0 d e _ = _
    unfold sX11_settle_0
    generalize pl.length = n at *
    simp (disch := omega) only [nI_iI, lN_lJ, iI_0, lJ_0, iI_add, iI_sub, iI_mul, iI_neg, lJ_add, lJ_sub, lJ_mul, lJ_neg, i_l, l_i, iI_cl, iI_inb, iI_eqT, iI_eqF, iI_ltT, iI_ltF, iI_leT, iI_leF, lJ_eqT, lJ_eqF, lJ_cG, lJ_cE, lJ_cL, lJ_cF, lJ_cGE, lJ_cLE, lJ_cNL, lJ_cNG, Int.cast_ofNat_Int, c_0, c_1, Int.natCast_add, Int.add_zero, cond_true, cond_false, Bool.and_self, Bool.and_true, Bool.true_and, Option.bind_some, decide_true, uI_hit, uI_miss, uI_o, uA_o, uA_s, ↓reduceIte, eq_self, true_or, or_true, or_false, false_or, true_and, and_true, false_and, and_false, or_self, and_self, not_false_eq_true, not_true_eq_false, tn_i, Int.toNat_natCast, c6, Int.add_sub_cancel, p1, rk, e1, c16, p2, rk2, c17]) rfl]
theorem end_eq {d d' : aI} {e : aJ} (h : FX11_settle d e (iI 7) = FX11_settle d' e (iI 7)) : FX11_endOne d e = FX11_endOne d' e := by
  have h' : FX11_settle d e (nI 7) = FX11_settle d' e (nI 7) := h
  unfold FX11_endOne
  rw [h']
/-- behind one: nothing waits that closely -/
theorem MS.endA {d : aI} {e : aJ} {T : Nat} {s : Int} {tp : Nat → Int} {L t : Nat} {pl : List Int} {a k : Nat} {w : Bool} {O V : Int → Int} (h : MS d e T s tp L t pl a k w O V) (hp : ∀ o r, pl = o :: r → rkO o < 7 ∧ o ≠ 41) : ∃ d', FX11_endOne d e = some (iI 0, d', e) ∧ MS d' e T s tp L t pl a k true O V ∧ KM T d d' e e := by
  have a3 := h.2.2.2.1.2
  obtain ⟨d1, O1, V1, x, y, z, z2, z3, z4⟩ := MS.settle (pend := []) (k := k) (lvl := 7) (by omega) h (fun o r hr => (hp o r hr).1) (fun o ho => by cases ho) (by show a + 0 ≤ 300; omega)
  have y2 : MS d1 e T s tp L t pl a k w O1 V1 := y
  have y3 : MS (uI d1 108 18 (iI 1)) e T s tp L t pl a k true O1 V1 := y2.whole true
  have y4 : MS (uI d1 108 18 (iI 1)) e T s tp L t pl a k true O V := by
    obtain ⟨g1, g2, g3, g4, g5, g6, g7, g8, g9, g10⟩ := y3
    exact ⟨g1, g2, g3, g4, g5, g6, g7, g8, g9, fun i hi => by
      have q := z2 i (by omega)
      rw [← q.1, ← q.2]; exact g10 i hi⟩
  refine ⟨uI d1 108 18 (iI 1), ?_, y4, z.trans (KM.put (by omega))⟩
  obtain ⟨g1, g2, g3, g4, g5, ⟨g6, g6b⟩, g7, g8, g9, g10⟩ := y2
  unfold FX11_endOne
  cases pl with
  | nil =>
    have g6' : d1 108 16 = iI 0 := g6
    simp (disch := omega) only [nI_iI, lN_lJ, iI_0, lJ_0, iI_add, iI_sub, iI_mul, iI_neg, lJ_add, lJ_sub, lJ_mul, lJ_neg, i_l, l_i, iI_cl, iI_inb, iI_eqT, iI_eqF, iI_ltT, iI_ltF, iI_leT, iI_leF, lJ_eqT, lJ_eqF, lJ_cG, lJ_cE, lJ_cL, lJ_cF, lJ_cGE, lJ_cLE, lJ_cNL, lJ_cNG, Int.cast_ofNat_Int, c_0, c_1, Int.natCast_add, Int.add_zero, cond_true, cond_false, Bool.and_self, Bool.and_true, Bool.true_and, Option.bind_some, decide_true, uI_hit, uI_miss, uI_o, uA_o, uA_s, ↓reduceIte, eq_self, true_or, or_true, or_false, false_or, true_and, and_true, false_and, and_false, or_self, and_self, not_false_eq_true, not_true_eq_false, tn_i, x, g6', iI_one, decide_eq_true]
  | cons o r =>
    have o41 := (hp o r rfl).2
    have or := g7.2 o List.mem_cons_self
    have p1 : d1 113 r.length = iI o := g7.1.1
    have g6' : d1 108 16 = iI ((r.length : Int) + 1) := g6
    have l2 : r.length + 1 ≤ 100 := g6b
    generalize r.length = n at *
    simp (disch := omega) only [nI_iI, lN_lJ, iI_0, lJ_0, iI_add, iI_sub, iI_mul, iI_neg, lJ_add, lJ_sub, lJ_mul, lJ_neg, i_l, l_i, iI_cl, iI_inb, iI_eqT, iI_eqF, iI_ltT, iI_ltF, iI_leT, iI_leF, lJ_eqT, lJ_eqF, lJ_cG, lJ_cE, lJ_cL, lJ_cF, lJ_cGE, lJ_cLE, lJ_cNL, lJ_cNG, Int.cast_ofNat_Int, c_0, c_1, Int.natCast_add, Int.add_zero, cond_true, cond_false, Bool.and_self, Bool.and_true, Bool.true_and, Option.bind_some, decide_true, uI_hit, uI_miss, uI_o, uA_o, uA_s, ↓reduceIte, eq_self, true_or, or_true, or_false, false_or, true_and, and_true, false_and, and_false, or_self, and_self, not_false_eq_true, not_true_eq_false, tn_i, Int.toNat_natCast, x, g6', Int.add_sub_cancel, p1, iI_one, decide_eq_true]
/-- behind the first of turn -/
theorem MS.endT {d : aI} {e : aJ} {T : Nat} {s : Int} {tp : Nat → Int} {L t : Nat} {r : List Int} {a k : Nat} {w : Bool} {O V : Int → Int} (h : MS d e T s tp L t (41 :: r) a k w O V) : (KT tp L t = 311 → ∃ d' e', FX11_endOne d e = some (iI 0, d', e') ∧ MS d' e' T s tp L (t + 1) (4 :: r) a k false O V ∧ KM T d d' e e') ∧ (KT tp L t ≠ 311 → ∃ d' e', FX11_endOne d e = some (iI 1, d', e') ∧ d' 108 8 = iI (psT tp L t : Nat) ∧ KM T d d' e e') := by
  have a3 := h.2.2.2.1.2
  obtain ⟨d1, O1, V1, x, y, z, z2, z3, z4⟩ := MS.settle (pend := []) (k := k) (lvl := 7) (by omega) h (fun o r hr => by cases hr; decide) (fun o ho => by cases ho) (by show a + 0 ≤ 300; omega)
  have y2 : MS d1 e T s tp L t (41 :: r) a k w O1 V1 := y
  have y3 : MS (uI d1 108 18 (iI 1)) e T s tp L t (41 :: r) a k true O1 V1 := y2.whole true
  have y4 : MS (uI d1 108 18 (iI 1)) e T s tp L t (41 :: r) a k true O V := by
    obtain ⟨g1, g2, g3, g4, g5, g6, g7, g8, g9, g10⟩ := y3
    exact ⟨g1, g2, g3, g4, g5, g6, g7, g8, g9, fun i hi => by
      have q := z2 i (by omega)
      rw [← q.1, ← q.2]; exact g10 i hi⟩
  have iw := m_isw (w := 11) y4.2.1 y4.1.2.2.2 (by omega)
  have m11 := mw_11 (d := uI d1 108 18 (iI 1)) (e := e)
  have p1 : d1 113 r.length = iI 41 := y2.2.2.2.2.2.2.1.1.1
  have g6' : d1 108 16 = iI ((r.length : Int) + 1) := y2.2.2.2.2.2.1.1
  have l2 : r.length + 1 ≤ 100 := y2.2.2.2.2.2.1.2
  constructor
  · intro q
    rw [if_pos (show KT tp L t = 300 + ((11 : Nat) : Int) from q)] at iw
    obtain ⟨d2, e2, n1, n2, n3, n4, n5⟩ := y4.next
    have c16 : d2 108 16 = iI ((r.length : Int) + 1) := by rw [n4 16 (by omega) (by omega) (by omega) (by omega), uI_miss (by omega)]; exact g6'
    refine ⟨uI (uI d2 113 r.length (iI 4)) 108 18 (iI 0), e2, ?_, ?_, (z.trans (KM.put (by omega))).trans (n3.trans ((KM.put (by omega)).trans (KM.put (by omega))))⟩
    · unfold FX11_endOne
      generalize r.length = n at *
      simp (config := {maxSteps := 4000000}) (disch := omega) only [nI_iI, lN_lJ, iI_0, lJ_0, iI_add, iI_sub, iI_mul, iI_neg, lJ_add, lJ_sub, lJ_mul, lJ_neg, i_l, l_i, iI_cl, iI_inb, iI_eqT, iI_eqF, iI_ltT, iI_ltF, iI_leT, iI_leF, lJ_eqT, lJ_eqF, lJ_cG, lJ_cE, lJ_cL, lJ_cF, lJ_cGE, lJ_cLE, lJ_cNL, lJ_cNG, Int.cast_ofNat_Int, c_0, c_1, Int.natCast_add, Int.add_zero, cond_true, cond_false, Bool.and_self, Bool.and_true, Bool.true_and, Option.bind_some, decide_true, uI_hit, uI_miss, uI_o, uA_o, uA_s, ↓reduceIte, eq_self, true_or, or_true, or_false, false_or, true_and, and_true, false_and, and_false, or_self, and_self, not_false_eq_true, not_true_eq_false, tn_i, Int.toNat_natCast, x, g6', Int.add_sub_cancel, p1, m11, iw, n1, c16, iI_one, decide_eq_true]
    · exact (n2.top (by omega)).whole false
  · intro q
    rw [if_neg (show ¬(KT tp L t = 300 + ((11 : Nat) : Int)) from q)] at iw
    refine ⟨uI d1 108 18 (iI 1), e, ?_, y4.2.1.1, z.trans (KM.put (by omega))⟩
    unfold FX11_endOne
    generalize r.length = n at *
    simp (config := {maxSteps := 4000000}) (disch := omega) only [nI_iI, lN_lJ, iI_0, lJ_0, iI_add, iI_sub, iI_mul, iI_neg, lJ_add, lJ_sub, lJ_mul, lJ_neg, i_l, l_i, iI_cl, iI_inb, iI_eqT, iI_eqF, iI_ltT, iI_ltF, iI_leT, iI_leF, lJ_eqT, lJ_eqF, lJ_cG, lJ_cE, lJ_cL, lJ_cF, lJ_cGE, lJ_cLE, lJ_cNL, lJ_cNG, Int.cast_ofNat_Int, c_0, c_1, Int.natCast_add, Int.add_zero, cond_true, cond_false, Bool.and_self, Bool.and_true, Bool.true_and, Option.bind_some, decide_true, uI_hit, uI_miss, uI_o, uA_o, uA_s, ↓reduceIte, eq_self, true_or, or_true, or_false, false_or, true_and, and_true, false_and, and_false, or_self, and_self, not_false_eq_true, not_true_eq_false, tn_i, Int.toNat_natCast, x, g6', Int.add_sub_cancel, p1, m11, iw, iI_one, decide_eq_true]
theorem m_opened {d : aI} {e : aJ} {T : Nat} {s : Int} {tp : Nat → Int} {L t : Nat} {pl : List Int} {a k : Nat} {w : Bool} {O V : Int → Int} {o : Int} (h : MS d e T s tp L t pl a k w O V) (ho : 0 ≤ o ∧ o ≤ 44) (hl : pl.length < 100) : (k = 8 → FX11_opened d e (iI o) = some (iI 3, d, e)) ∧ (k < 8 → ∃ d' e', FX11_opened d e (iI o) = some (iI 0, d', e') ∧ MS d' e' T s tp L (t + 1) (o :: pl) a (k + 1) w O V ∧ KM T d d' e e') := by
  have h17 := h.2.2.2.2.2.2.2.1.1
  have h16 := h.2.2.2.2.2.1.1
  constructor
  · intro q
    rw [q] at h17
    unfold FX11_opened
    simp (disch := omega) only [nI_iI, lN_lJ, iI_0, lJ_0, iI_add, iI_sub, iI_mul, iI_neg, lJ_add, lJ_sub, lJ_mul, lJ_neg, i_l, l_i, iI_cl, iI_inb, iI_eqT, iI_eqF, iI_ltT, iI_ltF, iI_leT, iI_leF, lJ_eqT, lJ_eqF, lJ_cG, lJ_cE, lJ_cL, lJ_cF, lJ_cGE, lJ_cLE, lJ_cNL, lJ_cNG, Int.cast_ofNat_Int, c_0, c_1, Int.natCast_add, Int.add_zero, cond_true, cond_false, Bool.and_self, Bool.and_true, Bool.true_and, Option.bind_some, decide_true, uI_hit, uI_miss, uI_o, uA_o, uA_s, ↓reduceIte, eq_self, true_or, or_true, or_false, false_or, true_and, and_true, false_and, and_false, or_self, and_self, not_false_eq_true, not_true_eq_false, tn_i, h17]
  · intro q
    have m1 := (h.opens (k2 := k + 1) (by omega)).push (o := o) hl ho
    obtain ⟨d2, e2, n1, n2, n3, n4, n5⟩ := m1.next
    refine ⟨d2, e2, ?_, n2, (KM.put (by omega)).trans ((KM.put (by omega)).trans ((KM.put (by omega)).trans n3))⟩
    have n1' : FX11_nextToken (uI (uI (uI d 108 17 (iI ((k : Int) + 1))) 113 pl.length (iI o)) 108 16 (iI ((pl.length : Int) + 1))) e = some ((), d2, e2) := n1
    unfold FX11_opened
    generalize pl.length = n at *
    simp (disch := omega) only [nI_iI, lN_lJ, iI_0, lJ_0, iI_add, iI_sub, iI_mul, iI_neg, lJ_add, lJ_sub, lJ_mul, lJ_neg, i_l, l_i, iI_cl, iI_inb, iI_eqT, iI_eqF, iI_ltT, iI_ltF, iI_leT, iI_leF, lJ_eqT, lJ_eqF, lJ_cG, lJ_cE, lJ_cL, lJ_cF, lJ_cGE, lJ_cLE, lJ_cNL, lJ_cNG, Int.cast_ofNat_Int, c_0, c_1, Int.natCast_add, Int.add_zero, cond_true, cond_false, Bool.and_self, Bool.and_true, Bool.true_and, Option.bind_some, decide_true, uI_hit, uI_miss, uI_o, uA_o, uA_s, ↓reduceIte, eq_self, true_or, or_true, or_false, false_or, true_and, and_true, false_and, and_false, or_self, and_self, not_false_eq_true, not_true_eq_false, tn_i, Int.toNat_natCast, h17, h16, n1']
