/-! ===== the latest step is taken back: reference ===== -/
theorem mq_beginHouse {d : aI} {e : aJ} {A : Int → Int} (hA : MA d 109 A) {h : Int} (hh : 0 ≤ h ∧ h < 6) : ∃ d', FX11_beginHouse d e (iI h) = some ((), d', e) ∧ MA d' 109 (aU (aU A (30 + 2 * h) (A (48 + h))) (30 + 2 * h + 1) 0) ∧ (∀ o, o ≠ 109 → d' o = d o) := by
  have r := hA.cell (j := 48 + h) (by omega)
  refine ⟨uI (uI d 109 (30 + 2 * h + 0).toNat (iI (A (48 + h)))) 109 (30 + 2 * h + 1).toNat (iI 0), ?_, (hA.put (by omega)).put (by omega), fun o ho => by rw [uI_o ho, uI_o ho]⟩
  unfold FX11_beginHouse
  simp (disch := omega) only [nI_iI, lN_lJ, iI_0, lJ_0, iI_add, iI_sub, iI_mul, iI_neg, lJ_add, lJ_sub, lJ_mul, lJ_neg, i_l, l_i, iI_cl, iI_inb, iI_eqT, iI_eqF, iI_ltT, iI_ltF, iI_leT, iI_leF, lJ_eqT, lJ_eqF, lJ_cG, lJ_cE, lJ_cL, lJ_cF, lJ_cGE, lJ_cLE, lJ_cNL, lJ_cNG, Int.cast_ofNat_Int, c_0, c_1, Int.natCast_add, Int.add_zero, cond_true, cond_false, Bool.and_self, Bool.and_true, Bool.true_and, Option.bind_some, decide_true, uI_hit, uI_miss, uI_o, uA_o, uA_s, ↓reduceIte, eq_self, true_or, or_true, or_false, false_or, true_and, and_true, false_and, and_false, or_self, and_self, not_false_eq_true, not_true_eq_false, tn_i, r, mq_layOf]
theorem mq_beginCat {d : aI} {e : aJ} {A : Int → Int} (hA : MA d 109 A) {c : Int} (hc : 0 ≤ c ∧ c < 6) : ∃ d', FX11_beginCat d e (iI c) = some ((), d', e) ∧ MA d' 109 (aU (aU (aU A (12 + 3 * c) (A (60 + c))) (12 + 3 * c + 1) (-1)) (12 + 3 * c + 2) 0) ∧ (∀ o, o ≠ 109 → d' o = d o) := by
  have r := hA.cell (j := 60 + c) (by omega)
  refine ⟨uI (uI (uI d 109 (12 + 3 * c + 0).toNat (iI (A (60 + c)))) 109 (12 + 3 * c + 1).toNat (iI (-1))) 109 (12 + 3 * c + 2).toNat (iI 0), ?_, ((hA.put (by omega)).put (by omega)).put (by omega), fun o ho => by rw [uI_o ho, uI_o ho, uI_o ho]⟩
  unfold FX11_beginCat
  simp (disch := omega) only [nI_iI, lN_lJ, iI_0, lJ_0, iI_add, iI_sub, iI_mul, iI_neg, lJ_add, lJ_sub, lJ_mul, lJ_neg, i_l, l_i, iI_cl, iI_inb, iI_eqT, iI_eqF, iI_ltT, iI_ltF, iI_leT, iI_leF, lJ_eqT, lJ_eqF, lJ_cG, lJ_cE, lJ_cL, lJ_cF, lJ_cGE, lJ_cLE, lJ_cNL, lJ_cNG, Int.cast_ofNat_Int, c_0, c_1, Int.natCast_add, Int.add_zero, cond_true, cond_false, Bool.and_self, Bool.and_true, Bool.true_and, Option.bind_some, decide_true, uI_hit, uI_miss, uI_o, uA_o, uA_s, ↓reduceIte, eq_self, true_or, or_true, or_false, false_or, true_and, and_true, false_and, and_false, or_self, and_self, not_false_eq_true, not_true_eq_false, tn_i, r, mq_lay]
/-- houses from r on begin anew, as far as k -/
def bhS (A : Int → Int) (r k : Int) : Int → Int := fun j => if 30 ≤ j ∧ j < 42 ∧ r ≤ (j - 30) / 2 ∧ (j - 30) / 2 < k then (if (j - 30) % 2 = 0 then A (48 + (j - 30) / 2) else 0) else A j
def bcS (A : Int → Int) (r k : Int) : Int → Int := fun j => if 12 ≤ j ∧ j < 30 ∧ r ≤ (j - 12) / 3 ∧ (j - 12) / 3 < k then (if (j - 12) % 3 = 0 then A (60 + (j - 12) / 3) else if (j - 12) % 3 = 1 then -1 else 0) else A j
theorem bhS_o {A : Int → Int} {r k j : Int} (h : j < 30 ∨ 42 ≤ j) : bhS A r k j = A j := by unfold bhS; rw [if_neg (by omega)]
theorem bcS_o {A : Int → Int} {r k j : Int} (h : j < 12 ∨ 30 ≤ j) : bcS A r k j = A j := by unfold bcS; rw [if_neg (by omega)]
theorem bhS_step {A : Int → Int} {r k : Int} (h : 0 ≤ r ∧ r ≤ k ∧ k < 6) (j : Int) : bhS A r (k + 1) j = aU (aU (bhS A r k) (30 + 2 * k) (bhS A r k (48 + k))) (30 + 2 * k + 1) 0 j := by
  by_cases h1 : j = 30 + 2 * k + 1
  · rw [aU_hit h1]
    unfold bhS
    rw [if_pos (by omega), if_neg (by omega)]
  · rw [aU_miss h1]
    by_cases h2 : j = 30 + 2 * k
    · rw [aU_hit h2, bhS_o (j := 48 + k) (by omega)]
      unfold bhS
      rw [if_pos (by omega), if_pos (by omega), h2, show (30 + 2 * k - 30) / 2 = k by omega]
    · rw [aU_miss h2]
      unfold bhS
      by_cases h3 : 30 ≤ j ∧ j < 42 ∧ r ≤ (j - 30) / 2 ∧ (j - 30) / 2 < k
      · rw [if_pos h3, if_pos (by omega)]
      · rw [if_neg h3, if_neg (by omega)]
theorem bcS_step {A : Int → Int} {r k : Int} (h : 0 ≤ r ∧ r ≤ k ∧ k < 6) (j : Int) : bcS A r (k + 1) j = aU (aU (aU (bcS A r k) (12 + 3 * k) (bcS A r k (60 + k))) (12 + 3 * k + 1) (-1)) (12 + 3 * k + 2) 0 j := by
  by_cases h1 : j = 12 + 3 * k + 2
  · rw [aU_hit h1]
    unfold bcS
    rw [if_pos (by omega), if_neg (by omega), if_neg (by omega)]
  · rw [aU_miss h1]
    by_cases h2 : j = 12 + 3 * k + 1
    · rw [aU_hit h2]
      unfold bcS
      rw [if_pos (by omega), if_neg (by omega), if_pos (by omega)]
    · rw [aU_miss h2]
      by_cases h3 : j = 12 + 3 * k
      · rw [aU_hit h3, bcS_o (j := 60 + k) (by omega)]
        unfold bcS
        rw [if_pos (by omega), if_pos (by omega), h3, show (12 + 3 * k - 12) / 3 = k by omega]
      · rw [aU_miss h3]
        unfold bcS
        by_cases h4 : 12 ≤ j ∧ j < 30 ∧ r ≤ (j - 12) / 3 ∧ (j - 12) / 3 < k
        · rw [if_pos h4, if_pos (by omega)]
        · rw [if_neg h4, if_neg (by omega)]
theorem mq_undo {d : aI} {e : aJ} {A : Int → Int} (hA : MA d 109 A) (hS : SI A) (h4 : 0 < A 4) : ∃ d', FX11_undo d e = some (iI (A 4 - 1), d', e) ∧ MA d' 109 (undoS A) ∧ (∀ o, o ≠ 109 → d' o = d o) := by
  have w4 := hS.2.1
  obtain ⟨wr, tb⟩ := hS.2.2.2.2.1 (A 4 - 1) (by omega) (by omega)
  unfold stT at tb
  rw [if_neg (by omega)] at tb
  have x0 := hS.1.1
  have x1 := hS.1.2.1
  have v0 := wr.1
  have v1 := wr.2.1
  have b0 := tb.1
  have b1 := tb.2.1
  rw [rowT_0, show 136 + 60 * (A 4 - 1) = 76 + 60 * A 4 by omega] at v0 b0
  rw [rowT_1, show 137 + 60 * (A 4 - 1) = 77 + 60 * A 4 by omega] at v1 b1
  have r4 : d 109 4 = iI (A 4) := hA.cell (j := 4) (by omega)
  unfold FX11_undo
  rw [a_run_step (st := stX11_undo) (p := (0, [some (.ref 108), none, none], d, e)) (p2 := (37, [some (.ref 108), some (.int (iI (136 + 60 * (A 4 - 1)))), some (.int (iI (0 : Nat)))], uI d 109 4 (iI (A 4 - 1)), e)) (by
    show sX11_undo_0 d e = _
    unfold sX11_undo_0
    simp (disch := omega) only [nI_iI, lN_lJ, iI_0, lJ_0, iI_add, iI_sub, iI_mul, iI_neg, lJ_add, lJ_sub, lJ_mul, lJ_neg, i_l, l_i, iI_cl, iI_inb, iI_eqT, iI_eqF, iI_ltT, iI_ltF, iI_leT, iI_leF, lJ_eqT, lJ_eqF, lJ_cG, lJ_cE, lJ_cL, lJ_cF, lJ_cGE, lJ_cLE, lJ_cNL, lJ_cNG, Int.cast_ofNat_Int, c_0, c_1, Int.natCast_add, Int.add_zero, cond_true, cond_false, Bool.and_self, Bool.and_true, Bool.true_and, Option.bind_some, decide_true, uI_hit, uI_miss, uI_o, uA_o, uA_s, ↓reduceIte, eq_self, true_or, or_true, or_false, false_or, true_and, and_true, false_and, and_false, or_self, and_self, not_false_eq_true, not_true_eq_false, tn_i, r4]) rfl]
  have a0 : MA (uI d 109 4 (iI (A 4 - 1))) 109 (aU A 4 (A 4 - 1)) := hA.put rfl
  obtain ⟨d1, a1, e1, t1⟩ := run_cp (st := stX11_undo) (d := uI d 109 4 (iI (A 4 - 1))) (A := aU A 4 (A 4 - 1)) (dst := 9) (src := 78 + 60 * A 4) (fun k d' => (37, [some (.ref 108), some (.int (iI (136 + 60 * (A 4 - 1)))), some (.int (iI (k : Nat)))], d', e)) 33 a0 (by omega) (fun _ _ => rfl) (fun k d' hk ha hb => by
    show sX11_undo_37 d' e _ _ = _
    unfold sX11_undo_37
    rw [show 78 + 60 * A 4 + (k : Int) = 136 + 60 * (A 4 - 1) + 2 + k by omega]
    simp (disch := omega) only [nI_iI, lN_lJ, iI_0, lJ_0, iI_add, iI_sub, iI_mul, iI_neg, lJ_add, lJ_sub, lJ_mul, lJ_neg, i_l, l_i, iI_cl, iI_inb, iI_eqT, iI_eqF, iI_ltT, iI_ltF, iI_leT, iI_leF, lJ_eqT, lJ_eqF, lJ_cG, lJ_cE, lJ_cL, lJ_cF, lJ_cGE, lJ_cLE, lJ_cNL, lJ_cNG, Int.cast_ofNat_Int, c_0, c_1, Int.natCast_add, Int.add_zero, cond_true, cond_false, Bool.and_self, Bool.and_true, Bool.true_and, Option.bind_some, decide_true, uI_hit, uI_miss, uI_o, uA_o, uA_s, ↓reduceIte, eq_self, true_or, or_true, or_false, false_or, true_and, and_true, false_and, and_false, or_self, and_self, not_false_eq_true, not_true_eq_false, tn_i])
  rw [t1]
  -- the table behind the first loop
  generalize hA1 : cpS (aU A 4 (A 4 - 1)) 9 (78 + 60 * A 4) (33 : Nat) = A1 at a1
  have o1 : ∀ j : Int, j ≠ 4 → (j < 9 ∨ 42 ≤ j) → A1 j = A j := fun j a b => by rw [← hA1, cpS_out (by omega), aU_miss a]
  have i1 : ∀ j : Int, 9 ≤ j → j < 42 → A1 j = A (78 + 60 * A 4 + (j - 9)) := fun j a b => by rw [← hA1, cpS_in (by omega), aU_miss (by omega)]
  have f1 : A1 4 = A 4 - 1 := by rw [← hA1, cpS_out (by omega), aU_hit rfl]
  have q0 := a1.cell (j := 136 + 60 * (A 4 - 1)) (by omega)
  rw [o1 _ (by omega) (by omega), show 136 + 60 * (A 4 - 1) = 76 + 60 * A 4 by omega] at q0
  rw [a_run_step (st := stX11_undo) (p2 := (75, [some (.ref 108), some (.int (iI (136 + 60 * (A 4 - 1)))), some (.int (iI (A (76 + 60 * A 4))))], d1, e)) (by
    show sX11_undo_37 d1 e _ _ = _
    unfold sX11_undo_37
    rw [show 136 + 60 * (A 4 - 1) = 76 + 60 * A 4 by omega]
    simp (disch := omega) only [nI_iI, lN_lJ, iI_0, lJ_0, iI_add, iI_sub, iI_mul, iI_neg, lJ_add, lJ_sub, lJ_mul, lJ_neg, i_l, l_i, iI_cl, iI_inb, iI_eqT, iI_eqF, iI_ltT, iI_ltF, iI_leT, iI_leF, lJ_eqT, lJ_eqF, lJ_cG, lJ_cE, lJ_cL, lJ_cF, lJ_cGE, lJ_cLE, lJ_cNL, lJ_cNG, Int.cast_ofNat_Int, c_0, c_1, Int.natCast_add, Int.add_zero, cond_true, cond_false, Bool.and_self, Bool.and_true, Bool.true_and, Option.bind_some, decide_true, uI_hit, uI_miss, uI_o, uA_o, uA_s, ↓reduceIte, eq_self, true_or, or_true, or_false, false_or, true_and, and_true, false_and, and_false, or_self, and_self, not_false_eq_true, not_true_eq_false, tn_i, q0]) rfl]
  -- houses
  have hs : ∀ n : Nat, A (76 + 60 * A 4) + n ≤ A 0 → ∃ d', MA d' 109 (bhS A1 (A (76 + 60 * A 4)) (A (76 + 60 * A 4) + n)) ∧ (∀ o, o ≠ 109 → d' o = d1 o) ∧ a_run stX11_undo (75, [some (.ref 108), some (.int (iI (136 + 60 * (A 4 - 1)))), some (.int (iI (A (76 + 60 * A 4))))], d1, e) = a_run stX11_undo (75, [some (.ref 108), some (.int (iI (136 + 60 * (A 4 - 1)))), some (.int (iI (A (76 + 60 * A 4) + n)))], d', e) := by
    intro n
    induction n with
    | zero =>
      intro _
      refine ⟨d1, a1.ext (fun j _ _ => by unfold bhS; rw [if_neg (by omega)]), fun _ _ => rfl, ?_⟩
      rw [show A (76 + 60 * A 4) + ((0 : Nat) : Int) = A (76 + 60 * A 4) by omega]
    | succ n ih =>
      intro hn
      obtain ⟨d', a2, e2, t2⟩ := ih (by omega)
      obtain ⟨d3, z1, z2, z3⟩ := mq_beginHouse (e := e) a2 (h := A (76 + 60 * A 4) + n) (by omega)
      have c0 : d' 109 0 = iI (A 0) := by
        have := a2.cell (j := 0) (by omega)
        rw [bhS_o (by omega), o1 0 (by omega) (by omega)] at this
        exact this
      refine ⟨d3, z2.ext (fun j _ _ => ?_), fun o ho => by rw [z3 o ho, e2 o ho], t2.trans (a_run_step ?_ rfl)⟩
      · rw [show A (76 + 60 * A 4) + ((n + 1 : Nat) : Int) = A (76 + 60 * A 4) + n + 1 by omega]
        exact bhS_step (by omega) j
      · show sX11_undo_75 d' e _ _ = _
        unfold sX11_undo_75
        rw [show A (76 + 60 * A 4) + ((n + 1 : Nat) : Int) = A (76 + 60 * A 4) + n + 1 by omega]
        simp (disch := omega) only [nI_iI, lN_lJ, iI_0, lJ_0, iI_add, iI_sub, iI_mul, iI_neg, lJ_add, lJ_sub, lJ_mul, lJ_neg, i_l, l_i, iI_cl, iI_inb, iI_eqT, iI_eqF, iI_ltT, iI_ltF, iI_leT, iI_leF, lJ_eqT, lJ_eqF, lJ_cG, lJ_cE, lJ_cL, lJ_cF, lJ_cGE, lJ_cLE, lJ_cNL, lJ_cNG, Int.cast_ofNat_Int, c_0, c_1, Int.natCast_add, Int.add_zero, cond_true, cond_false, Bool.and_self, Bool.and_true, Bool.true_and, Option.bind_some, decide_true, uI_hit, uI_miss, uI_o, uA_o, uA_s, ↓reduceIte, eq_self, true_or, or_true, or_false, false_or, true_and, and_true, false_and, and_false, or_self, and_self, not_false_eq_true, not_true_eq_false, tn_i, c0, z1]
  obtain ⟨d2, a2, e2, t2⟩ := hs (A 0 - A (76 + 60 * A 4)).toNat (by omega)
  rw [show A (76 + 60 * A 4) + ((A 0 - A (76 + 60 * A 4)).toNat : Int) = A 0 by omega] at a2 t2
  rw [t2]
  have c0 : d2 109 0 = iI (A 0) := by
    have := a2.cell (j := 0) (by omega)
    rw [bhS_o (by omega), o1 0 (by omega) (by omega)] at this
    exact this
  have c1 : d2 109 (76 + 60 * A 4 + 1).toNat = iI (A (77 + 60 * A 4)) := by
    have := a2.cell (j := 76 + 60 * A 4 + 1) (by omega)
    rw [bhS_o (by omega), o1 _ (by omega) (by omega)] at this
    rw [this, show 76 + 60 * A 4 + 1 = 77 + 60 * A 4 by omega]
  rw [a_run_step (st := stX11_undo) (p2 := (105, [some (.ref 108), some (.int (iI (136 + 60 * (A 4 - 1)))), some (.int (iI (A (77 + 60 * A 4))))], d2, e)) (by
    show sX11_undo_75 d2 e _ _ = _
    unfold sX11_undo_75
    rw [show 136 + 60 * (A 4 - 1) = 76 + 60 * A 4 by omega]
    simp (disch := omega) only [nI_iI, lN_lJ, iI_0, lJ_0, iI_add, iI_sub, iI_mul, iI_neg, lJ_add, lJ_sub, lJ_mul, lJ_neg, i_l, l_i, iI_cl, iI_inb, iI_eqT, iI_eqF, iI_ltT, iI_ltF, iI_leT, iI_leF, lJ_eqT, lJ_eqF, lJ_cG, lJ_cE, lJ_cL, lJ_cF, lJ_cGE, lJ_cLE, lJ_cNL, lJ_cNG, Int.cast_ofNat_Int, c_0, c_1, Int.natCast_add, Int.add_zero, cond_true, cond_false, Bool.and_self, Bool.and_true, Bool.true_and, Option.bind_some, decide_true, uI_hit, uI_miss, uI_o, uA_o, uA_s, ↓reduceIte, eq_self, true_or, or_true, or_false, false_or, true_and, and_true, false_and, and_false, or_self, and_self, not_false_eq_true, not_true_eq_false, tn_i, c0, c1]) rfl]
  -- cats
  generalize hA2 : bhS A1 (A (76 + 60 * A 4)) (A 0) = A2 at a2
  have o2 : ∀ j : Int, j ≠ 4 → (j < 9 ∨ 42 ≤ j) → A2 j = A j := fun j a b => by rw [← hA2, bhS_o (by omega), o1 j a b]
  have hcs : ∀ n : Nat, A (77 + 60 * A 4) + n ≤ A 1 → ∃ d', MA d' 109 (bcS A2 (A (77 + 60 * A 4)) (A (77 + 60 * A 4) + n)) ∧ (∀ o, o ≠ 109 → d' o = d2 o) ∧ a_run stX11_undo (105, [some (.ref 108), some (.int (iI (136 + 60 * (A 4 - 1)))), some (.int (iI (A (77 + 60 * A 4))))], d2, e) = a_run stX11_undo (105, [some (.ref 108), some (.int (iI (136 + 60 * (A 4 - 1)))), some (.int (iI (A (77 + 60 * A 4) + n)))], d', e) := by
    intro n
    induction n with
    | zero =>
      intro _
      refine ⟨d2, a2.ext (fun j _ _ => by unfold bcS; rw [if_neg (by omega)]), fun _ _ => rfl, ?_⟩
      rw [show A (77 + 60 * A 4) + ((0 : Nat) : Int) = A (77 + 60 * A 4) by omega]
    | succ n ih =>
      intro hn
      obtain ⟨d', a3, e3, t3⟩ := ih (by omega)
      obtain ⟨d3, z1, z2, z3⟩ := mq_beginCat (e := e) a3 (c := A (77 + 60 * A 4) + n) (by omega)
      have c1 : d' 109 1 = iI (A 1) := by
        have := a3.cell (j := 1) (by omega)
        rw [bcS_o (by omega), o2 1 (by omega) (by omega)] at this
        exact this
      refine ⟨d3, z2.ext (fun j _ _ => ?_), fun o ho => by rw [z3 o ho, e3 o ho], t3.trans (a_run_step ?_ rfl)⟩
      · rw [show A (77 + 60 * A 4) + ((n + 1 : Nat) : Int) = A (77 + 60 * A 4) + n + 1 by omega]
        exact bcS_step (by omega) j
      · show sX11_undo_105 d' e _ _ = _
        unfold sX11_undo_105
        rw [show A (77 + 60 * A 4) + ((n + 1 : Nat) : Int) = A (77 + 60 * A 4) + n + 1 by omega]
        simp (disch := omega) only [nI_iI, lN_lJ, iI_0, lJ_0, iI_add, iI_sub, iI_mul, iI_neg, lJ_add, lJ_sub, lJ_mul, lJ_neg, i_l, l_i, iI_cl, iI_inb, iI_eqT, iI_eqF, iI_ltT, iI_ltF, iI_leT, iI_leF, lJ_eqT, lJ_eqF, lJ_cG, lJ_cE, lJ_cL, lJ_cF, lJ_cGE, lJ_cLE, lJ_cNL, lJ_cNG, Int.cast_ofNat_Int, c_0, c_1, Int.natCast_add, Int.add_zero, cond_true, cond_false, Bool.and_self, Bool.and_true, Bool.true_and, Option.bind_some, decide_true, uI_hit, uI_miss, uI_o, uA_o, uA_s, ↓reduceIte, eq_self, true_or, or_true, or_false, false_or, true_and, and_true, false_and, and_false, or_self, and_self, not_false_eq_true, not_true_eq_false, tn_i, c1, z1]
  obtain ⟨d3, a3, e3, t3⟩ := hcs (A 1 - A (77 + 60 * A 4)).toNat (by omega)
  rw [show A (77 + 60 * A 4) + ((A 1 - A (77 + 60 * A 4)).toNat : Int) = A 1 by omega] at a3 t3
  rw [t3]
  have k1 : d3 109 1 = iI (A 1) := by
    have := a3.cell (j := 1) (by omega)
    rw [bcS_o (by omega), o2 1 (by omega) (by omega)] at this
    exact this
  rw [a_run_step (st := stX11_undo) (p2 := (128, [some (.ref 108), some (.int (iI (136 + 60 * (A 4 - 1)))), some (.int (iI (0 : Nat)))], d3, e)) (by
    show sX11_undo_105 d3 e _ _ = _
    unfold sX11_undo_105
    simp (disch := omega) only [nI_iI, lN_lJ, iI_0, lJ_0, iI_add, iI_sub, iI_mul, iI_neg, lJ_add, lJ_sub, lJ_mul, lJ_neg, i_l, l_i, iI_cl, iI_inb, iI_eqT, iI_eqF, iI_ltT, iI_ltF, iI_leT, iI_leF, lJ_eqT, lJ_eqF, lJ_cG, lJ_cE, lJ_cL, lJ_cF, lJ_cGE, lJ_cLE, lJ_cNL, lJ_cNG, Int.cast_ofNat_Int, c_0, c_1, Int.natCast_add, Int.add_zero, cond_true, cond_false, Bool.and_self, Bool.and_true, Bool.true_and, Option.bind_some, decide_true, uI_hit, uI_miss, uI_o, uA_o, uA_s, ↓reduceIte, eq_self, true_or, or_true, or_false, false_or, true_and, and_true, false_and, and_false, or_self, and_self, not_false_eq_true, not_true_eq_false, tn_i, k1]) rfl]
  generalize hA3 : bcS A2 (A (77 + 60 * A 4)) (A 1) = A3 at a3
  have o3 : ∀ j : Int, j ≠ 4 → (j < 9 ∨ 42 ≤ j) → A3 j = A j := fun j a b => by rw [← hA3, bcS_o (by omega), o2 j a b]
  have f3 : A3 4 = A 4 - 1 := by rw [← hA3, bcS_o (by omega), ← hA2, bhS_o (by omega), f1]
  obtain ⟨d4, a4, e4, t4⟩ := run_cp (st := stX11_undo) (d := d3) (A := A3) (dst := 1936) (src := 111 + 60 * A 4) (fun k d' => (128, [some (.ref 108), some (.int (iI (136 + 60 * (A 4 - 1)))), some (.int (iI (k : Nat)))], d', e)) 25 a3 (by omega) (fun _ _ => rfl) (fun k d' hk ha hb => by
    show sX11_undo_128 d' e _ _ = _
    unfold sX11_undo_128
    rw [show 111 + 60 * A 4 + (k : Int) = 136 + 60 * (A 4 - 1) + 2 + 33 + k by omega]
    simp (disch := omega) only [nI_iI, lN_lJ, iI_0, lJ_0, iI_add, iI_sub, iI_mul, iI_neg, lJ_add, lJ_sub, lJ_mul, lJ_neg, i_l, l_i, iI_cl, iI_inb, iI_eqT, iI_eqF, iI_ltT, iI_ltF, iI_leT, iI_leF, lJ_eqT, lJ_eqF, lJ_cG, lJ_cE, lJ_cL, lJ_cF, lJ_cGE, lJ_cLE, lJ_cNL, lJ_cNG, Int.cast_ofNat_Int, c_0, c_1, Int.natCast_add, Int.add_zero, cond_true, cond_false, Bool.and_self, Bool.and_true, Bool.true_and, Option.bind_some, decide_true, uI_hit, uI_miss, uI_o, uA_o, uA_s, ↓reduceIte, eq_self, true_or, or_true, or_false, false_or, true_and, and_true, false_and, and_false, or_self, and_self, not_false_eq_true, not_true_eq_false, tn_i])
  rw [t4]
  have k4 : d4 109 4 = iI (A 4 - 1) := by
    have := a4.cell (j := 4) (by omega)
    rw [cpS_out (by omega), f3] at this
    exact this
  rw [a_run_step (st := stX11_undo) (p2 := (100000, [some (.int (iI (A 4 - 1)))], d4, e)) (by
    show sX11_undo_128 d4 e _ _ = _
    unfold sX11_undo_128
    simp (disch := omega) only [nI_iI, lN_lJ, iI_0, lJ_0, iI_add, iI_sub, iI_mul, iI_neg, lJ_add, lJ_sub, lJ_mul, lJ_neg, i_l, l_i, iI_cl, iI_inb, iI_eqT, iI_eqF, iI_ltT, iI_ltF, iI_leT, iI_leF, lJ_eqT, lJ_eqF, lJ_cG, lJ_cE, lJ_cL, lJ_cF, lJ_cGE, lJ_cLE, lJ_cNL, lJ_cNG, Int.cast_ofNat_Int, c_0, c_1, Int.natCast_add, Int.add_zero, cond_true, cond_false, Bool.and_self, Bool.and_true, Bool.true_and, Option.bind_some, decide_true, uI_hit, uI_miss, uI_o, uA_o, uA_s, ↓reduceIte, eq_self, true_or, or_true, or_false, false_or, true_and, and_true, false_and, and_false, or_self, and_self, not_false_eq_true, not_true_eq_false, tn_i, k4]) rfl, a_run_end]
  refine ⟨d4, rfl, a4.ext (fun j j0 j1 => ?_), fun o ho => by rw [e4 o ho, e3 o ho, e2 o ho, e1 o ho, uI_o ho]⟩
  unfold undoS
  by_cases h : j = 4
  · rw [if_pos h, h, cpS_out (by omega), f3]
  · rw [if_neg h]
    by_cases hb : 1936 ≤ j ∧ j < 1961
    · rw [if_neg (by omega), if_neg (by omega), if_neg (by omega), if_pos hb, cpS_in (by omega)]
      rw [o3 _ (by omega) (by omega)]
    · rw [cpS_out (by omega), ← hA3]
      unfold bcS
      by_cases hc : 12 ≤ j ∧ j < 30 ∧ A (77 + 60 * A 4) ≤ (j - 12) / 3 ∧ (j - 12) / 3 < A 1
      · rw [if_pos hc, if_pos hc, o2 _ (by omega) (by omega)]
      · rw [if_neg hc, if_neg hc, ← hA2]
        unfold bhS
        by_cases hh : 30 ≤ j ∧ j < 42 ∧ A (76 + 60 * A 4) ≤ (j - 30) / 2 ∧ (j - 30) / 2 < A 0
        · rw [if_pos hh, if_pos hh, o1 _ (by omega) (by omega)]
        · rw [if_neg hh, if_neg hh]
          by_cases h9 : 9 ≤ j ∧ j < 42
          · rw [if_pos h9, i1 j h9.1 h9.2]
          · rw [if_neg h9, if_neg hb, o1 j h (by omega)]
