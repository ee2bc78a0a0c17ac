/-! ===== an image, and back to it ===== -/
theorem RW.mv {d d' : aI} {o o' : Nat} {r : Int} {R : Int → Int} (h : RW d o r R) (e : ∀ j : Nat, r ≤ (j : Int) → (j : Int) < r + 60 → d' o' j = d o j) (w : R 1 ≤ 6 ∧ R 0 ≤ 6 ∧ R 11 ≤ 25) (hr : 0 ≤ r) : RW d' o' r R := by
  obtain ⟨h0, h1, h2, h3, h4, hc, hh, hb⟩ := h
  refine ⟨by rw [e _ (by omega) (by omega)]; exact h0, by rw [e _ (by omega) (by omega)]; exact h1, by rw [e _ (by omega) (by omega)]; exact h2, by rw [e _ (by omega) (by omega)]; exact h3, by rw [e _ (by omega) (by omega)]; exact h4, fun c c1 => ?_, fun h h1 => ?_, fun i i1 => ?_⟩
  · rw [e _ (by omega) (by omega), e _ (by omega) (by omega), e _ (by omega) (by omega)]
    exact hc c c1
  · rw [e _ (by omega) (by omega), e _ (by omega) (by omega)]
    exact hh h h1
  · rw [e _ (by omega) (by omega)]
    exact hb i i1
theorem nb_n0 {d d' : aI} {e : aJ} (h1 : d' 31 = d 31) (h2 : d' 3 = d 3) : stX2_becomen2 (0, [some (.ref 2), some (.ref 30)], d', e) = some (15, [some (.ref 2), some (.ref 30)], uA d' 3 (va_cpy (d 31) (d 3) 0 0 6), e) := by
  show sX2_becomen2_0 d' e = _
  unfold sX2_becomen2_0
  rw [h1, h2]
  rfl
theorem nb_n15 {d d' : aI} {e : aJ} (h1 : d' 32 = d 32) (h2 : d' 4 = d 4) : stX2_becomen2 (15, [some (.ref 2), some (.ref 30)], d', e) = some (30, [some (.ref 2), some (.ref 30)], uA d' 4 (va_cpy (d 32) (d 4) 0 0 6), e) := by
  show sX2_becomen2_15 d' e = _
  unfold sX2_becomen2_15
  rw [h1, h2]
  rfl
theorem nb_n30 {d d' : aI} {e : aJ} (h1 : d' 33 = d 33) (h2 : d' 5 = d 5) : stX2_becomen2 (30, [some (.ref 2), some (.ref 30)], d', e) = some (45, [some (.ref 2), some (.ref 30)], uA d' 5 (va_cpy (d 33) (d 5) 0 0 6), e) := by
  show sX2_becomen2_30 d' e = _
  unfold sX2_becomen2_30
  rw [h1, h2]
  rfl
theorem nb_n45 {d d' : aI} {e : aJ} (h1 : d' 34 = d 34) (h2 : d' 6 = d 6) : stX2_becomen2 (45, [some (.ref 2), some (.ref 30)], d', e) = some (60, [some (.ref 2), some (.ref 30)], uA d' 6 (va_cpy (d 34) (d 6) 0 0 6), e) := by
  show sX2_becomen2_45 d' e = _
  unfold sX2_becomen2_45
  rw [h1, h2]
  rfl
theorem nb_n60 {d d' : aI} {e : aJ} (h1 : d' 35 = d 35) (h2 : d' 7 = d 7) : stX2_becomen2 (60, [some (.ref 2), some (.ref 30)], d', e) = some (75, [some (.ref 2), some (.ref 30)], uA d' 7 (va_cpy (d 35) (d 7) 0 0 6), e) := by
  show sX2_becomen2_60 d' e = _
  unfold sX2_becomen2_60
  rw [h1, h2]
  rfl
theorem nb_n75 {d d' : aI} {e : aJ} (h1 : d' 36 = d 36) (h2 : d' 8 = d 8) : stX2_becomen2 (75, [some (.ref 2), some (.ref 30)], d', e) = some (90, [some (.ref 2), some (.ref 30)], uA d' 8 (va_cpy (d 36) (d 8) 0 0 6), e) := by
  show sX2_becomen2_75 d' e = _
  unfold sX2_becomen2_75
  rw [h1, h2]
  rfl
theorem nb_n90 {d d' : aI} {e : aJ} (h1 : d' 37 = d 37) (h2 : d' 9 = d 9) : stX2_becomen2 (90, [some (.ref 2), some (.ref 30)], d', e) = some (105, [some (.ref 2), some (.ref 30)], uA d' 9 (va_cpy (d 37) (d 9) 0 0 6), e) := by
  show sX2_becomen2_90 d' e = _
  unfold sX2_becomen2_90
  rw [h1, h2]
  rfl
theorem nb_n105 {d d' : aI} {e : aJ} (h1 : d' 38 = d 38) (h2 : d' 10 = d 10) : stX2_becomen2 (105, [some (.ref 2), some (.ref 30)], d', e) = some (120, [some (.ref 2), some (.ref 30)], uA d' 10 (va_cpy (d 38) (d 10) 0 0 25), e) := by
  show sX2_becomen2_105 d' e = _
  unfold sX2_becomen2_105
  rw [h1, h2]
  rfl
theorem nb_night_n {d : aI} {e : aJ} {B : Int → Int} (hC : CN d 29 B) (hW : WN B) : ∃ d', FX2_becomen2 d e = some ((), d', e) ∧ CN d' 1 B ∧ (∀ k, (k < 2 ∨ 10 < k) → d' k = d k) := by
  obtain ⟨w0, w1, w9, w10, w11, wc, wh, wb⟩ := hW
  obtain ⟨q8, q9, q10, q11, q12, q3, q4, q5, q6, q7, qh, qt, qb⟩ := hC
  have g8 : d 30 8 = iI (B 0) := q8
  have g9 : d 30 9 = iI (B 1) := q9
  have g10 : d 30 10 = iI (B 11) := q10
  have g11 : d 30 11 = iI (B 9) := q11
  have g12 : d 30 12 = iI (B 10) := q12
  have a2 : ∀ j : Nat, (j : Int) < B 0 → d 31 j = iI (B (42 + j)) := q3
  have a3 : ∀ j : Nat, (j : Int) < B 0 → d 32 j = iI (B (30 + 2 * j)) := q4
  have a4 : ∀ j : Nat, (j : Int) < B 0 → d 33 j = iI (B (30 + 2 * j + 1)) := q5
  have a5 : ∀ j : Nat, (j : Int) < B 1 → d 34 j = iI (B (54 + j)) := q6
  have a6 : ∀ j : Nat, (j : Int) < B 1 → d 35 j = iI (B (12 + 3 * j)) := q7
  have a7 : ∀ j : Nat, (j : Int) < B 1 → d 36 j = iI (B (12 + 3 * j + 1)) := qh
  have a8 : ∀ j : Nat, (j : Int) < B 1 → d 37 j = iI (B (12 + 3 * j + 2)) := qt
  have a9 : ∀ j : Nat, (j : Int) < B 11 → d 38 j = iI (B (1936 + j)) := qb
  unfold FX2_becomen2
  rw [a_run_step (nb_n0 (d := d) (by simp (disch := omega) only [uI_o, uI_hit, uI_miss, uA_o, uA_s, cpy_in, cpy_out, aU_hit, aU_miss, tn_i, if_pos, if_neg]) (by simp (disch := omega) only [uI_o, uI_hit, uI_miss, uA_o, uA_s, cpy_in, cpy_out, aU_hit, aU_miss, tn_i, if_pos, if_neg])) rfl]
  rw [a_run_step (nb_n15 (d := d) (by simp (disch := omega) only [uI_o, uI_hit, uI_miss, uA_o, uA_s, cpy_in, cpy_out, aU_hit, aU_miss, tn_i, if_pos, if_neg]) (by simp (disch := omega) only [uI_o, uI_hit, uI_miss, uA_o, uA_s, cpy_in, cpy_out, aU_hit, aU_miss, tn_i, if_pos, if_neg])) rfl]
  rw [a_run_step (nb_n30 (d := d) (by simp (disch := omega) only [uI_o, uI_hit, uI_miss, uA_o, uA_s, cpy_in, cpy_out, aU_hit, aU_miss, tn_i, if_pos, if_neg]) (by simp (disch := omega) only [uI_o, uI_hit, uI_miss, uA_o, uA_s, cpy_in, cpy_out, aU_hit, aU_miss, tn_i, if_pos, if_neg])) rfl]
  rw [a_run_step (nb_n45 (d := d) (by simp (disch := omega) only [uI_o, uI_hit, uI_miss, uA_o, uA_s, cpy_in, cpy_out, aU_hit, aU_miss, tn_i, if_pos, if_neg]) (by simp (disch := omega) only [uI_o, uI_hit, uI_miss, uA_o, uA_s, cpy_in, cpy_out, aU_hit, aU_miss, tn_i, if_pos, if_neg])) rfl]
  rw [a_run_step (nb_n60 (d := d) (by simp (disch := omega) only [uI_o, uI_hit, uI_miss, uA_o, uA_s, cpy_in, cpy_out, aU_hit, aU_miss, tn_i, if_pos, if_neg]) (by simp (disch := omega) only [uI_o, uI_hit, uI_miss, uA_o, uA_s, cpy_in, cpy_out, aU_hit, aU_miss, tn_i, if_pos, if_neg])) rfl]
  rw [a_run_step (nb_n75 (d := d) (by simp (disch := omega) only [uI_o, uI_hit, uI_miss, uA_o, uA_s, cpy_in, cpy_out, aU_hit, aU_miss, tn_i, if_pos, if_neg]) (by simp (disch := omega) only [uI_o, uI_hit, uI_miss, uA_o, uA_s, cpy_in, cpy_out, aU_hit, aU_miss, tn_i, if_pos, if_neg])) rfl]
  rw [a_run_step (nb_n90 (d := d) (by simp (disch := omega) only [uI_o, uI_hit, uI_miss, uA_o, uA_s, cpy_in, cpy_out, aU_hit, aU_miss, tn_i, if_pos, if_neg]) (by simp (disch := omega) only [uI_o, uI_hit, uI_miss, uA_o, uA_s, cpy_in, cpy_out, aU_hit, aU_miss, tn_i, if_pos, if_neg])) rfl]
  rw [a_run_step (nb_n105 (d := d) (by simp (disch := omega) only [uI_o, uI_hit, uI_miss, uA_o, uA_s, cpy_in, cpy_out, aU_hit, aU_miss, tn_i, if_pos, if_neg]) (by simp (disch := omega) only [uI_o, uI_hit, uI_miss, uA_o, uA_s, cpy_in, cpy_out, aU_hit, aU_miss, tn_i, if_pos, if_neg])) rfl]
  have ke : ∀ d' : aI, stX2_becomen2 (120, [some (.ref 2), some (.ref 30)], d', e) = some (100000, [], uI (uI (uI (uI (uI d' 2 8 (d' 30 8)) 2 9 (d' 30 9)) 2 10 (d' 30 10)) 2 11 (d' 30 11)) 2 12 (d' 30 12), e) := by
    intro d'
    show sX2_becomen2_120 d' e = _
    unfold sX2_becomen2_120
    simp (disch := omega) only [uI_o]
  rw [a_run_step (ke _) rfl, a_run_end]
  refine ⟨_, rfl, ⟨?_, ?_, ?_, ?_, ?_, fun j hj => ?_, fun j hj => ?_, fun j hj => ?_, fun j hj => ?_, fun j hj => ?_, fun j hj => ?_, fun j hj => ?_, fun j hj => ?_⟩, fun k hk => by simp (disch := omega) only [uI_o, uI_hit, uI_miss, uA_o, uA_s, cpy_in, cpy_out, aU_hit, aU_miss, tn_i, if_pos, if_neg]⟩
  · simp (disch := omega) only [uI_o, uI_hit, uI_miss, uA_o, uA_s, cpy_in, cpy_out, aU_hit, aU_miss, tn_i, if_pos, if_neg, g8]
  · simp (disch := omega) only [uI_o, uI_hit, uI_miss, uA_o, uA_s, cpy_in, cpy_out, aU_hit, aU_miss, tn_i, if_pos, if_neg, g9]
  · simp (disch := omega) only [uI_o, uI_hit, uI_miss, uA_o, uA_s, cpy_in, cpy_out, aU_hit, aU_miss, tn_i, if_pos, if_neg, g10]
  · simp (disch := omega) only [uI_o, uI_hit, uI_miss, uA_o, uA_s, cpy_in, cpy_out, aU_hit, aU_miss, tn_i, if_pos, if_neg, g11]
  · simp (disch := omega) only [uI_o, uI_hit, uI_miss, uA_o, uA_s, cpy_in, cpy_out, aU_hit, aU_miss, tn_i, if_pos, if_neg, g12]
  · simp (disch := omega) only [uI_o, uI_hit, uI_miss, uA_o, uA_s, cpy_in, cpy_out, aU_hit, aU_miss, tn_i, if_pos, if_neg]
    rw [show 0 + (j - 0) = j by omega]
    exact a2 j hj
  · simp (disch := omega) only [uI_o, uI_hit, uI_miss, uA_o, uA_s, cpy_in, cpy_out, aU_hit, aU_miss, tn_i, if_pos, if_neg]
    rw [show 0 + (j - 0) = j by omega]
    exact a3 j hj
  · simp (disch := omega) only [uI_o, uI_hit, uI_miss, uA_o, uA_s, cpy_in, cpy_out, aU_hit, aU_miss, tn_i, if_pos, if_neg]
    rw [show 0 + (j - 0) = j by omega]
    exact a4 j hj
  · simp (disch := omega) only [uI_o, uI_hit, uI_miss, uA_o, uA_s, cpy_in, cpy_out, aU_hit, aU_miss, tn_i, if_pos, if_neg]
    rw [show 0 + (j - 0) = j by omega]
    exact a5 j hj
  · simp (disch := omega) only [uI_o, uI_hit, uI_miss, uA_o, uA_s, cpy_in, cpy_out, aU_hit, aU_miss, tn_i, if_pos, if_neg]
    rw [show 0 + (j - 0) = j by omega]
    exact a6 j hj
  · simp (disch := omega) only [uI_o, uI_hit, uI_miss, uA_o, uA_s, cpy_in, cpy_out, aU_hit, aU_miss, tn_i, if_pos, if_neg]
    rw [show 0 + (j - 0) = j by omega]
    exact a7 j hj
  · simp (disch := omega) only [uI_o, uI_hit, uI_miss, uA_o, uA_s, cpy_in, cpy_out, aU_hit, aU_miss, tn_i, if_pos, if_neg]
    rw [show 0 + (j - 0) = j by omega]
    exact a8 j hj
  · simp (disch := omega) only [uI_o, uI_hit, uI_miss, uA_o, uA_s, cpy_in, cpy_out, aU_hit, aU_miss, tn_i, if_pos, if_neg]
    rw [show 0 + (j - 0) = j by omega]
    exact a9 j hj
theorem nb_steps_n {d : aI} {e : aJ} {B : Int → Int} (hG : RG d 29 B) (hS : SI B) : ∃ d', FX6_becomen11 d e = some ((), d', e) ∧ RG d' 1 B ∧ (∀ k, (k < 11 ∨ 12 < k) → d' k = d k) := by
  obtain ⟨f, f0, f1, g1, g2, gr⟩ := hG
  have g1' : d 39 1 = iI f := g1
  have g2' : d 39 2 = iI (B 4) := g2
  unfold FX6_becomen11
  rw [a_run_step (st := stX6_becomen11) (p := (0, [some (.ref 11), some (.ref 39)], d, e)) (p2 := (100000, [], uI (uI (uA d 12 (va_cpy (d 40) (d 12) 0 0 1800)) 11 1 (d 39 1)) 11 2 (d 39 2), e)) (by
    show sX6_becomen11_0 d e = _
    unfold sX6_becomen11_0
    rfl) rfl, a_run_end]
  refine ⟨_, rfl, ⟨f, f0, f1, ?_, ?_, fun s s0 s1 => ?_⟩, fun k hk => by simp (disch := omega) only [uI_o, uI_hit, uI_miss, uA_o, uA_s, cpy_in, cpy_out, aU_hit, aU_miss, tn_i, if_pos, if_neg]⟩
  · simp (disch := omega) only [uI_o, uI_hit, uI_miss, uA_o, uA_s, cpy_in, cpy_out, aU_hit, aU_miss, tn_i, if_pos, if_neg, g1']
  · simp (disch := omega) only [uI_o, uI_hit, uI_miss, uA_o, uA_s, cpy_in, cpy_out, aU_hit, aU_miss, tn_i, if_pos, if_neg, g2']
  · have h4 := hS.2.1
    have ws := (hS.2.2.2.2.1 s s0 s1).1
    have y0 := ws.1
    have y1 := ws.2.1
    have y11 := ws.2.2.2.2.1
    refine (gr s s0 s1).mv (fun j j0 j1 => ?_) (by omega) (by omega)
    simp (disch := omega) only [uI_o, uI_hit, uI_miss, uA_o, uA_s, cpy_in, cpy_out, aU_hit, aU_miss, tn_i, if_pos, if_neg]
    rw [show 0 + (j - 0) = j by omega]
theorem nb_notes_n12 {d : aI} {e : aJ} {B : Int → Int} (hN : NT d 41 B 5 66 2 10) (hm : d 13 0 = iI 10) (hb : 0 ≤ B 5 ∧ B 5 ≤ 10) : ∃ d', FX3_becomen13 d e = some ((), d', e) ∧ NT d' 13 B 5 66 2 10 ∧ (∀ k, (k < 13 ∨ 16 < k) → d' k = d k) := by
  obtain ⟨n0, n4, n1, n2⟩ := hN
  have n4' : d 41 4 = iI (B 5) := n4
  unfold FX3_becomen13
  rw [a_run_step (st := stX3_becomen13) (p := (0, [some (.ref 13), some (.ref 41), none], d, e)) (p2 := (26, [some (.ref 13), some (.ref 41), some (.int (iI (B 5)))], uA d 14 (va_cpy (d 42) (d 14) 0 0 (B 5).toNat), e)) (by
    show sX3_becomen13_0 d e = _
    unfold sX3_becomen13_0
    simp (disch := omega) only [nI_iI, lN_lJ, iI_0, lJ_0, iI_add, iI_sub, iI_mul, iI_neg, lJ_add, lJ_sub, lJ_mul, lJ_neg, i_l, l_i, iI_cl, iI_inb, iI_eqT, iI_eqF, iI_ltT, iI_ltF, iI_leT, iI_leF, lJ_eqT, lJ_eqF, lJ_cG, lJ_cE, lJ_cL, lJ_cF, lJ_cGE, lJ_cLE, lJ_cNL, lJ_cNG, Int.cast_ofNat_Int, c_0, c_1, Int.natCast_add, Int.add_zero, cond_true, cond_false, Bool.and_self, Bool.and_true, Bool.true_and, Option.bind_some, decide_true, uI_hit, uI_miss, uI_o, uA_o, uA_s, ↓reduceIte, eq_self, true_or, or_true, or_false, false_or, true_and, and_true, false_and, and_false, or_self, and_self, not_false_eq_true, not_true_eq_false, tn_i, n4', hm, iI_minL, decide_eq_true]) rfl]
  rw [a_run_step (st := stX3_becomen13) (p2 := (40, [some (.ref 13), some (.ref 41), some (.int (iI (B 5)))], uA (uA d 14 (va_cpy (d 42) (d 14) 0 0 (B 5).toNat)) 15 (va_cpy (d 43) (d 15) 0 0 (B 5).toNat), e)) (by
    show sX3_becomen13_26 _ e _ = _
    unfold sX3_becomen13_26
    simp (disch := omega) only [nI_iI, lN_lJ, iI_0, lJ_0, iI_add, iI_sub, iI_mul, iI_neg, lJ_add, lJ_sub, lJ_mul, lJ_neg, i_l, l_i, iI_cl, iI_inb, iI_eqT, iI_eqF, iI_ltT, iI_ltF, iI_leT, iI_leF, lJ_eqT, lJ_eqF, lJ_cG, lJ_cE, lJ_cL, lJ_cF, lJ_cGE, lJ_cLE, lJ_cNL, lJ_cNG, Int.cast_ofNat_Int, c_0, c_1, Int.natCast_add, Int.add_zero, cond_true, cond_false, Bool.and_self, Bool.and_true, Bool.true_and, Option.bind_some, decide_true, uI_hit, uI_miss, uI_o, uA_o, uA_s, ↓reduceIte, eq_self, true_or, or_true, or_false, false_or, true_and, and_true, false_and, and_false, or_self, and_self, not_false_eq_true, not_true_eq_false, tn_i, decide_eq_true]) rfl]
  rw [a_run_step (st := stX3_becomen13) (p2 := (54, [some (.ref 13), some (.ref 41), some (.int (iI (B 5)))], uA (uA (uA d 14 (va_cpy (d 42) (d 14) 0 0 (B 5).toNat)) 15 (va_cpy (d 43) (d 15) 0 0 (B 5).toNat)) 16 (va_cpy (d 44) (d 16) 0 0 (B 5).toNat), e)) (by
    show sX3_becomen13_40 _ e _ = _
    unfold sX3_becomen13_40
    simp (disch := omega) only [nI_iI, lN_lJ, iI_0, lJ_0, iI_add, iI_sub, iI_mul, iI_neg, lJ_add, lJ_sub, lJ_mul, lJ_neg, i_l, l_i, iI_cl, iI_inb, iI_eqT, iI_eqF, iI_ltT, iI_ltF, iI_leT, iI_leF, lJ_eqT, lJ_eqF, lJ_cG, lJ_cE, lJ_cL, lJ_cF, lJ_cGE, lJ_cLE, lJ_cNL, lJ_cNG, Int.cast_ofNat_Int, c_0, c_1, Int.natCast_add, Int.add_zero, cond_true, cond_false, Bool.and_self, Bool.and_true, Bool.true_and, Option.bind_some, decide_true, uI_hit, uI_miss, uI_o, uA_o, uA_s, ↓reduceIte, eq_self, true_or, or_true, or_false, false_or, true_and, and_true, false_and, and_false, or_self, and_self, not_false_eq_true, not_true_eq_false, tn_i, decide_eq_true]) rfl]
  rw [a_run_step (st := stX3_becomen13) (p2 := (100000, [], uI (uA (uA (uA d 14 (va_cpy (d 42) (d 14) 0 0 (B 5).toNat)) 15 (va_cpy (d 43) (d 15) 0 0 (B 5).toNat)) 16 (va_cpy (d 44) (d 16) 0 0 (B 5).toNat)) 13 4 (iI (B 5)), e)) rfl rfl, a_run_end]
  refine ⟨_, rfl, ⟨?_, ?_, fun j hj => ?_, fun j hj => ?_⟩, fun k hk => by simp (disch := omega) only [uI_o, uI_hit, uI_miss, uA_o, uA_s, cpy_in, cpy_out, aU_hit, aU_miss, tn_i, if_pos, if_neg]⟩
  · simp (disch := omega) only [uI_o, uI_hit, uI_miss, uA_o, uA_s, cpy_in, cpy_out, aU_hit, aU_miss, tn_i, if_pos, if_neg, hm]
  · simp (disch := omega) only [uI_o, uI_hit, uI_miss, uA_o, uA_s, cpy_in, cpy_out, aU_hit, aU_miss, tn_i, if_pos, if_neg]
  · simp (disch := omega) only [uI_o, uI_hit, uI_miss, uA_o, uA_s, cpy_in, cpy_out, aU_hit, aU_miss, tn_i, if_pos, if_neg]
    rw [show 0 + (j - 0) = j by omega]
    exact n1 j hj
  · simp (disch := omega) only [uI_o, uI_hit, uI_miss, uA_o, uA_s, cpy_in, cpy_out, aU_hit, aU_miss, tn_i, if_pos, if_neg]
    rw [show 0 + (j - 0) = j by omega]
    exact n2 j hj
theorem nb_notes_n16 {d : aI} {e : aJ} {B : Int → Int} (hN : NT d 45 B 6 86 2 8) (hm : d 17 0 = iI 8) (hb : 0 ≤ B 6 ∧ B 6 ≤ 8) : ∃ d', FX3_becomen17 d e = some ((), d', e) ∧ NT d' 17 B 6 86 2 8 ∧ (∀ k, (k < 17 ∨ 20 < k) → d' k = d k) := by
  obtain ⟨n0, n4, n1, n2⟩ := hN
  have n4' : d 45 4 = iI (B 6) := n4
  unfold FX3_becomen17
  rw [a_run_step (st := stX3_becomen17) (p := (0, [some (.ref 17), some (.ref 45), none], d, e)) (p2 := (26, [some (.ref 17), some (.ref 45), some (.int (iI (B 6)))], uA d 18 (va_cpy (d 46) (d 18) 0 0 (B 6).toNat), e)) (by
    show sX3_becomen17_0 d e = _
    unfold sX3_becomen17_0
    simp (disch := omega) only [nI_iI, lN_lJ, iI_0, lJ_0, iI_add, iI_sub, iI_mul, iI_neg, lJ_add, lJ_sub, lJ_mul, lJ_neg, i_l, l_i, iI_cl, iI_inb, iI_eqT, iI_eqF, iI_ltT, iI_ltF, iI_leT, iI_leF, lJ_eqT, lJ_eqF, lJ_cG, lJ_cE, lJ_cL, lJ_cF, lJ_cGE, lJ_cLE, lJ_cNL, lJ_cNG, Int.cast_ofNat_Int, c_0, c_1, Int.natCast_add, Int.add_zero, cond_true, cond_false, Bool.and_self, Bool.and_true, Bool.true_and, Option.bind_some, decide_true, uI_hit, uI_miss, uI_o, uA_o, uA_s, ↓reduceIte, eq_self, true_or, or_true, or_false, false_or, true_and, and_true, false_and, and_false, or_self, and_self, not_false_eq_true, not_true_eq_false, tn_i, n4', hm, iI_minL, decide_eq_true]) rfl]
  rw [a_run_step (st := stX3_becomen17) (p2 := (40, [some (.ref 17), some (.ref 45), some (.int (iI (B 6)))], uA (uA d 18 (va_cpy (d 46) (d 18) 0 0 (B 6).toNat)) 19 (va_cpy (d 47) (d 19) 0 0 (B 6).toNat), e)) (by
    show sX3_becomen17_26 _ e _ = _
    unfold sX3_becomen17_26
    simp (disch := omega) only [nI_iI, lN_lJ, iI_0, lJ_0, iI_add, iI_sub, iI_mul, iI_neg, lJ_add, lJ_sub, lJ_mul, lJ_neg, i_l, l_i, iI_cl, iI_inb, iI_eqT, iI_eqF, iI_ltT, iI_ltF, iI_leT, iI_leF, lJ_eqT, lJ_eqF, lJ_cG, lJ_cE, lJ_cL, lJ_cF, lJ_cGE, lJ_cLE, lJ_cNL, lJ_cNG, Int.cast_ofNat_Int, c_0, c_1, Int.natCast_add, Int.add_zero, cond_true, cond_false, Bool.and_self, Bool.and_true, Bool.true_and, Option.bind_some, decide_true, uI_hit, uI_miss, uI_o, uA_o, uA_s, ↓reduceIte, eq_self, true_or, or_true, or_false, false_or, true_and, and_true, false_and, and_false, or_self, and_self, not_false_eq_true, not_true_eq_false, tn_i, decide_eq_true]) rfl]
  rw [a_run_step (st := stX3_becomen17) (p2 := (54, [some (.ref 17), some (.ref 45), some (.int (iI (B 6)))], uA (uA (uA d 18 (va_cpy (d 46) (d 18) 0 0 (B 6).toNat)) 19 (va_cpy (d 47) (d 19) 0 0 (B 6).toNat)) 20 (va_cpy (d 48) (d 20) 0 0 (B 6).toNat), e)) (by
    show sX3_becomen17_40 _ e _ = _
    unfold sX3_becomen17_40
    simp (disch := omega) only [nI_iI, lN_lJ, iI_0, lJ_0, iI_add, iI_sub, iI_mul, iI_neg, lJ_add, lJ_sub, lJ_mul, lJ_neg, i_l, l_i, iI_cl, iI_inb, iI_eqT, iI_eqF, iI_ltT, iI_ltF, iI_leT, iI_leF, lJ_eqT, lJ_eqF, lJ_cG, lJ_cE, lJ_cL, lJ_cF, lJ_cGE, lJ_cLE, lJ_cNL, lJ_cNG, Int.cast_ofNat_Int, c_0, c_1, Int.natCast_add, Int.add_zero, cond_true, cond_false, Bool.and_self, Bool.and_true, Bool.true_and, Option.bind_some, decide_true, uI_hit, uI_miss, uI_o, uA_o, uA_s, ↓reduceIte, eq_self, true_or, or_true, or_false, false_or, true_and, and_true, false_and, and_false, or_self, and_self, not_false_eq_true, not_true_eq_false, tn_i, decide_eq_true]) rfl]
  rw [a_run_step (st := stX3_becomen17) (p2 := (100000, [], uI (uA (uA (uA d 18 (va_cpy (d 46) (d 18) 0 0 (B 6).toNat)) 19 (va_cpy (d 47) (d 19) 0 0 (B 6).toNat)) 20 (va_cpy (d 48) (d 20) 0 0 (B 6).toNat)) 17 4 (iI (B 6)), e)) rfl rfl, a_run_end]
  refine ⟨_, rfl, ⟨?_, ?_, fun j hj => ?_, fun j hj => ?_⟩, fun k hk => by simp (disch := omega) only [uI_o, uI_hit, uI_miss, uA_o, uA_s, cpy_in, cpy_out, aU_hit, aU_miss, tn_i, if_pos, if_neg]⟩
  · simp (disch := omega) only [uI_o, uI_hit, uI_miss, uA_o, uA_s, cpy_in, cpy_out, aU_hit, aU_miss, tn_i, if_pos, if_neg, hm]
  · simp (disch := omega) only [uI_o, uI_hit, uI_miss, uA_o, uA_s, cpy_in, cpy_out, aU_hit, aU_miss, tn_i, if_pos, if_neg]
  · simp (disch := omega) only [uI_o, uI_hit, uI_miss, uA_o, uA_s, cpy_in, cpy_out, aU_hit, aU_miss, tn_i, if_pos, if_neg]
    rw [show 0 + (j - 0) = j by omega]
    exact n1 j hj
  · simp (disch := omega) only [uI_o, uI_hit, uI_miss, uA_o, uA_s, cpy_in, cpy_out, aU_hit, aU_miss, tn_i, if_pos, if_neg]
    rw [show 0 + (j - 0) = j by omega]
    exact n2 j hj
theorem nb_notes_n20 {d : aI} {e : aJ} {B : Int → Int} (hN : NT d 49 B 7 102 2 5) (hm : d 21 0 = iI 5) (hb : 0 ≤ B 7 ∧ B 7 ≤ 5) : ∃ d', FX3_becomen21 d e = some ((), d', e) ∧ NT d' 21 B 7 102 2 5 ∧ (∀ k, (k < 21 ∨ 24 < k) → d' k = d k) := by
  obtain ⟨n0, n4, n1, n2⟩ := hN
  have n4' : d 49 4 = iI (B 7) := n4
  unfold FX3_becomen21
  rw [a_run_step (st := stX3_becomen21) (p := (0, [some (.ref 21), some (.ref 49), none], d, e)) (p2 := (26, [some (.ref 21), some (.ref 49), some (.int (iI (B 7)))], uA d 22 (va_cpy (d 50) (d 22) 0 0 (B 7).toNat), e)) (by
    show sX3_becomen21_0 d e = _
    unfold sX3_becomen21_0
    simp (disch := omega) only [nI_iI, lN_lJ, iI_0, lJ_0, iI_add, iI_sub, iI_mul, iI_neg, lJ_add, lJ_sub, lJ_mul, lJ_neg, i_l, l_i, iI_cl, iI_inb, iI_eqT, iI_eqF, iI_ltT, iI_ltF, iI_leT, iI_leF, lJ_eqT, lJ_eqF, lJ_cG, lJ_cE, lJ_cL, lJ_cF, lJ_cGE, lJ_cLE, lJ_cNL, lJ_cNG, Int.cast_ofNat_Int, c_0, c_1, Int.natCast_add, Int.add_zero, cond_true, cond_false, Bool.and_self, Bool.and_true, Bool.true_and, Option.bind_some, decide_true, uI_hit, uI_miss, uI_o, uA_o, uA_s, ↓reduceIte, eq_self, true_or, or_true, or_false, false_or, true_and, and_true, false_and, and_false, or_self, and_self, not_false_eq_true, not_true_eq_false, tn_i, n4', hm, iI_minL, decide_eq_true]) rfl]
  rw [a_run_step (st := stX3_becomen21) (p2 := (40, [some (.ref 21), some (.ref 49), some (.int (iI (B 7)))], uA (uA d 22 (va_cpy (d 50) (d 22) 0 0 (B 7).toNat)) 23 (va_cpy (d 51) (d 23) 0 0 (B 7).toNat), e)) (by
    show sX3_becomen21_26 _ e _ = _
    unfold sX3_becomen21_26
    simp (disch := omega) only [nI_iI, lN_lJ, iI_0, lJ_0, iI_add, iI_sub, iI_mul, iI_neg, lJ_add, lJ_sub, lJ_mul, lJ_neg, i_l, l_i, iI_cl, iI_inb, iI_eqT, iI_eqF, iI_ltT, iI_ltF, iI_leT, iI_leF, lJ_eqT, lJ_eqF, lJ_cG, lJ_cE, lJ_cL, lJ_cF, lJ_cGE, lJ_cLE, lJ_cNL, lJ_cNG, Int.cast_ofNat_Int, c_0, c_1, Int.natCast_add, Int.add_zero, cond_true, cond_false, Bool.and_self, Bool.and_true, Bool.true_and, Option.bind_some, decide_true, uI_hit, uI_miss, uI_o, uA_o, uA_s, ↓reduceIte, eq_self, true_or, or_true, or_false, false_or, true_and, and_true, false_and, and_false, or_self, and_self, not_false_eq_true, not_true_eq_false, tn_i, decide_eq_true]) rfl]
  rw [a_run_step (st := stX3_becomen21) (p2 := (54, [some (.ref 21), some (.ref 49), some (.int (iI (B 7)))], uA (uA (uA d 22 (va_cpy (d 50) (d 22) 0 0 (B 7).toNat)) 23 (va_cpy (d 51) (d 23) 0 0 (B 7).toNat)) 24 (va_cpy (d 52) (d 24) 0 0 (B 7).toNat), e)) (by
    show sX3_becomen21_40 _ e _ = _
    unfold sX3_becomen21_40
    simp (disch := omega) only [nI_iI, lN_lJ, iI_0, lJ_0, iI_add, iI_sub, iI_mul, iI_neg, lJ_add, lJ_sub, lJ_mul, lJ_neg, i_l, l_i, iI_cl, iI_inb, iI_eqT, iI_eqF, iI_ltT, iI_ltF, iI_leT, iI_leF, lJ_eqT, lJ_eqF, lJ_cG, lJ_cE, lJ_cL, lJ_cF, lJ_cGE, lJ_cLE, lJ_cNL, lJ_cNG, Int.cast_ofNat_Int, c_0, c_1, Int.natCast_add, Int.add_zero, cond_true, cond_false, Bool.and_self, Bool.and_true, Bool.true_and, Option.bind_some, decide_true, uI_hit, uI_miss, uI_o, uA_o, uA_s, ↓reduceIte, eq_self, true_or, or_true, or_false, false_or, true_and, and_true, false_and, and_false, or_self, and_self, not_false_eq_true, not_true_eq_false, tn_i, decide_eq_true]) rfl]
  rw [a_run_step (st := stX3_becomen21) (p2 := (100000, [], uI (uA (uA (uA d 22 (va_cpy (d 50) (d 22) 0 0 (B 7).toNat)) 23 (va_cpy (d 51) (d 23) 0 0 (B 7).toNat)) 24 (va_cpy (d 52) (d 24) 0 0 (B 7).toNat)) 21 4 (iI (B 7)), e)) rfl rfl, a_run_end]
  refine ⟨_, rfl, ⟨?_, ?_, fun j hj => ?_, fun j hj => ?_⟩, fun k hk => by simp (disch := omega) only [uI_o, uI_hit, uI_miss, uA_o, uA_s, cpy_in, cpy_out, aU_hit, aU_miss, tn_i, if_pos, if_neg]⟩
  · simp (disch := omega) only [uI_o, uI_hit, uI_miss, uA_o, uA_s, cpy_in, cpy_out, aU_hit, aU_miss, tn_i, if_pos, if_neg, hm]
  · simp (disch := omega) only [uI_o, uI_hit, uI_miss, uA_o, uA_s, cpy_in, cpy_out, aU_hit, aU_miss, tn_i, if_pos, if_neg]
  · simp (disch := omega) only [uI_o, uI_hit, uI_miss, uA_o, uA_s, cpy_in, cpy_out, aU_hit, aU_miss, tn_i, if_pos, if_neg]
    rw [show 0 + (j - 0) = j by omega]
    exact n1 j hj
  · simp (disch := omega) only [uI_o, uI_hit, uI_miss, uA_o, uA_s, cpy_in, cpy_out, aU_hit, aU_miss, tn_i, if_pos, if_neg]
    rw [show 0 + (j - 0) = j by omega]
    exact n2 j hj
theorem nb_notes_n24 {d : aI} {e : aJ} {B : Int → Int} (hN : NT d 53 B 8 112 3 8) (h3 : ∀ j : Nat, (j : Int) < B 8 → d 56 j = iI (B (112 + 3 * j + 2))) (hm : d 25 0 = iI 8) (hb : 0 ≤ B 8 ∧ B 8 ≤ 8) : ∃ d', FX3_becomen25 d e = some ((), d', e) ∧ NT d' 25 B 8 112 3 8 ∧ (∀ j : Nat, (j : Int) < B 8 → d' 28 j = iI (B (112 + 3 * j + 2))) ∧ (∀ k, (k < 25 ∨ 28 < k) → d' k = d k) := by
  obtain ⟨n0, n4, n1, n2⟩ := hN
  have n4' : d 53 4 = iI (B 8) := n4
  unfold FX3_becomen25
  rw [a_run_step (st := stX3_becomen25) (p := (0, [some (.ref 25), some (.ref 53), none], d, e)) (p2 := (26, [some (.ref 25), some (.ref 53), some (.int (iI (B 8)))], uA d 26 (va_cpy (d 54) (d 26) 0 0 (B 8).toNat), e)) (by
    show sX3_becomen25_0 d e = _
    unfold sX3_becomen25_0
    simp (disch := omega) only [nI_iI, lN_lJ, iI_0, lJ_0, iI_add, iI_sub, iI_mul, iI_neg, lJ_add, lJ_sub, lJ_mul, lJ_neg, i_l, l_i, iI_cl, iI_inb, iI_eqT, iI_eqF, iI_ltT, iI_ltF, iI_leT, iI_leF, lJ_eqT, lJ_eqF, lJ_cG, lJ_cE, lJ_cL, lJ_cF, lJ_cGE, lJ_cLE, lJ_cNL, lJ_cNG, Int.cast_ofNat_Int, c_0, c_1, Int.natCast_add, Int.add_zero, cond_true, cond_false, Bool.and_self, Bool.and_true, Bool.true_and, Option.bind_some, decide_true, uI_hit, uI_miss, uI_o, uA_o, uA_s, ↓reduceIte, eq_self, true_or, or_true, or_false, false_or, true_and, and_true, false_and, and_false, or_self, and_self, not_false_eq_true, not_true_eq_false, tn_i, n4', hm, iI_minL, decide_eq_true]) rfl]
  rw [a_run_step (st := stX3_becomen25) (p2 := (40, [some (.ref 25), some (.ref 53), some (.int (iI (B 8)))], uA (uA d 26 (va_cpy (d 54) (d 26) 0 0 (B 8).toNat)) 27 (va_cpy (d 55) (d 27) 0 0 (B 8).toNat), e)) (by
    show sX3_becomen25_26 _ e _ = _
    unfold sX3_becomen25_26
    simp (disch := omega) only [nI_iI, lN_lJ, iI_0, lJ_0, iI_add, iI_sub, iI_mul, iI_neg, lJ_add, lJ_sub, lJ_mul, lJ_neg, i_l, l_i, iI_cl, iI_inb, iI_eqT, iI_eqF, iI_ltT, iI_ltF, iI_leT, iI_leF, lJ_eqT, lJ_eqF, lJ_cG, lJ_cE, lJ_cL, lJ_cF, lJ_cGE, lJ_cLE, lJ_cNL, lJ_cNG, Int.cast_ofNat_Int, c_0, c_1, Int.natCast_add, Int.add_zero, cond_true, cond_false, Bool.and_self, Bool.and_true, Bool.true_and, Option.bind_some, decide_true, uI_hit, uI_miss, uI_o, uA_o, uA_s, ↓reduceIte, eq_self, true_or, or_true, or_false, false_or, true_and, and_true, false_and, and_false, or_self, and_self, not_false_eq_true, not_true_eq_false, tn_i, decide_eq_true]) rfl]
  rw [a_run_step (st := stX3_becomen25) (p2 := (54, [some (.ref 25), some (.ref 53), some (.int (iI (B 8)))], uA (uA (uA d 26 (va_cpy (d 54) (d 26) 0 0 (B 8).toNat)) 27 (va_cpy (d 55) (d 27) 0 0 (B 8).toNat)) 28 (va_cpy (d 56) (d 28) 0 0 (B 8).toNat), e)) (by
    show sX3_becomen25_40 _ e _ = _
    unfold sX3_becomen25_40
    simp (disch := omega) only [nI_iI, lN_lJ, iI_0, lJ_0, iI_add, iI_sub, iI_mul, iI_neg, lJ_add, lJ_sub, lJ_mul, lJ_neg, i_l, l_i, iI_cl, iI_inb, iI_eqT, iI_eqF, iI_ltT, iI_ltF, iI_leT, iI_leF, lJ_eqT, lJ_eqF, lJ_cG, lJ_cE, lJ_cL, lJ_cF, lJ_cGE, lJ_cLE, lJ_cNL, lJ_cNG, Int.cast_ofNat_Int, c_0, c_1, Int.natCast_add, Int.add_zero, cond_true, cond_false, Bool.and_self, Bool.and_true, Bool.true_and, Option.bind_some, decide_true, uI_hit, uI_miss, uI_o, uA_o, uA_s, ↓reduceIte, eq_self, true_or, or_true, or_false, false_or, true_and, and_true, false_and, and_false, or_self, and_self, not_false_eq_true, not_true_eq_false, tn_i, decide_eq_true]) rfl]
  rw [a_run_step (st := stX3_becomen25) (p2 := (100000, [], uI (uA (uA (uA d 26 (va_cpy (d 54) (d 26) 0 0 (B 8).toNat)) 27 (va_cpy (d 55) (d 27) 0 0 (B 8).toNat)) 28 (va_cpy (d 56) (d 28) 0 0 (B 8).toNat)) 25 4 (iI (B 8)), e)) rfl rfl, a_run_end]
  refine ⟨_, rfl, ⟨?_, ?_, fun j hj => ?_, fun j hj => ?_⟩, fun j hj => ?_, fun k hk => by simp (disch := omega) only [uI_o, uI_hit, uI_miss, uA_o, uA_s, cpy_in, cpy_out, aU_hit, aU_miss, tn_i, if_pos, if_neg]⟩
  · simp (disch := omega) only [uI_o, uI_hit, uI_miss, uA_o, uA_s, cpy_in, cpy_out, aU_hit, aU_miss, tn_i, if_pos, if_neg, hm]
  · simp (disch := omega) only [uI_o, uI_hit, uI_miss, uA_o, uA_s, cpy_in, cpy_out, aU_hit, aU_miss, tn_i, if_pos, if_neg]
  · simp (disch := omega) only [uI_o, uI_hit, uI_miss, uA_o, uA_s, cpy_in, cpy_out, aU_hit, aU_miss, tn_i, if_pos, if_neg]
    rw [show 0 + (j - 0) = j by omega]
    exact n1 j hj
  · simp (disch := omega) only [uI_o, uI_hit, uI_miss, uA_o, uA_s, cpy_in, cpy_out, aU_hit, aU_miss, tn_i, if_pos, if_neg]
    rw [show 0 + (j - 0) = j by omega]
    exact n2 j hj
  · simp (disch := omega) only [uI_o, uI_hit, uI_miss, uA_o, uA_s, cpy_in, cpy_out, aU_hit, aU_miss, tn_i, if_pos, if_neg]
    rw [show 0 + (j - 0) = j by omega]
    exact h3 j hj
theorem nb_world_n {d : aI} {e : aJ} {A B : Int → Int} (hB : CW d 29 B) (hA : CW d 1 A) (hS : SI B) : ∃ d', FX9_becomen1 d e = some ((), d', e) ∧ CW d' 1 B ∧ (∀ k, (k < 1 ∨ 28 < k) → d' k = d k) := by
  obtain ⟨c1, c2, c3, c4, c5, c6, c7, c8, c9⟩ := hB
  obtain ⟨a1, a2, a3, a4, a5, a6, a7, a8, a9⟩ := hA
  obtain ⟨s1, s2, s3, s4, s5, s6, s7, s8, s9⟩ := hS
  obtain ⟨d1, p1, p2, p3⟩ := nb_night_n (e := e) c1 s1
  obtain ⟨d2, q1, q2, q3⟩ := nb_steps_n (d := d1) (e := e) (c2.of (fun k a b => p3 k (by omega))) ⟨s1, s2, s3, s4, s5, s6, s7, s8, s9⟩
  have f2 : ∀ k, (k < 2 ∨ 12 < k) → d2 k = d k := fun k hk => by rw [q3 k (by omega), p3 k (by omega)]
  obtain ⟨d3, r1, r2, r3⟩ := nb_notes_n12 (d := d2) (e := e) (c5.of (fun k a b => f2 k (by omega))) (by rw [f2 13 (by omega)]; exact a5.1) s6.1
  have f3 : ∀ k, (k < 2 ∨ 16 < k) → d3 k = d k := fun k hk => by rw [r3 k (by omega), f2 k (by omega)]
  obtain ⟨d4, t1, t2, t3⟩ := nb_notes_n16 (d := d3) (e := e) (c6.of (fun k a b => f3 k (by omega))) (by rw [f3 17 (by omega)]; exact a6.1) s7.1
  have f4 : ∀ k, (k < 2 ∨ 20 < k) → d4 k = d k := fun k hk => by rw [t3 k (by omega), f3 k (by omega)]
  obtain ⟨d5, u1, u2, u3⟩ := nb_notes_n20 (d := d4) (e := e) (c7.of (fun k a b => f4 k (by omega))) (by rw [f4 21 (by omega)]; exact a7.1) s8.1
  have f5 : ∀ k, (k < 2 ∨ 24 < k) → d5 k = d k := fun k hk => by rw [u3 k (by omega), f4 k (by omega)]
  obtain ⟨d6, v1, v2, v3, v4⟩ := nb_notes_n24 (d := d5) (e := e) (c8.of (fun k a b => f5 k (by omega))) (by rw [f5 56 (by omega)]; exact c9) (by rw [f5 25 (by omega)]; exact a8.1) s9.1
  have f6 : ∀ k, (k < 2 ∨ 28 < k) → d6 k = d k := fun k hk => by rw [v4 k (by omega), f5 k (by omega)]
  refine ⟨uI (uI d6 1 6 (d6 29 6)) 1 7 (d6 29 7), ?_, ⟨?_, ?_, ?_, ?_, ?_, ?_, ?_, ?_, ?_⟩, fun k hk => by rw [uI_o (by omega), uI_o (by omega), f6 k (by omega)]⟩
  · unfold FX9_becomen1
    rw [a_run_step (st := stX9_becomen1) (p := (0, [some (.ref 1), some (.ref 29)], d, e)) (p2 := (100000, [], uI (uI d6 1 6 (d6 29 6)) 1 7 (d6 29 7), e)) (by
      show sX9_becomen1_0 d e = _
      unfold sX9_becomen1_0
      simp (disch := omega) only [nI_iI, lN_lJ, iI_0, lJ_0, iI_add, iI_sub, iI_mul, iI_neg, lJ_add, lJ_sub, lJ_mul, lJ_neg, i_l, l_i, iI_cl, iI_inb, iI_eqT, iI_eqF, iI_ltT, iI_ltF, iI_leT, iI_leF, lJ_eqT, lJ_eqF, lJ_cG, lJ_cE, lJ_cL, lJ_cF, lJ_cGE, lJ_cLE, lJ_cNL, lJ_cNG, Int.cast_ofNat_Int, c_0, c_1, Int.natCast_add, Int.add_zero, cond_true, cond_false, Bool.and_self, Bool.and_true, Bool.true_and, Option.bind_some, decide_true, uI_hit, uI_miss, uI_o, uA_o, uA_s, ↓reduceIte, eq_self, true_or, or_true, or_false, false_or, true_and, and_true, false_and, and_false, or_self, and_self, not_false_eq_true, not_true_eq_false, tn_i, p1, q1, r1, t1, u1, v1]) rfl, a_run_end]
    rfl
  · exact p2.of (fun k a b => by rw [uI_o (by omega), uI_o (by omega), v4 k (by omega), u3 k (by omega), t3 k (by omega), r3 k (by omega), q3 k (by omega)])
  · exact q2.of (fun k a b => by rw [uI_o (by omega), uI_o (by omega), v4 k (by omega), u3 k (by omega), t3 k (by omega), r3 k (by omega)])
  · rw [uI_miss (by omega), uI_hit rfl, f6 29 (by omega)]; exact c3
  · rw [uI_hit rfl, f6 29 (by omega)]; exact c4
  · exact r2.of (fun k a b => by rw [uI_o (by omega), uI_o (by omega), v4 k (by omega), u3 k (by omega), t3 k (by omega)])
  · exact t2.of (fun k a b => by rw [uI_o (by omega), uI_o (by omega), v4 k (by omega), u3 k (by omega)])
  · exact u2.of (fun k a b => by rw [uI_o (by omega), uI_o (by omega), v4 k (by omega)])
  · exact v2.of (fun k a b => by rw [uI_o (by omega), uI_o (by omega)])
  · rw [uI_o (by omega), uI_o (by omega)]; exact v3
theorem nb_k0 {d d' : aI} {e : aJ} (h1 : d' 3 = d 3) (h2 : d' 31 = d 31) : stX2_becomek2 (0, [some (.ref 30), some (.ref 2)], d', e) = some (15, [some (.ref 30), some (.ref 2)], uA d' 31 (va_cpy (d 3) (d 31) 0 0 6), e) := by
  show sX2_becomek2_0 d' e = _
  unfold sX2_becomek2_0
  rw [h1, h2]
  rfl
theorem nb_k15 {d d' : aI} {e : aJ} (h1 : d' 4 = d 4) (h2 : d' 32 = d 32) : stX2_becomek2 (15, [some (.ref 30), some (.ref 2)], d', e) = some (30, [some (.ref 30), some (.ref 2)], uA d' 32 (va_cpy (d 4) (d 32) 0 0 6), e) := by
  show sX2_becomek2_15 d' e = _
  unfold sX2_becomek2_15
  rw [h1, h2]
  rfl
theorem nb_k30 {d d' : aI} {e : aJ} (h1 : d' 5 = d 5) (h2 : d' 33 = d 33) : stX2_becomek2 (30, [some (.ref 30), some (.ref 2)], d', e) = some (45, [some (.ref 30), some (.ref 2)], uA d' 33 (va_cpy (d 5) (d 33) 0 0 6), e) := by
  show sX2_becomek2_30 d' e = _
  unfold sX2_becomek2_30
  rw [h1, h2]
  rfl
theorem nb_k45 {d d' : aI} {e : aJ} (h1 : d' 6 = d 6) (h2 : d' 34 = d 34) : stX2_becomek2 (45, [some (.ref 30), some (.ref 2)], d', e) = some (60, [some (.ref 30), some (.ref 2)], uA d' 34 (va_cpy (d 6) (d 34) 0 0 6), e) := by
  show sX2_becomek2_45 d' e = _
  unfold sX2_becomek2_45
  rw [h1, h2]
  rfl
theorem nb_k60 {d d' : aI} {e : aJ} (h1 : d' 7 = d 7) (h2 : d' 35 = d 35) : stX2_becomek2 (60, [some (.ref 30), some (.ref 2)], d', e) = some (75, [some (.ref 30), some (.ref 2)], uA d' 35 (va_cpy (d 7) (d 35) 0 0 6), e) := by
  show sX2_becomek2_60 d' e = _
  unfold sX2_becomek2_60
  rw [h1, h2]
  rfl
theorem nb_k75 {d d' : aI} {e : aJ} (h1 : d' 8 = d 8) (h2 : d' 36 = d 36) : stX2_becomek2 (75, [some (.ref 30), some (.ref 2)], d', e) = some (90, [some (.ref 30), some (.ref 2)], uA d' 36 (va_cpy (d 8) (d 36) 0 0 6), e) := by
  show sX2_becomek2_75 d' e = _
  unfold sX2_becomek2_75
  rw [h1, h2]
  rfl
theorem nb_k90 {d d' : aI} {e : aJ} (h1 : d' 9 = d 9) (h2 : d' 37 = d 37) : stX2_becomek2 (90, [some (.ref 30), some (.ref 2)], d', e) = some (105, [some (.ref 30), some (.ref 2)], uA d' 37 (va_cpy (d 9) (d 37) 0 0 6), e) := by
  show sX2_becomek2_90 d' e = _
  unfold sX2_becomek2_90
  rw [h1, h2]
  rfl
theorem nb_k105 {d d' : aI} {e : aJ} (h1 : d' 10 = d 10) (h2 : d' 38 = d 38) : stX2_becomek2 (105, [some (.ref 30), some (.ref 2)], d', e) = some (120, [some (.ref 30), some (.ref 2)], uA d' 38 (va_cpy (d 10) (d 38) 0 0 25), e) := by
  show sX2_becomek2_105 d' e = _
  unfold sX2_becomek2_105
  rw [h1, h2]
  rfl
theorem nb_night_k {d : aI} {e : aJ} {B : Int → Int} (hC : CN d 1 B) (hW : WN B) : ∃ d', FX2_becomek2 d e = some ((), d', e) ∧ CN d' 29 B ∧ (∀ k, (k < 30 ∨ 38 < k) → d' k = d k) := by
  obtain ⟨w0, w1, w9, w10, w11, wc, wh, wb⟩ := hW
  obtain ⟨q8, q9, q10, q11, q12, q3, q4, q5, q6, q7, qh, qt, qb⟩ := hC
  have g8 : d 2 8 = iI (B 0) := q8
  have g9 : d 2 9 = iI (B 1) := q9
  have g10 : d 2 10 = iI (B 11) := q10
  have g11 : d 2 11 = iI (B 9) := q11
  have g12 : d 2 12 = iI (B 10) := q12
  have a2 : ∀ j : Nat, (j : Int) < B 0 → d 3 j = iI (B (42 + j)) := q3
  have a3 : ∀ j : Nat, (j : Int) < B 0 → d 4 j = iI (B (30 + 2 * j)) := q4
  have a4 : ∀ j : Nat, (j : Int) < B 0 → d 5 j = iI (B (30 + 2 * j + 1)) := q5
  have a5 : ∀ j : Nat, (j : Int) < B 1 → d 6 j = iI (B (54 + j)) := q6
  have a6 : ∀ j : Nat, (j : Int) < B 1 → d 7 j = iI (B (12 + 3 * j)) := q7
  have a7 : ∀ j : Nat, (j : Int) < B 1 → d 8 j = iI (B (12 + 3 * j + 1)) := qh
  have a8 : ∀ j : Nat, (j : Int) < B 1 → d 9 j = iI (B (12 + 3 * j + 2)) := qt
  have a9 : ∀ j : Nat, (j : Int) < B 11 → d 10 j = iI (B (1936 + j)) := qb
  unfold FX2_becomek2
  rw [a_run_step (nb_k0 (d := d) (by simp (disch := omega) only [uI_o, uI_hit, uI_miss, uA_o, uA_s, cpy_in, cpy_out, aU_hit, aU_miss, tn_i, if_pos, if_neg]) (by simp (disch := omega) only [uI_o, uI_hit, uI_miss, uA_o, uA_s, cpy_in, cpy_out, aU_hit, aU_miss, tn_i, if_pos, if_neg])) rfl]
  rw [a_run_step (nb_k15 (d := d) (by simp (disch := omega) only [uI_o, uI_hit, uI_miss, uA_o, uA_s, cpy_in, cpy_out, aU_hit, aU_miss, tn_i, if_pos, if_neg]) (by simp (disch := omega) only [uI_o, uI_hit, uI_miss, uA_o, uA_s, cpy_in, cpy_out, aU_hit, aU_miss, tn_i, if_pos, if_neg])) rfl]
  rw [a_run_step (nb_k30 (d := d) (by simp (disch := omega) only [uI_o, uI_hit, uI_miss, uA_o, uA_s, cpy_in, cpy_out, aU_hit, aU_miss, tn_i, if_pos, if_neg]) (by simp (disch := omega) only [uI_o, uI_hit, uI_miss, uA_o, uA_s, cpy_in, cpy_out, aU_hit, aU_miss, tn_i, if_pos, if_neg])) rfl]
  rw [a_run_step (nb_k45 (d := d) (by simp (disch := omega) only [uI_o, uI_hit, uI_miss, uA_o, uA_s, cpy_in, cpy_out, aU_hit, aU_miss, tn_i, if_pos, if_neg]) (by simp (disch := omega) only [uI_o, uI_hit, uI_miss, uA_o, uA_s, cpy_in, cpy_out, aU_hit, aU_miss, tn_i, if_pos, if_neg])) rfl]
  rw [a_run_step (nb_k60 (d := d) (by simp (disch := omega) only [uI_o, uI_hit, uI_miss, uA_o, uA_s, cpy_in, cpy_out, aU_hit, aU_miss, tn_i, if_pos, if_neg]) (by simp (disch := omega) only [uI_o, uI_hit, uI_miss, uA_o, uA_s, cpy_in, cpy_out, aU_hit, aU_miss, tn_i, if_pos, if_neg])) rfl]
  rw [a_run_step (nb_k75 (d := d) (by simp (disch := omega) only [uI_o, uI_hit, uI_miss, uA_o, uA_s, cpy_in, cpy_out, aU_hit, aU_miss, tn_i, if_pos, if_neg]) (by simp (disch := omega) only [uI_o, uI_hit, uI_miss, uA_o, uA_s, cpy_in, cpy_out, aU_hit, aU_miss, tn_i, if_pos, if_neg])) rfl]
  rw [a_run_step (nb_k90 (d := d) (by simp (disch := omega) only [uI_o, uI_hit, uI_miss, uA_o, uA_s, cpy_in, cpy_out, aU_hit, aU_miss, tn_i, if_pos, if_neg]) (by simp (disch := omega) only [uI_o, uI_hit, uI_miss, uA_o, uA_s, cpy_in, cpy_out, aU_hit, aU_miss, tn_i, if_pos, if_neg])) rfl]
  rw [a_run_step (nb_k105 (d := d) (by simp (disch := omega) only [uI_o, uI_hit, uI_miss, uA_o, uA_s, cpy_in, cpy_out, aU_hit, aU_miss, tn_i, if_pos, if_neg]) (by simp (disch := omega) only [uI_o, uI_hit, uI_miss, uA_o, uA_s, cpy_in, cpy_out, aU_hit, aU_miss, tn_i, if_pos, if_neg])) rfl]
  have ke : ∀ d' : aI, stX2_becomek2 (120, [some (.ref 30), some (.ref 2)], d', e) = some (100000, [], uI (uI (uI (uI (uI d' 30 8 (d' 2 8)) 30 9 (d' 2 9)) 30 10 (d' 2 10)) 30 11 (d' 2 11)) 30 12 (d' 2 12), e) := by
    intro d'
    show sX2_becomek2_120 d' e = _
    unfold sX2_becomek2_120
    simp (disch := omega) only [uI_o]
  rw [a_run_step (ke _) rfl, a_run_end]
  refine ⟨_, rfl, ⟨?_, ?_, ?_, ?_, ?_, fun j hj => ?_, fun j hj => ?_, fun j hj => ?_, fun j hj => ?_, fun j hj => ?_, fun j hj => ?_, fun j hj => ?_, fun j hj => ?_⟩, fun k hk => by simp (disch := omega) only [uI_o, uI_hit, uI_miss, uA_o, uA_s, cpy_in, cpy_out, aU_hit, aU_miss, tn_i, if_pos, if_neg]⟩
  · simp (disch := omega) only [uI_o, uI_hit, uI_miss, uA_o, uA_s, cpy_in, cpy_out, aU_hit, aU_miss, tn_i, if_pos, if_neg, g8]
  · simp (disch := omega) only [uI_o, uI_hit, uI_miss, uA_o, uA_s, cpy_in, cpy_out, aU_hit, aU_miss, tn_i, if_pos, if_neg, g9]
  · simp (disch := omega) only [uI_o, uI_hit, uI_miss, uA_o, uA_s, cpy_in, cpy_out, aU_hit, aU_miss, tn_i, if_pos, if_neg, g10]
  · simp (disch := omega) only [uI_o, uI_hit, uI_miss, uA_o, uA_s, cpy_in, cpy_out, aU_hit, aU_miss, tn_i, if_pos, if_neg, g11]
  · simp (disch := omega) only [uI_o, uI_hit, uI_miss, uA_o, uA_s, cpy_in, cpy_out, aU_hit, aU_miss, tn_i, if_pos, if_neg, g12]
  · simp (disch := omega) only [uI_o, uI_hit, uI_miss, uA_o, uA_s, cpy_in, cpy_out, aU_hit, aU_miss, tn_i, if_pos, if_neg]
    rw [show 0 + (j - 0) = j by omega]
    exact a2 j hj
  · simp (disch := omega) only [uI_o, uI_hit, uI_miss, uA_o, uA_s, cpy_in, cpy_out, aU_hit, aU_miss, tn_i, if_pos, if_neg]
    rw [show 0 + (j - 0) = j by omega]
    exact a3 j hj
  · simp (disch := omega) only [uI_o, uI_hit, uI_miss, uA_o, uA_s, cpy_in, cpy_out, aU_hit, aU_miss, tn_i, if_pos, if_neg]
    rw [show 0 + (j - 0) = j by omega]
    exact a4 j hj
  · simp (disch := omega) only [uI_o, uI_hit, uI_miss, uA_o, uA_s, cpy_in, cpy_out, aU_hit, aU_miss, tn_i, if_pos, if_neg]
    rw [show 0 + (j - 0) = j by omega]
    exact a5 j hj
  · simp (disch := omega) only [uI_o, uI_hit, uI_miss, uA_o, uA_s, cpy_in, cpy_out, aU_hit, aU_miss, tn_i, if_pos, if_neg]
    rw [show 0 + (j - 0) = j by omega]
    exact a6 j hj
  · simp (disch := omega) only [uI_o, uI_hit, uI_miss, uA_o, uA_s, cpy_in, cpy_out, aU_hit, aU_miss, tn_i, if_pos, if_neg]
    rw [show 0 + (j - 0) = j by omega]
    exact a7 j hj
  · simp (disch := omega) only [uI_o, uI_hit, uI_miss, uA_o, uA_s, cpy_in, cpy_out, aU_hit, aU_miss, tn_i, if_pos, if_neg]
    rw [show 0 + (j - 0) = j by omega]
    exact a8 j hj
  · simp (disch := omega) only [uI_o, uI_hit, uI_miss, uA_o, uA_s, cpy_in, cpy_out, aU_hit, aU_miss, tn_i, if_pos, if_neg]
    rw [show 0 + (j - 0) = j by omega]
    exact a9 j hj
theorem nb_steps_k {d : aI} {e : aJ} {B : Int → Int} (hG : RG d 1 B) (hS : SI B) : ∃ d', FX6_becomek11 d e = some ((), d', e) ∧ RG d' 29 B ∧ (∀ k, (k < 39 ∨ 40 < k) → d' k = d k) := by
  obtain ⟨f, f0, f1, g1, g2, gr⟩ := hG
  have g1' : d 11 1 = iI f := g1
  have g2' : d 11 2 = iI (B 4) := g2
  unfold FX6_becomek11
  rw [a_run_step (st := stX6_becomek11) (p := (0, [some (.ref 39), some (.ref 11)], d, e)) (p2 := (100000, [], uI (uI (uA d 40 (va_cpy (d 12) (d 40) 0 0 1800)) 39 1 (d 11 1)) 39 2 (d 11 2), e)) (by
    show sX6_becomek11_0 d e = _
    unfold sX6_becomek11_0
    rfl) rfl, a_run_end]
  refine ⟨_, rfl, ⟨f, f0, f1, ?_, ?_, fun s s0 s1 => ?_⟩, fun k hk => by simp (disch := omega) only [uI_o, uI_hit, uI_miss, uA_o, uA_s, cpy_in, cpy_out, aU_hit, aU_miss, tn_i, if_pos, if_neg]⟩
  · simp (disch := omega) only [uI_o, uI_hit, uI_miss, uA_o, uA_s, cpy_in, cpy_out, aU_hit, aU_miss, tn_i, if_pos, if_neg, g1']
  · simp (disch := omega) only [uI_o, uI_hit, uI_miss, uA_o, uA_s, cpy_in, cpy_out, aU_hit, aU_miss, tn_i, if_pos, if_neg, g2']
  · have h4 := hS.2.1
    have ws := (hS.2.2.2.2.1 s s0 s1).1
    have y0 := ws.1
    have y1 := ws.2.1
    have y11 := ws.2.2.2.2.1
    refine (gr s s0 s1).mv (fun j j0 j1 => ?_) (by omega) (by omega)
    simp (disch := omega) only [uI_o, uI_hit, uI_miss, uA_o, uA_s, cpy_in, cpy_out, aU_hit, aU_miss, tn_i, if_pos, if_neg]
    rw [show 0 + (j - 0) = j by omega]
theorem nb_notes_k12 {d : aI} {e : aJ} {B : Int → Int} (hN : NT d 13 B 5 66 2 10) (hm : d 41 0 = iI 10) (hb : 0 ≤ B 5 ∧ B 5 ≤ 10) : ∃ d', FX3_becomek13 d e = some ((), d', e) ∧ NT d' 41 B 5 66 2 10 ∧ (∀ k, (k < 41 ∨ 44 < k) → d' k = d k) := by
  obtain ⟨n0, n4, n1, n2⟩ := hN
  have n4' : d 13 4 = iI (B 5) := n4
  unfold FX3_becomek13
  rw [a_run_step (st := stX3_becomek13) (p := (0, [some (.ref 41), some (.ref 13), none], d, e)) (p2 := (26, [some (.ref 41), some (.ref 13), some (.int (iI (B 5)))], uA d 42 (va_cpy (d 14) (d 42) 0 0 (B 5).toNat), e)) (by
    show sX3_becomek13_0 d e = _
    unfold sX3_becomek13_0
    simp (disch := omega) only [nI_iI, lN_lJ, iI_0, lJ_0, iI_add, iI_sub, iI_mul, iI_neg, lJ_add, lJ_sub, lJ_mul, lJ_neg, i_l, l_i, iI_cl, iI_inb, iI_eqT, iI_eqF, iI_ltT, iI_ltF, iI_leT, iI_leF, lJ_eqT, lJ_eqF, lJ_cG, lJ_cE, lJ_cL, lJ_cF, lJ_cGE, lJ_cLE, lJ_cNL, lJ_cNG, Int.cast_ofNat_Int, c_0, c_1, Int.natCast_add, Int.add_zero, cond_true, cond_false, Bool.and_self, Bool.and_true, Bool.true_and, Option.bind_some, decide_true, uI_hit, uI_miss, uI_o, uA_o, uA_s, ↓reduceIte, eq_self, true_or, or_true, or_false, false_or, true_and, and_true, false_and, and_false, or_self, and_self, not_false_eq_true, not_true_eq_false, tn_i, n4', hm, iI_minL, decide_eq_true]) rfl]
  rw [a_run_step (st := stX3_becomek13) (p2 := (40, [some (.ref 41), some (.ref 13), some (.int (iI (B 5)))], uA (uA d 42 (va_cpy (d 14) (d 42) 0 0 (B 5).toNat)) 43 (va_cpy (d 15) (d 43) 0 0 (B 5).toNat), e)) (by
    show sX3_becomek13_26 _ e _ = _
    unfold sX3_becomek13_26
    simp (disch := omega) only [nI_iI, lN_lJ, iI_0, lJ_0, iI_add, iI_sub, iI_mul, iI_neg, lJ_add, lJ_sub, lJ_mul, lJ_neg, i_l, l_i, iI_cl, iI_inb, iI_eqT, iI_eqF, iI_ltT, iI_ltF, iI_leT, iI_leF, lJ_eqT, lJ_eqF, lJ_cG, lJ_cE, lJ_cL, lJ_cF, lJ_cGE, lJ_cLE, lJ_cNL, lJ_cNG, Int.cast_ofNat_Int, c_0, c_1, Int.natCast_add, Int.add_zero, cond_true, cond_false, Bool.and_self, Bool.and_true, Bool.true_and, Option.bind_some, decide_true, uI_hit, uI_miss, uI_o, uA_o, uA_s, ↓reduceIte, eq_self, true_or, or_true, or_false, false_or, true_and, and_true, false_and, and_false, or_self, and_self, not_false_eq_true, not_true_eq_false, tn_i, decide_eq_true]) rfl]
  rw [a_run_step (st := stX3_becomek13) (p2 := (54, [some (.ref 41), some (.ref 13), some (.int (iI (B 5)))], uA (uA (uA d 42 (va_cpy (d 14) (d 42) 0 0 (B 5).toNat)) 43 (va_cpy (d 15) (d 43) 0 0 (B 5).toNat)) 44 (va_cpy (d 16) (d 44) 0 0 (B 5).toNat), e)) (by
    show sX3_becomek13_40 _ e _ = _
    unfold sX3_becomek13_40
    simp (disch := omega) only [nI_iI, lN_lJ, iI_0, lJ_0, iI_add, iI_sub, iI_mul, iI_neg, lJ_add, lJ_sub, lJ_mul, lJ_neg, i_l, l_i, iI_cl, iI_inb, iI_eqT, iI_eqF, iI_ltT, iI_ltF, iI_leT, iI_leF, lJ_eqT, lJ_eqF, lJ_cG, lJ_cE, lJ_cL, lJ_cF, lJ_cGE, lJ_cLE, lJ_cNL, lJ_cNG, Int.cast_ofNat_Int, c_0, c_1, Int.natCast_add, Int.add_zero, cond_true, cond_false, Bool.and_self, Bool.and_true, Bool.true_and, Option.bind_some, decide_true, uI_hit, uI_miss, uI_o, uA_o, uA_s, ↓reduceIte, eq_self, true_or, or_true, or_false, false_or, true_and, and_true, false_and, and_false, or_self, and_self, not_false_eq_true, not_true_eq_false, tn_i, decide_eq_true]) rfl]
  rw [a_run_step (st := stX3_becomek13) (p2 := (100000, [], uI (uA (uA (uA d 42 (va_cpy (d 14) (d 42) 0 0 (B 5).toNat)) 43 (va_cpy (d 15) (d 43) 0 0 (B 5).toNat)) 44 (va_cpy (d 16) (d 44) 0 0 (B 5).toNat)) 41 4 (iI (B 5)), e)) rfl rfl, a_run_end]
  refine ⟨_, rfl, ⟨?_, ?_, fun j hj => ?_, fun j hj => ?_⟩, fun k hk => by simp (disch := omega) only [uI_o, uI_hit, uI_miss, uA_o, uA_s, cpy_in, cpy_out, aU_hit, aU_miss, tn_i, if_pos, if_neg]⟩
  · simp (disch := omega) only [uI_o, uI_hit, uI_miss, uA_o, uA_s, cpy_in, cpy_out, aU_hit, aU_miss, tn_i, if_pos, if_neg, hm]
  · simp (disch := omega) only [uI_o, uI_hit, uI_miss, uA_o, uA_s, cpy_in, cpy_out, aU_hit, aU_miss, tn_i, if_pos, if_neg]
  · simp (disch := omega) only [uI_o, uI_hit, uI_miss, uA_o, uA_s, cpy_in, cpy_out, aU_hit, aU_miss, tn_i, if_pos, if_neg]
    rw [show 0 + (j - 0) = j by omega]
    exact n1 j hj
  · simp (disch := omega) only [uI_o, uI_hit, uI_miss, uA_o, uA_s, cpy_in, cpy_out, aU_hit, aU_miss, tn_i, if_pos, if_neg]
    rw [show 0 + (j - 0) = j by omega]
    exact n2 j hj
theorem nb_notes_k16 {d : aI} {e : aJ} {B : Int → Int} (hN : NT d 17 B 6 86 2 8) (hm : d 45 0 = iI 8) (hb : 0 ≤ B 6 ∧ B 6 ≤ 8) : ∃ d', FX3_becomek17 d e = some ((), d', e) ∧ NT d' 45 B 6 86 2 8 ∧ (∀ k, (k < 45 ∨ 48 < k) → d' k = d k) := by
  obtain ⟨n0, n4, n1, n2⟩ := hN
  have n4' : d 17 4 = iI (B 6) := n4
  unfold FX3_becomek17
  rw [a_run_step (st := stX3_becomek17) (p := (0, [some (.ref 45), some (.ref 17), none], d, e)) (p2 := (26, [some (.ref 45), some (.ref 17), some (.int (iI (B 6)))], uA d 46 (va_cpy (d 18) (d 46) 0 0 (B 6).toNat), e)) (by
    show sX3_becomek17_0 d e = _
    unfold sX3_becomek17_0
    simp (disch := omega) only [nI_iI, lN_lJ, iI_0, lJ_0, iI_add, iI_sub, iI_mul, iI_neg, lJ_add, lJ_sub, lJ_mul, lJ_neg, i_l, l_i, iI_cl, iI_inb, iI_eqT, iI_eqF, iI_ltT, iI_ltF, iI_leT, iI_leF, lJ_eqT, lJ_eqF, lJ_cG, lJ_cE, lJ_cL, lJ_cF, lJ_cGE, lJ_cLE, lJ_cNL, lJ_cNG, Int.cast_ofNat_Int, c_0, c_1, Int.natCast_add, Int.add_zero, cond_true, cond_false, Bool.and_self, Bool.and_true, Bool.true_and, Option.bind_some, decide_true, uI_hit, uI_miss, uI_o, uA_o, uA_s, ↓reduceIte, eq_self, true_or, or_true, or_false, false_or, true_and, and_true, false_and, and_false, or_self, and_self, not_false_eq_true, not_true_eq_false, tn_i, n4', hm, iI_minL, decide_eq_true]) rfl]
  rw [a_run_step (st := stX3_becomek17) (p2 := (40, [some (.ref 45), some (.ref 17), some (.int (iI (B 6)))], uA (uA d 46 (va_cpy (d 18) (d 46) 0 0 (B 6).toNat)) 47 (va_cpy (d 19) (d 47) 0 0 (B 6).toNat), e)) (by
    show sX3_becomek17_26 _ e _ = _
    unfold sX3_becomek17_26
    simp (disch := omega) only [nI_iI, lN_lJ, iI_0, lJ_0, iI_add, iI_sub, iI_mul, iI_neg, lJ_add, lJ_sub, lJ_mul, lJ_neg, i_l, l_i, iI_cl, iI_inb, iI_eqT, iI_eqF, iI_ltT, iI_ltF, iI_leT, iI_leF, lJ_eqT, lJ_eqF, lJ_cG, lJ_cE, lJ_cL, lJ_cF, lJ_cGE, lJ_cLE, lJ_cNL, lJ_cNG, Int.cast_ofNat_Int, c_0, c_1, Int.natCast_add, Int.add_zero, cond_true, cond_false, Bool.and_self, Bool.and_true, Bool.true_and, Option.bind_some, decide_true, uI_hit, uI_miss, uI_o, uA_o, uA_s, ↓reduceIte, eq_self, true_or, or_true, or_false, false_or, true_and, and_true, false_and, and_false, or_self, and_self, not_false_eq_true, not_true_eq_false, tn_i, decide_eq_true]) rfl]
  rw [a_run_step (st := stX3_becomek17) (p2 := (54, [some (.ref 45), some (.ref 17), some (.int (iI (B 6)))], uA (uA (uA d 46 (va_cpy (d 18) (d 46) 0 0 (B 6).toNat)) 47 (va_cpy (d 19) (d 47) 0 0 (B 6).toNat)) 48 (va_cpy (d 20) (d 48) 0 0 (B 6).toNat), e)) (by
    show sX3_becomek17_40 _ e _ = _
    unfold sX3_becomek17_40
    simp (disch := omega) only [nI_iI, lN_lJ, iI_0, lJ_0, iI_add, iI_sub, iI_mul, iI_neg, lJ_add, lJ_sub, lJ_mul, lJ_neg, i_l, l_i, iI_cl, iI_inb, iI_eqT, iI_eqF, iI_ltT, iI_ltF, iI_leT, iI_leF, lJ_eqT, lJ_eqF, lJ_cG, lJ_cE, lJ_cL, lJ_cF, lJ_cGE, lJ_cLE, lJ_cNL, lJ_cNG, Int.cast_ofNat_Int, c_0, c_1, Int.natCast_add, Int.add_zero, cond_true, cond_false, Bool.and_self, Bool.and_true, Bool.true_and, Option.bind_some, decide_true, uI_hit, uI_miss, uI_o, uA_o, uA_s, ↓reduceIte, eq_self, true_or, or_true, or_false, false_or, true_and, and_true, false_and, and_false, or_self, and_self, not_false_eq_true, not_true_eq_false, tn_i, decide_eq_true]) rfl]
  rw [a_run_step (st := stX3_becomek17) (p2 := (100000, [], uI (uA (uA (uA d 46 (va_cpy (d 18) (d 46) 0 0 (B 6).toNat)) 47 (va_cpy (d 19) (d 47) 0 0 (B 6).toNat)) 48 (va_cpy (d 20) (d 48) 0 0 (B 6).toNat)) 45 4 (iI (B 6)), e)) rfl rfl, a_run_end]
  refine ⟨_, rfl, ⟨?_, ?_, fun j hj => ?_, fun j hj => ?_⟩, fun k hk => by simp (disch := omega) only [uI_o, uI_hit, uI_miss, uA_o, uA_s, cpy_in, cpy_out, aU_hit, aU_miss, tn_i, if_pos, if_neg]⟩
  · simp (disch := omega) only [uI_o, uI_hit, uI_miss, uA_o, uA_s, cpy_in, cpy_out, aU_hit, aU_miss, tn_i, if_pos, if_neg, hm]
  · simp (disch := omega) only [uI_o, uI_hit, uI_miss, uA_o, uA_s, cpy_in, cpy_out, aU_hit, aU_miss, tn_i, if_pos, if_neg]
  · simp (disch := omega) only [uI_o, uI_hit, uI_miss, uA_o, uA_s, cpy_in, cpy_out, aU_hit, aU_miss, tn_i, if_pos, if_neg]
    rw [show 0 + (j - 0) = j by omega]
    exact n1 j hj
  · simp (disch := omega) only [uI_o, uI_hit, uI_miss, uA_o, uA_s, cpy_in, cpy_out, aU_hit, aU_miss, tn_i, if_pos, if_neg]
    rw [show 0 + (j - 0) = j by omega]
    exact n2 j hj
theorem nb_notes_k20 {d : aI} {e : aJ} {B : Int → Int} (hN : NT d 21 B 7 102 2 5) (hm : d 49 0 = iI 5) (hb : 0 ≤ B 7 ∧ B 7 ≤ 5) : ∃ d', FX3_becomek21 d e = some ((), d', e) ∧ NT d' 49 B 7 102 2 5 ∧ (∀ k, (k < 49 ∨ 52 < k) → d' k = d k) := by
  obtain ⟨n0, n4, n1, n2⟩ := hN
  have n4' : d 21 4 = iI (B 7) := n4
  unfold FX3_becomek21
  rw [a_run_step (st := stX3_becomek21) (p := (0, [some (.ref 49), some (.ref 21), none], d, e)) (p2 := (26, [some (.ref 49), some (.ref 21), some (.int (iI (B 7)))], uA d 50 (va_cpy (d 22) (d 50) 0 0 (B 7).toNat), e)) (by
    show sX3_becomek21_0 d e = _
    unfold sX3_becomek21_0
    simp (disch := omega) only [nI_iI, lN_lJ, iI_0, lJ_0, iI_add, iI_sub, iI_mul, iI_neg, lJ_add, lJ_sub, lJ_mul, lJ_neg, i_l, l_i, iI_cl, iI_inb, iI_eqT, iI_eqF, iI_ltT, iI_ltF, iI_leT, iI_leF, lJ_eqT, lJ_eqF, lJ_cG, lJ_cE, lJ_cL, lJ_cF, lJ_cGE, lJ_cLE, lJ_cNL, lJ_cNG, Int.cast_ofNat_Int, c_0, c_1, Int.natCast_add, Int.add_zero, cond_true, cond_false, Bool.and_self, Bool.and_true, Bool.true_and, Option.bind_some, decide_true, uI_hit, uI_miss, uI_o, uA_o, uA_s, ↓reduceIte, eq_self, true_or, or_true, or_false, false_or, true_and, and_true, false_and, and_false, or_self, and_self, not_false_eq_true, not_true_eq_false, tn_i, n4', hm, iI_minL, decide_eq_true]) rfl]
  rw [a_run_step (st := stX3_becomek21) (p2 := (40, [some (.ref 49), some (.ref 21), some (.int (iI (B 7)))], uA (uA d 50 (va_cpy (d 22) (d 50) 0 0 (B 7).toNat)) 51 (va_cpy (d 23) (d 51) 0 0 (B 7).toNat), e)) (by
    show sX3_becomek21_26 _ e _ = _
    unfold sX3_becomek21_26
    simp (disch := omega) only [nI_iI, lN_lJ, iI_0, lJ_0, iI_add, iI_sub, iI_mul, iI_neg, lJ_add, lJ_sub, lJ_mul, lJ_neg, i_l, l_i, iI_cl, iI_inb, iI_eqT, iI_eqF, iI_ltT, iI_ltF, iI_leT, iI_leF, lJ_eqT, lJ_eqF, lJ_cG, lJ_cE, lJ_cL, lJ_cF, lJ_cGE, lJ_cLE, lJ_cNL, lJ_cNG, Int.cast_ofNat_Int, c_0, c_1, Int.natCast_add, Int.add_zero, cond_true, cond_false, Bool.and_self, Bool.and_true, Bool.true_and, Option.bind_some, decide_true, uI_hit, uI_miss, uI_o, uA_o, uA_s, ↓reduceIte, eq_self, true_or, or_true, or_false, false_or, true_and, and_true, false_and, and_false, or_self, and_self, not_false_eq_true, not_true_eq_false, tn_i, decide_eq_true]) rfl]
  rw [a_run_step (st := stX3_becomek21) (p2 := (54, [some (.ref 49), some (.ref 21), some (.int (iI (B 7)))], uA (uA (uA d 50 (va_cpy (d 22) (d 50) 0 0 (B 7).toNat)) 51 (va_cpy (d 23) (d 51) 0 0 (B 7).toNat)) 52 (va_cpy (d 24) (d 52) 0 0 (B 7).toNat), e)) (by
    show sX3_becomek21_40 _ e _ = _
    unfold sX3_becomek21_40
    simp (disch := omega) only [nI_iI, lN_lJ, iI_0, lJ_0, iI_add, iI_sub, iI_mul, iI_neg, lJ_add, lJ_sub, lJ_mul, lJ_neg, i_l, l_i, iI_cl, iI_inb, iI_eqT, iI_eqF, iI_ltT, iI_ltF, iI_leT, iI_leF, lJ_eqT, lJ_eqF, lJ_cG, lJ_cE, lJ_cL, lJ_cF, lJ_cGE, lJ_cLE, lJ_cNL, lJ_cNG, Int.cast_ofNat_Int, c_0, c_1, Int.natCast_add, Int.add_zero, cond_true, cond_false, Bool.and_self, Bool.and_true, Bool.true_and, Option.bind_some, decide_true, uI_hit, uI_miss, uI_o, uA_o, uA_s, ↓reduceIte, eq_self, true_or, or_true, or_false, false_or, true_and, and_true, false_and, and_false, or_self, and_self, not_false_eq_true, not_true_eq_false, tn_i, decide_eq_true]) rfl]
  rw [a_run_step (st := stX3_becomek21) (p2 := (100000, [], uI (uA (uA (uA d 50 (va_cpy (d 22) (d 50) 0 0 (B 7).toNat)) 51 (va_cpy (d 23) (d 51) 0 0 (B 7).toNat)) 52 (va_cpy (d 24) (d 52) 0 0 (B 7).toNat)) 49 4 (iI (B 7)), e)) rfl rfl, a_run_end]
  refine ⟨_, rfl, ⟨?_, ?_, fun j hj => ?_, fun j hj => ?_⟩, fun k hk => by simp (disch := omega) only [uI_o, uI_hit, uI_miss, uA_o, uA_s, cpy_in, cpy_out, aU_hit, aU_miss, tn_i, if_pos, if_neg]⟩
  · simp (disch := omega) only [uI_o, uI_hit, uI_miss, uA_o, uA_s, cpy_in, cpy_out, aU_hit, aU_miss, tn_i, if_pos, if_neg, hm]
  · simp (disch := omega) only [uI_o, uI_hit, uI_miss, uA_o, uA_s, cpy_in, cpy_out, aU_hit, aU_miss, tn_i, if_pos, if_neg]
  · simp (disch := omega) only [uI_o, uI_hit, uI_miss, uA_o, uA_s, cpy_in, cpy_out, aU_hit, aU_miss, tn_i, if_pos, if_neg]
    rw [show 0 + (j - 0) = j by omega]
    exact n1 j hj
  · simp (disch := omega) only [uI_o, uI_hit, uI_miss, uA_o, uA_s, cpy_in, cpy_out, aU_hit, aU_miss, tn_i, if_pos, if_neg]
    rw [show 0 + (j - 0) = j by omega]
    exact n2 j hj
theorem nb_notes_k24 {d : aI} {e : aJ} {B : Int → Int} (hN : NT d 25 B 8 112 3 8) (h3 : ∀ j : Nat, (j : Int) < B 8 → d 28 j = iI (B (112 + 3 * j + 2))) (hm : d 53 0 = iI 8) (hb : 0 ≤ B 8 ∧ B 8 ≤ 8) : ∃ d', FX3_becomek25 d e = some ((), d', e) ∧ NT d' 53 B 8 112 3 8 ∧ (∀ j : Nat, (j : Int) < B 8 → d' 56 j = iI (B (112 + 3 * j + 2))) ∧ (∀ k, (k < 53 ∨ 56 < k) → d' k = d k) := by
  obtain ⟨n0, n4, n1, n2⟩ := hN
  have n4' : d 25 4 = iI (B 8) := n4
  unfold FX3_becomek25
  rw [a_run_step (st := stX3_becomek25) (p := (0, [some (.ref 53), some (.ref 25), none], d, e)) (p2 := (26, [some (.ref 53), some (.ref 25), some (.int (iI (B 8)))], uA d 54 (va_cpy (d 26) (d 54) 0 0 (B 8).toNat), e)) (by
    show sX3_becomek25_0 d e = _
    unfold sX3_becomek25_0
    simp (disch := omega) only [nI_iI, lN_lJ, iI_0, lJ_0, iI_add, iI_sub, iI_mul, iI_neg, lJ_add, lJ_sub, lJ_mul, lJ_neg, i_l, l_i, iI_cl, iI_inb, iI_eqT, iI_eqF, iI_ltT, iI_ltF, iI_leT, iI_leF, lJ_eqT, lJ_eqF, lJ_cG, lJ_cE, lJ_cL, lJ_cF, lJ_cGE, lJ_cLE, lJ_cNL, lJ_cNG, Int.cast_ofNat_Int, c_0, c_1, Int.natCast_add, Int.add_zero, cond_true, cond_false, Bool.and_self, Bool.and_true, Bool.true_and, Option.bind_some, decide_true, uI_hit, uI_miss, uI_o, uA_o, uA_s, ↓reduceIte, eq_self, true_or, or_true, or_false, false_or, true_and, and_true, false_and, and_false, or_self, and_self, not_false_eq_true, not_true_eq_false, tn_i, n4', hm, iI_minL, decide_eq_true]) rfl]
  rw [a_run_step (st := stX3_becomek25) (p2 := (40, [some (.ref 53), some (.ref 25), some (.int (iI (B 8)))], uA (uA d 54 (va_cpy (d 26) (d 54) 0 0 (B 8).toNat)) 55 (va_cpy (d 27) (d 55) 0 0 (B 8).toNat), e)) (by
    show sX3_becomek25_26 _ e _ = _
    unfold sX3_becomek25_26
    simp (disch := omega) only [nI_iI, lN_lJ, iI_0, lJ_0, iI_add, iI_sub, iI_mul, iI_neg, lJ_add, lJ_sub, lJ_mul, lJ_neg, i_l, l_i, iI_cl, iI_inb, iI_eqT, iI_eqF, iI_ltT, iI_ltF, iI_leT, iI_leF, lJ_eqT, lJ_eqF, lJ_cG, lJ_cE, lJ_cL, lJ_cF, lJ_cGE, lJ_cLE, lJ_cNL, lJ_cNG, Int.cast_ofNat_Int, c_0, c_1, Int.natCast_add, Int.add_zero, cond_true, cond_false, Bool.and_self, Bool.and_true, Bool.true_and, Option.bind_some, decide_true, uI_hit, uI_miss, uI_o, uA_o, uA_s, ↓reduceIte, eq_self, true_or, or_true, or_false, false_or, true_and, and_true, false_and, and_false, or_self, and_self, not_false_eq_true, not_true_eq_false, tn_i, decide_eq_true]) rfl]
  rw [a_run_step (st := stX3_becomek25) (p2 := (54, [some (.ref 53), some (.ref 25), some (.int (iI (B 8)))], uA (uA (uA d 54 (va_cpy (d 26) (d 54) 0 0 (B 8).toNat)) 55 (va_cpy (d 27) (d 55) 0 0 (B 8).toNat)) 56 (va_cpy (d 28) (d 56) 0 0 (B 8).toNat), e)) (by
    show sX3_becomek25_40 _ e _ = _
    unfold sX3_becomek25_40
    simp (disch := omega) only [nI_iI, lN_lJ, iI_0, lJ_0, iI_add, iI_sub, iI_mul, iI_neg, lJ_add, lJ_sub, lJ_mul, lJ_neg, i_l, l_i, iI_cl, iI_inb, iI_eqT, iI_eqF, iI_ltT, iI_ltF, iI_leT, iI_leF, lJ_eqT, lJ_eqF, lJ_cG, lJ_cE, lJ_cL, lJ_cF, lJ_cGE, lJ_cLE, lJ_cNL, lJ_cNG, Int.cast_ofNat_Int, c_0, c_1, Int.natCast_add, Int.add_zero, cond_true, cond_false, Bool.and_self, Bool.and_true, Bool.true_and, Option.bind_some, decide_true, uI_hit, uI_miss, uI_o, uA_o, uA_s, ↓reduceIte, eq_self, true_or, or_true, or_false, false_or, true_and, and_true, false_and, and_false, or_self, and_self, not_false_eq_true, not_true_eq_false, tn_i, decide_eq_true]) rfl]
  rw [a_run_step (st := stX3_becomek25) (p2 := (100000, [], uI (uA (uA (uA d 54 (va_cpy (d 26) (d 54) 0 0 (B 8).toNat)) 55 (va_cpy (d 27) (d 55) 0 0 (B 8).toNat)) 56 (va_cpy (d 28) (d 56) 0 0 (B 8).toNat)) 53 4 (iI (B 8)), e)) rfl rfl, a_run_end]
  refine ⟨_, rfl, ⟨?_, ?_, fun j hj => ?_, fun j hj => ?_⟩, fun j hj => ?_, fun k hk => by simp (disch := omega) only [uI_o, uI_hit, uI_miss, uA_o, uA_s, cpy_in, cpy_out, aU_hit, aU_miss, tn_i, if_pos, if_neg]⟩
  · simp (disch := omega) only [uI_o, uI_hit, uI_miss, uA_o, uA_s, cpy_in, cpy_out, aU_hit, aU_miss, tn_i, if_pos, if_neg, hm]
  · simp (disch := omega) only [uI_o, uI_hit, uI_miss, uA_o, uA_s, cpy_in, cpy_out, aU_hit, aU_miss, tn_i, if_pos, if_neg]
  · simp (disch := omega) only [uI_o, uI_hit, uI_miss, uA_o, uA_s, cpy_in, cpy_out, aU_hit, aU_miss, tn_i, if_pos, if_neg]
    rw [show 0 + (j - 0) = j by omega]
    exact n1 j hj
  · simp (disch := omega) only [uI_o, uI_hit, uI_miss, uA_o, uA_s, cpy_in, cpy_out, aU_hit, aU_miss, tn_i, if_pos, if_neg]
    rw [show 0 + (j - 0) = j by omega]
    exact n2 j hj
  · simp (disch := omega) only [uI_o, uI_hit, uI_miss, uA_o, uA_s, cpy_in, cpy_out, aU_hit, aU_miss, tn_i, if_pos, if_neg]
    rw [show 0 + (j - 0) = j by omega]
    exact h3 j hj
theorem nb_world_k {d : aI} {e : aJ} {A B : Int → Int} (hB : CW d 1 B) (hA : CW d 29 A) (hS : SI B) : ∃ d', FX9_becomek1 d e = some ((), d', e) ∧ CW d' 29 B ∧ (∀ k, (k < 29 ∨ 56 < k) → d' k = d k) := by
  obtain ⟨c1, c2, c3, c4, c5, c6, c7, c8, c9⟩ := hB
  obtain ⟨a1, a2, a3, a4, a5, a6, a7, a8, a9⟩ := hA
  obtain ⟨s1, s2, s3, s4, s5, s6, s7, s8, s9⟩ := hS
  obtain ⟨d1, p1, p2, p3⟩ := nb_night_k (e := e) c1 s1
  obtain ⟨d2, q1, q2, q3⟩ := nb_steps_k (d := d1) (e := e) (c2.of (fun k a b => p3 k (by omega))) ⟨s1, s2, s3, s4, s5, s6, s7, s8, s9⟩
  have f2 : ∀ k, (k < 30 ∨ 40 < k) → d2 k = d k := fun k hk => by rw [q3 k (by omega), p3 k (by omega)]
  obtain ⟨d3, r1, r2, r3⟩ := nb_notes_k12 (d := d2) (e := e) (c5.of (fun k a b => f2 k (by omega))) (by rw [f2 41 (by omega)]; exact a5.1) s6.1
  have f3 : ∀ k, (k < 30 ∨ 44 < k) → d3 k = d k := fun k hk => by rw [r3 k (by omega), f2 k (by omega)]
  obtain ⟨d4, t1, t2, t3⟩ := nb_notes_k16 (d := d3) (e := e) (c6.of (fun k a b => f3 k (by omega))) (by rw [f3 45 (by omega)]; exact a6.1) s7.1
  have f4 : ∀ k, (k < 30 ∨ 48 < k) → d4 k = d k := fun k hk => by rw [t3 k (by omega), f3 k (by omega)]
  obtain ⟨d5, u1, u2, u3⟩ := nb_notes_k20 (d := d4) (e := e) (c7.of (fun k a b => f4 k (by omega))) (by rw [f4 49 (by omega)]; exact a7.1) s8.1
  have f5 : ∀ k, (k < 30 ∨ 52 < k) → d5 k = d k := fun k hk => by rw [u3 k (by omega), f4 k (by omega)]
  obtain ⟨d6, v1, v2, v3, v4⟩ := nb_notes_k24 (d := d5) (e := e) (c8.of (fun k a b => f5 k (by omega))) (by rw [f5 28 (by omega)]; exact c9) (by rw [f5 53 (by omega)]; exact a8.1) s9.1
  have f6 : ∀ k, (k < 30 ∨ 56 < k) → d6 k = d k := fun k hk => by rw [v4 k (by omega), f5 k (by omega)]
  refine ⟨uI (uI d6 29 6 (d6 1 6)) 29 7 (d6 1 7), ?_, ⟨?_, ?_, ?_, ?_, ?_, ?_, ?_, ?_, ?_⟩, fun k hk => by rw [uI_o (by omega), uI_o (by omega), f6 k (by omega)]⟩
  · unfold FX9_becomek1
    rw [a_run_step (st := stX9_becomek1) (p := (0, [some (.ref 29), some (.ref 1)], d, e)) (p2 := (100000, [], uI (uI d6 29 6 (d6 1 6)) 29 7 (d6 1 7), e)) (by
      show sX9_becomek1_0 d e = _
      unfold sX9_becomek1_0
      simp (disch := omega) only [nI_iI, lN_lJ, iI_0, lJ_0, iI_add, iI_sub, iI_mul, iI_neg, lJ_add, lJ_sub, lJ_mul, lJ_neg, i_l, l_i, iI_cl, iI_inb, iI_eqT, iI_eqF, iI_ltT, iI_ltF, iI_leT, iI_leF, lJ_eqT, lJ_eqF, lJ_cG, lJ_cE, lJ_cL, lJ_cF, lJ_cGE, lJ_cLE, lJ_cNL, lJ_cNG, Int.cast_ofNat_Int, c_0, c_1, Int.natCast_add, Int.add_zero, cond_true, cond_false, Bool.and_self, Bool.and_true, Bool.true_and, Option.bind_some, decide_true, uI_hit, uI_miss, uI_o, uA_o, uA_s, ↓reduceIte, eq_self, true_or, or_true, or_false, false_or, true_and, and_true, false_and, and_false, or_self, and_self, not_false_eq_true, not_true_eq_false, tn_i, p1, q1, r1, t1, u1, v1]) rfl, a_run_end]
    rfl
  · exact p2.of (fun k a b => by rw [uI_o (by omega), uI_o (by omega), v4 k (by omega), u3 k (by omega), t3 k (by omega), r3 k (by omega), q3 k (by omega)])
  · exact q2.of (fun k a b => by rw [uI_o (by omega), uI_o (by omega), v4 k (by omega), u3 k (by omega), t3 k (by omega), r3 k (by omega)])
  · rw [uI_miss (by omega), uI_hit rfl, f6 1 (by omega)]; exact c3
  · rw [uI_hit rfl, f6 1 (by omega)]; exact c4
  · exact r2.of (fun k a b => by rw [uI_o (by omega), uI_o (by omega), v4 k (by omega), u3 k (by omega), t3 k (by omega)])
  · exact t2.of (fun k a b => by rw [uI_o (by omega), uI_o (by omega), v4 k (by omega), u3 k (by omega)])
  · exact u2.of (fun k a b => by rw [uI_o (by omega), uI_o (by omega), v4 k (by omega)])
  · exact v2.of (fun k a b => by rw [uI_o (by omega), uI_o (by omega)])
  · rw [uI_o (by omega), uI_o (by omega)]; exact v3
theorem mq_copyn {d : aI} {e : aJ} : ∃ d', FX11_copyn d e = some ((), d', e) ∧ (∀ j : Nat, j < 1961 → d' 110 j = d 109 j) ∧ (∀ o, o ≠ 110 → d' o = d o) := by
  have key : ∀ n : Nat, n ≤ 1961 → ∃ d', (∀ j : Nat, j < n → d' 110 j = d 109 j) ∧ (∀ o, o ≠ 110 → d' o = d o) ∧ a_run stX11_copyn (2, [some (.ref 109), some (.ref 110), some (.int (iI (0 : Nat)))], d, e) = a_run stX11_copyn (2, [some (.ref 109), some (.ref 110), some (.int (iI (n : Nat)))], d', e) := by
    intro n
    induction n with
    | zero => intro _; exact ⟨d, fun j hj => by omega, fun _ _ => rfl, rfl⟩
    | succ n ih =>
      intro hn
      obtain ⟨d1, a1, b1, t1⟩ := ih (by omega)
      refine ⟨uI d1 110 n (d1 109 n), fun j hj => ?_, fun o ho => by rw [uI_o ho]; exact b1 o ho, t1.trans (a_run_step ?_ rfl)⟩
      · by_cases h : j = n
        · rw [uI_hit h, b1 109 (by omega), h]
        · rw [uI_miss h]; exact a1 j (by omega)
      · show sX11_copyn_2 d1 e _ = _
        unfold sX11_copyn_2
        simp (disch := omega) only [nI_iI, lN_lJ, iI_0, lJ_0, iI_add, iI_sub, iI_mul, iI_neg, lJ_add, lJ_sub, lJ_mul, lJ_neg, i_l, l_i, iI_cl, iI_inb, iI_eqT, iI_eqF, iI_ltT, iI_ltF, iI_leT, iI_leF, lJ_eqT, lJ_eqF, lJ_cG, lJ_cE, lJ_cL, lJ_cF, lJ_cGE, lJ_cLE, lJ_cNL, lJ_cNG, Int.cast_ofNat_Int, c_0, c_1, Int.natCast_add, Int.add_zero, cond_true, cond_false, Bool.and_self, Bool.and_true, Bool.true_and, Option.bind_some, decide_true, uI_hit, uI_miss, uI_o, uA_o, uA_s, ↓reduceIte, eq_self, true_or, or_true, or_false, false_or, true_and, and_true, false_and, and_false, or_self, and_self, not_false_eq_true, not_true_eq_false, tn_i, Int.toNat_natCast]
  obtain ⟨d1, a1, b1, t1⟩ := key 1961 (by omega)
  refine ⟨d1, ?_, a1, b1⟩
  unfold FX11_copyn
  rw [a_run_step (st := stX11_copyn) (p := (0, [some (.ref 109), some (.ref 110), none], d, e)) (p2 := (2, [some (.ref 109), some (.ref 110), some (.int (iI (0 : Nat)))], d, e)) rfl rfl, t1, a_run_step (st := stX11_copyn) (p2 := (100000, [], d1, e)) (by
    show sX11_copyn_2 d1 e _ = _
    unfold sX11_copyn_2
    simp (disch := omega) only [nI_iI, lN_lJ, iI_0, lJ_0, iI_add, iI_sub, iI_mul, iI_neg, lJ_add, lJ_sub, lJ_mul, lJ_neg, i_l, l_i, iI_cl, iI_inb, iI_eqT, iI_eqF, iI_ltT, iI_ltF, iI_leT, iI_leF, lJ_eqT, lJ_eqF, lJ_cG, lJ_cE, lJ_cL, lJ_cF, lJ_cGE, lJ_cLE, lJ_cNL, lJ_cNG, Int.cast_ofNat_Int, c_0, c_1, Int.natCast_add, Int.add_zero, cond_true, cond_false, Bool.and_self, Bool.and_true, Bool.true_and, Option.bind_some, decide_true, uI_hit, uI_miss, uI_o, uA_o, uA_s, ↓reduceIte, eq_self, true_or, or_true, or_false, false_or, true_and, and_true, false_and, and_false, or_self, and_self, not_false_eq_true, not_true_eq_false, tn_i]) rfl, a_run_end]
  rfl
theorem mq_copyk {d : aI} {e : aJ} : ∃ d', FX11_copyk d e = some ((), d', e) ∧ (∀ j : Nat, j < 1961 → d' 109 j = d 110 j) ∧ (∀ o, o ≠ 109 → d' o = d o) := by
  have key : ∀ n : Nat, n ≤ 1961 → ∃ d', (∀ j : Nat, j < n → d' 109 j = d 110 j) ∧ (∀ o, o ≠ 109 → d' o = d o) ∧ a_run stX11_copyk (2, [some (.ref 110), some (.ref 109), some (.int (iI (0 : Nat)))], d, e) = a_run stX11_copyk (2, [some (.ref 110), some (.ref 109), some (.int (iI (n : Nat)))], d', e) := by
    intro n
    induction n with
    | zero => intro _; exact ⟨d, fun j hj => by omega, fun _ _ => rfl, rfl⟩
    | succ n ih =>
      intro hn
      obtain ⟨d1, a1, b1, t1⟩ := ih (by omega)
      refine ⟨uI d1 109 n (d1 110 n), fun j hj => ?_, fun o ho => by rw [uI_o ho]; exact b1 o ho, t1.trans (a_run_step ?_ rfl)⟩
      · by_cases h : j = n
        · rw [uI_hit h, b1 110 (by omega), h]
        · rw [uI_miss h]; exact a1 j (by omega)
      · show sX11_copyk_2 d1 e _ = _
        unfold sX11_copyk_2
        simp (disch := omega) only [nI_iI, lN_lJ, iI_0, lJ_0, iI_add, iI_sub, iI_mul, iI_neg, lJ_add, lJ_sub, lJ_mul, lJ_neg, i_l, l_i, iI_cl, iI_inb, iI_eqT, iI_eqF, iI_ltT, iI_ltF, iI_leT, iI_leF, lJ_eqT, lJ_eqF, lJ_cG, lJ_cE, lJ_cL, lJ_cF, lJ_cGE, lJ_cLE, lJ_cNL, lJ_cNG, Int.cast_ofNat_Int, c_0, c_1, Int.natCast_add, Int.add_zero, cond_true, cond_false, Bool.and_self, Bool.and_true, Bool.true_and, Option.bind_some, decide_true, uI_hit, uI_miss, uI_o, uA_o, uA_s, ↓reduceIte, eq_self, true_or, or_true, or_false, false_or, true_and, and_true, false_and, and_false, or_self, and_self, not_false_eq_true, not_true_eq_false, tn_i, Int.toNat_natCast]
  obtain ⟨d1, a1, b1, t1⟩ := key 1961 (by omega)
  refine ⟨d1, ?_, a1, b1⟩
  unfold FX11_copyk
  rw [a_run_step (st := stX11_copyk) (p := (0, [some (.ref 110), some (.ref 109), none], d, e)) (p2 := (2, [some (.ref 110), some (.ref 109), some (.int (iI (0 : Nat)))], d, e)) rfl rfl, t1, a_run_step (st := stX11_copyk) (p2 := (100000, [], d1, e)) (by
    show sX11_copyk_2 d1 e _ = _
    unfold sX11_copyk_2
    simp (disch := omega) only [nI_iI, lN_lJ, iI_0, lJ_0, iI_add, iI_sub, iI_mul, iI_neg, lJ_add, lJ_sub, lJ_mul, lJ_neg, i_l, l_i, iI_cl, iI_inb, iI_eqT, iI_eqF, iI_ltT, iI_ltF, iI_leT, iI_leF, lJ_eqT, lJ_eqF, lJ_cG, lJ_cE, lJ_cL, lJ_cF, lJ_cGE, lJ_cLE, lJ_cNL, lJ_cNG, Int.cast_ofNat_Int, c_0, c_1, Int.natCast_add, Int.add_zero, cond_true, cond_false, Bool.and_self, Bool.and_true, Bool.true_and, Option.bind_some, decide_true, uI_hit, uI_miss, uI_o, uA_o, uA_s, ↓reduceIte, eq_self, true_or, or_true, or_false, false_or, true_and, and_true, false_and, and_false, or_self, and_self, not_false_eq_true, not_true_eq_false, tn_i]) rfl, a_run_end]
  rfl
theorem o_image : Op FX10_image FX11_image := by
  intro S hS
  refine ⟨(S.1, S.1, S.2.2), iI (S.1 9), ⟨hS.1, hS.1, Int.le_refl _, hS.2.2.2⟩, fun d e hC => ?_, fun d e hM => ?_⟩
  · obtain ⟨d', q1, q2, q3⟩ := nb_world_k (e := e) hC.1 hC.2.1 hS.1
    have s2 := hS.1.2.2.1.2
    obtain ⟨h1, h2, h3, h4, h5, h6, h7, h8⟩ := hC
    have k11 : d' 2 11 = iI (S.1 9) := by rw [q3 2 (by omega)]; exact h1.1.2.2.2.1
    refine ⟨d', e, ?_, ⟨h1.of (fun k a b => q3 k (by omega)), q2, fun t ht => ?_, ?_, ?_, ?_, ?_, ?_⟩, fun k a => q3 k (by omega)⟩
    · unfold FX10_image
      simp (disch := omega) only [nI_iI, lN_lJ, iI_0, lJ_0, iI_add, iI_sub, iI_mul, iI_neg, lJ_add, lJ_sub, lJ_mul, lJ_neg, i_l, l_i, iI_cl, iI_inb, iI_eqT, iI_eqF, iI_ltT, iI_ltF, iI_leT, iI_leF, lJ_eqT, lJ_eqF, lJ_cG, lJ_cE, lJ_cL, lJ_cF, lJ_cGE, lJ_cLE, lJ_cNL, lJ_cNG, Int.cast_ofNat_Int, c_0, c_1, Int.natCast_add, Int.add_zero, cond_true, cond_false, Bool.and_self, Bool.and_true, Bool.true_and, Option.bind_some, decide_true, uI_hit, uI_miss, uI_o, uA_o, uA_s, ↓reduceIte, eq_self, true_or, or_true, or_false, false_or, true_and, and_true, false_and, and_false, or_self, and_self, not_false_eq_true, not_true_eq_false, tn_i, q1, k11]
    · have ht2 : (t : Int) < S.1 2 := ht
      exact (h3 t ht2).of (fun k a b => q3 k (by omega))
    · rw [q3 78 (by omega)]; exact h4
    · rw [q3 83 (by omega)]; exact h5
    · rw [q3 83 (by omega)]; exact h6
    · rw [q3 83 (by omega)]; exact h7
    · rw [q3 84 (by omega)]; exact h8
  · obtain ⟨d', q1, q2, q3⟩ := mq_copyn (d := d) (e := e)
    obtain ⟨h1, h2, h3, h4, h5, h6, h7, h8⟩ := hM
    have a1 : MA d' 109 S.1 := h1.of (q3 109 (by omega))
    have r9 : d' 109 9 = iI (S.1 9) := a1.cell (j := 9) (by omega)
    refine ⟨d', e, ?_, ⟨a1, fun j hj => by rw [q2 j hj]; exact h1 j hj, fun t ht => (h3 t ht).of (q3 111 (by omega)), ?_, ?_, ?_, ?_, ?_⟩, fun k a => q3 k (by omega)⟩
    · unfold FX11_image
      simp (disch := omega) only [nI_iI, lN_lJ, iI_0, lJ_0, iI_add, iI_sub, iI_mul, iI_neg, lJ_add, lJ_sub, lJ_mul, lJ_neg, i_l, l_i, iI_cl, iI_inb, iI_eqT, iI_eqF, iI_ltT, iI_ltF, iI_leT, iI_leF, lJ_eqT, lJ_eqF, lJ_cG, lJ_cE, lJ_cL, lJ_cF, lJ_cGE, lJ_cLE, lJ_cNL, lJ_cNG, Int.cast_ofNat_Int, c_0, c_1, Int.natCast_add, Int.add_zero, cond_true, cond_false, Bool.and_self, Bool.and_true, Bool.true_and, Option.bind_some, decide_true, uI_hit, uI_miss, uI_o, uA_o, uA_s, ↓reduceIte, eq_self, true_or, or_true, or_false, false_or, true_and, and_true, false_and, and_false, or_self, and_self, not_false_eq_true, not_true_eq_false, tn_i, q1, r9]
    · rw [q3 108 (by omega)]; exact h4
    · rw [q3 108 (by omega)]; exact h5
    · rw [q3 108 (by omega)]; exact h6
    · rw [q3 112 (by omega)]; exact h7
    · rw [q3 108 (by omega)]; exact h8
theorem o_back : Op FX10_back FX11_back := by
  intro S hS
  have b2 := hS.2.2.1
  refine ⟨(S.2.1, S.2), iI (S.2.1 9), ⟨hS.2.1, hS.2.1, Int.le_refl _, fun t ht => hS.2.2.2.1 t (by have ht2 : (t : Int) < S.2.1 2 := ht; omega), hS.2.2.2.2⟩, fun d e hC => ?_, fun d e hM => ?_⟩
  · obtain ⟨d', q1, q2, q3⟩ := nb_world_n (e := e) hC.2.1 hC.1 hS.2.1
    have s2 := hS.1.2.2.1.2
    obtain ⟨h1, h2, h3, h4, h5, h6, h7, h8⟩ := hC
    have k11 : d' 2 11 = iI (S.2.1 9) := q2.1.2.2.2.1
    refine ⟨d', e, ?_, ⟨q2, h2.of (fun k a b => q3 k (by omega)), fun t ht => ?_, ?_, ?_, ?_, ?_, ?_⟩, fun k a => q3 k (by omega)⟩
    · unfold FX10_back
      simp (disch := omega) only [nI_iI, lN_lJ, iI_0, lJ_0, iI_add, iI_sub, iI_mul, iI_neg, lJ_add, lJ_sub, lJ_mul, lJ_neg, i_l, l_i, iI_cl, iI_inb, iI_eqT, iI_eqF, iI_ltT, iI_ltF, iI_leT, iI_leF, lJ_eqT, lJ_eqF, lJ_cG, lJ_cE, lJ_cL, lJ_cF, lJ_cGE, lJ_cLE, lJ_cNL, lJ_cNG, Int.cast_ofNat_Int, c_0, c_1, Int.natCast_add, Int.add_zero, cond_true, cond_false, Bool.and_self, Bool.and_true, Bool.true_and, Option.bind_some, decide_true, uI_hit, uI_miss, uI_o, uA_o, uA_s, ↓reduceIte, eq_self, true_or, or_true, or_false, false_or, true_and, and_true, false_and, and_false, or_self, and_self, not_false_eq_true, not_true_eq_false, tn_i, q1, k11]
    · have ht2 : (t : Int) < S.2.1 2 := ht
      exact (h3 t (by omega)).of (fun k a b => q3 k (by omega))
    · rw [q3 78 (by omega)]; exact h4
    · rw [q3 83 (by omega)]; exact h5
    · rw [q3 83 (by omega)]; exact h6
    · rw [q3 83 (by omega)]; exact h7
    · rw [q3 84 (by omega)]; exact h8
  · obtain ⟨d', q1, q2, q3⟩ := mq_copyk (d := d) (e := e)
    obtain ⟨h1, h2, h3, h4, h5, h6, h7, h8⟩ := hM
    have a1 : MA d' 109 S.2.1 := fun j hj => by rw [q2 j hj]; exact h2 j hj
    have r9 : d' 109 9 = iI (S.2.1 9) := a1.cell (j := 9) (by omega)
    refine ⟨d', e, ?_, ⟨a1, h2.of (q3 110 (by omega)), fun t ht => ?_, ?_, ?_, ?_, ?_, ?_⟩, fun k a => q3 k (by omega)⟩
    · unfold FX11_back
      simp (disch := omega) only [nI_iI, lN_lJ, iI_0, lJ_0, iI_add, iI_sub, iI_mul, iI_neg, lJ_add, lJ_sub, lJ_mul, lJ_neg, i_l, l_i, iI_cl, iI_inb, iI_eqT, iI_eqF, iI_ltT, iI_ltF, iI_leT, iI_leF, lJ_eqT, lJ_eqF, lJ_cG, lJ_cE, lJ_cL, lJ_cF, lJ_cGE, lJ_cLE, lJ_cNL, lJ_cNG, Int.cast_ofNat_Int, c_0, c_1, Int.natCast_add, Int.add_zero, cond_true, cond_false, Bool.and_self, Bool.and_true, Bool.true_and, Option.bind_some, decide_true, uI_hit, uI_miss, uI_o, uA_o, uA_s, ↓reduceIte, eq_self, true_or, or_true, or_false, false_or, true_and, and_true, false_and, and_false, or_self, and_self, not_false_eq_true, not_true_eq_false, tn_i, q1, r9]
    · have ht2 : (t : Int) < S.2.1 2 := ht
      exact (h3 t (by omega)).of (q3 111 (by omega))
    · rw [q3 108 (by omega)]; exact h4
    · rw [q3 108 (by omega)]; exact h5
    · rw [q3 108 (by omega)]; exact h6
    · rw [q3 112 (by omega)]; exact h7
    · rw [q3 108 (by omega)]; exact h8
