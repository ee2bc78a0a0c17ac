/-! ===== the class finds the tokens ===== -/
/-- the tape -/
def TPE (d : aI) (tp : Nat → Int) (L : Nat) : Prop := d 83 2 = iI (L : Nat) ∧ L ≤ 300 ∧ (∀ j, j < L → d 84 j = iI (tp j)) ∧ ∀ j, 0 ≤ tp j ∧ tp j ≤ 255
theorem c5_let {d : aI} {e : aJ} {c : Int} (h : 0 ≤ c ∧ c ≤ 255) : FX5_isLetter d e (iI c) = some (iI (if ltT c then 1 else 0), d, e) := by
  by_cases q : ltT c
  · rw [if_pos q]
    unfold FX5_isLetter
    by_cases q1 : 97 ≤ c
    · simp (disch := omega) only [nI_iI, lN_lJ, iI_0, lJ_0, iI_add, iI_sub, iI_mul, iI_neg, lJ_add, lJ_sub, lJ_mul, lJ_neg, i_l, l_i, iI_cl, iI_inb, iI_eqT, iI_eqF, iI_ltT, iI_ltF, iI_leT, iI_leF, lJ_eqT, lJ_eqF, lJ_cG, lJ_cE, lJ_cL, lJ_cF, lJ_cGE, lJ_cLE, lJ_cNL, lJ_cNG, Int.cast_ofNat_Int, c_0, c_1, Int.natCast_add, Int.add_zero, cond_true, cond_false, Bool.and_self, Bool.and_true, Bool.true_and, Option.bind_some, decide_true, uI_hit, uI_miss, uI_o, uA_o, uA_s, ↓reduceIte, eq_self, true_or, or_true, or_false, false_or, true_and, and_true, false_and, and_false, or_self, and_self, not_false_eq_true, not_true_eq_false, tn_i]
    · simp (disch := omega) only [nI_iI, lN_lJ, iI_0, lJ_0, iI_add, iI_sub, iI_mul, iI_neg, lJ_add, lJ_sub, lJ_mul, lJ_neg, i_l, l_i, iI_cl, iI_inb, iI_eqT, iI_eqF, iI_ltT, iI_ltF, iI_leT, iI_leF, lJ_eqT, lJ_eqF, lJ_cG, lJ_cE, lJ_cL, lJ_cF, lJ_cGE, lJ_cLE, lJ_cNL, lJ_cNG, Int.cast_ofNat_Int, c_0, c_1, Int.natCast_add, Int.add_zero, cond_true, cond_false, Bool.and_self, Bool.and_true, Bool.true_and, Option.bind_some, decide_true, uI_hit, uI_miss, uI_o, uA_o, uA_s, ↓reduceIte, eq_self, true_or, or_true, or_false, false_or, true_and, and_true, false_and, and_false, or_self, and_self, not_false_eq_true, not_true_eq_false, tn_i]
  · rw [if_neg q]
    unfold FX5_isLetter
    by_cases q1 : 97 ≤ c
    · by_cases q2 : c ≤ 122
      · exact absurd (Or.inl ⟨q1, q2⟩) q
      · simp (disch := omega) only [nI_iI, lN_lJ, iI_0, lJ_0, iI_add, iI_sub, iI_mul, iI_neg, lJ_add, lJ_sub, lJ_mul, lJ_neg, i_l, l_i, iI_cl, iI_inb, iI_eqT, iI_eqF, iI_ltT, iI_ltF, iI_leT, iI_leF, lJ_eqT, lJ_eqF, lJ_cG, lJ_cE, lJ_cL, lJ_cF, lJ_cGE, lJ_cLE, lJ_cNL, lJ_cNG, Int.cast_ofNat_Int, c_0, c_1, Int.natCast_add, Int.add_zero, cond_true, cond_false, Bool.and_self, Bool.and_true, Bool.true_and, Option.bind_some, decide_true, uI_hit, uI_miss, uI_o, uA_o, uA_s, ↓reduceIte, eq_self, true_or, or_true, or_false, false_or, true_and, and_true, false_and, and_false, or_self, and_self, not_false_eq_true, not_true_eq_false, tn_i]
    · by_cases q2 : 65 ≤ c
      · by_cases q3 : c ≤ 90
        · exact absurd (Or.inr ⟨q2, q3⟩) q
        · simp (disch := omega) only [nI_iI, lN_lJ, iI_0, lJ_0, iI_add, iI_sub, iI_mul, iI_neg, lJ_add, lJ_sub, lJ_mul, lJ_neg, i_l, l_i, iI_cl, iI_inb, iI_eqT, iI_eqF, iI_ltT, iI_ltF, iI_leT, iI_leF, lJ_eqT, lJ_eqF, lJ_cG, lJ_cE, lJ_cL, lJ_cF, lJ_cGE, lJ_cLE, lJ_cNL, lJ_cNG, Int.cast_ofNat_Int, c_0, c_1, Int.natCast_add, Int.add_zero, cond_true, cond_false, Bool.and_self, Bool.and_true, Bool.true_and, Option.bind_some, decide_true, uI_hit, uI_miss, uI_o, uA_o, uA_s, ↓reduceIte, eq_self, true_or, or_true, or_false, false_or, true_and, and_true, false_and, and_false, or_self, and_self, not_false_eq_true, not_true_eq_false, tn_i]
      · simp (disch := omega) only [nI_iI, lN_lJ, iI_0, lJ_0, iI_add, iI_sub, iI_mul, iI_neg, lJ_add, lJ_sub, lJ_mul, lJ_neg, i_l, l_i, iI_cl, iI_inb, iI_eqT, iI_eqF, iI_ltT, iI_ltF, iI_leT, iI_leF, lJ_eqT, lJ_eqF, lJ_cG, lJ_cE, lJ_cL, lJ_cF, lJ_cGE, lJ_cLE, lJ_cNL, lJ_cNG, Int.cast_ofNat_Int, c_0, c_1, Int.natCast_add, Int.add_zero, cond_true, cond_false, Bool.and_self, Bool.and_true, Bool.true_and, Option.bind_some, decide_true, uI_hit, uI_miss, uI_o, uA_o, uA_s, ↓reduceIte, eq_self, true_or, or_true, or_false, false_or, true_and, and_true, false_and, and_false, or_self, and_self, not_false_eq_true, not_true_eq_false, tn_i]
theorem c5_dig {d : aI} {e : aJ} {c : Int} (h : 0 ≤ c ∧ c ≤ 255) : FX5_isDigit d e (iI c) = some (iI (if fgT c then 1 else 0), d, e) := by
  by_cases q : fgT c
  · rw [if_pos q]
    unfold FX5_isDigit
    simp (disch := omega) only [nI_iI, lN_lJ, iI_0, lJ_0, iI_add, iI_sub, iI_mul, iI_neg, lJ_add, lJ_sub, lJ_mul, lJ_neg, i_l, l_i, iI_cl, iI_inb, iI_eqT, iI_eqF, iI_ltT, iI_ltF, iI_leT, iI_leF, lJ_eqT, lJ_eqF, lJ_cG, lJ_cE, lJ_cL, lJ_cF, lJ_cGE, lJ_cLE, lJ_cNL, lJ_cNG, Int.cast_ofNat_Int, c_0, c_1, Int.natCast_add, Int.add_zero, cond_true, cond_false, Bool.and_self, Bool.and_true, Bool.true_and, Option.bind_some, decide_true, uI_hit, uI_miss, uI_o, uA_o, uA_s, ↓reduceIte, eq_self, true_or, or_true, or_false, false_or, true_and, and_true, false_and, and_false, or_self, and_self, not_false_eq_true, not_true_eq_false, tn_i]
  · rw [if_neg q]
    unfold FX5_isDigit
    by_cases q1 : c < 48
    · simp (disch := omega) only [nI_iI, lN_lJ, iI_0, lJ_0, iI_add, iI_sub, iI_mul, iI_neg, lJ_add, lJ_sub, lJ_mul, lJ_neg, i_l, l_i, iI_cl, iI_inb, iI_eqT, iI_eqF, iI_ltT, iI_ltF, iI_leT, iI_leF, lJ_eqT, lJ_eqF, lJ_cG, lJ_cE, lJ_cL, lJ_cF, lJ_cGE, lJ_cLE, lJ_cNL, lJ_cNG, Int.cast_ofNat_Int, c_0, c_1, Int.natCast_add, Int.add_zero, cond_true, cond_false, Bool.and_self, Bool.and_true, Bool.true_and, Option.bind_some, decide_true, uI_hit, uI_miss, uI_o, uA_o, uA_s, ↓reduceIte, eq_self, true_or, or_true, or_false, false_or, true_and, and_true, false_and, and_false, or_self, and_self, not_false_eq_true, not_true_eq_false, tn_i]
    · simp (disch := omega) only [nI_iI, lN_lJ, iI_0, lJ_0, iI_add, iI_sub, iI_mul, iI_neg, lJ_add, lJ_sub, lJ_mul, lJ_neg, i_l, l_i, iI_cl, iI_inb, iI_eqT, iI_eqF, iI_ltT, iI_ltF, iI_leT, iI_leF, lJ_eqT, lJ_eqF, lJ_cG, lJ_cE, lJ_cL, lJ_cF, lJ_cGE, lJ_cLE, lJ_cNL, lJ_cNG, Int.cast_ofNat_Int, c_0, c_1, Int.natCast_add, Int.add_zero, cond_true, cond_false, Bool.and_self, Bool.and_true, Bool.true_and, Option.bind_some, decide_true, uI_hit, uI_miss, uI_o, uA_o, uA_s, ↓reduceIte, eq_self, true_or, or_true, or_false, false_or, true_and, and_true, false_and, and_false, or_self, and_self, not_false_eq_true, not_true_eq_false, tn_i]
theorem c5_word {d : aI} {e : aJ} {tp : Nat → Int} {L i b w : Nat} (hT : TPE d tp L) (hi : i ≤ b ∧ b ≤ L) (hw : w < 26) : FX5_isWord d e (iI ((6 * w : Nat) : Int)) (iI (i : Nat)) (iI (b : Nat)) = some (iI (if wmT tp i (b - i) w then 1 else 0), d, e) := by
  obtain ⟨t1, t2, t3, t4⟩ := hT
  unfold FX5_isWord
  by_cases q6 : b - i ≤ 6
  · have e1 : (b : Int) - (i : Int) = ((b - i : Nat) : Int) := by omega
    have st0 : stX5_isWord (0, [some (.ref 83), some (.int (iI ((6 * w : Nat) : Int))), some (.int (iI (i : Nat))), some (.int (iI (b : Nat))), none, none], d, e) = some (17, [some (.ref 83), some (.int (iI ((6 * w : Nat) : Int))), some (.int (iI (i : Nat))), some (.int (iI (b : Nat))), some (.int (iI ((b - i : Nat) : Int))), some (.int (iI (0 : Nat)))], d, e) := by
      rw [← e1]
      show sX5_isWord_0 d e _ _ _ = _
      unfold sX5_isWord_0
      simp (disch := omega) only [nI_iI, lN_lJ, iI_0, lJ_0, iI_add, iI_sub, iI_mul, iI_neg, lJ_add, lJ_sub, lJ_mul, lJ_neg, i_l, l_i, iI_cl, iI_inb, iI_eqT, iI_eqF, iI_ltT, iI_ltF, iI_leT, iI_leF, lJ_eqT, lJ_eqF, lJ_cG, lJ_cE, lJ_cL, lJ_cF, lJ_cGE, lJ_cLE, lJ_cNL, lJ_cNG, Int.cast_ofNat_Int, c_0, c_1, Int.natCast_add, Int.add_zero, cond_true, cond_false, Bool.and_self, Bool.and_true, Bool.true_and, Option.bind_some, decide_true, uI_hit, uI_miss, uI_o, uA_o, uA_s, ↓reduceIte, eq_self, true_or, or_true, or_false, false_or, true_and, and_true, false_and, and_false, or_self, and_self, not_false_eq_true, not_true_eq_false, tn_i]
    have bl : b = i + (b - i) := by omega
    generalize b - i = l at *
    have key := run_fndX (st := stX5_isWord) (V := Unit) (fun k _ => (17, [some (.ref 83), some (.int (iI ((6 * w : Nat) : Int))), some (.int (iI (i : Nat))), some (.int (iI (b : Nat))), some (.int (iI (l : Nat))), some (.int (iI (k : Nat)))], d, e)) (fun r _ => some ([some (.int (iI (if r = -1 then (if l = 6 ∨ wcT (6 * w + l) = 32 then 1 else 0) else 0)))], d, e)) (fun j => tp (i + j) ≠ wcT (6 * w + j)) l ?_ ?_ ?_ ()
    · obtain ⟨_, key⟩ := key
      rw [a_run_step st0 rfl]
      refine (congrArg (fun z => z.bind a_xI) key).trans ?_
      show some (iI (if fnd (fun j => tp (i + j) ≠ wcT (6 * w + j)) l = -1 then (if l = 6 ∨ wcT (6 * w + l) = 32 then 1 else 0) else 0), d, e) = _
      by_cases f : fnd (fun j => tp (i + j) ≠ wcT (6 * w + j)) l = -1
      · rw [if_pos f]
        have al : ∀ j, j < l → tp (i + j) = wcT (6 * w + j) := fun j hj => Classical.byContradiction (fun z => (fnd_no f j hj) z)
        by_cases z : l = 6 ∨ wcT (6 * w + l) = 32
        · rw [if_pos z, if_pos ⟨q6, al, z⟩]
        · rw [if_neg z, if_neg (fun y => z y.2.2)]
      · rw [if_neg f]
        have y := fnd_yes f
        have ll := fnd_le (p := fun j => tp (i + j) ≠ wcT (6 * w + j)) l
        rw [if_neg (fun z => y (z.2.1 _ (by omega)))]
    · intro k _ hk hp
      have e2 : tp (i + k) = wcT (6 * w + k) := Classical.byContradiction hp
      have c1 := t3 (i + k) (by omega)
      have g4 := t4 (i + k)
      have fc := fs_chr (d := d) (e := e) (k := 6 * w + k) (by omega)
      rw [e2] at c1
      have tn : ((i : Int) + (k : Int)).toNat = i + k := by omega
      have e3 : ((6 * w : Nat) : Int) + (k : Int) = ((6 * w + k : Nat) : Int) := by omega
      refine ⟨(), a_run_step ?_ rfl⟩
      show sX5_isWord_17 d e _ _ _ _ _ = _
      unfold sX5_isWord_17
      generalize wcT (6 * w + k) = z at *
      generalize 6 * w + k = y at *
      generalize 6 * w = x at *
      simp (disch := omega) only [nI_iI, lN_lJ, iI_0, lJ_0, iI_add, iI_sub, iI_mul, iI_neg, lJ_add, lJ_sub, lJ_mul, lJ_neg, i_l, l_i, iI_cl, iI_inb, iI_eqT, iI_eqF, iI_ltT, iI_ltF, iI_leT, iI_leF, lJ_eqT, lJ_eqF, lJ_cG, lJ_cE, lJ_cL, lJ_cF, lJ_cGE, lJ_cLE, lJ_cNL, lJ_cNG, Int.cast_ofNat_Int, c_0, c_1, Int.natCast_add, Int.add_zero, cond_true, cond_false, Bool.and_self, Bool.and_true, Bool.true_and, Option.bind_some, decide_true, uI_hit, uI_miss, uI_o, uA_o, uA_s, ↓reduceIte, eq_self, true_or, or_true, or_false, false_or, true_and, and_true, false_and, and_false, or_self, and_self, not_false_eq_true, not_true_eq_false, tn_i, tn, c1, e3, fc]
    · intro k _ hk hp
      have c1 := t3 (i + k) (by omega)
      have g4 := t4 (i + k)
      have fc := fs_chr (d := d) (e := e) (k := 6 * w + k) (by omega)
      have tn : ((i : Int) + (k : Int)).toNat = i + k := by omega
      have e3 : ((6 * w : Nat) : Int) + (k : Int) = ((6 * w + k : Nat) : Int) := by omega
      have wi : -1000 ≤ wcT (6 * w + k) ∧ wcT (6 * w + k) ≤ 1000 := wc_in (by omega)
      refine ⟨(), ?_⟩
      rw [if_neg (show ¬((k : Int) = -1) by omega), a_run_step (st := stX5_isWord) (p2 := (100000, [some (.int (iI 0))], d, e)) (by
        show sX5_isWord_17 d e _ _ _ _ _ = _
        unfold sX5_isWord_17
        generalize wcT (6 * w + k) = z at *
        generalize 6 * w + k = y at *
        generalize 6 * w = x at *
        generalize tp (i + k) = v at *
        simp (disch := omega) only [nI_iI, lN_lJ, iI_0, lJ_0, iI_add, iI_sub, iI_mul, iI_neg, lJ_add, lJ_sub, lJ_mul, lJ_neg, i_l, l_i, iI_cl, iI_inb, iI_eqT, iI_eqF, iI_ltT, iI_ltF, iI_leT, iI_leF, lJ_eqT, lJ_eqF, lJ_cG, lJ_cE, lJ_cL, lJ_cF, lJ_cGE, lJ_cLE, lJ_cNL, lJ_cNG, Int.cast_ofNat_Int, c_0, c_1, Int.natCast_add, Int.add_zero, cond_true, cond_false, Bool.and_self, Bool.and_true, Bool.true_and, Option.bind_some, decide_true, uI_hit, uI_miss, uI_o, uA_o, uA_s, ↓reduceIte, eq_self, true_or, or_true, or_false, false_or, true_and, and_true, false_and, and_false, or_self, and_self, not_false_eq_true, not_true_eq_false, tn_i, tn, c1, e3, fc]) rfl, a_run_end]
    · intro _
      refine ⟨(), ?_⟩
      rw [if_pos rfl]
      by_cases l6 : l = 6
      · rw [if_pos (Or.inl l6), a_run_step (st := stX5_isWord) (p2 := (100000, [some (.int (iI 1))], d, e)) (by
          show sX5_isWord_17 d e _ _ _ _ _ = _
          unfold sX5_isWord_17
          simp (disch := omega) only [nI_iI, lN_lJ, iI_0, lJ_0, iI_add, iI_sub, iI_mul, iI_neg, lJ_add, lJ_sub, lJ_mul, lJ_neg, i_l, l_i, iI_cl, iI_inb, iI_eqT, iI_eqF, iI_ltT, iI_ltF, iI_leT, iI_leF, lJ_eqT, lJ_eqF, lJ_cG, lJ_cE, lJ_cL, lJ_cF, lJ_cGE, lJ_cLE, lJ_cNL, lJ_cNG, Int.cast_ofNat_Int, c_0, c_1, Int.natCast_add, Int.add_zero, cond_true, cond_false, Bool.and_self, Bool.and_true, Bool.true_and, Option.bind_some, decide_true, uI_hit, uI_miss, uI_o, uA_o, uA_s, ↓reduceIte, eq_self, true_or, or_true, or_false, false_or, true_and, and_true, false_and, and_false, or_self, and_self, not_false_eq_true, not_true_eq_false, tn_i]) rfl, a_run_end]
      · have fc := fs_chr (d := d) (e := e) (k := 6 * w + l) (by omega)
        have e3 : ((6 * w : Nat) : Int) + (l : Int) = ((6 * w + l : Nat) : Int) := by omega
        have wi : -1000 ≤ wcT (6 * w + l) ∧ wcT (6 * w + l) ≤ 1000 := wc_in (by omega)
        by_cases z : wcT (6 * w + l) = 32
        · rw [if_pos (Or.inr z), a_run_step (st := stX5_isWord) (p2 := (100000, [some (.int (iI 1))], d, e)) (by
            show sX5_isWord_17 d e _ _ _ _ _ = _
            unfold sX5_isWord_17
            generalize wcT (6 * w + l) = v at *
            generalize 6 * w + l = y at *
            generalize 6 * w = x at *
            simp (disch := omega) only [nI_iI, lN_lJ, iI_0, lJ_0, iI_add, iI_sub, iI_mul, iI_neg, lJ_add, lJ_sub, lJ_mul, lJ_neg, i_l, l_i, iI_cl, iI_inb, iI_eqT, iI_eqF, iI_ltT, iI_ltF, iI_leT, iI_leF, lJ_eqT, lJ_eqF, lJ_cG, lJ_cE, lJ_cL, lJ_cF, lJ_cGE, lJ_cLE, lJ_cNL, lJ_cNG, Int.cast_ofNat_Int, c_0, c_1, Int.natCast_add, Int.add_zero, cond_true, cond_false, Bool.and_self, Bool.and_true, Bool.true_and, Option.bind_some, decide_true, uI_hit, uI_miss, uI_o, uA_o, uA_s, ↓reduceIte, eq_self, true_or, or_true, or_false, false_or, true_and, and_true, false_and, and_false, or_self, and_self, not_false_eq_true, not_true_eq_false, tn_i, e3, fc]) rfl, a_run_end]
        · rw [if_neg (fun y => by rcases y with y | y; exact l6 y; exact z y), a_run_step (st := stX5_isWord) (p2 := (100000, [some (.int (iI 0))], d, e)) (by
            show sX5_isWord_17 d e _ _ _ _ _ = _
            unfold sX5_isWord_17
            generalize wcT (6 * w + l) = v at *
            generalize 6 * w + l = y at *
            generalize 6 * w = x at *
            simp (disch := omega) only [nI_iI, lN_lJ, iI_0, lJ_0, iI_add, iI_sub, iI_mul, iI_neg, lJ_add, lJ_sub, lJ_mul, lJ_neg, i_l, l_i, iI_cl, iI_inb, iI_eqT, iI_eqF, iI_ltT, iI_ltF, iI_leT, iI_leF, lJ_eqT, lJ_eqF, lJ_cG, lJ_cE, lJ_cL, lJ_cF, lJ_cGE, lJ_cLE, lJ_cNL, lJ_cNG, Int.cast_ofNat_Int, c_0, c_1, Int.natCast_add, Int.add_zero, cond_true, cond_false, Bool.and_self, Bool.and_true, Bool.true_and, Option.bind_some, decide_true, uI_hit, uI_miss, uI_o, uA_o, uA_s, ↓reduceIte, eq_self, true_or, or_true, or_false, false_or, true_and, and_true, false_and, and_false, or_self, and_self, not_false_eq_true, not_true_eq_false, tn_i, e3, fc]) rfl, a_run_end]
  · rw [if_neg (fun z => q6 z.1), a_run_step (st := stX5_isWord) (p2 := (100000, [some (.int (iI 0))], d, e)) (by
      show sX5_isWord_0 d e _ _ _ = _
      unfold sX5_isWord_0
      simp (disch := omega) only [nI_iI, lN_lJ, iI_0, lJ_0, iI_add, iI_sub, iI_mul, iI_neg, lJ_add, lJ_sub, lJ_mul, lJ_neg, i_l, l_i, iI_cl, iI_inb, iI_eqT, iI_eqF, iI_ltT, iI_ltF, iI_leT, iI_leF, lJ_eqT, lJ_eqF, lJ_cG, lJ_cE, lJ_cL, lJ_cF, lJ_cGE, lJ_cLE, lJ_cNL, lJ_cNG, Int.cast_ofNat_Int, c_0, c_1, Int.natCast_add, Int.add_zero, cond_true, cond_false, Bool.and_self, Bool.and_true, Bool.true_and, Option.bind_some, decide_true, uI_hit, uI_miss, uI_o, uA_o, uA_s, ↓reduceIte, eq_self, true_or, or_true, or_false, false_or, true_and, and_true, false_and, and_false, or_self, and_self, not_false_eq_true, not_true_eq_false, tn_i]) rfl, a_run_end]
    rfl
