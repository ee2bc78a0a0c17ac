/-! ===== the class finds the tokens: numbers, words, all ===== -/
theorem vlT_in {tp : Nat → Int} {i : Nat} : ∀ k, (∀ j, j < k → fgT (tp (i + j))) → 0 ≤ vlT tp i k ∧ vlT tp i k ≤ 10000
  | 0, _ => by show 0 ≤ (0 : Int) ∧ (0 : Int) ≤ 10000; omega
  | k + 1, h => by
    have ih := vlT_in k (fun j hj => h j (by omega))
    have g := h k (by omega)
    have e : vlT tp i (k + 1) = if vlT tp i k * 10 + tp (i + k) - 48 ≤ 10000 then vlT tp i k * 10 + tp (i + k) - 48 else 10000 := rfl
    rw [e]
    split <;> omega
theorem c5_num {d : aI} {e : aJ} {tp : Nat → Int} {L i t : Nat} (hT : TPE d tp L) (hi : i < L) (h8 : d 83 8 = iI (t : Nat)) (ht : t ≤ 300) : FX5_scanNumber d e (iI (i : Nat)) = some (iI (rnE fgT tp L i : Nat), uI (uI d 85 t (iI 1)) 87 t (iI (vlT tp i (rnE fgT tp L i - i))), e) := by
  obtain ⟨t1, t2, t3, t4⟩ := hT
  obtain ⟨r1, r2, r3, r4⟩ := rnE_in (p := fgT) (tp := tp) (L := L) (i := i) (by omega)
  obtain ⟨m, hm⟩ : ∃ m, rnE fgT tp L i = i + m := ⟨rnE fgT tp L i - i, by omega⟩
  rw [hm] at r2 r3 r4 ⊢
  rw [show i + m - i = m by omega]
  have vi : ∀ k, k ≤ m → 0 ≤ vlT tp i k ∧ vlT tp i k ≤ 10000 := fun k hk => vlT_in k (fun j hj => r3 (i + j) (by omega) (by omega))
  have lp := run_invR (st := stX5_scanNumber) (fun k p => p = (4, [some (.ref 83), some (.int (iI (i : Nat))), some (.int (iI (i + k : Nat))), some (.int (iI (vlT tp i k)))], d, e)) m (p0 := (4, [some (.ref 83), some (.int (iI (i : Nat))), some (.int (iI (i : Nat))), some (.int (iI 0))], d, e)) rfl ?_
  rotate_left
  · rintro k p hk rfl
    have c1 := t3 (i + k) (by omega)
    have g4 := t4 (i + k)
    have f := r3 (i + k) (by omega) (by omega)
    have v := vi k (by omega)
    have dg := c5_dig (d := d) (e := e) g4
    rw [if_pos f] at dg
    refine ⟨_, a_run_step (p2 := (4, [some (.ref 83), some (.int (iI (i : Nat))), some (.int (iI (i + (k + 1) : Nat))), some (.int (iI (vlT tp i (k + 1))))], d, e)) ?_ rfl, rfl⟩
    show stX5_scanNumber _ = some (4, [some (.ref 83), some (.int (iI (i : Nat))), some (.int (iI (i + (k + 1) : Nat))), some (.int (iI (if vlT tp i k * 10 + tp (i + k) - 48 ≤ 10000 then vlT tp i k * 10 + tp (i + k) - 48 else 10000)))], d, e)
    have tn : ((i : Int) + (k : Int)).toNat = i + k := by omega
    generalize vlT tp i k = V at v
    generalize tp (i + k) = c at *
    have mn : a_min (iI (V * 10 + c - 48)) (iI 10000) = iI (if V * 10 + c - 48 ≤ 10000 then V * 10 + c - 48 else 10000) := iI_min (by omega)
    show sX5_scanNumber_4 d e _ _ _ = _
    unfold sX5_scanNumber_4
    simp (disch := omega) only [nI_iI, lN_lJ, iI_0, lJ_0, iI_add, iI_sub, iI_mul, iI_neg, lJ_add, lJ_sub, lJ_mul, lJ_neg, i_l, l_i, iI_cl, iI_inb, iI_eqT, iI_eqF, iI_ltT, iI_ltF, iI_leT, iI_leF, lJ_eqT, lJ_eqF, lJ_cG, lJ_cE, lJ_cL, lJ_cF, lJ_cGE, lJ_cLE, lJ_cNL, lJ_cNG, Int.cast_ofNat_Int, c_0, c_1, Int.natCast_add, Int.add_zero, cond_true, cond_false, Bool.and_self, Bool.and_true, Bool.true_and, Option.bind_some, decide_true, uI_hit, uI_miss, uI_o, uA_o, uA_s, ↓reduceIte, eq_self, true_or, or_true, or_false, false_or, true_and, and_true, false_and, and_false, or_self, and_self, not_false_eq_true, not_true_eq_false, tn_i, t1, tn, c1, dg, mn, Int.add_assoc]
  obtain ⟨p, rfl, t5⟩ := lp
  unfold FX5_scanNumber
  rw [a_run_step (st := stX5_scanNumber) (p := (0, [some (.ref 83), some (.int (iI (i : Nat))), none, none], d, e)) (p2 := (4, [some (.ref 83), some (.int (iI (i : Nat))), some (.int (iI (i : Nat))), some (.int (iI 0))], d, e)) rfl rfl, t5, a_run_step (st := stX5_scanNumber) (p2 := (100000, [some (.int (iI (i + m : Nat)))], uI (uI d 85 t (iI 1)) 87 t (iI (vlT tp i m)), e)) (by
    have tn : ((i : Int) + (m : Int)).toNat = i + m := by omega
    show sX5_scanNumber_4 d e _ _ _ = _
    unfold sX5_scanNumber_4
    by_cases q : i + m < L
    · have c1 := t3 (i + m) q
      have g4 := t4 (i + m)
      have f := r4 q
      have dg := c5_dig (d := d) (e := e) g4
      rw [if_neg f] at dg
      simp (disch := omega) only [nI_iI, lN_lJ, iI_0, lJ_0, iI_add, iI_sub, iI_mul, iI_neg, lJ_add, lJ_sub, lJ_mul, lJ_neg, i_l, l_i, iI_cl, iI_inb, iI_eqT, iI_eqF, iI_ltT, iI_ltF, iI_leT, iI_leF, lJ_eqT, lJ_eqF, lJ_cG, lJ_cE, lJ_cL, lJ_cF, lJ_cGE, lJ_cLE, lJ_cNL, lJ_cNG, Int.cast_ofNat_Int, c_0, c_1, Int.natCast_add, Int.add_zero, cond_true, cond_false, Bool.and_self, Bool.and_true, Bool.true_and, Option.bind_some, decide_true, uI_hit, uI_miss, uI_o, uA_o, uA_s, ↓reduceIte, eq_self, true_or, or_true, or_false, false_or, true_and, and_true, false_and, and_false, or_self, and_self, not_false_eq_true, not_true_eq_false, tn_i, Int.toNat_natCast, t1, tn, c1, dg, h8]
    · simp (disch := omega) only [nI_iI, lN_lJ, iI_0, lJ_0, iI_add, iI_sub, iI_mul, iI_neg, lJ_add, lJ_sub, lJ_mul, lJ_neg, i_l, l_i, iI_cl, iI_inb, iI_eqT, iI_eqF, iI_ltT, iI_ltF, iI_leT, iI_leF, lJ_eqT, lJ_eqF, lJ_cG, lJ_cE, lJ_cL, lJ_cF, lJ_cGE, lJ_cLE, lJ_cNL, lJ_cNG, Int.cast_ofNat_Int, c_0, c_1, Int.natCast_add, Int.add_zero, cond_true, cond_false, Bool.and_self, Bool.and_true, Bool.true_and, Option.bind_some, decide_true, uI_hit, uI_miss, uI_o, uA_o, uA_s, ↓reduceIte, eq_self, true_or, or_true, or_false, false_or, true_and, and_true, false_and, and_false, or_self, and_self, not_false_eq_true, not_true_eq_false, tn_i, Int.toNat_natCast, t1, h8]) rfl, a_run_end]
  rfl
theorem fs_len {d : aI} {e : aJ} : FSlen d e = some (iI 156, d, e) := rfl
theorem TPE.of {d d' : aI} {tp : Nat → Int} {L : Nat} (h : TPE d tp L) (g2 : d' 83 2 = d 83 2) (g : d' 84 = d 84) : TPE d' tp L := ⟨by rw [g2]; exact h.1, h.2.1, fun j hj => by rw [g]; exact h.2.2.1 j hj, h.2.2.2⟩
theorem c5_scanWord {d : aI} {e : aJ} {tp : Nat → Int} {L i t : Nat} (hT : TPE d tp L) (hi : i < L) (h8 : d 83 8 = iI (t : Nat)) (ht : t ≤ 300) : ∃ d', FX5_scanWord d e (iI (i : Nat)) = some (iI (rnE ltT tp L i : Nat), d', e) ∧ d' 85 t = iI (wkT tp i (rnE ltT tp L i - i)) ∧ (∀ o j, (o ≠ 85 ∨ j ≠ t) → d' o j = d o j) := by
  have hT0 := hT
  obtain ⟨t1, t2, t3, t4⟩ := hT
  obtain ⟨r1, r2, r3, r4⟩ := rnE_in (p := ltT) (tp := tp) (L := L) (i := i) (by omega)
  obtain ⟨m, hm⟩ : ∃ m, rnE ltT tp L i = i + m := ⟨rnE ltT tp L i - i, by omega⟩
  rw [hm] at r2 r3 r4 ⊢
  rw [show i + m - i = m by omega]
  have lp := run_invR (st := stX5_scanWord) (fun k p => p = (2, [some (.ref 83), some (.int (iI (i : Nat))), some (.int (iI (i + k : Nat))), none], d, e)) m (p0 := (2, [some (.ref 83), some (.int (iI (i : Nat))), some (.int (iI (i : Nat))), none], d, e)) rfl ?_
  rotate_left
  · rintro k p hk rfl
    have c1 := t3 (i + k) (by omega)
    have g4 := t4 (i + k)
    have f := r3 (i + k) (by omega) (by omega)
    have dg := c5_let (d := d) (e := e) g4
    rw [if_pos f] at dg
    refine ⟨_, a_run_step (p2 := (2, [some (.ref 83), some (.int (iI (i : Nat))), some (.int (iI (i + (k + 1) : Nat))), none], d, e)) ?_ rfl, rfl⟩
    have tn : ((i : Int) + (k : Int)).toNat = i + k := by omega
    show sX5_scanWord_2 d e _ _ none = _
    unfold sX5_scanWord_2
    simp (disch := omega) only [nI_iI, lN_lJ, iI_0, lJ_0, iI_add, iI_sub, iI_mul, iI_neg, lJ_add, lJ_sub, lJ_mul, lJ_neg, i_l, l_i, iI_cl, iI_inb, iI_eqT, iI_eqF, iI_ltT, iI_ltF, iI_leT, iI_leF, lJ_eqT, lJ_eqF, lJ_cG, lJ_cE, lJ_cL, lJ_cF, lJ_cGE, lJ_cLE, lJ_cNL, lJ_cNG, Int.cast_ofNat_Int, c_0, c_1, Int.natCast_add, Int.add_zero, cond_true, cond_false, Bool.and_self, Bool.and_true, Bool.true_and, Option.bind_some, decide_true, uI_hit, uI_miss, uI_o, uA_o, uA_s, ↓reduceIte, eq_self, true_or, or_true, or_false, false_or, true_and, and_true, false_and, and_false, or_self, and_self, not_false_eq_true, not_true_eq_false, tn_i, t1, tn, c1, dg, Int.add_assoc]
  obtain ⟨p, rfl, t5⟩ := lp
  have st1 : stX5_scanWord (2, [some (.ref 83), some (.int (iI (i : Nat))), some (.int (iI (i + m : Nat))), none], d, e) = some (40, [some (.ref 83), some (.int (iI (i : Nat))), some (.int (iI (i + m : Nat))), some (.int (iI (0 : Nat)))], uI d 85 t (iI 2), e) := by
    have tn : ((i : Int) + (m : Int)).toNat = i + m := by omega
    show sX5_scanWord_2 d e _ _ none = _
    unfold sX5_scanWord_2
    by_cases q : i + m < L
    · have c1 := t3 (i + m) q
      have g4 := t4 (i + m)
      have f := r4 q
      have dg := c5_let (d := d) (e := e) g4
      rw [if_neg f] at dg
      simp (disch := omega) only [nI_iI, lN_lJ, iI_0, lJ_0, iI_add, iI_sub, iI_mul, iI_neg, lJ_add, lJ_sub, lJ_mul, lJ_neg, i_l, l_i, iI_cl, iI_inb, iI_eqT, iI_eqF, iI_ltT, iI_ltF, iI_leT, iI_leF, lJ_eqT, lJ_eqF, lJ_cG, lJ_cE, lJ_cL, lJ_cF, lJ_cGE, lJ_cLE, lJ_cNL, lJ_cNG, Int.cast_ofNat_Int, c_0, c_1, Int.natCast_add, Int.add_zero, cond_true, cond_false, Bool.and_self, Bool.and_true, Bool.true_and, Option.bind_some, decide_true, uI_hit, uI_miss, uI_o, uA_o, uA_s, ↓reduceIte, eq_self, true_or, or_true, or_false, false_or, true_and, and_true, false_and, and_false, or_self, and_self, not_false_eq_true, not_true_eq_false, tn_i, Int.toNat_natCast, t1, tn, c1, dg, h8]
    · simp (disch := omega) only [nI_iI, lN_lJ, iI_0, lJ_0, iI_add, iI_sub, iI_mul, iI_neg, lJ_add, lJ_sub, lJ_mul, lJ_neg, i_l, l_i, iI_cl, iI_inb, iI_eqT, iI_eqF, iI_ltT, iI_ltF, iI_leT, iI_leF, lJ_eqT, lJ_eqF, lJ_cG, lJ_cE, lJ_cL, lJ_cF, lJ_cGE, lJ_cLE, lJ_cNL, lJ_cNG, Int.cast_ofNat_Int, c_0, c_1, Int.natCast_add, Int.add_zero, cond_true, cond_false, Bool.and_self, Bool.and_true, Bool.true_and, Option.bind_some, decide_true, uI_hit, uI_miss, uI_o, uA_o, uA_s, ↓reduceIte, eq_self, true_or, or_true, or_false, false_or, true_and, and_true, false_and, and_false, or_self, and_self, not_false_eq_true, not_true_eq_false, tn_i, Int.toNat_natCast, t1, h8]
  have T1 : TPE (uI d 85 t (iI 2)) tp L := hT0.of (by rw [uI_o (by omega)]) (by rw [uI_o (by omega)])
  have w8 : (uI d 85 t (iI 2)) 83 8 = iI (t : Nat) := by rw [uI_o (by omega)]; exact h8
  have cw := fun w (hw : w < 26) => c5_word (e := e) T1 (i := i) (b := i + m) (w := w) (by omega) hw
  rw [show i + m - i = m by omega] at cw
  have key := run_fndX (st := stX5_scanWord) (V := Unit) (fun k _ => (40, [some (.ref 83), some (.int (iI (i : Nat))), some (.int (iI (i + m : Nat))), some (.int (iI (k : Nat)))], uI d 85 t (iI 2), e)) (fun r _ => some ([some (.int (iI (i + m : Nat)))], if r = -1 then uI d 85 t (iI 2) else uI (uI d 85 t (iI 2)) 85 t (iI (300 + r)), e)) (fun w => wmT tp i m w) 26 ?_ ?_ ?_ ()
  · obtain ⟨_, key⟩ := key
    have run : FX5_scanWord d e (iI (i : Nat)) = some (iI (i + m : Nat), if fnd (fun w => wmT tp i m w) 26 = -1 then uI d 85 t (iI 2) else uI (uI d 85 t (iI 2)) 85 t (iI (300 + fnd (fun w => wmT tp i m w) 26)), e) := by
      unfold FX5_scanWord
      rw [a_run_step (st := stX5_scanWord) (p := (0, [some (.ref 83), some (.int (iI (i : Nat))), none, none], d, e)) (p2 := (2, [some (.ref 83), some (.int (iI (i : Nat))), some (.int (iI (i : Nat))), none], d, e)) rfl rfl, t5, a_run_step st1 rfl]
      refine (congrArg (fun z => z.bind a_xI) key).trans ?_
      rfl
    refine ⟨_, run, ?_, fun o j h => ?_⟩
    · unfold wkT
      by_cases f : fnd (fun w => wmT tp i m w) 26 = -1
      · rw [if_pos f, if_pos f, uI_hit rfl]
      · rw [if_neg f, if_neg f, uI_hit rfl]
    · have one : ∀ (d : aI) (v : Int32), uI d 85 t v o j = d o j := fun d v => by
        by_cases o5 : o = 85
        · rw [o5, uI_miss (by omega)]
        · rw [uI_o o5]
      by_cases f : fnd (fun w => wmT tp i m w) 26 = -1
      · rw [if_pos f, one]
      · rw [if_neg f, one, one]
  · intro k _ hk hp
    have q := cw k hk
    rw [if_neg hp] at q
    have e1 : (k : Int) * 6 = ((6 * k : Nat) : Int) := by omega
    refine ⟨(), a_run_step ?_ rfl⟩
    show sX5_scanWord_40 _ e _ _ _ = _
    unfold sX5_scanWord_40
    generalize 6 * k = x at *
    generalize i + m = b at *
    simp (disch := omega) only [nI_iI, lN_lJ, iI_0, lJ_0, iI_add, iI_sub, iI_mul, iI_neg, lJ_add, lJ_sub, lJ_mul, lJ_neg, i_l, l_i, iI_cl, iI_inb, iI_eqT, iI_eqF, iI_ltT, iI_ltF, iI_leT, iI_leF, lJ_eqT, lJ_eqF, lJ_cG, lJ_cE, lJ_cL, lJ_cF, lJ_cGE, lJ_cLE, lJ_cNL, lJ_cNG, Int.cast_ofNat_Int, c_0, c_1, Int.natCast_add, Int.add_zero, cond_true, cond_false, Bool.and_self, Bool.and_true, Bool.true_and, Option.bind_some, decide_true, uI_hit, uI_miss, uI_o, uA_o, uA_s, ↓reduceIte, eq_self, true_or, or_true, or_false, false_or, true_and, and_true, false_and, and_false, or_self, and_self, not_false_eq_true, not_true_eq_false, tn_i, fs_len, iI_div, e1, q, decide_eq_true]
  · intro k _ hk hp
    have q := cw k hk
    rw [if_pos hp] at q
    have e1 : (k : Int) * 6 = ((6 * k : Nat) : Int) := by omega
    refine ⟨(), ?_⟩
    rw [if_neg (show ¬((k : Int) = -1) by omega), a_run_step (st := stX5_scanWord) (p2 := (100000, [some (.int (iI (i + m : Nat)))], uI (uI d 85 t (iI 2)) 85 t (iI (300 + (k : Int))), e)) (by
      show sX5_scanWord_40 _ e _ _ _ = _
      unfold sX5_scanWord_40
      generalize 6 * k = x at *
      generalize i + m = b at *
      simp (disch := omega) only [nI_iI, lN_lJ, iI_0, lJ_0, iI_add, iI_sub, iI_mul, iI_neg, lJ_add, lJ_sub, lJ_mul, lJ_neg, i_l, l_i, iI_cl, iI_inb, iI_eqT, iI_eqF, iI_ltT, iI_ltF, iI_leT, iI_leF, lJ_eqT, lJ_eqF, lJ_cG, lJ_cE, lJ_cL, lJ_cF, lJ_cGE, lJ_cLE, lJ_cNL, lJ_cNG, Int.cast_ofNat_Int, c_0, c_1, Int.natCast_add, Int.add_zero, cond_true, cond_false, Bool.and_self, Bool.and_true, Bool.true_and, Option.bind_some, decide_true, uI_hit, uI_miss, uI_o, uA_o, uA_s, ↓reduceIte, eq_self, true_or, or_true, or_false, false_or, true_and, and_true, false_and, and_false, or_self, and_self, not_false_eq_true, not_true_eq_false, tn_i, Int.toNat_natCast, fs_len, iI_div, e1, q, h8, decide_eq_true]) rfl, a_run_end]
  · intro _
    refine ⟨(), ?_⟩
    rw [if_pos rfl, a_run_step (st := stX5_scanWord) (p2 := (100000, [some (.int (iI (i + m : Nat)))], uI d 85 t (iI 2), e)) (by
      show sX5_scanWord_40 _ e _ _ _ = _
      unfold sX5_scanWord_40
      simp (disch := omega) only [nI_iI, lN_lJ, iI_0, lJ_0, iI_add, iI_sub, iI_mul, iI_neg, lJ_add, lJ_sub, lJ_mul, lJ_neg, i_l, l_i, iI_cl, iI_inb, iI_eqT, iI_eqF, iI_ltT, iI_ltF, iI_leT, iI_leF, lJ_eqT, lJ_eqF, lJ_cG, lJ_cE, lJ_cL, lJ_cF, lJ_cGE, lJ_cLE, lJ_cNL, lJ_cNG, Int.cast_ofNat_Int, c_0, c_1, Int.natCast_add, Int.add_zero, cond_true, cond_false, Bool.and_self, Bool.and_true, Bool.true_and, Option.bind_some, decide_true, uI_hit, uI_miss, uI_o, uA_o, uA_s, ↓reduceIte, eq_self, true_or, or_true, or_false, false_or, true_and, and_true, false_and, and_false, or_self, and_self, not_false_eq_true, not_true_eq_false, tn_i, fs_len, iI_div, decide_eq_true]) rfl, a_run_end]
theorem c5_tok {d : aI} {e : aJ} {tp : Nat → Int} {L i t : Nat} (hT : TPE d tp L) (hi : i < L) (h8 : d 83 8 = iI (t : Nat)) (ht : t < 300) : ∃ d', FX5_scanToken d e (iI (i : Nat)) = some (iI (teT tp L i : Nat), d', e) ∧ d' 85 t = iI (tkT tp L i) ∧ d' 86 t = iI (i : Nat) ∧ (fgT (tp i) → d' 87 t = iI (vlT tp i (rnE fgT tp L i - i))) ∧ d' 83 8 = iI (t + 1 : Nat) ∧ (∀ o j, (o ≠ 83 ∨ j ≠ 8) → ((o ≠ 85 ∧ o ≠ 86 ∧ o ≠ 87) ∨ j ≠ t) → d' o j = d o j) := by
  have t1 := hT.1
  have t2 := hT.2.1
  have c1 := hT.2.2.1 i hi
  have g4 := hT.2.2.2 i
  have T1 : TPE (uI (uI d 86 t (iI (i : Nat))) 87 t (iI 0)) tp L := hT.of (by rw [uI_o (by omega), uI_o (by omega)]) (by rw [uI_o (by omega), uI_o (by omega)])
  have h81 : (uI (uI d 86 t (iI (i : Nat))) 87 t (iI 0)) 83 8 = iI (t : Nat) := by rw [uI_o (by omega), uI_o (by omega)]; exact h8
  have put : ∀ (d : aI) (o t : Nat) (v : Int32) (o' j : Nat), ((o' ≠ o) ∨ j ≠ t) → uI d o t v o' j = d o' j := fun d o t v o' j h => by
    by_cases q : o' = o
    · rw [q, uI_miss (by omega)]
    · rw [uI_o q]
  have le := c5_let (d := uI (uI d 86 t (iI (i : Nat))) 87 t (iI 0)) (e := e) g4
  have di := c5_dig (d := uI (uI d 86 t (iI (i : Nat))) 87 t (iI 0)) (e := e) g4
  by_cases q1 : ltT (tp i)
  · rw [if_pos q1] at le
    obtain ⟨d2, w1, w2, w3⟩ := c5_scanWord (e := e) T1 hi h81 (by omega)
    have w8 : d2 83 8 = iI (t : Nat) := by rw [w3 83 8 (by omega)]; exact h81
    have te : teT tp L i = rnE ltT tp L i := by unfold teT; rw [if_pos q1]
    have tk : tkT tp L i = wkT tp i (rnE ltT tp L i - i) := by unfold tkT; rw [if_pos q1]
    refine ⟨uI d2 83 8 (iI (t + 1 : Nat)), ?_, ?_, ?_, fun f => ?_, uI_hit rfl, fun o j h1 h2 => ?_⟩
    · rw [te]
      unfold FX5_scanToken
      simp (disch := omega) only [nI_iI, lN_lJ, iI_0, lJ_0, iI_add, iI_sub, iI_mul, iI_neg, lJ_add, lJ_sub, lJ_mul, lJ_neg, i_l, l_i, iI_cl, iI_inb, iI_eqT, iI_eqF, iI_ltT, iI_ltF, iI_leT, iI_leF, lJ_eqT, lJ_eqF, lJ_cG, lJ_cE, lJ_cL, lJ_cF, lJ_cGE, lJ_cLE, lJ_cNL, lJ_cNG, Int.cast_ofNat_Int, c_0, c_1, Int.natCast_add, Int.add_zero, cond_true, cond_false, Bool.and_self, Bool.and_true, Bool.true_and, Option.bind_some, decide_true, uI_hit, uI_miss, uI_o, uA_o, uA_s, ↓reduceIte, eq_self, true_or, or_true, or_false, false_or, true_and, and_true, false_and, and_false, or_self, and_self, not_false_eq_true, not_true_eq_false, tn_i, Int.toNat_natCast, c1, h8, le, w1, w8]
    · rw [uI_o (by omega), tk]; exact w2
    · rw [uI_o (by omega), w3 86 t (by omega), uI_o (by omega), uI_hit rfl]
    · omega
    · rw [put _ _ _ _ _ _ h1, w3 o j (by omega), put _ _ _ _ _ _ (by omega), put _ _ _ _ _ _ (by omega)]
  · rw [if_neg q1] at le
    by_cases q2 : fgT (tp i)
    · rw [if_pos q2] at di
      have nu := c5_num (e := e) T1 hi h81 (by omega)
      have te : teT tp L i = rnE fgT tp L i := by unfold teT; rw [if_neg q1, if_pos q2]
      have tk : tkT tp L i = 1 := by unfold tkT; rw [if_neg q1, if_pos q2]
      generalize hV : vlT tp i (rnE fgT tp L i - i) = V at nu
      refine ⟨uI (uI (uI (uI (uI d 86 t (iI (i : Nat))) 87 t (iI 0)) 85 t (iI 1)) 87 t (iI V)) 83 8 (iI (t + 1 : Nat)), ?_, ?_, ?_, fun f => ?_, uI_hit rfl, fun o j h1 h2 => ?_⟩
      · rw [te]
        unfold FX5_scanToken
        simp (disch := omega) only [nI_iI, lN_lJ, iI_0, lJ_0, iI_add, iI_sub, iI_mul, iI_neg, lJ_add, lJ_sub, lJ_mul, lJ_neg, i_l, l_i, iI_cl, iI_inb, iI_eqT, iI_eqF, iI_ltT, iI_ltF, iI_leT, iI_leF, lJ_eqT, lJ_eqF, lJ_cG, lJ_cE, lJ_cL, lJ_cF, lJ_cGE, lJ_cLE, lJ_cNL, lJ_cNG, Int.cast_ofNat_Int, c_0, c_1, Int.natCast_add, Int.add_zero, cond_true, cond_false, Bool.and_self, Bool.and_true, Bool.true_and, Option.bind_some, decide_true, uI_hit, uI_miss, uI_o, uA_o, uA_s, ↓reduceIte, eq_self, true_or, or_true, or_false, false_or, true_and, and_true, false_and, and_false, or_self, and_self, not_false_eq_true, not_true_eq_false, tn_i, Int.toNat_natCast, c1, h8, le, di, nu]
      · rw [uI_o (by omega), uI_o (by omega), uI_hit rfl, tk]
      · rw [uI_o (by omega), uI_o (by omega), uI_o (by omega), uI_o (by omega), uI_hit rfl]
      · rw [uI_o (by omega), uI_hit rfl]
      · rw [put _ _ _ _ _ _ h1, put _ _ _ _ _ _ (by omega), put _ _ _ _ _ _ (by omega), put _ _ _ _ _ _ (by omega), put _ _ _ _ _ _ (by omega)]
    · rw [if_neg q2] at di
      have fin : ∀ (k : Int) (b : Nat), FX5_scanToken d e (iI (i : Nat)) = some (iI (b : Nat), uI (uI (uI (uI d 86 t (iI (i : Nat))) 87 t (iI 0)) 85 t (iI k)) 83 8 (iI (t + 1 : Nat)), e) → tkT tp L i = k → teT tp L i = b → ∃ d', FX5_scanToken d e (iI (i : Nat)) = some (iI (teT tp L i : Nat), d', e) ∧ d' 85 t = iI (tkT tp L i) ∧ d' 86 t = iI (i : Nat) ∧ (fgT (tp i) → d' 87 t = iI (vlT tp i (rnE fgT tp L i - i))) ∧ d' 83 8 = iI (t + 1 : Nat) ∧ (∀ o j, (o ≠ 83 ∨ j ≠ 8) → ((o ≠ 85 ∧ o ≠ 86 ∧ o ≠ 87) ∨ j ≠ t) → d' o j = d o j) := by
        intro k b hs hk hb
        refine ⟨_, by rw [hb]; exact hs, ?_, ?_, fun f => absurd f q2, uI_hit rfl, fun o j h1 h2 => ?_⟩
        · rw [uI_o (by omega), uI_hit rfl, hk]
        · rw [uI_o (by omega), uI_o (by omega), uI_o (by omega), uI_hit rfl]
        · rw [put _ _ _ _ _ _ h1, put _ _ _ _ _ _ (by omega), put _ _ _ _ _ _ (by omega), put _ _ _ _ _ _ (by omega)]
      by_cases q3 : dbT tp L i
      · have c2 := hT.2.2.1 (i + 1) q3.2.1
        rw [q3.2.2] at c2
        have tn : ((i : Int) + 1).toNat = i + 1 := by omega
        have te : teT tp L i = i + 2 := by unfold teT; rw [if_neg q1, if_neg q2, if_pos q3]
        have lt := q3.2.1
        by_cases q6 : tp i = 60
        · refine fin 3 (i + 2) ?_ (by unfold tkT; rw [if_neg q1, if_neg q2, if_pos q3, if_pos q6]) te
          rw [q6] at c1 le di
          unfold FX5_scanToken
          simp (config := {maxSteps := 4000000}) (disch := omega) only [nI_iI, lN_lJ, iI_0, lJ_0, iI_add, iI_sub, iI_mul, iI_neg, lJ_add, lJ_sub, lJ_mul, lJ_neg, i_l, l_i, iI_cl, iI_inb, iI_eqT, iI_eqF, iI_ltT, iI_ltF, iI_leT, iI_leF, lJ_eqT, lJ_eqF, lJ_cG, lJ_cE, lJ_cL, lJ_cF, lJ_cGE, lJ_cLE, lJ_cNL, lJ_cNG, Int.cast_ofNat_Int, c_0, c_1, Int.natCast_add, Int.add_zero, cond_true, cond_false, Bool.and_self, Bool.and_true, Bool.true_and, Option.bind_some, decide_true, uI_hit, uI_miss, uI_o, uA_o, uA_s, ↓reduceIte, eq_self, true_or, or_true, or_false, false_or, true_and, and_true, false_and, and_false, or_self, and_self, not_false_eq_true, not_true_eq_false, tn_i, Int.toNat_natCast, c1, h8, le, di, t1, tn, c2, Int.add_assoc, (show (1 : Int) + 1 = 2 from rfl)]
        · have q7 : tp i = 62 := by have := q3.1; omega
          refine fin 4 (i + 2) ?_ (by unfold tkT; rw [if_neg q1, if_neg q2, if_pos q3, if_neg q6]) te
          rw [q7] at c1 le di
          unfold FX5_scanToken
          simp (config := {maxSteps := 4000000}) (disch := omega) only [nI_iI, lN_lJ, iI_0, lJ_0, iI_add, iI_sub, iI_mul, iI_neg, lJ_add, lJ_sub, lJ_mul, lJ_neg, i_l, l_i, iI_cl, iI_inb, iI_eqT, iI_eqF, iI_ltT, iI_ltF, iI_leT, iI_leF, lJ_eqT, lJ_eqF, lJ_cG, lJ_cE, lJ_cL, lJ_cF, lJ_cGE, lJ_cLE, lJ_cNL, lJ_cNG, Int.cast_ofNat_Int, c_0, c_1, Int.natCast_add, Int.add_zero, cond_true, cond_false, Bool.and_self, Bool.and_true, Bool.true_and, Option.bind_some, decide_true, uI_hit, uI_miss, uI_o, uA_o, uA_s, ↓reduceIte, eq_self, true_or, or_true, or_false, false_or, true_and, and_true, false_and, and_false, or_self, and_self, not_false_eq_true, not_true_eq_false, tn_i, Int.toNat_natCast, c1, h8, le, di, t1, tn, c2, Int.add_assoc, (show (1 : Int) + 1 = 2 from rfl)]
      · have te : teT tp L i = i + 1 := by unfold teT; rw [if_neg q1, if_neg q2, if_neg q3]
        obtain ⟨x, x1, x2⟩ := fs_idx (d := uI (uI d 86 t (iI (i : Nat))) 87 t (iI 0)) (e := e) g4
        have tn : ((i : Int) + 1).toNat = i + 1 := by omega
        have body : FX5_scanToken d e (iI (i : Nat)) = some (iI (i + 1 : Nat), uI (uI (uI (uI d 86 t (iI (i : Nat))) 87 t (iI 0)) 85 t (if x < iI 0 then iI 2 else iI (tp i))) 83 8 (iI (t + 1 : Nat)), e) := by
          by_cases xn : x < iI 0
          · rw [if_pos xn]
            unfold FX5_scanToken
            by_cases q6 : tp i = 60 ∨ tp i = 62
            · by_cases q7 : i + 1 < L
              · have c2 := hT.2.2.1 (i + 1) q7
                have g42 := hT.2.2.2 (i + 1)
                have ne : tp (i + 1) ≠ 61 := fun z => q3 ⟨q6, q7, z⟩
                rcases q6 with q6 | q6
                · rw [q6] at c1 le di x1
                  simp (config := {maxSteps := 4000000}) (disch := omega) only [nI_iI, lN_lJ, iI_0, lJ_0, iI_add, iI_sub, iI_mul, iI_neg, lJ_add, lJ_sub, lJ_mul, lJ_neg, i_l, l_i, iI_cl, iI_inb, iI_eqT, iI_eqF, iI_ltT, iI_ltF, iI_leT, iI_leF, lJ_eqT, lJ_eqF, lJ_cG, lJ_cE, lJ_cL, lJ_cF, lJ_cGE, lJ_cLE, lJ_cNL, lJ_cNG, Int.cast_ofNat_Int, c_0, c_1, Int.natCast_add, Int.add_zero, cond_true, cond_false, Bool.and_self, Bool.and_true, Bool.true_and, Option.bind_some, decide_true, uI_hit, uI_miss, uI_o, uA_o, uA_s, ↓reduceIte, eq_self, true_or, or_true, or_false, false_or, true_and, and_true, false_and, and_false, or_self, and_self, not_false_eq_true, not_true_eq_false, tn_i, Int.toNat_natCast, c1, h8, le, di, t1, tn, c2, x1, xn]
                · rw [q6] at c1 le di x1
                  simp (config := {maxSteps := 4000000}) (disch := omega) only [nI_iI, lN_lJ, iI_0, lJ_0, iI_add, iI_sub, iI_mul, iI_neg, lJ_add, lJ_sub, lJ_mul, lJ_neg, i_l, l_i, iI_cl, iI_inb, iI_eqT, iI_eqF, iI_ltT, iI_ltF, iI_leT, iI_leF, lJ_eqT, lJ_eqF, lJ_cG, lJ_cE, lJ_cL, lJ_cF, lJ_cGE, lJ_cLE, lJ_cNL, lJ_cNG, Int.cast_ofNat_Int, c_0, c_1, Int.natCast_add, Int.add_zero, cond_true, cond_false, Bool.and_self, Bool.and_true, Bool.true_and, Option.bind_some, decide_true, uI_hit, uI_miss, uI_o, uA_o, uA_s, ↓reduceIte, eq_self, true_or, or_true, or_false, false_or, true_and, and_true, false_and, and_false, or_self, and_self, not_false_eq_true, not_true_eq_false, tn_i, Int.toNat_natCast, c1, h8, le, di, t1, tn, c2, x1, xn]
              · rcases q6 with q6 | q6
                · rw [q6] at c1 le di x1
                  simp (config := {maxSteps := 4000000}) (disch := omega) only [nI_iI, lN_lJ, iI_0, lJ_0, iI_add, iI_sub, iI_mul, iI_neg, lJ_add, lJ_sub, lJ_mul, lJ_neg, i_l, l_i, iI_cl, iI_inb, iI_eqT, iI_eqF, iI_ltT, iI_ltF, iI_leT, iI_leF, lJ_eqT, lJ_eqF, lJ_cG, lJ_cE, lJ_cL, lJ_cF, lJ_cGE, lJ_cLE, lJ_cNL, lJ_cNG, Int.cast_ofNat_Int, c_0, c_1, Int.natCast_add, Int.add_zero, cond_true, cond_false, Bool.and_self, Bool.and_true, Bool.true_and, Option.bind_some, decide_true, uI_hit, uI_miss, uI_o, uA_o, uA_s, ↓reduceIte, eq_self, true_or, or_true, or_false, false_or, true_and, and_true, false_and, and_false, or_self, and_self, not_false_eq_true, not_true_eq_false, tn_i, Int.toNat_natCast, c1, h8, le, di, t1, x1, xn]
                · rw [q6] at c1 le di x1
                  simp (config := {maxSteps := 4000000}) (disch := omega) only [nI_iI, lN_lJ, iI_0, lJ_0, iI_add, iI_sub, iI_mul, iI_neg, lJ_add, lJ_sub, lJ_mul, lJ_neg, i_l, l_i, iI_cl, iI_inb, iI_eqT, iI_eqF, iI_ltT, iI_ltF, iI_leT, iI_leF, lJ_eqT, lJ_eqF, lJ_cG, lJ_cE, lJ_cL, lJ_cF, lJ_cGE, lJ_cLE, lJ_cNL, lJ_cNG, Int.cast_ofNat_Int, c_0, c_1, Int.natCast_add, Int.add_zero, cond_true, cond_false, Bool.and_self, Bool.and_true, Bool.true_and, Option.bind_some, decide_true, uI_hit, uI_miss, uI_o, uA_o, uA_s, ↓reduceIte, eq_self, true_or, or_true, or_false, false_or, true_and, and_true, false_and, and_false, or_self, and_self, not_false_eq_true, not_true_eq_false, tn_i, Int.toNat_natCast, c1, h8, le, di, t1, x1, xn]
            · simp (config := {maxSteps := 4000000}) (disch := omega) only [nI_iI, lN_lJ, iI_0, lJ_0, iI_add, iI_sub, iI_mul, iI_neg, lJ_add, lJ_sub, lJ_mul, lJ_neg, i_l, l_i, iI_cl, iI_inb, iI_eqT, iI_eqF, iI_ltT, iI_ltF, iI_leT, iI_leF, lJ_eqT, lJ_eqF, lJ_cG, lJ_cE, lJ_cL, lJ_cF, lJ_cGE, lJ_cLE, lJ_cNL, lJ_cNG, Int.cast_ofNat_Int, c_0, c_1, Int.natCast_add, Int.add_zero, cond_true, cond_false, Bool.and_self, Bool.and_true, Bool.true_and, Option.bind_some, decide_true, uI_hit, uI_miss, uI_o, uA_o, uA_s, ↓reduceIte, eq_self, true_or, or_true, or_false, false_or, true_and, and_true, false_and, and_false, or_self, and_self, not_false_eq_true, not_true_eq_false, tn_i, Int.toNat_natCast, c1, h8, le, di, t1, x1, xn]
          · rw [if_neg xn]
            unfold FX5_scanToken
            by_cases q6 : tp i = 60 ∨ tp i = 62
            · by_cases q7 : i + 1 < L
              · have c2 := hT.2.2.1 (i + 1) q7
                have g42 := hT.2.2.2 (i + 1)
                have ne : tp (i + 1) ≠ 61 := fun z => q3 ⟨q6, q7, z⟩
                rcases q6 with q6 | q6
                · rw [q6] at c1 le di x1 ⊢
                  simp (config := {maxSteps := 4000000}) (disch := omega) only [nI_iI, lN_lJ, iI_0, lJ_0, iI_add, iI_sub, iI_mul, iI_neg, lJ_add, lJ_sub, lJ_mul, lJ_neg, i_l, l_i, iI_cl, iI_inb, iI_eqT, iI_eqF, iI_ltT, iI_ltF, iI_leT, iI_leF, lJ_eqT, lJ_eqF, lJ_cG, lJ_cE, lJ_cL, lJ_cF, lJ_cGE, lJ_cLE, lJ_cNL, lJ_cNG, Int.cast_ofNat_Int, c_0, c_1, Int.natCast_add, Int.add_zero, cond_true, cond_false, Bool.and_self, Bool.and_true, Bool.true_and, Option.bind_some, decide_true, uI_hit, uI_miss, uI_o, uA_o, uA_s, ↓reduceIte, eq_self, true_or, or_true, or_false, false_or, true_and, and_true, false_and, and_false, or_self, and_self, not_false_eq_true, not_true_eq_false, tn_i, Int.toNat_natCast, c1, h8, le, di, t1, tn, c2, x1, xn]
                · rw [q6] at c1 le di x1 ⊢
                  simp (config := {maxSteps := 4000000}) (disch := omega) only [nI_iI, lN_lJ, iI_0, lJ_0, iI_add, iI_sub, iI_mul, iI_neg, lJ_add, lJ_sub, lJ_mul, lJ_neg, i_l, l_i, iI_cl, iI_inb, iI_eqT, iI_eqF, iI_ltT, iI_ltF, iI_leT, iI_leF, lJ_eqT, lJ_eqF, lJ_cG, lJ_cE, lJ_cL, lJ_cF, lJ_cGE, lJ_cLE, lJ_cNL, lJ_cNG, Int.cast_ofNat_Int, c_0, c_1, Int.natCast_add, Int.add_zero, cond_true, cond_false, Bool.and_self, Bool.and_true, Bool.true_and, Option.bind_some, decide_true, uI_hit, uI_miss, uI_o, uA_o, uA_s, ↓reduceIte, eq_self, true_or, or_true, or_false, false_or, true_and, and_true, false_and, and_false, or_self, and_self, not_false_eq_true, not_true_eq_false, tn_i, Int.toNat_natCast, c1, h8, le, di, t1, tn, c2, x1, xn]
              · rcases q6 with q6 | q6
                · rw [q6] at c1 le di x1 ⊢
                  simp (config := {maxSteps := 4000000}) (disch := omega) only [nI_iI, lN_lJ, iI_0, lJ_0, iI_add, iI_sub, iI_mul, iI_neg, lJ_add, lJ_sub, lJ_mul, lJ_neg, i_l, l_i, iI_cl, iI_inb, iI_eqT, iI_eqF, iI_ltT, iI_ltF, iI_leT, iI_leF, lJ_eqT, lJ_eqF, lJ_cG, lJ_cE, lJ_cL, lJ_cF, lJ_cGE, lJ_cLE, lJ_cNL, lJ_cNG, Int.cast_ofNat_Int, c_0, c_1, Int.natCast_add, Int.add_zero, cond_true, cond_false, Bool.and_self, Bool.and_true, Bool.true_and, Option.bind_some, decide_true, uI_hit, uI_miss, uI_o, uA_o, uA_s, ↓reduceIte, eq_self, true_or, or_true, or_false, false_or, true_and, and_true, false_and, and_false, or_self, and_self, not_false_eq_true, not_true_eq_false, tn_i, Int.toNat_natCast, c1, h8, le, di, t1, x1, xn]
                · rw [q6] at c1 le di x1 ⊢
                  simp (config := {maxSteps := 4000000}) (disch := omega) only [nI_iI, lN_lJ, iI_0, lJ_0, iI_add, iI_sub, iI_mul, iI_neg, lJ_add, lJ_sub, lJ_mul, lJ_neg, i_l, l_i, iI_cl, iI_inb, iI_eqT, iI_eqF, iI_ltT, iI_ltF, iI_leT, iI_leF, lJ_eqT, lJ_eqF, lJ_cG, lJ_cE, lJ_cL, lJ_cF, lJ_cGE, lJ_cLE, lJ_cNL, lJ_cNG, Int.cast_ofNat_Int, c_0, c_1, Int.natCast_add, Int.add_zero, cond_true, cond_false, Bool.and_self, Bool.and_true, Bool.true_and, Option.bind_some, decide_true, uI_hit, uI_miss, uI_o, uA_o, uA_s, ↓reduceIte, eq_self, true_or, or_true, or_false, false_or, true_and, and_true, false_and, and_false, or_self, and_self, not_false_eq_true, not_true_eq_false, tn_i, Int.toNat_natCast, c1, h8, le, di, t1, x1, xn]
            · simp (config := {maxSteps := 4000000}) (disch := omega) only [nI_iI, lN_lJ, iI_0, lJ_0, iI_add, iI_sub, iI_mul, iI_neg, lJ_add, lJ_sub, lJ_mul, lJ_neg, i_l, l_i, iI_cl, iI_inb, iI_eqT, iI_eqF, iI_ltT, iI_ltF, iI_leT, iI_leF, lJ_eqT, lJ_eqF, lJ_cG, lJ_cE, lJ_cL, lJ_cF, lJ_cGE, lJ_cLE, lJ_cNL, lJ_cNG, Int.cast_ofNat_Int, c_0, c_1, Int.natCast_add, Int.add_zero, cond_true, cond_false, Bool.and_self, Bool.and_true, Bool.true_and, Option.bind_some, decide_true, uI_hit, uI_miss, uI_o, uA_o, uA_s, ↓reduceIte, eq_self, true_or, or_true, or_false, false_or, true_and, and_true, false_and, and_false, or_self, and_self, not_false_eq_true, not_true_eq_false, tn_i, Int.toNat_natCast, c1, h8, le, di, t1, x1, xn]
        by_cases sg : sgT (tp i)
        · have xn : ¬x < iI 0 := fun z => (x2.mp z) sg
          rw [if_neg xn] at body
          exact fin (tp i) (i + 1) body (by unfold tkT; rw [if_neg q1, if_neg q2, if_neg q3, if_pos sg]) te
        · have xn : x < iI 0 := x2.mpr sg
          rw [if_pos xn] at body
          exact fin 2 (i + 1) body (by unfold tkT; rw [if_neg q1, if_neg q2, if_neg q3, if_neg sg]) te
/-- the tokens as the class keeps them -/
def TKC (d : aI) (tp : Nat → Int) (L N : Nat) : Prop := N ≤ 300 ∧ psT tp L N = L ∧ (∀ t, t < N → psT tp L t < L) ∧ (∀ t, t ≤ N → d 85 t = iI (KT tp L t) ∧ d 86 t = iI (psT tp L t : Nat)) ∧ (∀ t, t < N → fgT (tp (psT tp L t)) → d 87 t = iI (VT tp L t)) ∧ d 83 8 = iI (N : Nat)
theorem c5_scan {d : aI} {e : aJ} {tp : Nat → Int} {L : Nat} (hT : TPE d tp L) : ∃ d' N, FX5_scan d e = some ((), d', e) ∧ TKC d' tp L N ∧ d' 83 9 = iI 0 ∧ d' 83 10 = iI (KT tp L 0) ∧ (∀ o j, o ≠ 85 → o ≠ 86 → o ≠ 87 → (o ≠ 83 ∨ (j ≠ 8 ∧ j ≠ 9 ∧ j ≠ 10)) → d' o j = d o j) := by
  have t2 := hT.2.1
  -- from a place with t tokens found
  have go : ∀ (r p k t : Nat) (d1 : aI) (v : Option Value), p + r = L → k ≤ p → t ≤ p → rnE blT tp L p = psT tp L t → (∀ j, j < t → psT tp L j < L) → d1 83 8 = iI (t : Nat) → TPE d1 tp L → (∀ j, j < t → d1 85 j = iI (KT tp L j) ∧ d1 86 j = iI (psT tp L j : Nat) ∧ (fgT (tp (psT tp L j)) → d1 87 j = iI (VT tp L j))) → (∀ o j, o ≠ 85 → o ≠ 86 → o ≠ 87 → (o ≠ 83 ∨ j ≠ 8) → d1 o j = d o j) →
      ∃ d2 N, a_run stX5_scan (9, [some (.ref 83), some (.int (iI (p : Nat))), some (.int (iI (k : Nat))), v], d1, e) = some ([], d2, e) ∧ TKC d2 tp L N ∧ d2 83 9 = iI 0 ∧ d2 83 10 = iI (KT tp L 0) ∧ (∀ o j, o ≠ 85 → o ≠ 86 → o ≠ 87 → (o ≠ 83 ∨ (j ≠ 8 ∧ j ≠ 9 ∧ j ≠ 10)) → d2 o j = d o j) := by
    intro r
    induction r using Nat.strongRecOn with
    | _ r ih =>
      intro p k t d1 v hp hk ht hr hl h8 hT1 hc hf
      have t1 := hT1.1
      by_cases q : p < L
      · have c1 := hT1.2.2.1 p q
        have g4 := hT1.2.2.2 p
        by_cases b : blT (tp p)
        · have rn : rnE blT tp L (p + 1) = psT tp L t := by rw [← hr, rnE_s q, if_pos b]
          have st : stX5_scan (9, [some (.ref 83), some (.int (iI (p : Nat))), some (.int (iI (k : Nat))), v], d1, e) = some (9, [some (.ref 83), some (.int (iI (p + 1 : Nat))), some (.int (iI (k + 1 : Nat))), some (.int (iI 1))], d1, e) := by
            show sX5_scan_9 d1 e _ _ v = _
            unfold sX5_scan_9
            rcases b with b | b
            · rw [b] at c1
              simp (disch := omega) only [nI_iI, lN_lJ, iI_0, lJ_0, iI_add, iI_sub, iI_mul, iI_neg, lJ_add, lJ_sub, lJ_mul, lJ_neg, i_l, l_i, iI_cl, iI_inb, iI_eqT, iI_eqF, iI_ltT, iI_ltF, iI_leT, iI_leF, lJ_eqT, lJ_eqF, lJ_cG, lJ_cE, lJ_cL, lJ_cF, lJ_cGE, lJ_cLE, lJ_cNL, lJ_cNG, Int.cast_ofNat_Int, c_0, c_1, Int.natCast_add, Int.add_zero, cond_true, cond_false, Bool.and_self, Bool.and_true, Bool.true_and, Option.bind_some, decide_true, uI_hit, uI_miss, uI_o, uA_o, uA_s, ↓reduceIte, eq_self, true_or, or_true, or_false, false_or, true_and, and_true, false_and, and_false, or_self, and_self, not_false_eq_true, not_true_eq_false, tn_i, Int.toNat_natCast, t1, c1]
            · rw [b] at c1
              simp (disch := omega) only [nI_iI, lN_lJ, iI_0, lJ_0, iI_add, iI_sub, iI_mul, iI_neg, lJ_add, lJ_sub, lJ_mul, lJ_neg, i_l, l_i, iI_cl, iI_inb, iI_eqT, iI_eqF, iI_ltT, iI_ltF, iI_leT, iI_leF, lJ_eqT, lJ_eqF, lJ_cG, lJ_cE, lJ_cL, lJ_cF, lJ_cGE, lJ_cLE, lJ_cNL, lJ_cNG, Int.cast_ofNat_Int, c_0, c_1, Int.natCast_add, Int.add_zero, cond_true, cond_false, Bool.and_self, Bool.and_true, Bool.true_and, Option.bind_some, decide_true, uI_hit, uI_miss, uI_o, uA_o, uA_s, ↓reduceIte, eq_self, true_or, or_true, or_false, false_or, true_and, and_true, false_and, and_false, or_self, and_self, not_false_eq_true, not_true_eq_false, tn_i, Int.toNat_natCast, t1, c1]
          obtain ⟨d2, N, x, y⟩ := ih (r - 1) (by omega) (p + 1) (k + 1) t d1 (some (.int (iI 1))) (by omega) (by omega) (by omega) rn hl h8 hT1 hc hf
          exact ⟨d2, N, (a_run_step st rfl).trans x, y⟩
        · have pe : psT tp L t = p := by rw [← hr, rnE_s q, if_neg b]
          have te := teT_in (tp := tp) q
          obtain ⟨d2, w1, w2, w3, w4, w5, w6⟩ := c5_tok (e := e) hT1 q h8 (by omega)
          have rn : rnE blT tp L (teT tp L p) = psT tp L (t + 1) := by
            show _ = rnE blT tp L (if psT tp L t < L then teT tp L (psT tp L t) else psT tp L t)
            rw [pe, if_pos q]
          have st : stX5_scan (9, [some (.ref 83), some (.int (iI (p : Nat))), some (.int (iI (k : Nat))), v], d1, e) = some (9, [some (.ref 83), some (.int (iI (teT tp L p : Nat))), some (.int (iI (k + 1 : Nat))), some (.int (iI 0))], d2, e) := by
            have n1 : tp p ≠ 32 := fun z => b (Or.inl z)
            have n2 : tp p ≠ 10 := fun z => b (Or.inr z)
            show sX5_scan_9 d1 e _ _ v = _
            unfold sX5_scan_9
            simp (disch := omega) only [nI_iI, lN_lJ, iI_0, lJ_0, iI_add, iI_sub, iI_mul, iI_neg, lJ_add, lJ_sub, lJ_mul, lJ_neg, i_l, l_i, iI_cl, iI_inb, iI_eqT, iI_eqF, iI_ltT, iI_ltF, iI_leT, iI_leF, lJ_eqT, lJ_eqF, lJ_cG, lJ_cE, lJ_cL, lJ_cF, lJ_cGE, lJ_cLE, lJ_cNL, lJ_cNG, Int.cast_ofNat_Int, c_0, c_1, Int.natCast_add, Int.add_zero, cond_true, cond_false, Bool.and_self, Bool.and_true, Bool.true_and, Option.bind_some, decide_true, uI_hit, uI_miss, uI_o, uA_o, uA_s, ↓reduceIte, eq_self, true_or, or_true, or_false, false_or, true_and, and_true, false_and, and_false, or_self, and_self, not_false_eq_true, not_true_eq_false, tn_i, Int.toNat_natCast, t1, c1, w1]
          obtain ⟨d3, N, x, y⟩ := ih (L - teT tp L p) (by omega) (teT tp L p) (k + 1) (t + 1) d2 (some (.int (iI 0))) (by omega) (by omega) (by omega) rn (fun j hj => by
            by_cases z : j = t
            · rw [z, pe]; exact q
            · exact hl j (by omega)) w5 (hT1.of (w6 83 2 (by omega) (by omega)) (by funext j; exact w6 84 j (by omega) (by omega))) (fun j hj => by
            by_cases z : j = t
            · subst z
              refine ⟨?_, by rw [pe]; exact w3, fun f => ?_⟩
              · rw [w2]; unfold KT; rw [pe, if_pos q]
              · rw [pe] at f
                rw [w4 f]; unfold VT; rw [pe]
            · have c := hc j (by omega)
              rw [w6 85 j (by omega) (by omega), w6 86 j (by omega) (by omega), w6 87 j (by omega) (by omega)]
              exact c) (fun o j h1 h2 h3 h4 => (w6 o j h4 (by omega)).trans (hf o j h1 h2 h3 h4))
          exact ⟨d3, N, (a_run_step st rfl).trans x, y⟩
      · have pl : p = L := by omega
        have pe : psT tp L t = L := by rw [← hr, rnE_ge (by omega)]; exact pl
        have k0 : KT tp L t = 0 := by unfold KT; rw [if_neg (by omega)]
        have kk : (uI d1 85 t (iI 0)) 85 0 = iI (KT tp L 0) := by
          by_cases z : t = 0
          · rw [uI_hit z.symm, ← z, k0]
          · rw [uI_miss (by omega)]; exact (hc 0 (by omega)).1
        refine ⟨uI (uI (uI (uI d1 85 t (iI 0)) 86 t (iI (L : Nat))) 83 9 (iI 0)) 83 10 (iI (KT tp L 0)), t, ?_, ⟨by omega, pe, hl, fun j hj => ?_, fun j hj f => ?_, ?_⟩, ?_, uI_hit rfl, fun o j h1 h2 h3 h4 => ?_⟩
        · rw [a_run_step (st := stX5_scan) (p2 := (100000, [], uI (uI (uI (uI d1 85 t (iI 0)) 86 t (iI (L : Nat))) 83 9 (iI 0)) 83 10 (iI (KT tp L 0)), e)) (by
            show sX5_scan_9 d1 e _ _ v = _
            unfold sX5_scan_9
            by_cases z : 300 ≤ k
            · simp (disch := omega) only [nI_iI, lN_lJ, iI_0, lJ_0, iI_add, iI_sub, iI_mul, iI_neg, lJ_add, lJ_sub, lJ_mul, lJ_neg, i_l, l_i, iI_cl, iI_inb, iI_eqT, iI_eqF, iI_ltT, iI_ltF, iI_leT, iI_leF, lJ_eqT, lJ_eqF, lJ_cG, lJ_cE, lJ_cL, lJ_cF, lJ_cGE, lJ_cLE, lJ_cNL, lJ_cNG, Int.cast_ofNat_Int, c_0, c_1, Int.natCast_add, Int.add_zero, cond_true, cond_false, Bool.and_self, Bool.and_true, Bool.true_and, Option.bind_some, decide_true, uI_hit, uI_miss, uI_o, uA_o, uA_s, ↓reduceIte, eq_self, true_or, or_true, or_false, false_or, true_and, and_true, false_and, and_false, or_self, and_self, not_false_eq_true, not_true_eq_false, tn_i, Int.toNat_natCast, t1, h8, kk]
            · simp (disch := omega) only [nI_iI, lN_lJ, iI_0, lJ_0, iI_add, iI_sub, iI_mul, iI_neg, lJ_add, lJ_sub, lJ_mul, lJ_neg, i_l, l_i, iI_cl, iI_inb, iI_eqT, iI_eqF, iI_ltT, iI_ltF, iI_leT, iI_leF, lJ_eqT, lJ_eqF, lJ_cG, lJ_cE, lJ_cL, lJ_cF, lJ_cGE, lJ_cLE, lJ_cNL, lJ_cNG, Int.cast_ofNat_Int, c_0, c_1, Int.natCast_add, Int.add_zero, cond_true, cond_false, Bool.and_self, Bool.and_true, Bool.true_and, Option.bind_some, decide_true, uI_hit, uI_miss, uI_o, uA_o, uA_s, ↓reduceIte, eq_self, true_or, or_true, or_false, false_or, true_and, and_true, false_and, and_false, or_self, and_self, not_false_eq_true, not_true_eq_false, tn_i, Int.toNat_natCast, t1, h8, kk]) rfl, a_run_end]
        · constructor
          · rw [uI_o (by omega), uI_o (by omega), uI_o (by omega)]
            by_cases z : j = t
            · rw [z, uI_hit rfl, k0]
            · rw [uI_miss z]; exact (hc j (by omega)).1
          · rw [uI_o (by omega), uI_o (by omega)]
            by_cases z : j = t
            · rw [z, uI_hit rfl, pe]
            · rw [uI_miss z, uI_o (by omega)]; exact (hc j (by omega)).2.1
        · rw [uI_o (by omega), uI_o (by omega), uI_o (by omega), uI_o (by omega)]
          exact (hc j hj).2.2 f
        · rw [uI_miss (by omega), uI_miss (by omega), uI_o (by omega), uI_o (by omega)]; exact h8
        · rw [uI_miss (by omega), uI_hit rfl]
        · by_cases z : o = 83
          · rw [z, uI_miss (by omega), uI_miss (by omega), uI_o (by omega), uI_o (by omega)]
            exact hf 83 j (by omega) (by omega) (by omega) (by omega)
          · rw [uI_o z, uI_o z, uI_o h2, uI_o h1]
            exact hf o j h1 h2 h3 (Or.inl z)
  obtain ⟨d2, N, x, y, z1, z2, z3⟩ := go L 0 0 0 (uI d 83 8 (iI 0)) none (by omega) (by omega) (by omega) rfl (fun j hj => absurd hj (Nat.not_lt_zero j)) (uI_hit rfl) (hT.of (by rw [uI_miss (by omega)]) (by rw [uI_o (by omega)])) (fun j hj => absurd hj (Nat.not_lt_zero j)) (fun o j h1 h2 h3 h4 => by
    by_cases z : o = 83
    · rw [z, uI_miss (by omega)]
    · rw [uI_o z])
  refine ⟨d2, N, ?_, y, z1, z2, z3⟩
  unfold FX5_scan
  rw [a_run_step (st := stX5_scan) (p := (0, [some (.ref 83), none, none, none], d, e)) (p2 := (9, [some (.ref 83), some (.int (iI (0 : Nat))), some (.int (iI (0 : Nat))), none], uI d 83 8 (iI 0), e)) rfl rfl, x]
  rfl
