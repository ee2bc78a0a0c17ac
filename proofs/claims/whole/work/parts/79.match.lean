/-! ===== pairs: the class ===== -/
theorem apS_5 {p q : Int} : apS p q ≤ 5 := by
  unfold apS
  generalize (if q ≤ p then p - q else q - p) = z
  split <;> omega
theorem frN_5 {A : Int → Int} (i j : Nat) : frN A i j ≤ 5 := by
  unfold frN farS
  have := apS_5 (p := A (12 + 3 * i)) (q := A (42 + j))
  omega
def Kp (d d' : aI) : Prop := ∀ o, (o < 95 ∨ 98 < o) → d' o = d o
theorem Kp.refl (d : aI) : Kp d d := fun _ _ => rfl
theorem Kp.trans {d d1 d2 : aI} (h : Kp d d1) (h2 : Kp d1 d2) : Kp d d2 := fun o a => (h2 o a).trans (h o a)
theorem Kp.put {d : aI} {o j : Nat} {v : Int32} (ho : o = 95 ∨ o = 96 ∨ o = 97 ∨ o = 98) : Kp d (uI d o j v) := fun k hk => uI_o (by omega)
/-- who may come and where to -/
def GA (d : aI) (A : Int → Int) : Prop := d 95 3 = iI ((csM A).1 : Nat) ∧ d 95 4 = iI ((hsM A 6).1 : Nat) ∧ (∀ i, i < (csM A).1 → d 97 i = iI ((csM A).2 i : Nat)) ∧ (∀ j, j < (hsM A 6).1 → d 98 j = iI ((hsM A 6).2 j : Nat))
theorem csM_e {A : Int → Int} (h : 0 ≤ A 1 ∧ A 1 ≤ 6) : gaS (ouP A) (A 1).toNat = csM A := by
  have e := gaS_stop (P := ouP A) (k := (A 1).toNat) (fun c hc z => by have := z.1; omega) (6 - (A 1).toNat)
  rw [show (A 1).toNat + (6 - (A 1).toNat) = 6 by omega] at e
  exact e.symm
theorem hsM_e {A : Int → Int} (h : 0 ≤ A 0 ∧ A 0 ≤ 6) : hsM A (A 0).toNat = hsM A 6 := by
  have e := gaS_stop (P := frP A) (k := (A 0).toNat) (fun c hc z => by have := z.1; omega) (6 - (A 0).toNat)
  rw [show (A 0).toNat + (6 - (A 0).toNat) = 6 by omega] at e
  exact e.symm
theorem cq_gather {d : aI} {e : aJ} {A : Int → Int} (hC : CN d 1 A) (hW : WN A) : ∃ d', FX4_gather d e = some ((), d', e) ∧ GA d' A ∧ Kp d d' := by
  have w0 := hW.1
  have w1 := hW.2.1
  have l1 := run_invR (st := stX4_gather) (fun k p => ∃ d', p = (12, [some (.ref 95), some (.ref 2), some (.int (iI (k : Nat)))], d', e) ∧ d' 95 3 = iI ((gaS (ouP A) k).1 : Nat) ∧ d' 95 4 = iI 0 ∧ (∀ i, i < (gaS (ouP A) k).1 → d' 97 i = iI ((gaS (ouP A) k).2 i : Nat)) ∧ Kp d d') (A 1).toNat (p0 := (12, [some (.ref 95), some (.ref 2), some (.int (iI (0 : Nat)))], uI (uI d 95 3 (iI 0)) 95 4 (iI 0), e)) ⟨_, rfl, by rw [uI_miss (by omega), uI_hit rfl]; rfl, uI_hit rfl, fun i hi => absurd hi (Nat.not_lt_zero i), (Kp.put (Or.inl rfl)).trans (Kp.put (Or.inl rfl))⟩ ?_
  rotate_left
  · rintro k p hk ⟨d', rfl, g1, g2, g3, g4⟩
    have hC' := hC.of (fun o a b => g4 o (by omega))
    have c9 : d' 2 9 = iI (A 1) := hC'.2.1
    have c8 : d' 8 k = iI (A (12 + 3 * k + 1)) := hC'.2.2.2.2.2.2.2.2.2.2.1 k (by omega)
    have wc := (hW.2.2.2.2.2.1 k (by omega) (by omega))
    have ok := (gaS_ok (P := ouP A) k).1
    by_cases q : A (12 + 3 * k + 1) = -1
    · rw [q] at c8
      have po : ouP A k := ⟨by omega, q⟩
      refine ⟨_, a_run_step (p2 := (12, [some (.ref 95), some (.ref 2), some (.int (iI (k + 1 : Nat)))], uI (uI d' 97 (gaS (ouP A) k).1 (iI (k : Nat))) 95 3 (iI (((gaS (ouP A) k).1 + 1 : Nat) : Int)), e)) ?_ rfl, _, rfl, ?_, ?_, fun i hi => ?_, g4.trans ((Kp.put (by omega)).trans (Kp.put (Or.inl rfl)))⟩
      · show sX4_gather_12 d' e _ = _
        unfold sX4_gather_12
        simp (disch := omega) only [nI_iI, lN_lJ, iI_0, lJ_0, iI_add, iI_sub, iI_mul, iI_neg, lJ_add, lJ_sub, lJ_mul, lJ_neg, i_l, l_i, iI_cl, iI_inb, iI_eqT, iI_eqF, iI_ltT, iI_ltF, iI_leT, iI_leF, lJ_eqT, lJ_eqF, lJ_cG, lJ_cE, lJ_cL, lJ_cF, lJ_cGE, lJ_cLE, lJ_cNL, lJ_cNG, Int.cast_ofNat_Int, c_0, c_1, Int.natCast_add, Int.add_zero, cond_true, cond_false, Bool.and_self, Bool.and_true, Bool.true_and, Option.bind_some, decide_true, uI_hit, uI_miss, uI_o, uA_o, uA_s, ↓reduceIte, eq_self, true_or, or_true, or_false, false_or, true_and, and_true, false_and, and_false, or_self, and_self, not_false_eq_true, not_true_eq_false, tn_i, Int.toNat_natCast, c9, c8, g1]
      · rw [uI_hit rfl, gaS_s, if_pos po]
      · rw [uI_miss (by omega), uI_o (by omega)]; exact g2
      · rw [gaS_s, if_pos po] at hi ⊢
        have hi2 : i < (gaS (ouP A) k).1 + 1 := hi
        show _ = iI (upT (gaS (ouP A) k).2 (gaS (ouP A) k).1 k i : Nat)
        rw [uI_o (by omega)]
        by_cases w : i = (gaS (ouP A) k).1
        · rw [w, uI_hit rfl, upT_h]
        · rw [uI_miss w, upT_o w]; exact g3 i (by omega)
    · have po : ¬ouP A k := fun z => q z.2
      refine ⟨_, a_run_step (p2 := (12, [some (.ref 95), some (.ref 2), some (.int (iI (k + 1 : Nat)))], d', e)) ?_ rfl, _, rfl, by rw [gaS_s, if_neg po]; exact g1, g2, by rw [gaS_s, if_neg po]; exact g3, g4⟩
      show sX4_gather_12 d' e _ = _
      unfold sX4_gather_12
      simp (disch := omega) only [nI_iI, lN_lJ, iI_0, lJ_0, iI_add, iI_sub, iI_mul, iI_neg, lJ_add, lJ_sub, lJ_mul, lJ_neg, i_l, l_i, iI_cl, iI_inb, iI_eqT, iI_eqF, iI_ltT, iI_ltF, iI_leT, iI_leF, lJ_eqT, lJ_eqF, lJ_cG, lJ_cE, lJ_cL, lJ_cF, lJ_cGE, lJ_cLE, lJ_cNL, lJ_cNG, Int.cast_ofNat_Int, c_0, c_1, Int.natCast_add, Int.add_zero, cond_true, cond_false, Bool.and_self, Bool.and_true, Bool.true_and, Option.bind_some, decide_true, uI_hit, uI_miss, uI_o, uA_o, uA_s, ↓reduceIte, eq_self, true_or, or_true, or_false, false_or, true_and, and_true, false_and, and_false, or_self, and_self, not_false_eq_true, not_true_eq_false, tn_i, Int.toNat_natCast, c9, c8]
  obtain ⟨p, ⟨d1, rfl, g1, g2, g3, g4⟩, t1⟩ := l1
  rw [csM_e (by omega)] at g1 g3
  have hC1 := hC.of (fun o a b => g4 o (by omega))
  have l2 := run_invR (st := stX4_gather) (fun k p => ∃ d', p = (58, [some (.ref 95), some (.ref 2), some (.int (iI (k : Nat)))], d', e) ∧ d' 95 4 = iI ((hsM A k).1 : Nat) ∧ d' 95 3 = iI ((csM A).1 : Nat) ∧ (∀ i, i < (hsM A k).1 → d' 98 i = iI ((hsM A k).2 i : Nat)) ∧ d' 97 = d1 97 ∧ Kp d1 d') (A 0).toNat (p0 := (58, [some (.ref 95), some (.ref 2), some (.int (iI (0 : Nat)))], d1, e)) ⟨_, rfl, g2, g1, fun i hi => absurd hi (Nat.not_lt_zero i), rfl, Kp.refl d1⟩ ?_
  rotate_left
  · rintro k p hk ⟨d', rfl, h1, h2, h3, h4, h5⟩
    have hC' := hC1.of (fun o a b => h5 o (by omega))
    have c8 : d' 2 8 = iI (A 0) := hC'.1
    have gu := cq_guest (e := e) hC' hW (h := k) (by omega)
    have gi := gst_in hW (k : Int)
    have ok : (hsM A k).1 ≤ k := (gaS_ok (P := frP A) k).1
    by_cases q : gst A k = -1
    · rw [q] at gu
      have po : frP A k := ⟨by omega, q⟩
      have es : hsM A (k + 1) = ((hsM A k).1 + 1, upT (hsM A k).2 (hsM A k).1 k) := by
        show gaS (frP A) (k + 1) = _
        rw [gaS_s, if_pos po]; rfl
      refine ⟨_, a_run_step (p2 := (58, [some (.ref 95), some (.ref 2), some (.int (iI (k + 1 : Nat)))], uI (uI d' 98 (hsM A k).1 (iI (k : Nat))) 95 4 (iI (((hsM A k).1 + 1 : Nat) : Int)), e)) ?_ rfl, _, rfl, ?_, ?_, fun i hi => ?_, ?_, h5.trans ((Kp.put (by omega)).trans (Kp.put (Or.inl rfl)))⟩
      · show sX4_gather_58 d' e _ = _
        unfold sX4_gather_58
        simp (disch := omega) only [nI_iI, lN_lJ, iI_0, lJ_0, iI_add, iI_sub, iI_mul, iI_neg, lJ_add, lJ_sub, lJ_mul, lJ_neg, i_l, l_i, iI_cl, iI_inb, iI_eqT, iI_eqF, iI_ltT, iI_ltF, iI_leT, iI_leF, lJ_eqT, lJ_eqF, lJ_cG, lJ_cE, lJ_cL, lJ_cF, lJ_cGE, lJ_cLE, lJ_cNL, lJ_cNG, Int.cast_ofNat_Int, c_0, c_1, Int.natCast_add, Int.add_zero, cond_true, cond_false, Bool.and_self, Bool.and_true, Bool.true_and, Option.bind_some, decide_true, uI_hit, uI_miss, uI_o, uA_o, uA_s, ↓reduceIte, eq_self, true_or, or_true, or_false, false_or, true_and, and_true, false_and, and_false, or_self, and_self, not_false_eq_true, not_true_eq_false, tn_i, Int.toNat_natCast, c8, gu, h1]
      · rw [uI_hit rfl, es]
      · rw [uI_miss (by omega), uI_o (by omega)]; exact h2
      · rw [es] at hi ⊢
        have hi2 : i < (hsM A k).1 + 1 := hi
        show _ = iI (upT (hsM A k).2 (hsM A k).1 k i : Nat)
        rw [uI_o (by omega)]
        by_cases w : i = (hsM A k).1
        · rw [w, uI_hit rfl, upT_h]
        · rw [uI_miss w, upT_o w]; exact h3 i (by omega)
      · rw [uI_o (by omega), uI_o (by omega)]; exact h4
    · have po : ¬frP A k := fun z => q z.2
      have es : hsM A (k + 1) = hsM A k := by
        show gaS (frP A) (k + 1) = _
        rw [gaS_s, if_neg po]; rfl
      refine ⟨_, a_run_step (p2 := (58, [some (.ref 95), some (.ref 2), some (.int (iI (k + 1 : Nat)))], d', e)) ?_ rfl, _, rfl, by rw [es]; exact h1, h2, by rw [es]; exact h3, h4, h5⟩
      show sX4_gather_58 d' e _ = _
      unfold sX4_gather_58
      simp (disch := omega) only [nI_iI, lN_lJ, iI_0, lJ_0, iI_add, iI_sub, iI_mul, iI_neg, lJ_add, lJ_sub, lJ_mul, lJ_neg, i_l, l_i, iI_cl, iI_inb, iI_eqT, iI_eqF, iI_ltT, iI_ltF, iI_leT, iI_leF, lJ_eqT, lJ_eqF, lJ_cG, lJ_cE, lJ_cL, lJ_cF, lJ_cGE, lJ_cLE, lJ_cNL, lJ_cNG, Int.cast_ofNat_Int, c_0, c_1, Int.natCast_add, Int.add_zero, cond_true, cond_false, Bool.and_self, Bool.and_true, Bool.true_and, Option.bind_some, decide_true, uI_hit, uI_miss, uI_o, uA_o, uA_s, ↓reduceIte, eq_self, true_or, or_true, or_false, false_or, true_and, and_true, false_and, and_false, or_self, and_self, not_false_eq_true, not_true_eq_false, tn_i, c8, gu]
  obtain ⟨p, ⟨d2, rfl, h1, h2, h3, h4, h5⟩, t2⟩ := l2
  rw [hsM_e (by omega)] at h1 h3
  have c9 : d1 2 9 = iI (A 1) := hC1.2.1
  have c8 : d2 2 8 = iI (A 0) := (hC1.of (fun o a b => h5 o (by omega))).1
  refine ⟨d2, ?_, ⟨h2, h1, by rw [h4]; exact g3, h3⟩, g4.trans h5⟩
  unfold FX4_gather
  rw [a_run_step (st := stX4_gather) (p := (0, [some (.ref 95), some (.ref 2), none], d, e)) (p2 := (12, [some (.ref 95), some (.ref 2), some (.int (iI (0 : Nat)))], uI (uI d 95 3 (iI 0)) 95 4 (iI 0), e)) rfl rfl, t1, a_run_step (st := stX4_gather) (p2 := (58, [some (.ref 95), some (.ref 2), some (.int (iI (0 : Nat)))], d1, e)) (by
    show sX4_gather_12 d1 e _ = _
    unfold sX4_gather_12
    simp (disch := omega) only [nI_iI, lN_lJ, iI_0, lJ_0, iI_add, iI_sub, iI_mul, iI_neg, lJ_add, lJ_sub, lJ_mul, lJ_neg, i_l, l_i, iI_cl, iI_inb, iI_eqT, iI_eqF, iI_ltT, iI_ltF, iI_leT, iI_leF, lJ_eqT, lJ_eqF, lJ_cG, lJ_cE, lJ_cL, lJ_cF, lJ_cGE, lJ_cLE, lJ_cNL, lJ_cNG, Int.cast_ofNat_Int, c_0, c_1, Int.natCast_add, Int.add_zero, cond_true, cond_false, Bool.and_self, Bool.and_true, Bool.true_and, Option.bind_some, decide_true, uI_hit, uI_miss, uI_o, uA_o, uA_s, ↓reduceIte, eq_self, true_or, or_true, or_false, false_or, true_and, and_true, false_and, and_false, or_self, and_self, not_false_eq_true, not_true_eq_false, tn_i, c9]) rfl, t2, a_run_step (st := stX4_gather) (p2 := (100000, [], d2, e)) (by
    show sX4_gather_58 d2 e _ = _
    unfold sX4_gather_58
    simp (disch := omega) only [nI_iI, lN_lJ, iI_0, lJ_0, iI_add, iI_sub, iI_mul, iI_neg, lJ_add, lJ_sub, lJ_mul, lJ_neg, i_l, l_i, iI_cl, iI_inb, iI_eqT, iI_eqF, iI_ltT, iI_ltF, iI_leT, iI_leF, lJ_eqT, lJ_eqF, lJ_cG, lJ_cE, lJ_cL, lJ_cF, lJ_cGE, lJ_cLE, lJ_cNL, lJ_cNG, Int.cast_ofNat_Int, c_0, c_1, Int.natCast_add, Int.add_zero, cond_true, cond_false, Bool.and_self, Bool.and_true, Bool.true_and, Option.bind_some, decide_true, uI_hit, uI_miss, uI_o, uA_o, uA_s, ↓reduceIte, eq_self, true_or, or_true, or_false, false_or, true_and, and_true, false_and, and_false, or_self, and_self, not_false_eq_true, not_true_eq_false, tn_i, c8]) rfl, a_run_end]
  rfl
-- a row of the table
theorem sh_6 : ∀ h, h < 8 → a_shl (iI (h : Nat)) (iI 6) = iI ((64 * h : Nat) : Int) := by decide +kernel
theorem sh_n : ∀ n, n < 7 → a_shl (iI 1) (iI (n : Nat)) = iI ((2 ^ n : Nat) : Int) := by decide +kernel
theorem or_g : ∀ g, g < 64 → ∀ i, i < 6 → g / 2 ^ i % 2 ≠ 1 → (iI (g : Nat) ||| a_shl (iI 1) (iI (i : Nat))) = iI ((g + 2 ^ i : Nat) : Int) := by decide +kernel
theorem has_g : ∀ g, g < 64 → ∀ i, i < 6 → decide (hasP (iI (g : Nat)) (i : Nat)) = decide (g / 2 ^ i % 2 = 1) := by decide +kernel
theorem has_y {g i : Nat} (hg : g < 64) (hi : i < 6) (h : g / 2 ^ i % 2 = 1) : hasP (iI (g : Nat)) (i : Nat) := by
  have := has_g g hg i hi
  rw [decide_eq_true h] at this
  exact of_decide_eq_true this
theorem has_n {g i : Nat} (hg : g < 64) (hi : i < 6) (h : g / 2 ^ i % 2 ≠ 1) : ¬hasP (iI (g : Nat)) (i : Nat) := by
  have := has_g g hg i hi
  rw [decide_eq_false h] at this
  exact of_decide_eq_false this
theorem cq_cell {d : aI} {e : aJ} {h g : Nat} (hh : h < 8) : FX4_cell d e (iI (h : Nat)) (iI (g : Nat)) = some (iI ((64 * h + g : Nat) : Int), d, e) := by
  have q := sh_6 h hh
  unfold FX4_cell
  simp (disch := omega) only [nI_iI, lN_lJ, iI_0, lJ_0, iI_add, iI_sub, iI_mul, iI_neg, lJ_add, lJ_sub, lJ_mul, lJ_neg, i_l, l_i, iI_cl, iI_inb, iI_eqT, iI_eqF, iI_ltT, iI_ltF, iI_leT, iI_leF, lJ_eqT, lJ_eqF, lJ_cG, lJ_cE, lJ_cL, lJ_cF, lJ_cGE, lJ_cLE, lJ_cNL, lJ_cNG, Int.cast_ofNat_Int, c_0, c_1, Int.natCast_add, Int.add_zero, cond_true, cond_false, Bool.and_self, Bool.and_true, Bool.true_and, Option.bind_some, decide_true, uI_hit, uI_miss, uI_o, uA_o, uA_s, ↓reduceIte, eq_self, true_or, or_true, or_false, false_or, true_and, and_true, false_and, and_false, or_self, and_self, not_false_eq_true, not_true_eq_false, tn_i, q]
/-- the rows from the h-th on -/
def TP (d : aI) (w : Bool) (A : Int → Int) (most h : Nat) : Prop := ∀ k, h ≤ k → k ≤ (hsM A 6).1 → ∀ g, g < 2 ^ (csM A).1 → bcN g ≤ k → d 96 (64 * k + g) = iI (tbM w A most ((hsM A 6).1 - k) g : Nat)
def GB (d : aI) (w : Bool) (A : Int → Int) (most : Nat) : Prop := GA d A ∧ d 95 5 = iI (tv w) ∧ d 95 6 = iI (most : Nat)
theorem cbM_f {a b : Nat} : cbM false a b = a + b := rfl
theorem cbM_t {a b : Nat} : cbM true a b = if a < b then b else a := rfl
theorem cq_pairedA {d : aI} {e : aJ} {w : Bool} {h g i C H F T X G : Nat} (hh : h < 6) (hi : i < 6) (c7 : d 97 i = iI (C : Nat)) (c8 : d 98 h = iI (H : Nat)) (aw : FX2_away d e (iI (C : Nat)) (iI (H : Nat)) = some (iI (F : Nat), d, e)) (og : (iI (g : Nat) ||| a_shl (iI 1) (iI (i : Nat))) = iI (G : Nat)) (ce : FX4_cell d e (iI ((h : Int) + 1)) (iI (G : Nat)) = some (iI (X : Nat), d, e)) (hX : X < 448) (tb : d 96 X = iI (T : Nat)) (v5 : d 95 5 = iI (tv w)) (f5 : F ≤ 5) (t5 : T ≤ 1000) : FX4_paired d e (iI (h : Nat)) (iI (g : Nat)) (iI (i : Nat)) = some (iI (cbM w F T : Nat), d, e) := by
  have b1 : (a_inb (iI (i : Nat)) 6 && a_inb (iI (h : Nat)) 6) = true := by simp (disch := omega) only [nI_iI, lN_lJ, iI_0, lJ_0, iI_add, iI_sub, iI_mul, iI_neg, lJ_add, lJ_sub, lJ_mul, lJ_neg, i_l, l_i, iI_cl, iI_inb, iI_eqT, iI_eqF, iI_ltT, iI_ltF, iI_leT, iI_leF, lJ_eqT, lJ_eqF, lJ_cG, lJ_cE, lJ_cL, lJ_cF, lJ_cGE, lJ_cLE, lJ_cNL, lJ_cNG, Int.cast_ofNat_Int, c_0, c_1, Int.natCast_add, Int.add_zero, cond_true, cond_false, Bool.and_self, Bool.and_true, Bool.true_and, Option.bind_some, decide_true, uI_hit, uI_miss, uI_o, uA_o, uA_s, ↓reduceIte, eq_self, true_or, or_true, or_false, false_or, true_and, and_true, false_and, and_false, or_self, and_self, not_false_eq_true, not_true_eq_false, tn_i]
  unfold FX4_paired
  rw [b1]
  refine (bind_at (a := (iI (F : Nat), d, e)) (by simp (disch := omega) only [nI_iI, lN_lJ, iI_0, lJ_0, iI_add, iI_sub, iI_mul, iI_neg, lJ_add, lJ_sub, lJ_mul, lJ_neg, i_l, l_i, iI_cl, iI_inb, iI_eqT, iI_eqF, iI_ltT, iI_ltF, iI_leT, iI_leF, lJ_eqT, lJ_eqF, lJ_cG, lJ_cE, lJ_cL, lJ_cF, lJ_cGE, lJ_cLE, lJ_cNL, lJ_cNG, Int.cast_ofNat_Int, c_0, c_1, Int.natCast_add, Int.add_zero, cond_true, cond_false, Bool.and_self, Bool.and_true, Bool.true_and, Option.bind_some, decide_true, uI_hit, uI_miss, uI_o, uA_o, uA_s, ↓reduceIte, eq_self, true_or, or_true, or_false, false_or, true_and, and_true, false_and, and_false, or_self, and_self, not_false_eq_true, not_true_eq_false, tn_i, Int.toNat_natCast, c7, c8, aw]) _).trans ?_
  refine (bind_at (a := (iI (X : Nat), d, e)) (by
    show FX4_cell d e (iI (h : Nat) + nI 1) (iI (g : Nat) ||| a_shl (nI 1) (iI (i : Nat))) = _
    simp (disch := omega) only [nI_iI, lN_lJ, iI_0, lJ_0, iI_add, iI_sub, iI_mul, iI_neg, lJ_add, lJ_sub, lJ_mul, lJ_neg, i_l, l_i, iI_cl, iI_inb, iI_eqT, iI_eqF, iI_ltT, iI_ltF, iI_leT, iI_leF, lJ_eqT, lJ_eqF, lJ_cG, lJ_cE, lJ_cL, lJ_cF, lJ_cGE, lJ_cLE, lJ_cNL, lJ_cNG, Int.cast_ofNat_Int, c_0, c_1, Int.natCast_add, Int.add_zero, cond_true, cond_false, Bool.and_self, Bool.and_true, Bool.true_and, Option.bind_some, decide_true, uI_hit, uI_miss, uI_o, uA_o, uA_s, ↓reduceIte, eq_self, true_or, or_true, or_false, false_or, true_and, and_true, false_and, and_false, or_self, and_self, not_false_eq_true, not_true_eq_false, tn_i, og, ce]) _).trans ?_
  show (bif a_inb (iI (X : Nat)) 448 then (if d 95 5 = 0 then some (iI (F : Nat) + d 96 (iI (X : Nat)).toNatClampNeg, d, e) else some (a_max (iI (F : Nat)) (d 96 (iI (X : Nat)).toNatClampNeg), d, e)) else none) = _
  cases w with
  | false =>
    have v5' : d 95 5 = iI 0 := v5
    have e1 : ((cbM false F T : Nat) : Int) = (F : Int) + T := by
      rw [cbM_f]
      omega
    rw [e1]
    simp (disch := omega) only [nI_iI, lN_lJ, iI_0, lJ_0, iI_add, iI_sub, iI_mul, iI_neg, lJ_add, lJ_sub, lJ_mul, lJ_neg, i_l, l_i, iI_cl, iI_inb, iI_eqT, iI_eqF, iI_ltT, iI_ltF, iI_leT, iI_leF, lJ_eqT, lJ_eqF, lJ_cG, lJ_cE, lJ_cL, lJ_cF, lJ_cGE, lJ_cLE, lJ_cNL, lJ_cNG, Int.cast_ofNat_Int, c_0, c_1, Int.natCast_add, Int.add_zero, cond_true, cond_false, Bool.and_self, Bool.and_true, Bool.true_and, Option.bind_some, decide_true, uI_hit, uI_miss, uI_o, uA_o, uA_s, ↓reduceIte, eq_self, true_or, or_true, or_false, false_or, true_and, and_true, false_and, and_false, or_self, and_self, not_false_eq_true, not_true_eq_false, tn_i, Int.toNat_natCast, tb, v5']
  | true =>
    have v5' : d 95 5 = iI 1 := v5
    have mx : a_max (iI (F : Nat)) (iI (T : Nat)) = iI ((cbM true F T : Nat) : Int) := by
      rw [iI_max (by omega), cbM_t]
      by_cases q : F < T
      · rw [if_pos q, if_pos (by omega)]
      · rw [if_neg q, if_neg (by omega)]
    simp (disch := omega) only [nI_iI, lN_lJ, iI_0, lJ_0, iI_add, iI_sub, iI_mul, iI_neg, lJ_add, lJ_sub, lJ_mul, lJ_neg, i_l, l_i, iI_cl, iI_inb, iI_eqT, iI_eqF, iI_ltT, iI_ltF, iI_leT, iI_leF, lJ_eqT, lJ_eqF, lJ_cG, lJ_cE, lJ_cL, lJ_cF, lJ_cGE, lJ_cLE, lJ_cNL, lJ_cNG, Int.cast_ofNat_Int, c_0, c_1, Int.natCast_add, Int.add_zero, cond_true, cond_false, Bool.and_self, Bool.and_true, Bool.true_and, Option.bind_some, decide_true, uI_hit, uI_miss, uI_o, uA_o, uA_s, ↓reduceIte, eq_self, true_or, or_true, or_false, false_or, true_and, and_true, false_and, and_false, or_self, and_self, not_false_eq_true, not_true_eq_false, tn_i, Int.toNat_natCast, tb, v5', mx]
theorem ff_far {d : aI} {e : aJ} {A : Int → Int} (hC : CN d 1 A) (hW : WN A) {h i : Nat} (hh : h < (hsM A 6).1) (hi : i < (csM A).1) : FX2_away d e (iI ((csM A).2 i : Nat)) (iI ((hsM A 6).2 h : Nat)) = some (iI (ffM A i h : Nat), d, e) := by
  have oc : (csM A).2 i < 6 ∧ ouP A ((csM A).2 i) := (gaS_ok (P := ouP A) 6).2.1 i hi
  have oh : (hsM A 6).2 h < 6 ∧ frP A ((hsM A 6).2 h) := (gaS_ok (P := frP A) 6).2.1 h hh
  unfold ffM
  generalize (csM A).2 i = C at oc ⊢
  generalize (hsM A 6).2 h = H at oh ⊢
  have aw := cq_away (e := e) hC hW (c := C) (h := H) ⟨by omega, oc.2.1, by omega, oh.2.1⟩
  have fi := farS_in hW (c := C) (h := H) ⟨by omega, oc.2.1, by omega, oh.2.1⟩
  unfold frN
  rw [Int.toNat_of_nonneg fi.1]
  exact aw
theorem cq_paired {d : aI} {e : aJ} {A : Int → Int} {w : Bool} {most : Nat} (hC : CN d 1 A) (hW : WN A) (hG : GB d w A most) {h g i : Nat} (hT : TP d w A most (h + 1)) (hh : h < (hsM A 6).1) (hi : i < (csM A).1) (hg : g < 2 ^ (csM A).1) (hb : g / 2 ^ i % 2 ≠ 1) (hp : bcN g ≤ h) : FX4_paired d e (iI (h : Nat)) (iI (g : Nat)) (iI (i : Nat)) = some (iI (cbM w (ffM A i h) (tbM w A most ((hsM A 6).1 - (h + 1)) (g + 2 ^ i)) : Nat), d, e) := by
  have n7 := csM_n A
  have m6 : (hsM A 6).1 ≤ 6 := (gaS_ok (P := frP A) 6).1
  have g64 := bt_64 n7 hg
  have ba := bt_add i (by omega) g g64 hb
  have ce := cq_cell (d := d) (e := e) (h := h + 1) (g := g + 2 ^ i) (by omega)
  rw [show ((h + 1 : Nat) : Int) = (h : Int) + 1 from by omega] at ce
  have tb := hT (h + 1) (by omega) (by omega) (g + 2 ^ i) (bt_n _ n7 i hi g hg hb) (by omega)
  have f5 : ffM A i h ≤ 5 := frN_5 _ _
  have vl : tbM w A most ((hsM A 6).1 - (h + 1)) (g + 2 ^ i) ≤ 1000 := vmS_le _ _
  exact cq_pairedA (by omega) (by omega) (hG.1.2.2.1 i hi) (hG.1.2.2.2 h hh) (ff_far hC hW hh hi) (or_g g g64 i (by omega) hb) ce (by omega) tb hG.2.1 f5 vl
theorem cq_least {d : aI} {e : aJ} {A : Int → Int} {w : Bool} {most : Nat} (hC : CN d 1 A) (hW : WN A) (hG : GB d w A most) (hm : most ≤ 6) {h g : Nat} (hT : TP d w A most (h + 1)) (hh : h < (hsM A 6).1) (hg : g < 2 ^ (csM A).1) : ∃ v : Nat, FX4_least d e (iI (h : Nat)) (iI (g : Nat)) = some (iI (v : Nat), d, e) ∧ (bcN g ≤ h → v = tbM w A most ((hsM A 6).1 - h) g) := by
  have n7 := csM_n A
  have m6 : (hsM A 6).1 ≤ 6 := (gaS_ok (P := frP A) 6).1
  have g64 := bt_64 n7 hg
  have bc := bc_J (d := d) (e := e) g64
  have b6 := bc_in g g64
  have r4 := hG.1.2.1
  have r6 := hG.2.2
  have r3 := hG.1.1
  obtain ⟨t, ht⟩ : ∃ t, (hsM A 6).1 - h = t + 1 := ⟨(hsM A 6).1 - h - 1, by omega⟩
  have ht2 : (hsM A 6).1 - (h + 1) = t := by omega
  have ht3 : (hsM A 6).1 - (t + 1) = h := by omega
  by_cases p1 : h < bcN g
  · refine ⟨1000, ?_, fun z => by omega⟩
    unfold FX4_least
    rw [a_run_step (st := stX4_least) (p2 := (100000, [some (.int (iI 1000))], d, e)) (by
      show sX4_least_0 d e _ _ = _
      unfold sX4_least_0
      simp (disch := omega) only [nI_iI, lN_lJ, iI_0, lJ_0, iI_add, iI_sub, iI_mul, iI_neg, lJ_add, lJ_sub, lJ_mul, lJ_neg, i_l, l_i, iI_cl, iI_inb, iI_eqT, iI_eqF, iI_ltT, iI_ltF, iI_leT, iI_leF, lJ_eqT, lJ_eqF, lJ_cG, lJ_cE, lJ_cL, lJ_cF, lJ_cGE, lJ_cLE, lJ_cNL, lJ_cNG, Int.cast_ofNat_Int, c_0, c_1, Int.natCast_add, Int.add_zero, cond_true, cond_false, Bool.and_self, Bool.and_true, Bool.true_and, Option.bind_some, decide_true, uI_hit, uI_miss, uI_o, uA_o, uA_s, ↓reduceIte, eq_self, true_or, or_true, or_false, false_or, true_and, and_true, false_and, and_false, or_self, and_self, not_false_eq_true, not_true_eq_false, tn_i, bc]) rfl, a_run_end]
    rfl
  · by_cases p2 : bcN g + (hsM A 6).1 < most + h
    · have no := vmS_no (w := w) (most := most) (n := (csM A).1) (m := (hsM A 6).1) (fr := ffM A) n7 (t + 1) g g64 (by omega)
      refine ⟨1000, ?_, fun z => by rw [ht]; exact no.symm⟩
      unfold FX4_least
      rw [a_run_step (st := stX4_least) (p2 := (100000, [some (.int (iI 1000))], d, e)) (by
        show sX4_least_0 d e _ _ = _
        unfold sX4_least_0
        simp (disch := omega) only [nI_iI, lN_lJ, iI_0, lJ_0, iI_add, iI_sub, iI_mul, iI_neg, lJ_add, lJ_sub, lJ_mul, lJ_neg, i_l, l_i, iI_cl, iI_inb, iI_eqT, iI_eqF, iI_ltT, iI_ltF, iI_leT, iI_leF, lJ_eqT, lJ_eqF, lJ_cG, lJ_cE, lJ_cL, lJ_cF, lJ_cGE, lJ_cLE, lJ_cNL, lJ_cNG, Int.cast_ofNat_Int, c_0, c_1, Int.natCast_add, Int.add_zero, cond_true, cond_false, Bool.and_self, Bool.and_true, Bool.true_and, Option.bind_some, decide_true, uI_hit, uI_miss, uI_o, uA_o, uA_s, ↓reduceIte, eq_self, true_or, or_true, or_false, false_or, true_and, and_true, false_and, and_false, or_self, and_self, not_false_eq_true, not_true_eq_false, tn_i, bc, r4, r6]) rfl, a_run_end]
      rfl
    · refine ⟨tbM w A most ((hsM A 6).1 - h) g, ?_, fun _ => rfl⟩
      have tb0 := hT (h + 1) (by omega) (by omega) g hg (by omega)
      have ce : FX4_cell d e (iI ((h : Int) + 1)) (iI (g : Nat)) = some (iI ((64 * (h + 1) + g : Nat) : Int), d, e) := cq_cell (h := h + 1) (by omega)
      have pr := fun i hi hb => cq_paired (e := e) hC hW hG hT hh (i := i) hi hg hb (by omega)
      rw [ht2] at tb0 pr
      rw [ht]
      have ub := vmF_ub (w := w) (f := fun i => ffM A i h) (V := tbM w A most t) (g := g) (v := tbM w A most t g)
      have v0 : tbM w A most t g ≤ 1000 := vmS_le t g
      have es : tbM w A most (t + 1) g = itr (vmF w (fun i => ffM A i h) (tbM w A most t) g) (csM A).1 (tbM w A most t g) := by
        show itr (vmF w (fun i => ffM A i ((hsM A 6).1 - (t + 1))) (tbM w A most t) g) (csM A).1 (tbM w A most t g) = _
        rw [ht3]
      rw [es]
      have st0 : stX4_least (0, [some (.ref 95), some (.ref 2), some (.int (iI (h : Nat))), some (.int (iI (g : Nat))), none, none, none], d, e) = some (49, [some (.ref 95), some (.ref 2), some (.int (iI (h : Nat))), some (.int (iI (g : Nat))), some (.int (iI (bcN g : Nat))), some (.int (iI (tbM w A most t g : Nat))), some (.int (iI (0 : Nat)))], d, e) := by
        show sX4_least_0 d e _ _ = _
        unfold sX4_least_0
        generalize hx : 64 * (h + 1) + g = X at *
        simp (disch := omega) only [nI_iI, lN_lJ, iI_0, lJ_0, iI_add, iI_sub, iI_mul, iI_neg, lJ_add, lJ_sub, lJ_mul, lJ_neg, i_l, l_i, iI_cl, iI_inb, iI_eqT, iI_eqF, iI_ltT, iI_ltF, iI_leT, iI_leF, lJ_eqT, lJ_eqF, lJ_cG, lJ_cE, lJ_cL, lJ_cF, lJ_cGE, lJ_cLE, lJ_cNL, lJ_cNG, Int.cast_ofNat_Int, c_0, c_1, Int.natCast_add, Int.add_zero, cond_true, cond_false, Bool.and_self, Bool.and_true, Bool.true_and, Option.bind_some, decide_true, uI_hit, uI_miss, uI_o, uA_o, uA_s, ↓reduceIte, eq_self, true_or, or_true, or_false, false_or, true_and, and_true, false_and, and_false, or_self, and_self, not_false_eq_true, not_true_eq_false, tn_i, Int.toNat_natCast, bc, r4, r6, ce, tb0]
      have lp := run_invR (st := stX4_least) (fun k p => p = (49, [some (.ref 95), some (.ref 2), some (.int (iI (h : Nat))), some (.int (iI (g : Nat))), some (.int (iI (bcN g : Nat))), some (.int (iI (itr (vmF w (fun i => ffM A i h) (tbM w A most t) g) k (tbM w A most t g) : Nat))), some (.int (iI (k : Nat)))], d, e)) (csM A).1 (p0 := (49, [some (.ref 95), some (.ref 2), some (.int (iI (h : Nat))), some (.int (iI (g : Nat))), some (.int (iI (bcN g : Nat))), some (.int (iI (tbM w A most t g : Nat))), some (.int (iI (0 : Nat)))], d, e)) rfl ?_
      rotate_left
      · rintro k p hk rfl
        have u := (ub k).1
        refine ⟨_, a_run_step (p2 := (49, [some (.ref 95), some (.ref 2), some (.int (iI (h : Nat))), some (.int (iI (g : Nat))), some (.int (iI (bcN g : Nat))), some (.int (iI (itr (vmF w (fun i => ffM A i h) (tbM w A most t) g) (k + 1) (tbM w A most t g) : Nat))), some (.int (iI (k + 1 : Nat)))], d, e)) ?_ rfl, rfl⟩
        rw [vmF_s]
        generalize itr (vmF w (fun i => ffM A i h) (tbM w A most t) g) k (tbM w A most t g) = R at u
        by_cases b : g / 2 ^ k % 2 = 1
        · rw [if_pos b]
          show sX4_least_49 d e _ _ _ _ _ = _
          unfold sX4_least_49
          simp (disch := omega) only [nI_iI, lN_lJ, iI_0, lJ_0, iI_add, iI_sub, iI_mul, iI_neg, lJ_add, lJ_sub, lJ_mul, lJ_neg, i_l, l_i, iI_cl, iI_inb, iI_eqT, iI_eqF, iI_ltT, iI_ltF, iI_leT, iI_leF, lJ_eqT, lJ_eqF, lJ_cG, lJ_cE, lJ_cL, lJ_cF, lJ_cGE, lJ_cLE, lJ_cNL, lJ_cNG, Int.cast_ofNat_Int, c_0, c_1, Int.natCast_add, Int.add_zero, cond_true, cond_false, Bool.and_self, Bool.and_true, Bool.true_and, Option.bind_some, decide_true, uI_hit, uI_miss, uI_o, uA_o, uA_s, ↓reduceIte, eq_self, true_or, or_true, or_false, false_or, true_and, and_true, false_and, and_false, or_self, and_self, not_false_eq_true, not_true_eq_false, tn_i, r3, cq_has_y (has_y g64 (show k < 6 by omega) b)]
        · rw [if_neg b]
          have q := pr k hk b
          have f5 : ffM A k h ≤ 5 := frN_5 _ _
          have l1 := cbM_le (w := w) (a := ffM A k h) (b := tbM w A most t (g + 2 ^ k))
          have l2 : tbM w A most t (g + 2 ^ k) ≤ 1000 := vmS_le t _
          show stX4_least _ = some (49, [some (.ref 95), some (.ref 2), some (.int (iI (h : Nat))), some (.int (iI (g : Nat))), some (.int (iI (bcN g : Nat))), some (.int (iI ((if R ≤ cbM w (ffM A k h) (tbM w A most t (g + 2 ^ k)) then R else cbM w (ffM A k h) (tbM w A most t (g + 2 ^ k)) : Nat) : Int))), some (.int (iI (k + 1 : Nat)))], d, e)
          generalize cbM w (ffM A k h) (tbM w A most t (g + 2 ^ k)) = C at *
          have mn : a_min (iI (R : Nat)) (iI (C : Nat)) = iI ((if R ≤ C then R else C : Nat) : Int) := by
            rw [iI_min (by omega)]
            by_cases z : R ≤ C
            · rw [if_pos z, if_pos (by omega)]
            · rw [if_neg z, if_neg (by omega)]
          show sX4_least_49 d e _ _ _ _ _ = _
          unfold sX4_least_49
          simp (disch := omega) only [nI_iI, lN_lJ, iI_0, lJ_0, iI_add, iI_sub, iI_mul, iI_neg, lJ_add, lJ_sub, lJ_mul, lJ_neg, i_l, l_i, iI_cl, iI_inb, iI_eqT, iI_eqF, iI_ltT, iI_ltF, iI_leT, iI_leF, lJ_eqT, lJ_eqF, lJ_cG, lJ_cE, lJ_cL, lJ_cF, lJ_cGE, lJ_cLE, lJ_cNL, lJ_cNG, Int.cast_ofNat_Int, c_0, c_1, Int.natCast_add, Int.add_zero, cond_true, cond_false, Bool.and_self, Bool.and_true, Bool.true_and, Option.bind_some, decide_true, uI_hit, uI_miss, uI_o, uA_o, uA_s, ↓reduceIte, eq_self, true_or, or_true, or_false, false_or, true_and, and_true, false_and, and_false, or_self, and_self, not_false_eq_true, not_true_eq_false, tn_i, r3, cq_has_n (has_n g64 (show k < 6 by omega) b), q, mn]
      obtain ⟨p, rfl, t1⟩ := lp
      unfold FX4_least
      rw [a_run_step st0 rfl, t1, a_run_step (st := stX4_least) (p2 := (100000, [some (.int (iI (itr (vmF w (fun i => ffM A i h) (tbM w A most t) g) (csM A).1 (tbM w A most t g) : Nat)))], d, e)) (by
        show sX4_least_49 d e _ _ _ _ _ = _
        unfold sX4_least_49
        simp (disch := omega) only [nI_iI, lN_lJ, iI_0, lJ_0, iI_add, iI_sub, iI_mul, iI_neg, lJ_add, lJ_sub, lJ_mul, lJ_neg, i_l, l_i, iI_cl, iI_inb, iI_eqT, iI_eqF, iI_ltT, iI_ltF, iI_leT, iI_leF, lJ_eqT, lJ_eqF, lJ_cG, lJ_cE, lJ_cL, lJ_cF, lJ_cGE, lJ_cLE, lJ_cNL, lJ_cNG, Int.cast_ofNat_Int, c_0, c_1, Int.natCast_add, Int.add_zero, cond_true, cond_false, Bool.and_self, Bool.and_true, Bool.true_and, Option.bind_some, decide_true, uI_hit, uI_miss, uI_o, uA_o, uA_s, ↓reduceIte, eq_self, true_or, or_true, or_false, false_or, true_and, and_true, false_and, and_false, or_self, and_self, not_false_eq_true, not_true_eq_false, tn_i, r3]) rfl, a_run_end]
      rfl
theorem cq_settle {d : aI} {e : aJ} {A : Int → Int} {w : Bool} (hC : CN d 1 A) (hW : WN A) {most : Nat} (hmo : most = if (csM A).1 ≤ (hsM A 6).1 then (csM A).1 else (hsM A 6).1) : ∃ d', FX4_settle d e (iI (tv w)) = some ((), d', e) ∧ GB d' w A most ∧ TP d' w A most 0 ∧ Kp d d' := by
  have n7 := csM_n A
  have m6 : (hsM A 6).1 ≤ 6 := (gaS_ok (P := frP A) 6).1
  have n6 : (csM A).1 ≤ 6 := by omega
  have mo6 : most ≤ 6 := by rw [hmo]; split <;> omega
  have p64 : 2 ^ (csM A).1 ≤ 2 ^ 6 := Nat.pow_le_pow_right (by omega) n6
  obtain ⟨d1, x1, x2, x3⟩ := cq_gather (e := e) hC hW
  have r3 := x2.1
  have r4 := x2.2.1
  have mn : a_min (iI ((csM A).1 : Nat)) (iI ((hsM A 6).1 : Nat)) = iI (most : Nat) := by
    rw [iI_min (by omega), hmo]
    by_cases z : (csM A).1 ≤ (hsM A 6).1
    · rw [if_pos z, if_pos (by omega)]
    · rw [if_neg z, if_neg (by omega)]
  have tw := tv_in w
  have dc : decide (iI (tv w) = iI 0 ∨ iI (tv w) = 1) = true := by cases w <;> decide
  have st0 : stX4_settle (0, [some (.ref 95), some (.ref 2), some (.int (iI (tv w))), none, none], d, e) = some (27, [some (.ref 95), some (.ref 2), some (.int (iI (tv w))), some (.int (iI (0 : Nat))), none], uI (uI d1 95 5 (iI (tv w))) 95 6 (iI (most : Nat)), e) := by
    show sX4_settle_0 d e _ = _
    unfold sX4_settle_0
    have dc2 : decide (iI (tv w) = 0 ∨ iI (tv w) = 1) = true := dc
    rw [dc2]
    simp (disch := omega) only [nI_iI, lN_lJ, iI_0, lJ_0, iI_add, iI_sub, iI_mul, iI_neg, lJ_add, lJ_sub, lJ_mul, lJ_neg, i_l, l_i, iI_cl, iI_inb, iI_eqT, iI_eqF, iI_ltT, iI_ltF, iI_leT, iI_leF, lJ_eqT, lJ_eqF, lJ_cG, lJ_cE, lJ_cL, lJ_cF, lJ_cGE, lJ_cLE, lJ_cNL, lJ_cNG, Int.cast_ofNat_Int, c_0, c_1, Int.natCast_add, Int.add_zero, cond_true, cond_false, Bool.and_self, Bool.and_true, Bool.true_and, Option.bind_some, decide_true, uI_hit, uI_miss, uI_o, uA_o, uA_s, ↓reduceIte, eq_self, true_or, or_true, or_false, false_or, true_and, and_true, false_and, and_false, or_self, and_self, not_false_eq_true, not_true_eq_false, tn_i, x1, r3, r4, mn]
  have gb0 : GB (uI (uI d1 95 5 (iI (tv w))) 95 6 (iI (most : Nat))) w A most := by
    refine ⟨⟨?_, ?_, fun i hi => ?_, fun j hj => ?_⟩, ?_, ?_⟩
    · rw [uI_miss (by omega), uI_miss (by omega)]; exact x2.1
    · rw [uI_miss (by omega), uI_miss (by omega)]; exact x2.2.1
    · rw [uI_o (by omega), uI_o (by omega)]; exact x2.2.2.1 i hi
    · rw [uI_o (by omega), uI_o (by omega)]; exact x2.2.2.2 j hj
    · rw [uI_miss (by omega), uI_hit rfl]
    · rw [uI_hit rfl]
  have kp0 : Kp d (uI (uI d1 95 5 (iI (tv w))) 95 6 (iI (most : Nat))) := x3.trans ((Kp.put (Or.inl rfl)).trans (Kp.put (Or.inl rfl)))
  have gbp : ∀ {d : aI} {j : Nat} {v : Int32}, GB d w A most → GB (uI d 96 j v) w A most := fun h => ⟨⟨by rw [uI_o (by omega)]; exact h.1.1, by rw [uI_o (by omega)]; exact h.1.2.1, fun i hi => by rw [uI_o (by omega)]; exact h.1.2.2.1 i hi, fun j hj => by rw [uI_o (by omega)]; exact h.1.2.2.2 j hj⟩, by rw [uI_o (by omega)]; exact h.2.1, by rw [uI_o (by omega)]; exact h.2.2⟩
  have sn := sh_n (csM A).1 n7
  have l1 := run_invR (st := stX4_settle) (fun k p => ∃ d', p = (27, [some (.ref 95), some (.ref 2), some (.int (iI (tv w))), some (.int (iI (k : Nat))), none], d', e) ∧ GB d' w A most ∧ (∀ g, g < k → d' 96 (64 * (hsM A 6).1 + g) = iI (tbM w A most 0 g : Nat)) ∧ Kp d d') (2 ^ (csM A).1) (p0 := (27, [some (.ref 95), some (.ref 2), some (.int (iI (tv w))), some (.int (iI (0 : Nat))), none], uI (uI d1 95 5 (iI (tv w))) 95 6 (iI (most : Nat)), e)) ⟨_, rfl, gb0, fun g hg => absurd hg (Nat.not_lt_zero g), kp0⟩ ?_
  rotate_left
  · rintro k p hk ⟨d', rfl, g1, g2, g3⟩
    have ce := cq_cell (d := d') (e := e) (h := (hsM A 6).1) (g := k) (by omega)
    have bc := bc_J (d := d') (e := e) (m := k) (by omega)
    have b6 := bc_in k (by omega)
    have k3 := g1.1.1
    have k4 := g1.1.2.1
    have k6 := g1.2.2
    have e0 : tbM w A most 0 k = if bcN k = most then 0 else 1000 := rfl
    have hX : 64 * (hsM A 6).1 + k < 448 := by omega
    refine ⟨_, a_run_step (p2 := (27, [some (.ref 95), some (.ref 2), some (.int (iI (tv w))), some (.int (iI (k + 1 : Nat))), none], uI d' 96 (64 * (hsM A 6).1 + k) (iI (tbM w A most 0 k : Nat)), e)) ?_ rfl, _, rfl, gbp g1, fun g hg => ?_, g3.trans (Kp.put (by omega))⟩
    · show sX4_settle_27 d' e _ _ none = _
      unfold sX4_settle_27
      rw [e0]
      generalize 64 * (hsM A 6).1 + k = X at *
      by_cases q : bcN k = most
      · rw [if_pos q]
        simp (disch := omega) only [nI_iI, lN_lJ, iI_0, lJ_0, iI_add, iI_sub, iI_mul, iI_neg, lJ_add, lJ_sub, lJ_mul, lJ_neg, i_l, l_i, iI_cl, iI_inb, iI_eqT, iI_eqF, iI_ltT, iI_ltF, iI_leT, iI_leF, lJ_eqT, lJ_eqF, lJ_cG, lJ_cE, lJ_cL, lJ_cF, lJ_cGE, lJ_cLE, lJ_cNL, lJ_cNG, Int.cast_ofNat_Int, c_0, c_1, Int.natCast_add, Int.add_zero, cond_true, cond_false, Bool.and_self, Bool.and_true, Bool.true_and, Option.bind_some, decide_true, uI_hit, uI_miss, uI_o, uA_o, uA_s, ↓reduceIte, eq_self, true_or, or_true, or_false, false_or, true_and, and_true, false_and, and_false, or_self, and_self, not_false_eq_true, not_true_eq_false, tn_i, Int.toNat_natCast, k3, k4, sn, ce, bc, k6]
      · rw [if_neg q]
        simp (disch := omega) only [nI_iI, lN_lJ, iI_0, lJ_0, iI_add, iI_sub, iI_mul, iI_neg, lJ_add, lJ_sub, lJ_mul, lJ_neg, i_l, l_i, iI_cl, iI_inb, iI_eqT, iI_eqF, iI_ltT, iI_ltF, iI_leT, iI_leF, lJ_eqT, lJ_eqF, lJ_cG, lJ_cE, lJ_cL, lJ_cF, lJ_cGE, lJ_cLE, lJ_cNL, lJ_cNG, Int.cast_ofNat_Int, c_0, c_1, Int.natCast_add, Int.add_zero, cond_true, cond_false, Bool.and_self, Bool.and_true, Bool.true_and, Option.bind_some, decide_true, uI_hit, uI_miss, uI_o, uA_o, uA_s, ↓reduceIte, eq_self, true_or, or_true, or_false, false_or, true_and, and_true, false_and, and_false, or_self, and_self, not_false_eq_true, not_true_eq_false, tn_i, Int.toNat_natCast, k3, k4, sn, ce, bc, k6]
    · by_cases z : g = k
      · rw [z, uI_hit rfl]
      · rw [uI_miss (by omega)]; exact g2 g (by omega)
  obtain ⟨p, ⟨d2, rfl, g1, g2, g3⟩, t1⟩ := l1
  have k3 := g1.1.1
  have k4 := g1.1.2.1
  have st1 : stX4_settle (27, [some (.ref 95), some (.ref 2), some (.int (iI (tv w))), some (.int (iI (2 ^ (csM A).1 : Nat))), none], d2, e) = some (81, [some (.ref 95), some (.ref 2), some (.int (iI (tv w))), some (.int (iI (((hsM A 6).1 : Int) - 1 - (0 : Nat)))), none], d2, e) := by
    rw [show ((hsM A 6).1 : Int) - 1 - (0 : Nat) = ((hsM A 6).1 : Int) - 1 from by omega]
    show sX4_settle_27 d2 e _ _ none = _
    unfold sX4_settle_27
    generalize 2 ^ (csM A).1 = N at *
    simp (disch := omega) only [nI_iI, lN_lJ, iI_0, lJ_0, iI_add, iI_sub, iI_mul, iI_neg, lJ_add, lJ_sub, lJ_mul, lJ_neg, i_l, l_i, iI_cl, iI_inb, iI_eqT, iI_eqF, iI_ltT, iI_ltF, iI_leT, iI_leF, lJ_eqT, lJ_eqF, lJ_cG, lJ_cE, lJ_cL, lJ_cF, lJ_cGE, lJ_cLE, lJ_cNL, lJ_cNG, Int.cast_ofNat_Int, c_0, c_1, Int.natCast_add, Int.add_zero, cond_true, cond_false, Bool.and_self, Bool.and_true, Bool.true_and, Option.bind_some, decide_true, uI_hit, uI_miss, uI_o, uA_o, uA_s, ↓reduceIte, eq_self, true_or, or_true, or_false, false_or, true_and, and_true, false_and, and_false, or_self, and_self, not_false_eq_true, not_true_eq_false, tn_i, k3, k4, sn]
  have tp0 : TP d2 w A most (hsM A 6).1 := by
    intro k h1 h2 g hg _
    have e1 : k = (hsM A 6).1 := by omega
    rw [e1, Nat.sub_self]
    exact g2 g hg
  have l2 := run_invR (st := stX4_settle) (fun t p => ∃ d' v4, p = (81, [some (.ref 95), some (.ref 2), some (.int (iI (tv w))), some (.int (iI (((hsM A 6).1 : Int) - 1 - (t : Nat)))), v4], d', e) ∧ GB d' w A most ∧ TP d' w A most ((hsM A 6).1 - t) ∧ Kp d d') (hsM A 6).1 (p0 := (81, [some (.ref 95), some (.ref 2), some (.int (iI (tv w))), some (.int (iI (((hsM A 6).1 : Int) - 1 - (0 : Nat)))), none], d2, e)) ⟨_, none, rfl, g1, tp0, g3⟩ ?_
  rotate_left
  · rintro t p ht ⟨d', v4, rfl, h1, h2, h3⟩
    obtain ⟨h, hh⟩ : ∃ h, (hsM A 6).1 - t = h + 1 := ⟨(hsM A 6).1 - t - 1, by omega⟩
    have ei : ((hsM A 6).1 : Int) - 1 - (t : Nat) = (h : Int) := by omega
    rw [hh] at h2
    have inn := run_invR (st := stX4_settle) (fun k p => ∃ d', p = (88, [some (.ref 95), some (.ref 2), some (.int (iI (tv w))), some (.int (iI (h : Nat))), some (.int (iI (k : Nat)))], d', e) ∧ GB d' w A most ∧ TP d' w A most (h + 1) ∧ (∀ g, g < k → bcN g ≤ h → d' 96 (64 * h + g) = iI (tbM w A most ((hsM A 6).1 - h) g : Nat)) ∧ Kp d d') (2 ^ (csM A).1) (p0 := (88, [some (.ref 95), some (.ref 2), some (.int (iI (tv w))), some (.int (iI (h : Nat))), some (.int (iI (0 : Nat)))], d', e)) ⟨_, rfl, h1, h2, fun g hg => absurd hg (Nat.not_lt_zero g), h3⟩ ?_
    rotate_left
    · rintro k p hk ⟨d3, rfl, j1, j2, j3, j4⟩
      have ce := cq_cell (d := d3) (e := e) (h := h) (g := k) (by omega)
      obtain ⟨v, le, lv⟩ := cq_least (e := e) (hC.of (fun o a b => j4 o (by omega))) hW j1 mo6 j2 (by omega) hk
      have k3 := j1.1.1
      have hX : 64 * h + k < 448 := by omega
      refine ⟨_, a_run_step (p2 := (88, [some (.ref 95), some (.ref 2), some (.int (iI (tv w))), some (.int (iI (h : Nat))), some (.int (iI (k + 1 : Nat)))], uI d3 96 (64 * h + k) (iI (v : Nat)), e)) ?_ rfl, _, rfl, gbp j1, fun k2 a b g hg hb => ?_, fun g hg hb => ?_, j4.trans (Kp.put (by omega))⟩
      · show sX4_settle_88 d3 e _ _ _ = _
        unfold sX4_settle_88
        generalize 64 * h + k = X at *
        generalize 2 ^ (csM A).1 = N at *
        simp (disch := omega) only [nI_iI, lN_lJ, iI_0, lJ_0, iI_add, iI_sub, iI_mul, iI_neg, lJ_add, lJ_sub, lJ_mul, lJ_neg, i_l, l_i, iI_cl, iI_inb, iI_eqT, iI_eqF, iI_ltT, iI_ltF, iI_leT, iI_leF, lJ_eqT, lJ_eqF, lJ_cG, lJ_cE, lJ_cL, lJ_cF, lJ_cGE, lJ_cLE, lJ_cNL, lJ_cNG, Int.cast_ofNat_Int, c_0, c_1, Int.natCast_add, Int.add_zero, cond_true, cond_false, Bool.and_self, Bool.and_true, Bool.true_and, Option.bind_some, decide_true, uI_hit, uI_miss, uI_o, uA_o, uA_s, ↓reduceIte, eq_self, true_or, or_true, or_false, false_or, true_and, and_true, false_and, and_false, or_self, and_self, not_false_eq_true, not_true_eq_false, tn_i, Int.toNat_natCast, k3, sn, ce, le]
      · rw [uI_miss (by omega)]; exact j2 k2 a b g hg hb
      · by_cases z : g = k
        · rw [z] at hb ⊢
          rw [uI_hit rfl, lv hb]
        · rw [uI_miss (by omega)]; exact j3 g (by omega) hb
    obtain ⟨p, ⟨d4, rfl, j1, j2, j3, j4⟩, t3⟩ := inn
    have k3 := j1.1.1
    have s1 : stX4_settle (81, [some (.ref 95), some (.ref 2), some (.int (iI (tv w))), some (.int (iI (((hsM A 6).1 : Int) - 1 - (t : Nat)))), v4], d', e) = some (88, [some (.ref 95), some (.ref 2), some (.int (iI (tv w))), some (.int (iI (h : Nat))), some (.int (iI (0 : Nat)))], d', e) := by
      rw [ei]
      show sX4_settle_81 d' e _ _ v4 = _
      unfold sX4_settle_81
      simp (disch := omega) only [nI_iI, lN_lJ, iI_0, lJ_0, iI_add, iI_sub, iI_mul, iI_neg, lJ_add, lJ_sub, lJ_mul, lJ_neg, i_l, l_i, iI_cl, iI_inb, iI_eqT, iI_eqF, iI_ltT, iI_ltF, iI_leT, iI_leF, lJ_eqT, lJ_eqF, lJ_cG, lJ_cE, lJ_cL, lJ_cF, lJ_cGE, lJ_cLE, lJ_cNL, lJ_cNG, Int.cast_ofNat_Int, c_0, c_1, Int.natCast_add, Int.add_zero, cond_true, cond_false, Bool.and_self, Bool.and_true, Bool.true_and, Option.bind_some, decide_true, uI_hit, uI_miss, uI_o, uA_o, uA_s, ↓reduceIte, eq_self, true_or, or_true, or_false, false_or, true_and, and_true, false_and, and_false, or_self, and_self, not_false_eq_true, not_true_eq_false, tn_i]
    have s2 : stX4_settle (88, [some (.ref 95), some (.ref 2), some (.int (iI (tv w))), some (.int (iI (h : Nat))), some (.int (iI (2 ^ (csM A).1 : Nat)))], d4, e) = some (81, [some (.ref 95), some (.ref 2), some (.int (iI (tv w))), some (.int (iI (((hsM A 6).1 : Int) - 1 - (t + 1 : Nat)))), some (.int (iI (2 ^ (csM A).1 : Nat)))], d4, e) := by
      rw [show ((hsM A 6).1 : Int) - 1 - (t + 1 : Nat) = (h : Int) + -1 from by omega]
      show sX4_settle_88 d4 e _ _ _ = _
      unfold sX4_settle_88
      generalize 2 ^ (csM A).1 = N at *
      simp (disch := omega) only [nI_iI, lN_lJ, iI_0, lJ_0, iI_add, iI_sub, iI_mul, iI_neg, lJ_add, lJ_sub, lJ_mul, lJ_neg, i_l, l_i, iI_cl, iI_inb, iI_eqT, iI_eqF, iI_ltT, iI_ltF, iI_leT, iI_leF, lJ_eqT, lJ_eqF, lJ_cG, lJ_cE, lJ_cL, lJ_cF, lJ_cGE, lJ_cLE, lJ_cNL, lJ_cNG, Int.cast_ofNat_Int, c_0, c_1, Int.natCast_add, Int.add_zero, cond_true, cond_false, Bool.and_self, Bool.and_true, Bool.true_and, Option.bind_some, decide_true, uI_hit, uI_miss, uI_o, uA_o, uA_s, ↓reduceIte, eq_self, true_or, or_true, or_false, false_or, true_and, and_true, false_and, and_false, or_self, and_self, not_false_eq_true, not_true_eq_false, tn_i, k3, sn]
    refine ⟨_, (a_run_step s1 rfl).trans (t3.trans (a_run_step s2 rfl)), d4, _, rfl, j1, fun k2 a b g hg hb => ?_, j4⟩
    by_cases z : k2 = h
    · rw [z] at hb ⊢
      exact j3 g hg hb
    · exact j2 k2 (by omega) b g hg hb
  obtain ⟨p, ⟨d5, v4, rfl, h1, h2, h3⟩, t2⟩ := l2
  rw [Nat.sub_self] at h2
  refine ⟨d5, ?_, h1, h2, h3⟩
  unfold FX4_settle
  rw [a_run_step st0 rfl, t1, a_run_step st1 rfl, t2, show ((hsM A 6).1 : Int) - 1 - ((hsM A 6).1 : Nat) = -1 from by omega, a_run_step (st := stX4_settle) (p2 := (100000, [], d5, e)) (by
    show sX4_settle_81 d5 e _ _ v4 = _
    unfold sX4_settle_81
    simp (disch := omega) only [nI_iI, lN_lJ, iI_0, lJ_0, iI_add, iI_sub, iI_mul, iI_neg, lJ_add, lJ_sub, lJ_mul, lJ_neg, i_l, l_i, iI_cl, iI_inb, iI_eqT, iI_eqF, iI_ltT, iI_ltF, iI_leT, iI_leF, lJ_eqT, lJ_eqF, lJ_cG, lJ_cE, lJ_cL, lJ_cF, lJ_cGE, lJ_cLE, lJ_cNL, lJ_cNG, Int.cast_ofNat_Int, c_0, c_1, Int.natCast_add, Int.add_zero, cond_true, cond_false, Bool.and_self, Bool.and_true, Bool.true_and, Option.bind_some, decide_true, uI_hit, uI_miss, uI_o, uA_o, uA_s, ↓reduceIte, eq_self, true_or, or_true, or_false, false_or, true_and, and_true, false_and, and_false, or_self, and_self, not_false_eq_true, not_true_eq_false, tn_i]) rfl, a_run_end]
  rfl
