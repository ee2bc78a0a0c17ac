/-! ===== sights, clues, pieces, claims are told ===== -/
theorem row_ag2 {A B : Int → Int} (g : ∀ j : Int, ((42 ≤ j ∧ j < 66) ∨ (136 ≤ j ∧ j < 1936)) → A j = B j) {s : Int} (hs : 0 ≤ s ∧ s < 30) {j : Int} (hj : j = 0 ∨ j = 1 ∨ (9 ≤ j ∧ j < 66) ∨ (1936 ≤ j ∧ j < 1961)) : rowT A s j = rowT B s j := by
  by_cases h0 : j = 0
  · subst h0
    rw [rowT_0, rowT_0, g _ (by omega)]
  · by_cases h1 : j = 1
    · subst h1
      rw [rowT_1, rowT_1, g _ (by omega)]
    · by_cases h9 : 9 ≤ j ∧ j < 42
      · rw [rowT_n h9, rowT_n h9, g _ (by omega)]
      · by_cases hb : 1936 ≤ j ∧ j < 1961
        · rw [rowT_b hb, rowT_b hb, g _ (by omega)]
        · rw [rowT_o (by omega), rowT_o (by omega), g _ (by omega)]
abbrev Nts (A : Int → Int) : Prop :=
  ((0 ≤ A 5 ∧ A 5 ≤ 10) ∧ ∀ i : Int, 0 ≤ i → i < A 5 → (0 ≤ A (66 + 2 * i) ∧ A (66 + 2 * i) ≤ 99) ∧ (0 ≤ A (66 + 2 * i + 1) ∧ A (66 + 2 * i + 1) ≤ 9)) ∧
  ((0 ≤ A 6 ∧ A 6 ≤ 8) ∧ ∀ i : Int, 0 ≤ i → i < A 6 → (0 ≤ A (86 + 2 * i) ∧ A (86 + 2 * i) < A 0) ∧ (0 ≤ A (86 + 2 * i + 1) ∧ A (86 + 2 * i + 1) ≤ 99)) ∧
  ((0 ≤ A 7 ∧ A 7 ≤ 5) ∧ ∀ i : Int, 0 ≤ i → i < A 7 → (1 ≤ A (102 + 2 * i) ∧ A (102 + 2 * i) ≤ 4) ∧ (0 ≤ A (102 + 2 * i + 1) ∧ A (102 + 2 * i + 1) < 2 ^ (A (102 + 2 * i)).toNat)) ∧
  ((0 ≤ A 8 ∧ A 8 ≤ 8) ∧ ∀ i : Int, 0 ≤ i → i < A 8 → (0 ≤ A (112 + 3 * i) ∧ A (112 + 3 * i) < A 1) ∧ (0 ≤ A (112 + 3 * i + 1) ∧ A (112 + 3 * i + 1) < A 0) ∧ (0 ≤ A (112 + 3 * i + 2) ∧ A (112 + 3 * i + 2) ≤ 99))
abbrev NOld (A A' : Int → Int) : Prop := ∀ j : Int, ((0 ≤ j ∧ j < 5) ∨ (9 ≤ j ∧ j < 66) ∨ (136 ≤ j ∧ j < 1961)) → A' j = A j
theorem SI.note {A A' : Int → Int} (hS : SI A) (o : NOld A A') (hn : Nts A') : SI A' := by
  obtain ⟨hw, h4, h2, h3, hr, _⟩ := hS
  have ag : Ag A A' := fun j hj => (o j (by omega)).symm
  have g : ∀ s : Int, 0 ≤ s → s < 30 → Ag (rowT A s) (rowT A' s) := fun s a b j hj => row_ag2 (fun j hj => (o j (by omega)).symm) ⟨a, b⟩ hj
  refine ⟨hw.ag ag, by rw [o 4 (by omega)]; exact h4, by rw [o 2 (by omega)]; exact h2, by rw [o 3 (by omega), o 2 (by omega)]; exact h3, fun s s0 s1 => ?_, hn⟩
  rw [o 4 (by omega)] at s1
  obtain ⟨r1, r2⟩ := hr s s0 s1
  have y0 := r1.1
  have y1 := r1.2.1
  refine ⟨r1.ag (g s s0 (by omega)), ?_⟩
  unfold stT at r2 ⊢
  rw [o 4 (by omega)]
  by_cases h : s + 1 < A 4
  · rw [if_pos h] at r2 ⊢
    have y2 := (hr (s + 1) (by omega) h).1.1
    have y3 := (hr (s + 1) (by omega) h).1.2.1
    exact r2.ag (g s s0 (by omega)) (g (s + 1) (by omega) (by omega)) (by omega)
  · rw [if_neg h] at r2 ⊢
    have w0 := hw.1
    have w1 := hw.2.1
    exact r2.ag (g s s0 (by omega)) ag (by omega)
theorem CW.note {d d' : aI} {A A' : Int → Int} (h : CW d 1 A) (hS : SI A) (o : NOld A A') (hf : ∀ k, k < 13 → d' k = d k) (n5 : NT d' 13 A' 5 66 2 10) (n6 : NT d' 17 A' 6 86 2 8) (n7 : NT d' 21 A' 7 102 2 5) (n8 : NT d' 25 A' 8 112 3 8) (n9 : ∀ j : Nat, (j : Int) < A' 8 → d' 28 j = iI (A' (112 + 3 * j + 2))) : CW d' 1 A' := by
  obtain ⟨c1, ⟨f, f0, f1, g1, g2, gr⟩, c3, c4, _⟩ := h
  have h4 := hS.2.1
  refine ⟨(c1.of (fun k a b => hf k (by omega))).ag hS.1 (fun j hj => (o j (by omega)).symm), ⟨f, f0, f1, ?_, ?_, fun s s0 s1 => ?_⟩, ?_, ?_, n5, n6, n7, n8, n9⟩
  · rw [hf 11 (by omega)]; exact g1
  · rw [hf 11 (by omega), o 4 (by omega)]; exact g2
  · rw [o 4 (by omega)] at s1
    have ws := (hS.2.2.2.2.1 s s0 s1).1
    have y0 := ws.1
    have y1 := ws.2.1
    have y11 := ws.2.2.2.2.1
    exact ((gr s s0 s1).of (d' := d') (fun j _ _ => by rw [hf 12 (by omega)]) (by omega) (by omega)).ag (fun j hj => row_ag2 (fun j hj => (o j (by omega)).symm) (by omega) hj) (by omega)
  · rw [hf 1 (by omega), o 2 (by omega)]; exact c3
  · rw [hf 1 (by omega), o 3 (by omega)]; exact c4
/-- class and reference come from table to table, all else as it is -/
theorem Op.note {FC FM : aI → aJ → Option (Int32 × aI × aJ)} {S : aS} (hS : sOK S) {B : Int → Int} {r : Int32} (o : NOld S.1 B) (hn : Nts B)
    (hc : ∀ (d : aI) (e : aJ), CI d S → ∃ d' e', FC d e = some (r, d', e') ∧ CW d' 1 B ∧ (∀ k, 29 ≤ k → d' k = d k)) (hm : ∀ (d : aI) (e : aJ), MI d S → ∃ d' e', FM d e = some (r, d', e') ∧ MA d' 109 B ∧ Kr d d') :
    ∃ (S' : aS) (r : Int32), sOK S' ∧ (∀ (d : aI) (e : aJ), CI d S → ∃ d' e', FC d e = some (r, d', e') ∧ CI d' S' ∧ Fc d d') ∧ (∀ (d : aI) (e : aJ), MI d S → ∃ d' e', FM d e = some (r, d', e') ∧ MI d' S' ∧ Fm d d') := by
  have s2 := hS.1.2.2.1.2
  have b2 : B 2 = S.1 2 := o 2 (by omega)
  refine ⟨(B, S.2), r, hS.step (hS.1.note o hn) b2, fun d e hC => ?_, fun d e hM => ?_⟩
  · obtain ⟨d', e', q1, q2, q3⟩ := hc d e hC
    exact ⟨d', e', q1, hC.step q2 (fun k a b => q3 k a) b2 s2, fun k a => q3 k (by omega)⟩
  · obtain ⟨d', e', q1, q2, q3⟩ := hm d e hM
    exact ⟨d', e', q1, hM.step q2 q3 b2, q3.fm⟩
def n2S (A : Int → Int) (cnt base x y : Int) : Int → Int := aU (aU (aU A (base + 2 * A cnt) x) (base + 2 * A cnt + 1) y) cnt (A cnt + 1)
def n3S (A : Int → Int) (x y z : Int) : Int → Int := aU (aU (aU (aU A (112 + 3 * A 8) x) (112 + 3 * A 8 + 1) y) (112 + 3 * A 8 + 2) z) 8 (A 8 + 1)
theorem sz13_1 : szOf (13 + 1) = 10 := rfl
theorem sz13_2 : szOf (13 + 2) = 10 := rfl
theorem sz13_3 : szOf (13 + 3) = 10 := rfl
theorem sz17_1 : szOf (17 + 1) = 8 := rfl
theorem sz17_2 : szOf (17 + 2) = 8 := rfl
theorem sz17_3 : szOf (17 + 3) = 8 := rfl
theorem sz21_1 : szOf (21 + 1) = 5 := rfl
theorem sz21_2 : szOf (21 + 2) = 5 := rfl
theorem sz21_3 : szOf (21 + 3) = 5 := rfl
theorem sz25_1 : szOf (25 + 1) = 8 := rfl
theorem sz25_2 : szOf (25 + 2) = 8 := rfl
theorem sz25_3 : szOf (25 + 3) = 8 := rfl
theorem cq_add13 {d : aI} {e : aJ} {A : Int → Int} (hN : NT d 13 A 5 66 2 10) (h0 : 0 ≤ A 5 ∧ A 5 < 10) {x y : Int} : ∃ d', FX3_add d e 13 (iI x) (iI y) (iI 0) = some (iI 1, d', e) ∧ NT d' 13 (n2S A 5 66 x y) 5 66 2 10 ∧ (∀ k, (k < 13 ∨ 16 < k) → d' k = d k) := by
  obtain ⟨m0, m4, m1, m2⟩ := hN
  refine ⟨uI (uI (uI (uI d (13 + 1) (A 5).toNat (iI x)) (13 + 2) (A 5).toNat (iI y)) (13 + 3) (A 5).toNat (iI 0)) 13 4 (iI (A 5 + 1)), ?_, ?_, fun k hk => by simp (disch := omega) only [uI_o, uI_hit, uI_miss, uA_o, uA_s, cpy_in, cpy_out, aU_hit, aU_miss, tn_i, if_pos, if_neg]⟩
  · unfold FX3_add
    simp (disch := omega) only [nI_iI, lN_lJ, iI_0, lJ_0, iI_add, iI_sub, iI_mul, iI_neg, lJ_add, lJ_sub, lJ_mul, lJ_neg, i_l, l_i, iI_cl, iI_inb, iI_eqT, iI_eqF, iI_ltT, iI_ltF, iI_leT, iI_leF, lJ_eqT, lJ_eqF, lJ_cG, lJ_cE, lJ_cL, lJ_cF, lJ_cGE, lJ_cLE, lJ_cNL, lJ_cNG, Int.cast_ofNat_Int, c_0, c_1, Int.natCast_add, Int.add_zero, cond_true, cond_false, Bool.and_self, Bool.and_true, Bool.true_and, Option.bind_some, decide_true, uI_hit, uI_miss, uI_o, uA_o, uA_s, ↓reduceIte, eq_self, true_or, or_true, or_false, false_or, true_and, and_true, false_and, and_false, or_self, and_self, not_false_eq_true, not_true_eq_false, tn_i, m0, m4, sz13_1, sz13_2, sz13_3, decide_eq_true]
  · unfold n2S NT
    refine ⟨by simp (disch := omega) only [uI_o, uI_hit, uI_miss, uA_o, uA_s, cpy_in, cpy_out, aU_hit, aU_miss, tn_i, if_pos, if_neg, m0], by simp (disch := omega) only [uI_o, uI_hit, uI_miss, uA_o, uA_s, cpy_in, cpy_out, aU_hit, aU_miss, tn_i, if_pos, if_neg], fun j hj => ?_, fun j hj => ?_⟩
    · rw [aU_hit rfl] at hj
      by_cases h : (j : Int) = A 5
      · simp (disch := omega) only [uI_o, uI_hit, uI_miss, uA_o, uA_s, cpy_in, cpy_out, aU_hit, aU_miss, tn_i, if_pos, if_neg]
      · simp (disch := omega) only [uI_o, uI_hit, uI_miss, uA_o, uA_s, cpy_in, cpy_out, aU_hit, aU_miss, tn_i, if_pos, if_neg, m1]
    · rw [aU_hit rfl] at hj
      by_cases h : (j : Int) = A 5
      · simp (disch := omega) only [uI_o, uI_hit, uI_miss, uA_o, uA_s, cpy_in, cpy_out, aU_hit, aU_miss, tn_i, if_pos, if_neg]
      · simp (disch := omega) only [uI_o, uI_hit, uI_miss, uA_o, uA_s, cpy_in, cpy_out, aU_hit, aU_miss, tn_i, if_pos, if_neg, m2]
theorem cq_wipe13 {d : aI} {A : Int → Int} (hN : NT d 13 A 5 66 2 10) : NT (uI d 13 4 (iI 0)) 13 (aU A 5 0) 5 66 2 10 := by
  obtain ⟨m0, m4, m1, m2⟩ := hN
  unfold NT
  refine ⟨by simp (disch := omega) only [uI_o, uI_hit, uI_miss, uA_o, uA_s, cpy_in, cpy_out, aU_hit, aU_miss, tn_i, if_pos, if_neg, m0], by simp (disch := omega) only [uI_o, uI_hit, uI_miss, uA_o, uA_s, cpy_in, cpy_out, aU_hit, aU_miss, tn_i, if_pos, if_neg], fun j hj => ?_, fun j hj => ?_⟩
  · rw [aU_hit rfl] at hj
    omega
  · rw [aU_hit rfl] at hj
    omega
theorem cq_add17 {d : aI} {e : aJ} {A : Int → Int} (hN : NT d 17 A 6 86 2 8) (h0 : 0 ≤ A 6 ∧ A 6 < 8) {x y : Int} : ∃ d', FX3_add d e 17 (iI x) (iI y) (iI 0) = some (iI 1, d', e) ∧ NT d' 17 (n2S A 6 86 x y) 6 86 2 8 ∧ (∀ k, (k < 17 ∨ 20 < k) → d' k = d k) := by
  obtain ⟨m0, m4, m1, m2⟩ := hN
  refine ⟨uI (uI (uI (uI d (17 + 1) (A 6).toNat (iI x)) (17 + 2) (A 6).toNat (iI y)) (17 + 3) (A 6).toNat (iI 0)) 17 4 (iI (A 6 + 1)), ?_, ?_, fun k hk => by simp (disch := omega) only [uI_o, uI_hit, uI_miss, uA_o, uA_s, cpy_in, cpy_out, aU_hit, aU_miss, tn_i, if_pos, if_neg]⟩
  · unfold FX3_add
    simp (disch := omega) only [nI_iI, lN_lJ, iI_0, lJ_0, iI_add, iI_sub, iI_mul, iI_neg, lJ_add, lJ_sub, lJ_mul, lJ_neg, i_l, l_i, iI_cl, iI_inb, iI_eqT, iI_eqF, iI_ltT, iI_ltF, iI_leT, iI_leF, lJ_eqT, lJ_eqF, lJ_cG, lJ_cE, lJ_cL, lJ_cF, lJ_cGE, lJ_cLE, lJ_cNL, lJ_cNG, Int.cast_ofNat_Int, c_0, c_1, Int.natCast_add, Int.add_zero, cond_true, cond_false, Bool.and_self, Bool.and_true, Bool.true_and, Option.bind_some, decide_true, uI_hit, uI_miss, uI_o, uA_o, uA_s, ↓reduceIte, eq_self, true_or, or_true, or_false, false_or, true_and, and_true, false_and, and_false, or_self, and_self, not_false_eq_true, not_true_eq_false, tn_i, m0, m4, sz17_1, sz17_2, sz17_3, decide_eq_true]
  · unfold n2S NT
    refine ⟨by simp (disch := omega) only [uI_o, uI_hit, uI_miss, uA_o, uA_s, cpy_in, cpy_out, aU_hit, aU_miss, tn_i, if_pos, if_neg, m0], by simp (disch := omega) only [uI_o, uI_hit, uI_miss, uA_o, uA_s, cpy_in, cpy_out, aU_hit, aU_miss, tn_i, if_pos, if_neg], fun j hj => ?_, fun j hj => ?_⟩
    · rw [aU_hit rfl] at hj
      by_cases h : (j : Int) = A 6
      · simp (disch := omega) only [uI_o, uI_hit, uI_miss, uA_o, uA_s, cpy_in, cpy_out, aU_hit, aU_miss, tn_i, if_pos, if_neg]
      · simp (disch := omega) only [uI_o, uI_hit, uI_miss, uA_o, uA_s, cpy_in, cpy_out, aU_hit, aU_miss, tn_i, if_pos, if_neg, m1]
    · rw [aU_hit rfl] at hj
      by_cases h : (j : Int) = A 6
      · simp (disch := omega) only [uI_o, uI_hit, uI_miss, uA_o, uA_s, cpy_in, cpy_out, aU_hit, aU_miss, tn_i, if_pos, if_neg]
      · simp (disch := omega) only [uI_o, uI_hit, uI_miss, uA_o, uA_s, cpy_in, cpy_out, aU_hit, aU_miss, tn_i, if_pos, if_neg, m2]
theorem cq_wipe17 {d : aI} {A : Int → Int} (hN : NT d 17 A 6 86 2 8) : NT (uI d 17 4 (iI 0)) 17 (aU A 6 0) 6 86 2 8 := by
  obtain ⟨m0, m4, m1, m2⟩ := hN
  unfold NT
  refine ⟨by simp (disch := omega) only [uI_o, uI_hit, uI_miss, uA_o, uA_s, cpy_in, cpy_out, aU_hit, aU_miss, tn_i, if_pos, if_neg, m0], by simp (disch := omega) only [uI_o, uI_hit, uI_miss, uA_o, uA_s, cpy_in, cpy_out, aU_hit, aU_miss, tn_i, if_pos, if_neg], fun j hj => ?_, fun j hj => ?_⟩
  · rw [aU_hit rfl] at hj
    omega
  · rw [aU_hit rfl] at hj
    omega
theorem cq_add21 {d : aI} {e : aJ} {A : Int → Int} (hN : NT d 21 A 7 102 2 5) (h0 : 0 ≤ A 7 ∧ A 7 < 5) {x y : Int} : ∃ d', FX3_add d e 21 (iI x) (iI y) (iI 0) = some (iI 1, d', e) ∧ NT d' 21 (n2S A 7 102 x y) 7 102 2 5 ∧ (∀ k, (k < 21 ∨ 24 < k) → d' k = d k) := by
  obtain ⟨m0, m4, m1, m2⟩ := hN
  refine ⟨uI (uI (uI (uI d (21 + 1) (A 7).toNat (iI x)) (21 + 2) (A 7).toNat (iI y)) (21 + 3) (A 7).toNat (iI 0)) 21 4 (iI (A 7 + 1)), ?_, ?_, fun k hk => by simp (disch := omega) only [uI_o, uI_hit, uI_miss, uA_o, uA_s, cpy_in, cpy_out, aU_hit, aU_miss, tn_i, if_pos, if_neg]⟩
  · unfold FX3_add
    simp (disch := omega) only [nI_iI, lN_lJ, iI_0, lJ_0, iI_add, iI_sub, iI_mul, iI_neg, lJ_add, lJ_sub, lJ_mul, lJ_neg, i_l, l_i, iI_cl, iI_inb, iI_eqT, iI_eqF, iI_ltT, iI_ltF, iI_leT, iI_leF, lJ_eqT, lJ_eqF, lJ_cG, lJ_cE, lJ_cL, lJ_cF, lJ_cGE, lJ_cLE, lJ_cNL, lJ_cNG, Int.cast_ofNat_Int, c_0, c_1, Int.natCast_add, Int.add_zero, cond_true, cond_false, Bool.and_self, Bool.and_true, Bool.true_and, Option.bind_some, decide_true, uI_hit, uI_miss, uI_o, uA_o, uA_s, ↓reduceIte, eq_self, true_or, or_true, or_false, false_or, true_and, and_true, false_and, and_false, or_self, and_self, not_false_eq_true, not_true_eq_false, tn_i, m0, m4, sz21_1, sz21_2, sz21_3, decide_eq_true]
  · unfold n2S NT
    refine ⟨by simp (disch := omega) only [uI_o, uI_hit, uI_miss, uA_o, uA_s, cpy_in, cpy_out, aU_hit, aU_miss, tn_i, if_pos, if_neg, m0], by simp (disch := omega) only [uI_o, uI_hit, uI_miss, uA_o, uA_s, cpy_in, cpy_out, aU_hit, aU_miss, tn_i, if_pos, if_neg], fun j hj => ?_, fun j hj => ?_⟩
    · rw [aU_hit rfl] at hj
      by_cases h : (j : Int) = A 7
      · simp (disch := omega) only [uI_o, uI_hit, uI_miss, uA_o, uA_s, cpy_in, cpy_out, aU_hit, aU_miss, tn_i, if_pos, if_neg]
      · simp (disch := omega) only [uI_o, uI_hit, uI_miss, uA_o, uA_s, cpy_in, cpy_out, aU_hit, aU_miss, tn_i, if_pos, if_neg, m1]
    · rw [aU_hit rfl] at hj
      by_cases h : (j : Int) = A 7
      · simp (disch := omega) only [uI_o, uI_hit, uI_miss, uA_o, uA_s, cpy_in, cpy_out, aU_hit, aU_miss, tn_i, if_pos, if_neg]
      · simp (disch := omega) only [uI_o, uI_hit, uI_miss, uA_o, uA_s, cpy_in, cpy_out, aU_hit, aU_miss, tn_i, if_pos, if_neg, m2]
theorem cq_wipe21 {d : aI} {A : Int → Int} (hN : NT d 21 A 7 102 2 5) : NT (uI d 21 4 (iI 0)) 21 (aU A 7 0) 7 102 2 5 := by
  obtain ⟨m0, m4, m1, m2⟩ := hN
  unfold NT
  refine ⟨by simp (disch := omega) only [uI_o, uI_hit, uI_miss, uA_o, uA_s, cpy_in, cpy_out, aU_hit, aU_miss, tn_i, if_pos, if_neg, m0], by simp (disch := omega) only [uI_o, uI_hit, uI_miss, uA_o, uA_s, cpy_in, cpy_out, aU_hit, aU_miss, tn_i, if_pos, if_neg], fun j hj => ?_, fun j hj => ?_⟩
  · rw [aU_hit rfl] at hj
    omega
  · rw [aU_hit rfl] at hj
    omega
theorem cq_add25 {d : aI} {e : aJ} {A : Int → Int} (hN : NT d 25 A 8 112 3 8) (h9 : ∀ j : Nat, (j : Int) < A 8 → d 28 j = iI (A (112 + 3 * j + 2))) (h0 : 0 ≤ A 8 ∧ A 8 < 8) {x y z : Int} : ∃ d', FX3_add d e 25 (iI x) (iI y) (iI z) = some (iI 1, d', e) ∧ NT d' 25 (n3S A x y z) 8 112 3 8 ∧ (∀ j : Nat, (j : Int) < n3S A x y z 8 → d' 28 j = iI (n3S A x y z (112 + 3 * j + 2))) ∧ (∀ k, (k < 25 ∨ 28 < k) → d' k = d k) := by
  obtain ⟨m0, m4, m1, m2⟩ := hN
  refine ⟨uI (uI (uI (uI d (25 + 1) (A 8).toNat (iI x)) (25 + 2) (A 8).toNat (iI y)) (25 + 3) (A 8).toNat (iI z)) 25 4 (iI (A 8 + 1)), ?_, ?_, ?_, fun k hk => by simp (disch := omega) only [uI_o, uI_hit, uI_miss, uA_o, uA_s, cpy_in, cpy_out, aU_hit, aU_miss, tn_i, if_pos, if_neg]⟩
  · unfold FX3_add
    simp (disch := omega) only [nI_iI, lN_lJ, iI_0, lJ_0, iI_add, iI_sub, iI_mul, iI_neg, lJ_add, lJ_sub, lJ_mul, lJ_neg, i_l, l_i, iI_cl, iI_inb, iI_eqT, iI_eqF, iI_ltT, iI_ltF, iI_leT, iI_leF, lJ_eqT, lJ_eqF, lJ_cG, lJ_cE, lJ_cL, lJ_cF, lJ_cGE, lJ_cLE, lJ_cNL, lJ_cNG, Int.cast_ofNat_Int, c_0, c_1, Int.natCast_add, Int.add_zero, cond_true, cond_false, Bool.and_self, Bool.and_true, Bool.true_and, Option.bind_some, decide_true, uI_hit, uI_miss, uI_o, uA_o, uA_s, ↓reduceIte, eq_self, true_or, or_true, or_false, false_or, true_and, and_true, false_and, and_false, or_self, and_self, not_false_eq_true, not_true_eq_false, tn_i, m0, m4, sz25_1, sz25_2, sz25_3, decide_eq_true]
  · unfold n3S NT
    refine ⟨by simp (disch := omega) only [uI_o, uI_hit, uI_miss, uA_o, uA_s, cpy_in, cpy_out, aU_hit, aU_miss, tn_i, if_pos, if_neg, m0], by simp (disch := omega) only [uI_o, uI_hit, uI_miss, uA_o, uA_s, cpy_in, cpy_out, aU_hit, aU_miss, tn_i, if_pos, if_neg], fun j hj => ?_, fun j hj => ?_⟩
    · rw [aU_hit rfl] at hj
      by_cases h : (j : Int) = A 8
      · simp (disch := omega) only [uI_o, uI_hit, uI_miss, uA_o, uA_s, cpy_in, cpy_out, aU_hit, aU_miss, tn_i, if_pos, if_neg]
      · simp (disch := omega) only [uI_o, uI_hit, uI_miss, uA_o, uA_s, cpy_in, cpy_out, aU_hit, aU_miss, tn_i, if_pos, if_neg, m1]
    · rw [aU_hit rfl] at hj
      by_cases h : (j : Int) = A 8
      · simp (disch := omega) only [uI_o, uI_hit, uI_miss, uA_o, uA_s, cpy_in, cpy_out, aU_hit, aU_miss, tn_i, if_pos, if_neg]
      · simp (disch := omega) only [uI_o, uI_hit, uI_miss, uA_o, uA_s, cpy_in, cpy_out, aU_hit, aU_miss, tn_i, if_pos, if_neg, m2]
  · unfold n3S
    intro j hj
    rw [aU_hit rfl] at hj
    by_cases h : (j : Int) = A 8
    · simp (disch := omega) only [uI_o, uI_hit, uI_miss, uA_o, uA_s, cpy_in, cpy_out, aU_hit, aU_miss, tn_i, if_pos, if_neg]
    · simp (disch := omega) only [uI_o, uI_hit, uI_miss, uA_o, uA_s, cpy_in, cpy_out, aU_hit, aU_miss, tn_i, if_pos, if_neg, h9]
theorem cq_wipe25 {d : aI} {A : Int → Int} (hN : NT d 25 A 8 112 3 8) : NT (uI d 25 4 (iI 0)) 25 (aU A 8 0) 8 112 3 8 := by
  obtain ⟨m0, m4, m1, m2⟩ := hN
  unfold NT
  refine ⟨by simp (disch := omega) only [uI_o, uI_hit, uI_miss, uA_o, uA_s, cpy_in, cpy_out, aU_hit, aU_miss, tn_i, if_pos, if_neg, m0], by simp (disch := omega) only [uI_o, uI_hit, uI_miss, uA_o, uA_s, cpy_in, cpy_out, aU_hit, aU_miss, tn_i, if_pos, if_neg], fun j hj => ?_, fun j hj => ?_⟩
  · rw [aU_hit rfl] at hj
    omega
  · rw [aU_hit rfl] at hj
    omega
theorem n2S_ok5 {A : Int → Int} (hN : Nts A) {x y : Int} (hx : 0 ≤ x ∧ x ≤ 99) (hy : 0 ≤ y ∧ y ≤ 9) (h0 : A 5 < 10) : NOld A (n2S A 5 66 x y) ∧ Nts (n2S A 5 66 x y) := by
  obtain ⟨n5, n6, n7, n8⟩ := hN
  have b5 := n5.1
  have b6 := n6.1
  have b7 := n7.1
  have b8 := n8.1
  have oo : ∀ j : Int, (j ≠ 5 ∧ j ≠ 66 + 2 * A 5 ∧ j ≠ 66 + 2 * A 5 + 1) → n2S A 5 66 x y j = A j := fun j h => by
    unfold n2S
    rw [aU_miss h.1, aU_miss h.2.2, aU_miss h.2.1]
  have e0 : n2S A 5 66 x y 5 = A 5 + 1 := aU_hit rfl
  have e1 : n2S A 5 66 x y (66 + 2 * A 5) = x := by unfold n2S; rw [aU_miss (by omega), aU_miss (by omega), aU_hit rfl]
  have e2 : n2S A 5 66 x y (66 + 2 * A 5 + 1) = y := by unfold n2S; rw [aU_miss (by omega), aU_hit rfl]
  refine ⟨fun j hj => oo j (by omega), ?_, ?_, ?_, ?_⟩
  · rw [e0]
    refine ⟨by omega, fun i i0 i1 => ?_⟩
    by_cases h : i = A 5
    · subst h
      rw [e1, e2]
      exact ⟨hx, hy⟩
    · rw [oo (66 + 2 * i) (by omega), oo (66 + 2 * i + 1) (by omega)]
      exact n5.2 i i0 (by omega)
  · rw [oo 6 (by omega), oo 0 (by omega)]
    refine ⟨n6.1, fun i i0 i1 => ?_⟩
    rw [oo (86 + 2 * i) (by omega), oo (86 + 2 * i + 1) (by omega)]
    exact n6.2 i i0 i1
  · rw [oo 7 (by omega)]
    refine ⟨n7.1, fun i i0 i1 => ?_⟩
    rw [oo (102 + 2 * i) (by omega), oo (102 + 2 * i + 1) (by omega)]
    exact n7.2 i i0 i1
  · rw [oo 8 (by omega), oo 0 (by omega), oo 1 (by omega)]
    refine ⟨n8.1, fun i i0 i1 => ?_⟩
    rw [oo (112 + 3 * i) (by omega), oo (112 + 3 * i + 1) (by omega), oo (112 + 3 * i + 2) (by omega)]
    exact n8.2 i i0 i1
theorem n2S_ok6 {A : Int → Int} (hN : Nts A) {x y : Int} (hx : 0 ≤ x ∧ x < A 0) (hy : 0 ≤ y ∧ y ≤ 99) (h0 : A 6 < 8) : NOld A (n2S A 6 86 x y) ∧ Nts (n2S A 6 86 x y) := by
  obtain ⟨n5, n6, n7, n8⟩ := hN
  have b5 := n5.1
  have b6 := n6.1
  have b7 := n7.1
  have b8 := n8.1
  have oo : ∀ j : Int, (j ≠ 6 ∧ j ≠ 86 + 2 * A 6 ∧ j ≠ 86 + 2 * A 6 + 1) → n2S A 6 86 x y j = A j := fun j h => by
    unfold n2S
    rw [aU_miss h.1, aU_miss h.2.2, aU_miss h.2.1]
  have e0 : n2S A 6 86 x y 6 = A 6 + 1 := aU_hit rfl
  have e1 : n2S A 6 86 x y (86 + 2 * A 6) = x := by unfold n2S; rw [aU_miss (by omega), aU_miss (by omega), aU_hit rfl]
  have e2 : n2S A 6 86 x y (86 + 2 * A 6 + 1) = y := by unfold n2S; rw [aU_miss (by omega), aU_hit rfl]
  refine ⟨fun j hj => oo j (by omega), ?_, ?_, ?_, ?_⟩
  · rw [oo 5 (by omega)]
    refine ⟨n5.1, fun i i0 i1 => ?_⟩
    rw [oo (66 + 2 * i) (by omega), oo (66 + 2 * i + 1) (by omega)]
    exact n5.2 i i0 i1
  · rw [e0, oo 0 (by omega)]
    refine ⟨by omega, fun i i0 i1 => ?_⟩
    by_cases h : i = A 6
    · subst h
      rw [e1, e2]
      exact ⟨hx, hy⟩
    · rw [oo (86 + 2 * i) (by omega), oo (86 + 2 * i + 1) (by omega)]
      exact n6.2 i i0 (by omega)
  · rw [oo 7 (by omega)]
    refine ⟨n7.1, fun i i0 i1 => ?_⟩
    rw [oo (102 + 2 * i) (by omega), oo (102 + 2 * i + 1) (by omega)]
    exact n7.2 i i0 i1
  · rw [oo 8 (by omega), oo 0 (by omega), oo 1 (by omega)]
    refine ⟨n8.1, fun i i0 i1 => ?_⟩
    rw [oo (112 + 3 * i) (by omega), oo (112 + 3 * i + 1) (by omega), oo (112 + 3 * i + 2) (by omega)]
    exact n8.2 i i0 i1
theorem n2S_ok7 {A : Int → Int} (hN : Nts A) {x y : Int} (hx : 1 ≤ x ∧ x ≤ 4) (hy : 0 ≤ y ∧ y < 2 ^ x.toNat) (h0 : A 7 < 5) : NOld A (n2S A 7 102 x y) ∧ Nts (n2S A 7 102 x y) := by
  obtain ⟨n5, n6, n7, n8⟩ := hN
  have b5 := n5.1
  have b6 := n6.1
  have b7 := n7.1
  have b8 := n8.1
  have oo : ∀ j : Int, (j ≠ 7 ∧ j ≠ 102 + 2 * A 7 ∧ j ≠ 102 + 2 * A 7 + 1) → n2S A 7 102 x y j = A j := fun j h => by
    unfold n2S
    rw [aU_miss h.1, aU_miss h.2.2, aU_miss h.2.1]
  have e0 : n2S A 7 102 x y 7 = A 7 + 1 := aU_hit rfl
  have e1 : n2S A 7 102 x y (102 + 2 * A 7) = x := by unfold n2S; rw [aU_miss (by omega), aU_miss (by omega), aU_hit rfl]
  have e2 : n2S A 7 102 x y (102 + 2 * A 7 + 1) = y := by unfold n2S; rw [aU_miss (by omega), aU_hit rfl]
  refine ⟨fun j hj => oo j (by omega), ?_, ?_, ?_, ?_⟩
  · rw [oo 5 (by omega)]
    refine ⟨n5.1, fun i i0 i1 => ?_⟩
    rw [oo (66 + 2 * i) (by omega), oo (66 + 2 * i + 1) (by omega)]
    exact n5.2 i i0 i1
  · rw [oo 6 (by omega), oo 0 (by omega)]
    refine ⟨n6.1, fun i i0 i1 => ?_⟩
    rw [oo (86 + 2 * i) (by omega), oo (86 + 2 * i + 1) (by omega)]
    exact n6.2 i i0 i1
  · rw [e0]
    refine ⟨by omega, fun i i0 i1 => ?_⟩
    by_cases h : i = A 7
    · subst h
      rw [e1, e2]
      exact ⟨hx, hy⟩
    · rw [oo (102 + 2 * i) (by omega), oo (102 + 2 * i + 1) (by omega)]
      exact n7.2 i i0 (by omega)
  · rw [oo 8 (by omega), oo 0 (by omega), oo 1 (by omega)]
    refine ⟨n8.1, fun i i0 i1 => ?_⟩
    rw [oo (112 + 3 * i) (by omega), oo (112 + 3 * i + 1) (by omega), oo (112 + 3 * i + 2) (by omega)]
    exact n8.2 i i0 i1
theorem n3S_ok {A : Int → Int} (hN : Nts A) {x y z : Int} (hx : 0 ≤ x ∧ x < A 1) (hy : 0 ≤ y ∧ y < A 0) (hz : 0 ≤ z ∧ z ≤ 99) (h0 : A 8 < 8) : NOld A (n3S A x y z) ∧ Nts (n3S A x y z) := by
  obtain ⟨n5, n6, n7, n8⟩ := hN
  have b5 := n5.1
  have b6 := n6.1
  have b7 := n7.1
  have b8 := n8.1
  have oo : ∀ j : Int, (j ≠ 8 ∧ j ≠ 112 + 3 * A 8 ∧ j ≠ 112 + 3 * A 8 + 1 ∧ j ≠ 112 + 3 * A 8 + 2) → n3S A x y z j = A j := fun j h => by
    unfold n3S
    rw [aU_miss h.1, aU_miss h.2.2.2, aU_miss h.2.2.1, aU_miss h.2.1]
  have e0 : n3S A x y z 8 = A 8 + 1 := aU_hit rfl
  have e1 : n3S A x y z (112 + 3 * A 8) = x := by unfold n3S; rw [aU_miss (by omega), aU_miss (by omega), aU_miss (by omega), aU_hit rfl]
  have e2 : n3S A x y z (112 + 3 * A 8 + 1) = y := by unfold n3S; rw [aU_miss (by omega), aU_miss (by omega), aU_hit rfl]
  have e3 : n3S A x y z (112 + 3 * A 8 + 2) = z := by unfold n3S; rw [aU_miss (by omega), aU_hit rfl]
  refine ⟨fun j hj => oo j (by omega), ?_, ?_, ?_, ?_⟩
  · rw [oo 5 (by omega)]
    refine ⟨n5.1, fun i i0 i1 => ?_⟩
    rw [oo (66 + 2 * i) (by omega), oo (66 + 2 * i + 1) (by omega)]
    exact n5.2 i i0 i1
  · rw [oo 6 (by omega), oo 0 (by omega)]
    refine ⟨n6.1, fun i i0 i1 => ?_⟩
    rw [oo (86 + 2 * i) (by omega), oo (86 + 2 * i + 1) (by omega)]
    exact n6.2 i i0 i1
  · rw [oo 7 (by omega)]
    refine ⟨n7.1, fun i i0 i1 => ?_⟩
    rw [oo (102 + 2 * i) (by omega), oo (102 + 2 * i + 1) (by omega)]
    exact n7.2 i i0 i1
  · rw [e0, oo 0 (by omega), oo 1 (by omega)]
    refine ⟨by omega, fun i i0 i1 => ?_⟩
    by_cases h : i = A 8
    · subst h
      rw [e1, e2, e3]
      exact ⟨hx, hy, hz⟩
    · rw [oo (112 + 3 * i) (by omega), oo (112 + 3 * i + 1) (by omega), oo (112 + 3 * i + 2) (by omega)]
      exact n8.2 i i0 (by omega)
theorem wipe_ok5 {A : Int → Int} (hN : Nts A) : NOld A (aU A 5 0) ∧ Nts (aU A 5 0) := by
  obtain ⟨n5, n6, n7, n8⟩ := hN
  have b5 := n5.1
  have b6 := n6.1
  have b7 := n7.1
  have b8 := n8.1
  have oo : ∀ j : Int, j ≠ 5 → aU A 5 0 j = A j := fun j h => aU_miss h
  have e0 : aU A 5 0 5 = 0 := aU_hit rfl
  refine ⟨fun j hj => oo j (by omega), ?_, ?_, ?_, ?_⟩
  · rw [e0]
    exact ⟨by omega, fun i i0 i1 => by omega⟩
  · rw [oo 6 (by omega), oo 0 (by omega)]
    refine ⟨n6.1, fun i i0 i1 => ?_⟩
    rw [oo (86 + 2 * i) (by omega), oo (86 + 2 * i + 1) (by omega)]
    exact n6.2 i i0 i1
  · rw [oo 7 (by omega)]
    refine ⟨n7.1, fun i i0 i1 => ?_⟩
    rw [oo (102 + 2 * i) (by omega), oo (102 + 2 * i + 1) (by omega)]
    exact n7.2 i i0 i1
  · rw [oo 8 (by omega), oo 0 (by omega), oo 1 (by omega)]
    refine ⟨n8.1, fun i i0 i1 => ?_⟩
    rw [oo (112 + 3 * i) (by omega), oo (112 + 3 * i + 1) (by omega), oo (112 + 3 * i + 2) (by omega)]
    exact n8.2 i i0 i1
theorem wipe_ok6 {A : Int → Int} (hN : Nts A) : NOld A (aU A 6 0) ∧ Nts (aU A 6 0) := by
  obtain ⟨n5, n6, n7, n8⟩ := hN
  have b5 := n5.1
  have b6 := n6.1
  have b7 := n7.1
  have b8 := n8.1
  have oo : ∀ j : Int, j ≠ 6 → aU A 6 0 j = A j := fun j h => aU_miss h
  have e0 : aU A 6 0 6 = 0 := aU_hit rfl
  refine ⟨fun j hj => oo j (by omega), ?_, ?_, ?_, ?_⟩
  · rw [oo 5 (by omega)]
    refine ⟨n5.1, fun i i0 i1 => ?_⟩
    rw [oo (66 + 2 * i) (by omega), oo (66 + 2 * i + 1) (by omega)]
    exact n5.2 i i0 i1
  · rw [e0]
    exact ⟨by omega, fun i i0 i1 => by omega⟩
  · rw [oo 7 (by omega)]
    refine ⟨n7.1, fun i i0 i1 => ?_⟩
    rw [oo (102 + 2 * i) (by omega), oo (102 + 2 * i + 1) (by omega)]
    exact n7.2 i i0 i1
  · rw [oo 8 (by omega), oo 0 (by omega), oo 1 (by omega)]
    refine ⟨n8.1, fun i i0 i1 => ?_⟩
    rw [oo (112 + 3 * i) (by omega), oo (112 + 3 * i + 1) (by omega), oo (112 + 3 * i + 2) (by omega)]
    exact n8.2 i i0 i1
theorem wipe_ok8 {A : Int → Int} (hN : Nts A) : NOld A (aU A 8 0) ∧ Nts (aU A 8 0) := by
  obtain ⟨n5, n6, n7, n8⟩ := hN
  have b5 := n5.1
  have b6 := n6.1
  have b7 := n7.1
  have b8 := n8.1
  have oo : ∀ j : Int, j ≠ 8 → aU A 8 0 j = A j := fun j h => aU_miss h
  have e0 : aU A 8 0 8 = 0 := aU_hit rfl
  refine ⟨fun j hj => oo j (by omega), ?_, ?_, ?_, ?_⟩
  · rw [oo 5 (by omega)]
    refine ⟨n5.1, fun i i0 i1 => ?_⟩
    rw [oo (66 + 2 * i) (by omega), oo (66 + 2 * i + 1) (by omega)]
    exact n5.2 i i0 i1
  · rw [oo 6 (by omega), oo 0 (by omega)]
    refine ⟨n6.1, fun i i0 i1 => ?_⟩
    rw [oo (86 + 2 * i) (by omega), oo (86 + 2 * i + 1) (by omega)]
    exact n6.2 i i0 i1
  · rw [oo 7 (by omega)]
    refine ⟨n7.1, fun i i0 i1 => ?_⟩
    rw [oo (102 + 2 * i) (by omega), oo (102 + 2 * i + 1) (by omega)]
    exact n7.2 i i0 i1
  · rw [e0]
    exact ⟨by omega, fun i i0 i1 => by omega⟩
theorem CI.nt {d : aI} {S : aS} (h : CI d S) : NT d 13 S.1 5 66 2 10 ∧ NT d 17 S.1 6 86 2 8 ∧ NT d 21 S.1 7 102 2 5 ∧ NT d 25 S.1 8 112 3 8 ∧ (∀ j : Nat, (j : Int) < S.1 8 → d 28 j = iI (S.1 (112 + 3 * j + 2))) := ⟨h.1.2.2.2.2.1, h.1.2.2.2.2.2.1, h.1.2.2.2.2.2.2.1, h.1.2.2.2.2.2.2.2.1, h.1.2.2.2.2.2.2.2.2⟩
theorem NT.far {d d' : aI} {o : Nat} {A B : Int → Int} {cnt base wid most : Int} (h : NT d o A cnt base wid most) (hf : ∀ k, o ≤ k → k < o + 4 → d' k = d k) (h0 : B cnt = A cnt) (hb : ∀ j : Nat, (j : Int) < A cnt → B (base + wid * j) = A (base + wid * j) ∧ B (base + wid * j + 1) = A (base + wid * j + 1)) : NT d' o B cnt base wid most := (h.of hf).ag h0 hb
