/-! ===== what is done in a night: class ===== -/
/-- other objects than the night's are untouched -/
def Kn (d d' : aI) : Prop := ∀ k, (k < 2 ∨ 10 < k) → d' k = d k
theorem Kn.refl (d : aI) : Kn d d := fun _ _ => rfl
theorem Kn.trans {d d1 d2 : aI} (h : Kn d d1) (h2 : Kn d1 d2) : Kn d d2 := fun k a => (h2 k a).trans (h k a)
theorem Kn.fc {d d' : aI} (h : Kn d d') : Fc d d' := fun k a => h k (by omega)
theorem CN.upd {d d' : aI} {A A' : Int → Int} (h : CN d 1 A) (hW : WN A) (ho : ∀ j : Int, (j = 0 ∨ j = 1 ∨ (42 ≤ j ∧ j < 66)) → A' j = A j) (s8 : d' 2 8 = d 2 8) (s9 : d' 2 9 = d 2 9) (s10 : d' 2 10 = iI (A' 11)) (s11 : d' 2 11 = iI (A' 9)) (s12 : d' 2 12 = iI (A' 10)) (e3 : d' 3 = d 3) (e6 : d' 6 = d 6)
    (g4 : ∀ j : Nat, (j : Int) < A 0 → d' 4 j = iI (A' (30 + 2 * j))) (g5 : ∀ j : Nat, (j : Int) < A 0 → d' 5 j = iI (A' (30 + 2 * j + 1))) (g7 : ∀ j : Nat, (j : Int) < A 1 → d' 7 j = iI (A' (12 + 3 * j))) (g8 : ∀ j : Nat, (j : Int) < A 1 → d' 8 j = iI (A' (12 + 3 * j + 1))) (g9 : ∀ j : Nat, (j : Int) < A 1 → d' 9 j = iI (A' (12 + 3 * j + 2))) (gb : ∀ j : Nat, (j : Int) < A' 11 → d' 10 j = iI (A' (1936 + j))) : CN d' 1 A' := by
  obtain ⟨q8, q9, q10, q11, q12, q3, q4, q5, q6, q7, qh, qt, qb⟩ := h
  have w0 := hW.1
  have w1 := hW.2.1
  have a0 := ho 0 (by omega)
  have a1 := ho 1 (by omega)
  unfold CN
  rw [a0, a1]
  refine ⟨s8.trans q8, s9.trans q9, s10, s11, s12, fun j hj => ?_, g4, g5, fun j hj => ?_, g7, g8, g9, gb⟩
  · rw [ho (42 + j) (by omega)]
    exact (congrFun e3 j).trans (q3 j hj)
  · rw [ho (54 + j) (by omega)]
    exact (congrFun e6 j).trans (q6 j hj)
theorem cq_note {d : aI} {e : aJ} {A : Int → Int} (hC : CN d 1 A) (hW : WN A) {c h w : Int} (hr : 0 ≤ c ∧ c < 6 ∧ 0 ≤ h ∧ h < 6 ∧ 0 ≤ w ∧ w < 3) : ∃ d', FX2_note d e (iI c) (iI h) (iI w) = some ((), d', e) ∧ CN d' 1 (noteS A c h w) ∧ Kn d d' := by
  have hw := hW
  have hc := hC
  obtain ⟨q8, q9, q10, q11, q12, q3, q4, q5, q6, q7, qh, qt, qb⟩ := hC
  have k8 : d 2 8 = iI (A 0) := q8
  have k9 : d 2 9 = iI (A 1) := q9
  have k10 : d 2 10 = iI (A 11) := q10
  have k11 : d 2 11 = iI (A 9) := q11
  have k12 : d 2 12 = iI (A 10) := q12
  have k3 : ∀ j : Nat, (j : Int) < A 0 → d 3 j = iI (A (42 + j)) := q3
  have k4 : ∀ j : Nat, (j : Int) < A 0 → d 4 j = iI (A (30 + 2 * j)) := q4
  have k5 : ∀ j : Nat, (j : Int) < A 0 → d 5 j = iI (A (30 + 2 * j + 1)) := q5
  have k6 : ∀ j : Nat, (j : Int) < A 1 → d 6 j = iI (A (54 + j)) := q6
  have k7 : ∀ j : Nat, (j : Int) < A 1 → d 7 j = iI (A (12 + 3 * j)) := q7
  have kh : ∀ j : Nat, (j : Int) < A 1 → d 8 j = iI (A (12 + 3 * j + 1)) := qh
  have kt : ∀ j : Nat, (j : Int) < A 1 → d 9 j = iI (A (12 + 3 * j + 2)) := qt
  have kb : ∀ j : Nat, (j : Int) < A 11 → d 10 j = iI (A (1936 + j)) := qb
  obtain ⟨w0, w1, w9, w10, w11, wc, wh, wb⟩ := hW
  unfold FX2_note
  by_cases h1 : A 11 = 25
  · have k10' : d 2 10 = iI 25 := by rw [k10, h1]
    simp (disch := omega) only [nI_iI, lN_lJ, iI_0, lJ_0, iI_add, iI_sub, iI_mul, iI_neg, lJ_add, lJ_sub, lJ_mul, lJ_neg, i_l, l_i, iI_cl, iI_inb, iI_eqT, iI_eqF, iI_ltT, iI_ltF, iI_leT, iI_leF, lJ_eqT, lJ_eqF, lJ_cG, lJ_cE, lJ_cL, lJ_cF, lJ_cGE, lJ_cLE, lJ_cNL, lJ_cNG, Int.cast_ofNat_Int, c_0, c_1, Int.natCast_add, Int.add_zero, cond_true, cond_false, Bool.and_self, Bool.and_true, Bool.true_and, Option.bind_some, decide_true, uI_hit, uI_miss, uI_o, uA_o, uA_s, ↓reduceIte, eq_self, true_or, or_true, or_false, false_or, true_and, and_true, false_and, and_false, or_self, and_self, not_false_eq_true, not_true_eq_false, tn_i, k10', k11]
    refine ⟨_, rfl, ?_, fun k hk => by simp (disch := omega) only [uI_o, uI_hit, uI_miss, uA_o, uA_s, cpy_in, cpy_out, aU_hit, aU_miss, tn_i, if_pos, if_neg]⟩
    have hl : iI (((A 9 * 6 + c) * 6 + h) * 3 + w) = iI (lineS A c h w) := rfl
    refine hc.upd hw (fun j hj => noteS_o (by omega)) (by simp (disch := omega) only [uI_o, uI_hit, uI_miss, uA_o, uA_s, cpy_in, cpy_out, aU_hit, aU_miss, tn_i, if_pos, if_neg]) (by simp (disch := omega) only [uI_o, uI_hit, uI_miss, uA_o, uA_s, cpy_in, cpy_out, aU_hit, aU_miss, tn_i, if_pos, if_neg]) ?_ ?_ ?_ (by simp (disch := omega) only [uI_o, uI_hit, uI_miss, uA_o, uA_s, cpy_in, cpy_out, aU_hit, aU_miss, tn_i, if_pos, if_neg]) (by simp (disch := omega) only [uI_o, uI_hit, uI_miss, uA_o, uA_s, cpy_in, cpy_out, aU_hit, aU_miss, tn_i, if_pos, if_neg]) (fun j hj => ?_) (fun j hj => ?_) (fun j hj => ?_) (fun j hj => ?_) (fun j hj => ?_) ?_
    · rw [noteS_11 (by omega), if_pos h1]
      simp (disch := omega) only [uI_o, uI_hit, uI_miss, uA_o, uA_s, cpy_in, cpy_out, aU_hit, aU_miss, tn_i, if_pos, if_neg]
      rfl
    · rw [noteS_o (by omega)]
      simp (disch := omega) only [uI_o, uI_hit, uI_miss, uA_o, uA_s, cpy_in, cpy_out, aU_hit, aU_miss, tn_i, if_pos, if_neg, k11]
    · rw [noteS_o (by omega)]
      simp (disch := omega) only [uI_o, uI_hit, uI_miss, uA_o, uA_s, cpy_in, cpy_out, aU_hit, aU_miss, tn_i, if_pos, if_neg, k12]
    · rw [noteS_o (by omega)]
      simp (disch := omega) only [uI_o, uI_hit, uI_miss, uA_o, uA_s, cpy_in, cpy_out, aU_hit, aU_miss, tn_i, if_pos, if_neg, k4]
    · rw [noteS_o (by omega)]
      simp (disch := omega) only [uI_o, uI_hit, uI_miss, uA_o, uA_s, cpy_in, cpy_out, aU_hit, aU_miss, tn_i, if_pos, if_neg, k5]
    · rw [noteS_o (by omega)]
      simp (disch := omega) only [uI_o, uI_hit, uI_miss, uA_o, uA_s, cpy_in, cpy_out, aU_hit, aU_miss, tn_i, if_pos, if_neg, k7]
    · rw [noteS_o (by omega)]
      simp (disch := omega) only [uI_o, uI_hit, uI_miss, uA_o, uA_s, cpy_in, cpy_out, aU_hit, aU_miss, tn_i, if_pos, if_neg, kh]
    · rw [noteS_o (by omega)]
      simp (disch := omega) only [uI_o, uI_hit, uI_miss, uA_o, uA_s, cpy_in, cpy_out, aU_hit, aU_miss, tn_i, if_pos, if_neg, kt]
    · intro j hj
      rw [noteS_11 (by omega), if_pos h1] at hj
      unfold noteS
      rw [if_pos h1]
      by_cases h2 : j = 24
      · subst h2
        simp (disch := omega) only [uI_o, uI_hit, uI_miss, uA_o, uA_s, cpy_in, cpy_out, aU_hit, aU_miss, tn_i, if_pos, if_neg]
        exact hl
      · simp (disch := omega) only [uI_o, uI_hit, uI_miss, uA_o, uA_s, cpy_in, cpy_out, aU_hit, aU_miss, tn_i, if_pos, if_neg, kb]
        rw [show (1936 : Int) + (1 + (j - 0) : Nat) = 1936 + j + 1 by omega]
  · simp (disch := omega) only [nI_iI, lN_lJ, iI_0, lJ_0, iI_add, iI_sub, iI_mul, iI_neg, lJ_add, lJ_sub, lJ_mul, lJ_neg, i_l, l_i, iI_cl, iI_inb, iI_eqT, iI_eqF, iI_ltT, iI_ltF, iI_leT, iI_leF, lJ_eqT, lJ_eqF, lJ_cG, lJ_cE, lJ_cL, lJ_cF, lJ_cGE, lJ_cLE, lJ_cNL, lJ_cNG, Int.cast_ofNat_Int, c_0, c_1, Int.natCast_add, Int.add_zero, cond_true, cond_false, Bool.and_self, Bool.and_true, Bool.true_and, Option.bind_some, decide_true, uI_hit, uI_miss, uI_o, uA_o, uA_s, ↓reduceIte, eq_self, true_or, or_true, or_false, false_or, true_and, and_true, false_and, and_false, or_self, and_self, not_false_eq_true, not_true_eq_false, tn_i, k10, k11]
    refine ⟨_, rfl, ?_, fun k hk => by simp (disch := omega) only [uI_o, uI_hit, uI_miss, uA_o, uA_s, cpy_in, cpy_out, aU_hit, aU_miss, tn_i, if_pos, if_neg]⟩
    have hl : iI (((A 9 * 6 + c) * 6 + h) * 3 + w) = iI (lineS A c h w) := rfl
    refine hc.upd hw (fun j hj => noteS_o (by omega)) (by simp (disch := omega) only [uI_o, uI_hit, uI_miss, uA_o, uA_s, cpy_in, cpy_out, aU_hit, aU_miss, tn_i, if_pos, if_neg]) (by simp (disch := omega) only [uI_o, uI_hit, uI_miss, uA_o, uA_s, cpy_in, cpy_out, aU_hit, aU_miss, tn_i, if_pos, if_neg]) ?_ ?_ ?_ (by simp (disch := omega) only [uI_o, uI_hit, uI_miss, uA_o, uA_s, cpy_in, cpy_out, aU_hit, aU_miss, tn_i, if_pos, if_neg]) (by simp (disch := omega) only [uI_o, uI_hit, uI_miss, uA_o, uA_s, cpy_in, cpy_out, aU_hit, aU_miss, tn_i, if_pos, if_neg]) (fun j hj => ?_) (fun j hj => ?_) (fun j hj => ?_) (fun j hj => ?_) (fun j hj => ?_) ?_
    · rw [noteS_11 (by omega), if_neg h1]
      simp (disch := omega) only [uI_o, uI_hit, uI_miss, uA_o, uA_s, cpy_in, cpy_out, aU_hit, aU_miss, tn_i, if_pos, if_neg]
    · rw [noteS_o (by omega)]
      simp (disch := omega) only [uI_o, uI_hit, uI_miss, uA_o, uA_s, cpy_in, cpy_out, aU_hit, aU_miss, tn_i, if_pos, if_neg, k11]
    · rw [noteS_o (by omega)]
      simp (disch := omega) only [uI_o, uI_hit, uI_miss, uA_o, uA_s, cpy_in, cpy_out, aU_hit, aU_miss, tn_i, if_pos, if_neg, k12]
    · rw [noteS_o (by omega)]
      simp (disch := omega) only [uI_o, uI_hit, uI_miss, uA_o, uA_s, cpy_in, cpy_out, aU_hit, aU_miss, tn_i, if_pos, if_neg, k4]
    · rw [noteS_o (by omega)]
      simp (disch := omega) only [uI_o, uI_hit, uI_miss, uA_o, uA_s, cpy_in, cpy_out, aU_hit, aU_miss, tn_i, if_pos, if_neg, k5]
    · rw [noteS_o (by omega)]
      simp (disch := omega) only [uI_o, uI_hit, uI_miss, uA_o, uA_s, cpy_in, cpy_out, aU_hit, aU_miss, tn_i, if_pos, if_neg, k7]
    · rw [noteS_o (by omega)]
      simp (disch := omega) only [uI_o, uI_hit, uI_miss, uA_o, uA_s, cpy_in, cpy_out, aU_hit, aU_miss, tn_i, if_pos, if_neg, kh]
    · rw [noteS_o (by omega)]
      simp (disch := omega) only [uI_o, uI_hit, uI_miss, uA_o, uA_s, cpy_in, cpy_out, aU_hit, aU_miss, tn_i, if_pos, if_neg, kt]
    · intro j hj
      rw [noteS_11 (by omega), if_neg h1] at hj
      unfold noteS
      rw [if_neg h1]
      by_cases h2 : (j : Int) = A 11
      · simp (disch := omega) only [uI_o, uI_hit, uI_miss, uA_o, uA_s, cpy_in, cpy_out, aU_hit, aU_miss, tn_i, if_pos, if_neg]
        exact hl
      · simp (disch := omega) only [uI_o, uI_hit, uI_miss, uA_o, uA_s, cpy_in, cpy_out, aU_hit, aU_miss, tn_i, if_pos, if_neg, kb]
theorem cq_enter {d : aI} {e : aJ} {A : Int → Int} (hC : CN d 1 A) (hW : WN A) {c h : Int} (hc : 0 ≤ c ∧ c < A 1) (hh : 0 ≤ h ∧ h < A 0) (hp : A (12 + 3 * c) = A (42 + h)) : ∃ d', FX2_enter d e (iI c) (iI h) = some ((), d', e) ∧ CN d' 1 (enterS A c h) ∧ Kn d d' := by
  have hw := hW
  have hcc := hC
  obtain ⟨q8, q9, q10, q11, q12, q3, q4, q5, q6, q7, qh, qt, qb⟩ := hC
  have k8 : d 2 8 = iI (A 0) := q8
  have k9 : d 2 9 = iI (A 1) := q9
  have k10 : d 2 10 = iI (A 11) := q10
  have k11 : d 2 11 = iI (A 9) := q11
  have k12 : d 2 12 = iI (A 10) := q12
  have k3 : ∀ j : Nat, (j : Int) < A 0 → d 3 j = iI (A (42 + j)) := q3
  have k4 : ∀ j : Nat, (j : Int) < A 0 → d 4 j = iI (A (30 + 2 * j)) := q4
  have k5 : ∀ j : Nat, (j : Int) < A 0 → d 5 j = iI (A (30 + 2 * j + 1)) := q5
  have k6 : ∀ j : Nat, (j : Int) < A 1 → d 6 j = iI (A (54 + j)) := q6
  have k7 : ∀ j : Nat, (j : Int) < A 1 → d 7 j = iI (A (12 + 3 * j)) := q7
  have kh : ∀ j : Nat, (j : Int) < A 1 → d 8 j = iI (A (12 + 3 * j + 1)) := qh
  have kt : ∀ j : Nat, (j : Int) < A 1 → d 9 j = iI (A (12 + 3 * j + 2)) := qt
  have kb : ∀ j : Nat, (j : Int) < A 11 → d 10 j = iI (A (1936 + j)) := qb
  obtain ⟨w0, w1, w9, w10, w11, wc, wh, wb⟩ := hW
  have wcc := wc c hc.1 hc.2
  have whh := wh h hh.1 hh.2
  have m5 : d 5 h.toNat = iI (A (30 + 2 * h + 1)) := by
    have := k5 h.toNat (by omega)
    rw [tn_i (by omega)] at this
    exact this
  have key : CN (uI (uI d 8 c.toNat (iI h)) 5 h.toNat (iI (if A (30 + 2 * h + 1) < 999 then A (30 + 2 * h + 1) + 1 else 999))) 1 (aU (aU A (12 + 3 * c + 1) h) (30 + 2 * h + 1) (if A (30 + 2 * h + 1) < 999 then A (30 + 2 * h + 1) + 1 else 999)) := by
    refine hcc.upd hw (fun j hj => by simp (disch := omega) only [uI_o, uI_hit, uI_miss, uA_o, uA_s, cpy_in, cpy_out, aU_hit, aU_miss, tn_i, if_pos, if_neg]) (by simp (disch := omega) only [uI_o, uI_hit, uI_miss, uA_o, uA_s, cpy_in, cpy_out, aU_hit, aU_miss, tn_i, if_pos, if_neg]) (by simp (disch := omega) only [uI_o, uI_hit, uI_miss, uA_o, uA_s, cpy_in, cpy_out, aU_hit, aU_miss, tn_i, if_pos, if_neg]) (by simp (disch := omega) only [uI_o, uI_hit, uI_miss, uA_o, uA_s, cpy_in, cpy_out, aU_hit, aU_miss, tn_i, if_pos, if_neg, k10]) (by simp (disch := omega) only [uI_o, uI_hit, uI_miss, uA_o, uA_s, cpy_in, cpy_out, aU_hit, aU_miss, tn_i, if_pos, if_neg, k11]) (by simp (disch := omega) only [uI_o, uI_hit, uI_miss, uA_o, uA_s, cpy_in, cpy_out, aU_hit, aU_miss, tn_i, if_pos, if_neg, k12]) (by simp (disch := omega) only [uI_o, uI_hit, uI_miss, uA_o, uA_s, cpy_in, cpy_out, aU_hit, aU_miss, tn_i, if_pos, if_neg]) (by simp (disch := omega) only [uI_o, uI_hit, uI_miss, uA_o, uA_s, cpy_in, cpy_out, aU_hit, aU_miss, tn_i, if_pos, if_neg]) (fun j hj => by simp (disch := omega) only [uI_o, uI_hit, uI_miss, uA_o, uA_s, cpy_in, cpy_out, aU_hit, aU_miss, tn_i, if_pos, if_neg, k4]) (fun j hj => ?_) (fun j hj => by simp (disch := omega) only [uI_o, uI_hit, uI_miss, uA_o, uA_s, cpy_in, cpy_out, aU_hit, aU_miss, tn_i, if_pos, if_neg, k7]) (fun j hj => ?_) (fun j hj => by simp (disch := omega) only [uI_o, uI_hit, uI_miss, uA_o, uA_s, cpy_in, cpy_out, aU_hit, aU_miss, tn_i, if_pos, if_neg, kt]) (fun j hj => ?_)
    · by_cases h2 : (j : Int) = h
      · simp (disch := omega) only [uI_o, uI_hit, uI_miss, uA_o, uA_s, cpy_in, cpy_out, aU_hit, aU_miss, tn_i, if_pos, if_neg]
      · simp (disch := omega) only [uI_o, uI_hit, uI_miss, uA_o, uA_s, cpy_in, cpy_out, aU_hit, aU_miss, tn_i, if_pos, if_neg, k5]
    · by_cases h2 : (j : Int) = c
      · simp (disch := omega) only [uI_o, uI_hit, uI_miss, uA_o, uA_s, cpy_in, cpy_out, aU_hit, aU_miss, tn_i, if_pos, if_neg]
      · simp (disch := omega) only [uI_o, uI_hit, uI_miss, uA_o, uA_s, cpy_in, cpy_out, aU_hit, aU_miss, tn_i, if_pos, if_neg, kh]
    · rw [aU_miss (by omega), aU_miss (by omega)] at hj
      simp (disch := omega) only [uI_o, uI_hit, uI_miss, uA_o, uA_s, cpy_in, cpy_out, aU_hit, aU_miss, tn_i, if_pos, if_neg, kb]
  have kw : WN (aU (aU A (12 + 3 * c + 1) h) (30 + 2 * h + 1) (if A (30 + 2 * h + 1) < 999 then A (30 + 2 * h + 1) + 1 else 999)) := by
    have s1 : WN (aU A (12 + 3 * c + 1) h) := hw.cat hc (fun j a b x => aU_miss b) (by rw [aU_miss (by omega)]; exact wcc.1) (by rw [aU_hit rfl]; omega) (by rw [aU_miss (by omega)]; exact wcc.2.2.1) (fun _ => by rw [aU_hit rfl, aU_miss (by omega)]; exact hp.symm)
    refine s1.hous (h := h) (by rw [aU_miss (by omega)]; exact hh) (fun j a b => aU_miss b) (by rw [aU_miss (by omega), aU_miss (by omega)]; exact whh.1) (by rw [aU_hit rfl]; split <;> omega)
  obtain ⟨d', r1, r2, r3⟩ := cq_note (e := e) key kw (c := c) (h := h) (w := 0) (by omega)
  refine ⟨d', ?_, r2, fun k hk => by rw [r3 k hk, uI_o (by omega), uI_o (by omega)]⟩
  have hmin : a_min (iI (A (30 + 2 * h + 1)) + iI 1) (iI 999) = iI (if A (30 + 2 * h + 1) < 999 then A (30 + 2 * h + 1) + 1 else 999) := by
    rw [iI_add, iI_min (by omega)]
    congr 1
  unfold FX2_enter
  simp (disch := omega) only [nI_iI, Int.cast_ofNat_Int, c_0, c_1, iI_inb, iI_cl, m5, hmin, r1, Bool.and_self, cond_true, Option.bind_some]
theorem cq_leave {d : aI} {e : aJ} {A : Int → Int} (hC : CN d 1 A) (hW : WN A) {c w : Int} (hc : 0 ≤ c ∧ c < A 1) (hi : 0 ≤ A (12 + 3 * c + 1)) (hw2 : 0 ≤ w ∧ w < 3) : ∃ d', FX2_leave d e (iI c) (iI (A (12 + 3 * c + 1))) (iI w) = some ((), d', e) ∧ CN d' 1 (outS A c w) ∧ Kn d d' := by
  have hw := hW
  have hcc := hC
  obtain ⟨q8, q9, q10, q11, q12, q3, q4, q5, q6, q7, qh, qt, qb⟩ := hC
  have k8 : d 2 8 = iI (A 0) := q8
  have k9 : d 2 9 = iI (A 1) := q9
  have k10 : d 2 10 = iI (A 11) := q10
  have k11 : d 2 11 = iI (A 9) := q11
  have k12 : d 2 12 = iI (A 10) := q12
  have k3 : ∀ j : Nat, (j : Int) < A 0 → d 3 j = iI (A (42 + j)) := q3
  have k4 : ∀ j : Nat, (j : Int) < A 0 → d 4 j = iI (A (30 + 2 * j)) := q4
  have k5 : ∀ j : Nat, (j : Int) < A 0 → d 5 j = iI (A (30 + 2 * j + 1)) := q5
  have k6 : ∀ j : Nat, (j : Int) < A 1 → d 6 j = iI (A (54 + j)) := q6
  have k7 : ∀ j : Nat, (j : Int) < A 1 → d 7 j = iI (A (12 + 3 * j)) := q7
  have kh : ∀ j : Nat, (j : Int) < A 1 → d 8 j = iI (A (12 + 3 * j + 1)) := qh
  have kt : ∀ j : Nat, (j : Int) < A 1 → d 9 j = iI (A (12 + 3 * j + 2)) := qt
  have kb : ∀ j : Nat, (j : Int) < A 11 → d 10 j = iI (A (1936 + j)) := qb
  obtain ⟨w0, w1, w9, w10, w11, wc, wh, wb⟩ := hW
  have wcc := wc c hc.1 hc.2
  have hpl := wcc.2.2.2.2.2 hi
  have key : CN (uI d 8 c.toNat (iI (-1))) 1 (aU (aU A (12 + 3 * c) (A (42 + A (12 + 3 * c + 1)))) (12 + 3 * c + 1) (-1)) := by
    refine hcc.upd hw (fun j hj => by simp (disch := omega) only [uI_o, uI_hit, uI_miss, uA_o, uA_s, cpy_in, cpy_out, aU_hit, aU_miss, tn_i, if_pos, if_neg]) (by simp (disch := omega) only [uI_o, uI_hit, uI_miss, uA_o, uA_s, cpy_in, cpy_out, aU_hit, aU_miss, tn_i, if_pos, if_neg]) (by simp (disch := omega) only [uI_o, uI_hit, uI_miss, uA_o, uA_s, cpy_in, cpy_out, aU_hit, aU_miss, tn_i, if_pos, if_neg]) (by simp (disch := omega) only [uI_o, uI_hit, uI_miss, uA_o, uA_s, cpy_in, cpy_out, aU_hit, aU_miss, tn_i, if_pos, if_neg, k10]) (by simp (disch := omega) only [uI_o, uI_hit, uI_miss, uA_o, uA_s, cpy_in, cpy_out, aU_hit, aU_miss, tn_i, if_pos, if_neg, k11]) (by simp (disch := omega) only [uI_o, uI_hit, uI_miss, uA_o, uA_s, cpy_in, cpy_out, aU_hit, aU_miss, tn_i, if_pos, if_neg, k12]) (by simp (disch := omega) only [uI_o, uI_hit, uI_miss, uA_o, uA_s, cpy_in, cpy_out, aU_hit, aU_miss, tn_i, if_pos, if_neg]) (by simp (disch := omega) only [uI_o, uI_hit, uI_miss, uA_o, uA_s, cpy_in, cpy_out, aU_hit, aU_miss, tn_i, if_pos, if_neg]) (fun j hj => by simp (disch := omega) only [uI_o, uI_hit, uI_miss, uA_o, uA_s, cpy_in, cpy_out, aU_hit, aU_miss, tn_i, if_pos, if_neg, k4]) (fun j hj => by simp (disch := omega) only [uI_o, uI_hit, uI_miss, uA_o, uA_s, cpy_in, cpy_out, aU_hit, aU_miss, tn_i, if_pos, if_neg, k5]) (fun j hj => ?_) (fun j hj => ?_) (fun j hj => by simp (disch := omega) only [uI_o, uI_hit, uI_miss, uA_o, uA_s, cpy_in, cpy_out, aU_hit, aU_miss, tn_i, if_pos, if_neg, kt]) (fun j hj => ?_)
    · by_cases h2 : (j : Int) = c
      · rw [hpl]
        simp (disch := omega) only [uI_o, uI_hit, uI_miss, uA_o, uA_s, cpy_in, cpy_out, aU_hit, aU_miss, tn_i, if_pos, if_neg, k7]
        rw [h2]
      · simp (disch := omega) only [uI_o, uI_hit, uI_miss, uA_o, uA_s, cpy_in, cpy_out, aU_hit, aU_miss, tn_i, if_pos, if_neg, k7]
    · by_cases h2 : (j : Int) = c
      · simp (disch := omega) only [uI_o, uI_hit, uI_miss, uA_o, uA_s, cpy_in, cpy_out, aU_hit, aU_miss, tn_i, if_pos, if_neg]
      · simp (disch := omega) only [uI_o, uI_hit, uI_miss, uA_o, uA_s, cpy_in, cpy_out, aU_hit, aU_miss, tn_i, if_pos, if_neg, kh]
    · rw [aU_miss (by omega), aU_miss (by omega)] at hj
      simp (disch := omega) only [uI_o, uI_hit, uI_miss, uA_o, uA_s, cpy_in, cpy_out, aU_hit, aU_miss, tn_i, if_pos, if_neg, kb]
  have kw : WN (aU (aU A (12 + 3 * c) (A (42 + A (12 + 3 * c + 1)))) (12 + 3 * c + 1) (-1)) := by
    have whh := wh _ hi wcc.2.1.2
    refine hw.cat hc (fun j a b x => by rw [aU_miss b, aU_miss a]) (by rw [aU_miss (by omega), aU_hit rfl]; exact whh.2.2.1) (by rw [aU_hit rfl]; omega) (by rw [aU_miss (by omega), aU_miss (by omega)]; exact wcc.2.2.1) (fun q => by rw [aU_hit rfl] at q; omega)
  obtain ⟨d', r1, r2, r3⟩ := cq_note (e := e) key kw (c := c) (h := A (12 + 3 * c + 1)) (w := w) (by omega)
  refine ⟨d', ?_, r2, fun k hk => by rw [r3 k hk, uI_o (by omega)]⟩
  unfold FX2_leave
  simp (disch := omega) only [nI_iI, lN_lJ, iI_0, lJ_0, iI_add, iI_sub, iI_mul, iI_neg, lJ_add, lJ_sub, lJ_mul, lJ_neg, i_l, l_i, iI_cl, iI_inb, iI_eqT, iI_eqF, iI_ltT, iI_ltF, iI_leT, iI_leF, lJ_eqT, lJ_eqF, lJ_cG, lJ_cE, lJ_cL, lJ_cF, lJ_cGE, lJ_cLE, lJ_cNL, lJ_cNG, Int.cast_ofNat_Int, c_0, c_1, Int.natCast_add, Int.add_zero, cond_true, cond_false, Bool.and_self, Bool.and_true, Bool.true_and, Option.bind_some, decide_true, uI_hit, uI_miss, uI_o, uA_o, uA_s, ↓reduceIte, eq_self, true_or, or_true, or_false, false_or, true_and, and_true, false_and, and_false, or_self, and_self, not_false_eq_true, not_true_eq_false, tn_i, r1]
theorem cq_move {d : aI} {e : aJ} {A : Int → Int} (hC : CN d 1 A) (hW : WN A) {c : Int} (hc : 0 ≤ c ∧ c < A 1) (up : Bool) : ∃ d', FX2_move d e (iI c) (iI (if up then 1 else -1)) = some ((), d', e) ∧ CN d' 1 (moveS A c up) ∧ Kn d d' := by
  have hw := hW
  have hcc := hC
  obtain ⟨q8, q9, q10, q11, q12, q3, q4, q5, q6, q7, qh, qt, qb⟩ := hC
  have k8 : d 2 8 = iI (A 0) := q8
  have k9 : d 2 9 = iI (A 1) := q9
  have k10 : d 2 10 = iI (A 11) := q10
  have k11 : d 2 11 = iI (A 9) := q11
  have k12 : d 2 12 = iI (A 10) := q12
  have k3 : ∀ j : Nat, (j : Int) < A 0 → d 3 j = iI (A (42 + j)) := q3
  have k4 : ∀ j : Nat, (j : Int) < A 0 → d 4 j = iI (A (30 + 2 * j)) := q4
  have k5 : ∀ j : Nat, (j : Int) < A 0 → d 5 j = iI (A (30 + 2 * j + 1)) := q5
  have k6 : ∀ j : Nat, (j : Int) < A 1 → d 6 j = iI (A (54 + j)) := q6
  have k7 : ∀ j : Nat, (j : Int) < A 1 → d 7 j = iI (A (12 + 3 * j)) := q7
  have kh : ∀ j : Nat, (j : Int) < A 1 → d 8 j = iI (A (12 + 3 * j + 1)) := qh
  have kt : ∀ j : Nat, (j : Int) < A 1 → d 9 j = iI (A (12 + 3 * j + 2)) := qt
  have kb : ∀ j : Nat, (j : Int) < A 11 → d 10 j = iI (A (1936 + j)) := qb
  obtain ⟨w0, w1, w9, w10, w11, wc, wh, wb⟩ := hW
  have wcc := wc c hc.1 hc.2
  have m7 : d 7 c.toNat = iI (A (12 + 3 * c)) := by
    have := k7 c.toNat (by omega)
    rw [tn_i (by omega)] at this
    exact this
  have key : FX2_move d e (iI c) (iI (if up then 1 else -1)) = some ((), uI d 7 c.toNat (iI ((A (12 + 3 * c) + (if up then 1 else 9)) % 10)), e) := by
    unfold FX2_move
    cases up
    · simp only [Bool.false_eq_true, if_false]
      rw [show (A (12 + 3 * c) + 9) % 10 = (A (12 + 3 * c) + -1 + 10) % 10 by omega]
      simp (disch := omega) only [nI_iI, lN_lJ, iI_0, lJ_0, iI_add, iI_sub, iI_mul, iI_neg, lJ_add, lJ_sub, lJ_mul, lJ_neg, i_l, l_i, iI_cl, iI_inb, iI_eqT, iI_eqF, iI_ltT, iI_ltF, iI_leT, iI_leF, lJ_eqT, lJ_eqF, lJ_cG, lJ_cE, lJ_cL, lJ_cF, lJ_cGE, lJ_cLE, lJ_cNL, lJ_cNG, Int.cast_ofNat_Int, c_0, c_1, Int.natCast_add, Int.add_zero, cond_true, cond_false, Bool.and_self, Bool.and_true, Bool.true_and, Option.bind_some, decide_true, uI_hit, uI_miss, uI_o, uA_o, uA_s, ↓reduceIte, eq_self, true_or, or_true, or_false, false_or, true_and, and_true, false_and, and_false, or_self, and_self, not_false_eq_true, not_true_eq_false, tn_i, m7, iI_rem]
    · simp only [if_true]
      rw [show (A (12 + 3 * c) + 1) % 10 = (A (12 + 3 * c) + 1 + 10) % 10 by omega]
      simp (disch := omega) only [nI_iI, lN_lJ, iI_0, lJ_0, iI_add, iI_sub, iI_mul, iI_neg, lJ_add, lJ_sub, lJ_mul, lJ_neg, i_l, l_i, iI_cl, iI_inb, iI_eqT, iI_eqF, iI_ltT, iI_ltF, iI_leT, iI_leF, lJ_eqT, lJ_eqF, lJ_cG, lJ_cE, lJ_cL, lJ_cF, lJ_cGE, lJ_cLE, lJ_cNL, lJ_cNG, Int.cast_ofNat_Int, c_0, c_1, Int.natCast_add, Int.add_zero, cond_true, cond_false, Bool.and_self, Bool.and_true, Bool.true_and, Option.bind_some, decide_true, uI_hit, uI_miss, uI_o, uA_o, uA_s, ↓reduceIte, eq_self, true_or, or_true, or_false, false_or, true_and, and_true, false_and, and_false, or_self, and_self, not_false_eq_true, not_true_eq_false, tn_i, m7, iI_rem]
  refine ⟨_, key, ?_, fun k hk => by simp (disch := omega) only [uI_o, uI_hit, uI_miss, uA_o, uA_s, cpy_in, cpy_out, aU_hit, aU_miss, tn_i, if_pos, if_neg]⟩
  unfold moveS
  refine hcc.upd hw (fun j hj => by simp (disch := omega) only [uI_o, uI_hit, uI_miss, uA_o, uA_s, cpy_in, cpy_out, aU_hit, aU_miss, tn_i, if_pos, if_neg]) (by simp (disch := omega) only [uI_o, uI_hit, uI_miss, uA_o, uA_s, cpy_in, cpy_out, aU_hit, aU_miss, tn_i, if_pos, if_neg]) (by simp (disch := omega) only [uI_o, uI_hit, uI_miss, uA_o, uA_s, cpy_in, cpy_out, aU_hit, aU_miss, tn_i, if_pos, if_neg]) (by simp (disch := omega) only [uI_o, uI_hit, uI_miss, uA_o, uA_s, cpy_in, cpy_out, aU_hit, aU_miss, tn_i, if_pos, if_neg, k10]) (by simp (disch := omega) only [uI_o, uI_hit, uI_miss, uA_o, uA_s, cpy_in, cpy_out, aU_hit, aU_miss, tn_i, if_pos, if_neg, k11]) (by simp (disch := omega) only [uI_o, uI_hit, uI_miss, uA_o, uA_s, cpy_in, cpy_out, aU_hit, aU_miss, tn_i, if_pos, if_neg, k12]) (by simp (disch := omega) only [uI_o, uI_hit, uI_miss, uA_o, uA_s, cpy_in, cpy_out, aU_hit, aU_miss, tn_i, if_pos, if_neg]) (by simp (disch := omega) only [uI_o, uI_hit, uI_miss, uA_o, uA_s, cpy_in, cpy_out, aU_hit, aU_miss, tn_i, if_pos, if_neg]) (fun j hj => by simp (disch := omega) only [uI_o, uI_hit, uI_miss, uA_o, uA_s, cpy_in, cpy_out, aU_hit, aU_miss, tn_i, if_pos, if_neg, k4]) (fun j hj => by simp (disch := omega) only [uI_o, uI_hit, uI_miss, uA_o, uA_s, cpy_in, cpy_out, aU_hit, aU_miss, tn_i, if_pos, if_neg, k5]) (fun j hj => ?_) (fun j hj => by simp (disch := omega) only [uI_o, uI_hit, uI_miss, uA_o, uA_s, cpy_in, cpy_out, aU_hit, aU_miss, tn_i, if_pos, if_neg, kh]) (fun j hj => by simp (disch := omega) only [uI_o, uI_hit, uI_miss, uA_o, uA_s, cpy_in, cpy_out, aU_hit, aU_miss, tn_i, if_pos, if_neg, kt]) (fun j hj => ?_)
  · by_cases h2 : (j : Int) = c
    · simp (disch := omega) only [uI_o, uI_hit, uI_miss, uA_o, uA_s, cpy_in, cpy_out, aU_hit, aU_miss, tn_i, if_pos, if_neg]
    · simp (disch := omega) only [uI_o, uI_hit, uI_miss, uA_o, uA_s, cpy_in, cpy_out, aU_hit, aU_miss, tn_i, if_pos, if_neg, k7]
  · rw [aU_miss (by omega)] at hj
    simp (disch := omega) only [uI_o, uI_hit, uI_miss, uA_o, uA_s, cpy_in, cpy_out, aU_hit, aU_miss, tn_i, if_pos, if_neg, kb]
theorem cq_draw {d : aI} {e : aJ} {A : Int → Int} (hC : CN d 1 A) (hW : WN A) : ∃ d', FX2_draw d e = some (iI (A 10), d', e) ∧ CN d' 1 (anewS A) ∧ Kn d d' := by
  have hw := hW
  have hcc := hC
  obtain ⟨q8, q9, q10, q11, q12, q3, q4, q5, q6, q7, qh, qt, qb⟩ := hC
  have k8 : d 2 8 = iI (A 0) := q8
  have k9 : d 2 9 = iI (A 1) := q9
  have k10 : d 2 10 = iI (A 11) := q10
  have k11 : d 2 11 = iI (A 9) := q11
  have k12 : d 2 12 = iI (A 10) := q12
  have k3 : ∀ j : Nat, (j : Int) < A 0 → d 3 j = iI (A (42 + j)) := q3
  have k4 : ∀ j : Nat, (j : Int) < A 0 → d 4 j = iI (A (30 + 2 * j)) := q4
  have k5 : ∀ j : Nat, (j : Int) < A 0 → d 5 j = iI (A (30 + 2 * j + 1)) := q5
  have k6 : ∀ j : Nat, (j : Int) < A 1 → d 6 j = iI (A (54 + j)) := q6
  have k7 : ∀ j : Nat, (j : Int) < A 1 → d 7 j = iI (A (12 + 3 * j)) := q7
  have kh : ∀ j : Nat, (j : Int) < A 1 → d 8 j = iI (A (12 + 3 * j + 1)) := qh
  have kt : ∀ j : Nat, (j : Int) < A 1 → d 9 j = iI (A (12 + 3 * j + 2)) := qt
  have kb : ∀ j : Nat, (j : Int) < A 11 → d 10 j = iI (A (1936 + j)) := qb
  obtain ⟨w0, w1, w9, w10, w11, wc, wh, wb⟩ := hW
  refine ⟨uI d 2 12 (iI ((A 10 * 647 + 509) % 30931)), ?_, ?_, fun k hk => by simp (disch := omega) only [uI_o, uI_hit, uI_miss, uA_o, uA_s, cpy_in, cpy_out, aU_hit, aU_miss, tn_i, if_pos, if_neg]⟩
  · unfold FX2_draw
    simp (disch := omega) only [nI_iI, lN_lJ, iI_0, lJ_0, iI_add, iI_sub, iI_mul, iI_neg, lJ_add, lJ_sub, lJ_mul, lJ_neg, i_l, l_i, iI_cl, iI_inb, iI_eqT, iI_eqF, iI_ltT, iI_ltF, iI_leT, iI_leF, lJ_eqT, lJ_eqF, lJ_cG, lJ_cE, lJ_cL, lJ_cF, lJ_cGE, lJ_cLE, lJ_cNL, lJ_cNG, Int.cast_ofNat_Int, c_0, c_1, Int.natCast_add, Int.add_zero, cond_true, cond_false, Bool.and_self, Bool.and_true, Bool.true_and, Option.bind_some, decide_true, uI_hit, uI_miss, uI_o, uA_o, uA_s, ↓reduceIte, eq_self, true_or, or_true, or_false, false_or, true_and, and_true, false_and, and_false, or_self, and_self, not_false_eq_true, not_true_eq_false, tn_i, k12, iI_rem]
  · unfold anewS
    refine hcc.upd hw (fun j hj => by simp (disch := omega) only [uI_o, uI_hit, uI_miss, uA_o, uA_s, cpy_in, cpy_out, aU_hit, aU_miss, tn_i, if_pos, if_neg]) (by simp (disch := omega) only [uI_o, uI_hit, uI_miss, uA_o, uA_s, cpy_in, cpy_out, aU_hit, aU_miss, tn_i, if_pos, if_neg]) (by simp (disch := omega) only [uI_o, uI_hit, uI_miss, uA_o, uA_s, cpy_in, cpy_out, aU_hit, aU_miss, tn_i, if_pos, if_neg]) (by simp (disch := omega) only [uI_o, uI_hit, uI_miss, uA_o, uA_s, cpy_in, cpy_out, aU_hit, aU_miss, tn_i, if_pos, if_neg, k10]) (by simp (disch := omega) only [uI_o, uI_hit, uI_miss, uA_o, uA_s, cpy_in, cpy_out, aU_hit, aU_miss, tn_i, if_pos, if_neg, k11]) (by simp (disch := omega) only [uI_o, uI_hit, uI_miss, uA_o, uA_s, cpy_in, cpy_out, aU_hit, aU_miss, tn_i, if_pos, if_neg]) (by simp (disch := omega) only [uI_o, uI_hit, uI_miss, uA_o, uA_s, cpy_in, cpy_out, aU_hit, aU_miss, tn_i, if_pos, if_neg]) (by simp (disch := omega) only [uI_o, uI_hit, uI_miss, uA_o, uA_s, cpy_in, cpy_out, aU_hit, aU_miss, tn_i, if_pos, if_neg]) (fun j hj => by simp (disch := omega) only [uI_o, uI_hit, uI_miss, uA_o, uA_s, cpy_in, cpy_out, aU_hit, aU_miss, tn_i, if_pos, if_neg, k4]) (fun j hj => by simp (disch := omega) only [uI_o, uI_hit, uI_miss, uA_o, uA_s, cpy_in, cpy_out, aU_hit, aU_miss, tn_i, if_pos, if_neg, k5]) (fun j hj => by simp (disch := omega) only [uI_o, uI_hit, uI_miss, uA_o, uA_s, cpy_in, cpy_out, aU_hit, aU_miss, tn_i, if_pos, if_neg, k7]) (fun j hj => by simp (disch := omega) only [uI_o, uI_hit, uI_miss, uA_o, uA_s, cpy_in, cpy_out, aU_hit, aU_miss, tn_i, if_pos, if_neg, kh]) (fun j hj => by simp (disch := omega) only [uI_o, uI_hit, uI_miss, uA_o, uA_s, cpy_in, cpy_out, aU_hit, aU_miss, tn_i, if_pos, if_neg, kt]) (fun j hj => ?_)
    rw [aU_miss (by omega)] at hj
    simp (disch := omega) only [uI_o, uI_hit, uI_miss, uA_o, uA_s, cpy_in, cpy_out, aU_hit, aU_miss, tn_i, if_pos, if_neg, kb]
theorem cq_wander {d : aI} {e : aJ} {A : Int → Int} (hC : CN d 1 A) (hW : WN A) {c : Int} (hc : 0 ≤ c ∧ c < A 1) : ∃ d', FX2_wander d e (iI c) = some ((), d', e) ∧ CN d' 1 (wanderS A c) ∧ Kn d d' := by
  have w10 := hW.2.2.2.1
  obtain ⟨d1, r1, r2, r3⟩ := cq_draw (e := e) hC hW
  have a1 : (anewS A) 1 = A 1 := aU_miss (by omega)
  unfold FX2_wander wanderS
  by_cases h0 : A 10 % 3 = 0
  · refine ⟨d1, ?_, ?_, r3⟩
    · simp (disch := omega) only [nI_iI, lN_lJ, iI_0, lJ_0, iI_add, iI_sub, iI_mul, iI_neg, lJ_add, lJ_sub, lJ_mul, lJ_neg, i_l, l_i, iI_cl, iI_inb, iI_eqT, iI_eqF, iI_ltT, iI_ltF, iI_leT, iI_leF, lJ_eqT, lJ_eqF, lJ_cG, lJ_cE, lJ_cL, lJ_cF, lJ_cGE, lJ_cLE, lJ_cNL, lJ_cNG, Int.cast_ofNat_Int, c_0, c_1, Int.natCast_add, Int.add_zero, cond_true, cond_false, Bool.and_self, Bool.and_true, Bool.true_and, Option.bind_some, decide_true, uI_hit, uI_miss, uI_o, uA_o, uA_s, ↓reduceIte, eq_self, true_or, or_true, or_false, false_or, true_and, and_true, false_and, and_false, or_self, and_self, not_false_eq_true, not_true_eq_false, tn_i, r1, iI_rem]
    · rw [if_pos h0]; exact r2
  · rw [if_neg h0]
    by_cases h1 : A 10 % 3 = 1
    · obtain ⟨d2, s1, s2, s3⟩ := cq_move (e := e) r2 (anewS_wn hW) (c := c) (by rw [a1]; exact hc) true
      simp only [if_true] at s1
      refine ⟨d2, ?_, ?_, r3.trans s3⟩
      · simp (disch := omega) only [nI_iI, lN_lJ, iI_0, lJ_0, iI_add, iI_sub, iI_mul, iI_neg, lJ_add, lJ_sub, lJ_mul, lJ_neg, i_l, l_i, iI_cl, iI_inb, iI_eqT, iI_eqF, iI_ltT, iI_ltF, iI_leT, iI_leF, lJ_eqT, lJ_eqF, lJ_cG, lJ_cE, lJ_cL, lJ_cF, lJ_cGE, lJ_cLE, lJ_cNL, lJ_cNG, Int.cast_ofNat_Int, c_0, c_1, Int.natCast_add, Int.add_zero, cond_true, cond_false, Bool.and_self, Bool.and_true, Bool.true_and, Option.bind_some, decide_true, uI_hit, uI_miss, uI_o, uA_o, uA_s, ↓reduceIte, eq_self, true_or, or_true, or_false, false_or, true_and, and_true, false_and, and_false, or_self, and_self, not_false_eq_true, not_true_eq_false, tn_i, r1, iI_rem, s1]
      · rw [show decide (A 10 % 3 = 1) = true from decide_eq_true h1]; exact s2
    · obtain ⟨d2, s1, s2, s3⟩ := cq_move (e := e) r2 (anewS_wn hW) (c := c) (by rw [a1]; exact hc) false
      simp only [Bool.false_eq_true, if_false] at s1
      refine ⟨d2, ?_, ?_, r3.trans s3⟩
      · simp (disch := omega) only [nI_iI, lN_lJ, iI_0, lJ_0, iI_add, iI_sub, iI_mul, iI_neg, lJ_add, lJ_sub, lJ_mul, lJ_neg, i_l, l_i, iI_cl, iI_inb, iI_eqT, iI_eqF, iI_ltT, iI_ltF, iI_leT, iI_leF, lJ_eqT, lJ_eqF, lJ_cG, lJ_cE, lJ_cL, lJ_cF, lJ_cGE, lJ_cLE, lJ_cNL, lJ_cNG, Int.cast_ofNat_Int, c_0, c_1, Int.natCast_add, Int.add_zero, cond_true, cond_false, Bool.and_self, Bool.and_true, Bool.true_and, Option.bind_some, decide_true, uI_hit, uI_miss, uI_o, uA_o, uA_s, ↓reduceIte, eq_self, true_or, or_true, or_false, false_or, true_and, and_true, false_and, and_false, or_self, and_self, not_false_eq_true, not_true_eq_false, tn_i, r1, iI_rem, s1]
      · rw [show decide (A 10 % 3 = 1) = false from decide_eq_false h1]; exact s2
theorem cq_take {d : aI} {e : aJ} {A : Int → Int} (hC : CN d 1 A) (hW : WN A) {c h t : Int} (hc : 0 ≤ c ∧ c < A 1) (hh : 0 ≤ h ∧ h < A 0) (ht : 0 ≤ t ∧ t ≤ 99) : ∃ d', FX2_take d e (iI c) (iI h) (iI t) = some (iI (biteS A h t), d', e) ∧ CN d' 1 (takeS A c h t) ∧ Kn d d' := by
  have hw := hW
  have hcc := hC
  obtain ⟨q8, q9, q10, q11, q12, q3, q4, q5, q6, q7, qh, qt, qb⟩ := hC
  have k8 : d 2 8 = iI (A 0) := q8
  have k9 : d 2 9 = iI (A 1) := q9
  have k10 : d 2 10 = iI (A 11) := q10
  have k11 : d 2 11 = iI (A 9) := q11
  have k12 : d 2 12 = iI (A 10) := q12
  have k3 : ∀ j : Nat, (j : Int) < A 0 → d 3 j = iI (A (42 + j)) := q3
  have k4 : ∀ j : Nat, (j : Int) < A 0 → d 4 j = iI (A (30 + 2 * j)) := q4
  have k5 : ∀ j : Nat, (j : Int) < A 0 → d 5 j = iI (A (30 + 2 * j + 1)) := q5
  have k6 : ∀ j : Nat, (j : Int) < A 1 → d 6 j = iI (A (54 + j)) := q6
  have k7 : ∀ j : Nat, (j : Int) < A 1 → d 7 j = iI (A (12 + 3 * j)) := q7
  have kh : ∀ j : Nat, (j : Int) < A 1 → d 8 j = iI (A (12 + 3 * j + 1)) := qh
  have kt : ∀ j : Nat, (j : Int) < A 1 → d 9 j = iI (A (12 + 3 * j + 2)) := qt
  have kb : ∀ j : Nat, (j : Int) < A 11 → d 10 j = iI (A (1936 + j)) := qb
  obtain ⟨w0, w1, w9, w10, w11, wc, wh, wb⟩ := hW
  have wcc := wc c hc.1 hc.2
  have whh := wh h hh.1 hh.2
  have m4 : d 4 h.toNat = iI (A (30 + 2 * h)) := by
    have := k4 h.toNat (by omega)
    rw [tn_i (by omega)] at this
    exact this
  have m9 : d 9 c.toNat = iI (A (12 + 3 * c + 2)) := by
    have := kt c.toNat (by omega)
    rw [tn_i (by omega)] at this
    exact this
  have hb : 0 ≤ biteS A h t ∧ biteS A h t ≤ 999 := by unfold biteS; split <;> omega
  have hmin : a_min (iI t) (iI (A (30 + 2 * h))) = iI (biteS A h t) := by
    rw [iI_min (by omega)]
    unfold biteS
    congr 1
    by_cases h3 : t < A (30 + 2 * h)
    · rw [if_pos h3, if_pos (by omega)]
    · rw [if_neg h3]; split <;> omega
  have hmin2 : a_min (iI (A (12 + 3 * c + 2)) + iI (biteS A h t)) (iI 9999) = iI (if A (12 + 3 * c + 2) + biteS A h t < 9999 then A (12 + 3 * c + 2) + biteS A h t else 9999) := by
    rw [iI_add, iI_min (by omega)]
    congr 1
    by_cases h3 : A (12 + 3 * c + 2) + biteS A h t < 9999
    · rw [if_pos h3, if_pos (by omega)]
    · rw [if_neg h3]; split <;> omega
  refine ⟨uI (uI d 4 h.toNat (iI (A (30 + 2 * h) - biteS A h t))) 9 c.toNat (iI (if A (12 + 3 * c + 2) + biteS A h t < 9999 then A (12 + 3 * c + 2) + biteS A h t else 9999)), ?_, ?_, fun k hk => by simp (disch := omega) only [uI_o, uI_hit, uI_miss, uA_o, uA_s, cpy_in, cpy_out, aU_hit, aU_miss, tn_i, if_pos, if_neg]⟩
  · unfold FX2_take
    simp (disch := omega) only [nI_iI, Int.cast_ofNat_Int, c_0, c_1, iI_inb, iI_cl, m4, m9, hmin, hmin2, iI_sub, Bool.and_self, cond_true, Option.bind_some]
  · unfold takeS
    refine hcc.upd hw (fun j hj => by simp (disch := omega) only [uI_o, uI_hit, uI_miss, uA_o, uA_s, cpy_in, cpy_out, aU_hit, aU_miss, tn_i, if_pos, if_neg]) (by simp (disch := omega) only [uI_o, uI_hit, uI_miss, uA_o, uA_s, cpy_in, cpy_out, aU_hit, aU_miss, tn_i, if_pos, if_neg]) (by simp (disch := omega) only [uI_o, uI_hit, uI_miss, uA_o, uA_s, cpy_in, cpy_out, aU_hit, aU_miss, tn_i, if_pos, if_neg]) (by simp (disch := omega) only [uI_o, uI_hit, uI_miss, uA_o, uA_s, cpy_in, cpy_out, aU_hit, aU_miss, tn_i, if_pos, if_neg, k10]) (by simp (disch := omega) only [uI_o, uI_hit, uI_miss, uA_o, uA_s, cpy_in, cpy_out, aU_hit, aU_miss, tn_i, if_pos, if_neg, k11]) (by simp (disch := omega) only [uI_o, uI_hit, uI_miss, uA_o, uA_s, cpy_in, cpy_out, aU_hit, aU_miss, tn_i, if_pos, if_neg, k12]) (by simp (disch := omega) only [uI_o, uI_hit, uI_miss, uA_o, uA_s, cpy_in, cpy_out, aU_hit, aU_miss, tn_i, if_pos, if_neg]) (by simp (disch := omega) only [uI_o, uI_hit, uI_miss, uA_o, uA_s, cpy_in, cpy_out, aU_hit, aU_miss, tn_i, if_pos, if_neg]) (fun j hj => ?_) (fun j hj => by simp (disch := omega) only [uI_o, uI_hit, uI_miss, uA_o, uA_s, cpy_in, cpy_out, aU_hit, aU_miss, tn_i, if_pos, if_neg, k5]) (fun j hj => by simp (disch := omega) only [uI_o, uI_hit, uI_miss, uA_o, uA_s, cpy_in, cpy_out, aU_hit, aU_miss, tn_i, if_pos, if_neg, k7]) (fun j hj => by simp (disch := omega) only [uI_o, uI_hit, uI_miss, uA_o, uA_s, cpy_in, cpy_out, aU_hit, aU_miss, tn_i, if_pos, if_neg, kh]) (fun j hj => ?_) (fun j hj => ?_)
    · by_cases h2 : (j : Int) = h
      · simp (disch := omega) only [uI_o, uI_hit, uI_miss, uA_o, uA_s, cpy_in, cpy_out, aU_hit, aU_miss, tn_i, if_pos, if_neg]
      · simp (disch := omega) only [uI_o, uI_hit, uI_miss, uA_o, uA_s, cpy_in, cpy_out, aU_hit, aU_miss, tn_i, if_pos, if_neg, k4]
    · by_cases h2 : (j : Int) = c
      · simp (disch := omega) only [uI_o, uI_hit, uI_miss, uA_o, uA_s, cpy_in, cpy_out, aU_hit, aU_miss, tn_i, if_pos, if_neg]
      · simp (disch := omega) only [uI_o, uI_hit, uI_miss, uA_o, uA_s, cpy_in, cpy_out, aU_hit, aU_miss, tn_i, if_pos, if_neg, kt]
    · rw [aU_miss (by omega), aU_miss (by omega)] at hj
      simp (disch := omega) only [uI_o, uI_hit, uI_miss, uA_o, uA_s, cpy_in, cpy_out, aU_hit, aU_miss, tn_i, if_pos, if_neg, kb]
