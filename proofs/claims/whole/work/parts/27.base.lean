/-! ===== small questions ===== -/
theorem iI_one : (1 : Int32) = iI 1 := rfl
theorem iI_y : (iI 1 = 0) = False := eq_false (by decide)
theorem mq_in_y {d : aI} {e : aJ} {x a b : Int} (h : a ≤ x ∧ x ≤ b ∧ -2147483648 ≤ a ∧ b < 2147483648) : FX11_isIn d e (iI x) (iI a) (iI b) = some (iI 1, d, e) := by
  unfold FX11_isIn
  simp (disch := omega) only [nI_iI, iI_0, iI_add, iI_sub, iI_mul, iI_neg, iI_cl, iI_inb, iI_eq, iI_lt, iI_le, Int.cast_ofNat_Int, c_0, c_1, Int.natCast_add, Int.add_zero, cond_true, cond_false, Bool.and_self, Bool.and_true, Bool.true_and, Option.bind_some, if_pos, if_neg, decide_true, uI_hit, uI_miss, uI_o, ite_true, ite_false, eq_self, true_or, or_true, or_false, false_or, true_and, and_true, false_and, and_false, or_self, and_self, not_false_eq_true, not_true_eq_false, tn_i]
theorem mq_in_n {d : aI} {e : aJ} {x a b : Int} (h : (x < a ∨ b < x) ∧ -2147483648 ≤ a ∧ b < 2147483648 ∧ -2147483648 ≤ b ∧ a < 2147483648 ∧ -2147483648 ≤ x ∧ x < 2147483648) : FX11_isIn d e (iI x) (iI a) (iI b) = some (iI 0, d, e) := by
  unfold FX11_isIn
  by_cases h1 : x < a
  · simp (disch := omega) only [nI_iI, iI_0, iI_add, iI_sub, iI_mul, iI_neg, iI_cl, iI_inb, iI_eq, iI_lt, iI_le, Int.cast_ofNat_Int, c_0, c_1, Int.natCast_add, Int.add_zero, cond_true, cond_false, Bool.and_self, Bool.and_true, Bool.true_and, Option.bind_some, if_pos, if_neg, decide_true, uI_hit, uI_miss, uI_o, ite_true, ite_false, eq_self, true_or, or_true, or_false, false_or, true_and, and_true, false_and, and_false, or_self, and_self, not_false_eq_true, not_true_eq_false, tn_i]
  · simp (disch := omega) only [nI_iI, iI_0, iI_add, iI_sub, iI_mul, iI_neg, iI_cl, iI_inb, iI_eq, iI_lt, iI_le, Int.cast_ofNat_Int, c_0, c_1, Int.natCast_add, Int.add_zero, cond_true, cond_false, Bool.and_self, Bool.and_true, Bool.true_and, Option.bind_some, if_pos, if_neg, decide_true, uI_hit, uI_miss, uI_o, ite_true, ite_false, eq_self, true_or, or_true, or_false, false_or, true_and, and_true, false_and, and_false, or_self, and_self, not_false_eq_true, not_true_eq_false, tn_i]
theorem cq_in_y {d : aI} {e : aJ} {x a b : Int} (h : a ≤ x ∧ x ≤ b ∧ -2147483648 ≤ a ∧ b < 2147483648) : FX10_within d e (iI x) (iI a) (iI b) = some (iI 1, d, e) := by
  unfold FX10_within
  simp (disch := omega) only [nI_iI, iI_0, iI_add, iI_sub, iI_mul, iI_neg, iI_cl, iI_inb, iI_eq, iI_lt, iI_le, Int.cast_ofNat_Int, c_0, c_1, Int.natCast_add, Int.add_zero, cond_true, cond_false, Bool.and_self, Bool.and_true, Bool.true_and, Option.bind_some, if_pos, if_neg, decide_true, uI_hit, uI_miss, uI_o, ite_true, ite_false, eq_self, true_or, or_true, or_false, false_or, true_and, and_true, false_and, and_false, or_self, and_self, not_false_eq_true, not_true_eq_false, tn_i]
theorem cq_in_n {d : aI} {e : aJ} {x a b : Int} (h : (x < a ∨ b < x) ∧ -2147483648 ≤ a ∧ b < 2147483648 ∧ -2147483648 ≤ b ∧ a < 2147483648 ∧ -2147483648 ≤ x ∧ x < 2147483648) : FX10_within d e (iI x) (iI a) (iI b) = some (iI 0, d, e) := by
  unfold FX10_within
  by_cases h1 : x < a
  · simp (disch := omega) only [nI_iI, iI_0, iI_add, iI_sub, iI_mul, iI_neg, iI_cl, iI_inb, iI_eq, iI_lt, iI_le, Int.cast_ofNat_Int, c_0, c_1, Int.natCast_add, Int.add_zero, cond_true, cond_false, Bool.and_self, Bool.and_true, Bool.true_and, Option.bind_some, if_pos, if_neg, decide_true, uI_hit, uI_miss, uI_o, ite_true, ite_false, eq_self, true_or, or_true, or_false, false_or, true_and, and_true, false_and, and_false, or_self, and_self, not_false_eq_true, not_true_eq_false, tn_i]
  · simp (disch := omega) only [nI_iI, iI_0, iI_add, iI_sub, iI_mul, iI_neg, iI_cl, iI_inb, iI_eq, iI_lt, iI_le, Int.cast_ofNat_Int, c_0, c_1, Int.natCast_add, Int.add_zero, cond_true, cond_false, Bool.and_self, Bool.and_true, Bool.true_and, Option.bind_some, if_pos, if_neg, decide_true, uI_hit, uI_miss, uI_o, ite_true, ite_false, eq_self, true_or, or_true, or_false, false_or, true_and, and_true, false_and, and_false, or_self, and_self, not_false_eq_true, not_true_eq_false, tn_i]
theorem mq_isCat_y {d : aI} {e : aJ} {A : Int → Int} (hA : MA d 109 A) (hW : WN A) {x : Int} (h : 0 ≤ x ∧ x < A 1) : FX11_isCat d e (iI x) = some (iI 1, d, e) := by
  have hr : ∀ j : Nat, j < 1961 → d 109 j = iI (A j) := hA
  have r0 : d 109 0 = iI (A 0) := hr 0 (by omega)
  have r1 : d 109 1 = iI (A 1) := hr 1 (by omega)
  obtain ⟨w0, w1, w9, w10, w11, wc, wh, wb⟩ := hW
  unfold FX11_isCat
  simp (disch := omega) only [nI_iI, iI_0, iI_add, iI_sub, iI_mul, iI_neg, iI_cl, iI_inb, iI_eq, iI_lt, iI_le, Int.cast_ofNat_Int, c_0, c_1, Int.natCast_add, Int.add_zero, cond_true, cond_false, Bool.and_self, Bool.and_true, Bool.true_and, Option.bind_some, if_pos, if_neg, decide_true, uI_hit, uI_miss, uI_o, ite_true, ite_false, eq_self, true_or, or_true, or_false, false_or, true_and, and_true, false_and, and_false, or_self, and_self, not_false_eq_true, not_true_eq_false, hr, r0, r1, tn_i, mq_in_y, iI_one, decide_true]
theorem mq_isCat_n {d : aI} {e : aJ} {A : Int → Int} (hA : MA d 109 A) (hW : WN A) {x : Int} (h : (x < 0 ∨ A 1 ≤ x) ∧ -2147483648 ≤ x ∧ x < 2147483648) : FX11_isCat d e (iI x) = some (iI 0, d, e) := by
  have hr : ∀ j : Nat, j < 1961 → d 109 j = iI (A j) := hA
  have r0 : d 109 0 = iI (A 0) := hr 0 (by omega)
  have r1 : d 109 1 = iI (A 1) := hr 1 (by omega)
  obtain ⟨w0, w1, w9, w10, w11, wc, wh, wb⟩ := hW
  unfold FX11_isCat
  simp (disch := omega) only [nI_iI, iI_0, iI_add, iI_sub, iI_mul, iI_neg, iI_cl, iI_inb, iI_eq, iI_lt, iI_le, Int.cast_ofNat_Int, c_0, c_1, Int.natCast_add, Int.add_zero, cond_true, cond_false, Bool.and_self, Bool.and_true, Bool.true_and, Option.bind_some, if_pos, if_neg, decide_true, uI_hit, uI_miss, uI_o, ite_true, ite_false, eq_self, true_or, or_true, or_false, false_or, true_and, and_true, false_and, and_false, or_self, and_self, not_false_eq_true, not_true_eq_false, hr, r0, r1, tn_i, mq_in_n, iI_one, decide_true]
theorem mq_isHouse_y {d : aI} {e : aJ} {A : Int → Int} (hA : MA d 109 A) (hW : WN A) {x : Int} (h : 0 ≤ x ∧ x < A 0) : FX11_isHouse d e (iI x) = some (iI 1, d, e) := by
  have hr : ∀ j : Nat, j < 1961 → d 109 j = iI (A j) := hA
  have r0 : d 109 0 = iI (A 0) := hr 0 (by omega)
  have r1 : d 109 1 = iI (A 1) := hr 1 (by omega)
  obtain ⟨w0, w1, w9, w10, w11, wc, wh, wb⟩ := hW
  unfold FX11_isHouse
  simp (disch := omega) only [nI_iI, iI_0, iI_add, iI_sub, iI_mul, iI_neg, iI_cl, iI_inb, iI_eq, iI_lt, iI_le, Int.cast_ofNat_Int, c_0, c_1, Int.natCast_add, Int.add_zero, cond_true, cond_false, Bool.and_self, Bool.and_true, Bool.true_and, Option.bind_some, if_pos, if_neg, decide_true, uI_hit, uI_miss, uI_o, ite_true, ite_false, eq_self, true_or, or_true, or_false, false_or, true_and, and_true, false_and, and_false, or_self, and_self, not_false_eq_true, not_true_eq_false, hr, r0, r1, tn_i, mq_in_y, iI_one, decide_true]
theorem mq_isHouse_n {d : aI} {e : aJ} {A : Int → Int} (hA : MA d 109 A) (hW : WN A) {x : Int} (h : (x < 0 ∨ A 0 ≤ x) ∧ -2147483648 ≤ x ∧ x < 2147483648) : FX11_isHouse d e (iI x) = some (iI 0, d, e) := by
  have hr : ∀ j : Nat, j < 1961 → d 109 j = iI (A j) := hA
  have r0 : d 109 0 = iI (A 0) := hr 0 (by omega)
  have r1 : d 109 1 = iI (A 1) := hr 1 (by omega)
  obtain ⟨w0, w1, w9, w10, w11, wc, wh, wb⟩ := hW
  unfold FX11_isHouse
  simp (disch := omega) only [nI_iI, iI_0, iI_add, iI_sub, iI_mul, iI_neg, iI_cl, iI_inb, iI_eq, iI_lt, iI_le, Int.cast_ofNat_Int, c_0, c_1, Int.natCast_add, Int.add_zero, cond_true, cond_false, Bool.and_self, Bool.and_true, Bool.true_and, Option.bind_some, if_pos, if_neg, decide_true, uI_hit, uI_miss, uI_o, ite_true, ite_false, eq_self, true_or, or_true, or_false, false_or, true_and, and_true, false_and, and_false, or_self, and_self, not_false_eq_true, not_true_eq_false, hr, r0, r1, tn_i, mq_in_n, iI_one, decide_true]
theorem mq_isPlace_y {d : aI} {e : aJ} {x : Int} (h : 0 ≤ x ∧ x ≤ 9) : FX11_isPlace d e (iI x) = some (iI 1, d, e) := by
  unfold FX11_isPlace
  simp (disch := omega) only [nI_iI, iI_0, iI_add, iI_sub, iI_mul, iI_neg, iI_cl, iI_inb, iI_eq, iI_lt, iI_le, Int.cast_ofNat_Int, c_0, c_1, Int.natCast_add, Int.add_zero, cond_true, cond_false, Bool.and_self, Bool.and_true, Bool.true_and, Option.bind_some, if_pos, if_neg, decide_true, uI_hit, uI_miss, uI_o, ite_true, ite_false, eq_self, true_or, or_true, or_false, false_or, true_and, and_true, false_and, and_false, or_self, and_self, not_false_eq_true, not_true_eq_false, tn_i, mq_in_y, iI_one, decide_true]
theorem mq_isPlace_n {d : aI} {e : aJ} {x : Int} (h : (x < 0 ∨ 9 < x) ∧ -2147483648 ≤ x ∧ x < 2147483648) : FX11_isPlace d e (iI x) = some (iI 0, d, e) := by
  unfold FX11_isPlace
  simp (disch := omega) only [nI_iI, iI_0, iI_add, iI_sub, iI_mul, iI_neg, iI_cl, iI_inb, iI_eq, iI_lt, iI_le, Int.cast_ofNat_Int, c_0, c_1, Int.natCast_add, Int.add_zero, cond_true, cond_false, Bool.and_self, Bool.and_true, Bool.true_and, Option.bind_some, if_pos, if_neg, decide_true, uI_hit, uI_miss, uI_o, ite_true, ite_false, eq_self, true_or, or_true, or_false, false_or, true_and, and_true, false_and, and_false, or_self, and_self, not_false_eq_true, not_true_eq_false, tn_i, mq_in_n, iI_one, decide_true]
theorem cq_isCat_y {d : aI} {e : aJ} {A : Int → Int} (hC : CN d 1 A) (hW : WN A) {x : Int} (h : 0 ≤ x ∧ x < A 1) : FX2_isCat d e (iI x) = some (iI 1, d, e) := by
  obtain ⟨q8, q9, q10, q11, q12, q3, q4, q5, q6, q7, qh, qt, qb⟩ := hC
  have k8 : d 2 8 = iI (A 0) := q8
  have k9 : d 2 9 = iI (A 1) := q9
  have k10 : d 2 10 = iI (A 11) := q10
  have k11 : d 2 11 = iI (A 9) := q11
  have k12 : d 2 12 = iI (A 10) := q12
  have k3 : ∀ j : Nat, (j : Int) < A 0 → d 3 j = iI (A (42 + j)) := q3
  have k4 : ∀ j : Nat, (j : Int) < A 0 → d 4 j = iI (A (30 + 2 * j)) := q4
  have k5 : ∀ j : Nat, (j : Int) < A 0 → d 5 j = iI (A (30 + 2 * j + 1)) := q5
  have k6 : ∀ j : Nat, (j : Int) < A 1 → d 6 j = iI (A (54 + j)) := q6
  have k7 : ∀ j : Nat, (j : Int) < A 1 → d 7 j = iI (A (12 + 3 * j)) := q7
  have kh : ∀ j : Nat, (j : Int) < A 1 → d 8 j = iI (A (12 + 3 * j + 1)) := qh
  have kt : ∀ j : Nat, (j : Int) < A 1 → d 9 j = iI (A (12 + 3 * j + 2)) := qt
  have kb : ∀ j : Nat, (j : Int) < A 11 → d 10 j = iI (A (1936 + j)) := qb
  obtain ⟨w0, w1, w9, w10, w11, wc, wh, wb⟩ := hW
  unfold FX2_isCat
  simp (disch := omega) only [nI_iI, iI_0, iI_add, iI_sub, iI_mul, iI_neg, iI_cl, iI_inb, iI_eq, iI_lt, iI_le, Int.cast_ofNat_Int, c_0, c_1, Int.natCast_add, Int.add_zero, cond_true, cond_false, Bool.and_self, Bool.and_true, Bool.true_and, Option.bind_some, if_pos, if_neg, decide_true, uI_hit, uI_miss, uI_o, ite_true, ite_false, eq_self, true_or, or_true, or_false, false_or, true_and, and_true, false_and, and_false, or_self, and_self, not_false_eq_true, not_true_eq_false, tn_i, k9]
theorem cq_isCat_n {d : aI} {e : aJ} {A : Int → Int} (hC : CN d 1 A) (hW : WN A) {x : Int} (h : (x < 0 ∨ A 1 ≤ x) ∧ -2147483648 ≤ x ∧ x < 2147483648) : FX2_isCat d e (iI x) = some (iI 0, d, e) := by
  obtain ⟨q8, q9, q10, q11, q12, q3, q4, q5, q6, q7, qh, qt, qb⟩ := hC
  have k8 : d 2 8 = iI (A 0) := q8
  have k9 : d 2 9 = iI (A 1) := q9
  have k10 : d 2 10 = iI (A 11) := q10
  have k11 : d 2 11 = iI (A 9) := q11
  have k12 : d 2 12 = iI (A 10) := q12
  have k3 : ∀ j : Nat, (j : Int) < A 0 → d 3 j = iI (A (42 + j)) := q3
  have k4 : ∀ j : Nat, (j : Int) < A 0 → d 4 j = iI (A (30 + 2 * j)) := q4
  have k5 : ∀ j : Nat, (j : Int) < A 0 → d 5 j = iI (A (30 + 2 * j + 1)) := q5
  have k6 : ∀ j : Nat, (j : Int) < A 1 → d 6 j = iI (A (54 + j)) := q6
  have k7 : ∀ j : Nat, (j : Int) < A 1 → d 7 j = iI (A (12 + 3 * j)) := q7
  have kh : ∀ j : Nat, (j : Int) < A 1 → d 8 j = iI (A (12 + 3 * j + 1)) := qh
  have kt : ∀ j : Nat, (j : Int) < A 1 → d 9 j = iI (A (12 + 3 * j + 2)) := qt
  have kb : ∀ j : Nat, (j : Int) < A 11 → d 10 j = iI (A (1936 + j)) := qb
  obtain ⟨w0, w1, w9, w10, w11, wc, wh, wb⟩ := hW
  unfold FX2_isCat
  by_cases h1 : x < 0
  · simp (disch := omega) only [nI_iI, iI_0, iI_add, iI_sub, iI_mul, iI_neg, iI_cl, iI_inb, iI_eq, iI_lt, iI_le, Int.cast_ofNat_Int, c_0, c_1, Int.natCast_add, Int.add_zero, cond_true, cond_false, Bool.and_self, Bool.and_true, Bool.true_and, Option.bind_some, if_pos, if_neg, decide_true, uI_hit, uI_miss, uI_o, ite_true, ite_false, eq_self, true_or, or_true, or_false, false_or, true_and, and_true, false_and, and_false, or_self, and_self, not_false_eq_true, not_true_eq_false, tn_i, k9]
  · simp (disch := omega) only [nI_iI, iI_0, iI_add, iI_sub, iI_mul, iI_neg, iI_cl, iI_inb, iI_eq, iI_lt, iI_le, Int.cast_ofNat_Int, c_0, c_1, Int.natCast_add, Int.add_zero, cond_true, cond_false, Bool.and_self, Bool.and_true, Bool.true_and, Option.bind_some, if_pos, if_neg, decide_true, uI_hit, uI_miss, uI_o, ite_true, ite_false, eq_self, true_or, or_true, or_false, false_or, true_and, and_true, false_and, and_false, or_self, and_self, not_false_eq_true, not_true_eq_false, tn_i, k9]
theorem cq_isHouse_y {d : aI} {e : aJ} {A : Int → Int} (hC : CN d 1 A) (hW : WN A) {x : Int} (h : 0 ≤ x ∧ x < A 0) : FX2_isHouse d e (iI x) = some (iI 1, d, e) := by
  obtain ⟨q8, q9, q10, q11, q12, q3, q4, q5, q6, q7, qh, qt, qb⟩ := hC
  have k8 : d 2 8 = iI (A 0) := q8
  have k9 : d 2 9 = iI (A 1) := q9
  have k10 : d 2 10 = iI (A 11) := q10
  have k11 : d 2 11 = iI (A 9) := q11
  have k12 : d 2 12 = iI (A 10) := q12
  have k3 : ∀ j : Nat, (j : Int) < A 0 → d 3 j = iI (A (42 + j)) := q3
  have k4 : ∀ j : Nat, (j : Int) < A 0 → d 4 j = iI (A (30 + 2 * j)) := q4
  have k5 : ∀ j : Nat, (j : Int) < A 0 → d 5 j = iI (A (30 + 2 * j + 1)) := q5
  have k6 : ∀ j : Nat, (j : Int) < A 1 → d 6 j = iI (A (54 + j)) := q6
  have k7 : ∀ j : Nat, (j : Int) < A 1 → d 7 j = iI (A (12 + 3 * j)) := q7
  have kh : ∀ j : Nat, (j : Int) < A 1 → d 8 j = iI (A (12 + 3 * j + 1)) := qh
  have kt : ∀ j : Nat, (j : Int) < A 1 → d 9 j = iI (A (12 + 3 * j + 2)) := qt
  have kb : ∀ j : Nat, (j : Int) < A 11 → d 10 j = iI (A (1936 + j)) := qb
  obtain ⟨w0, w1, w9, w10, w11, wc, wh, wb⟩ := hW
  unfold FX2_isHouse
  simp (disch := omega) only [nI_iI, iI_0, iI_add, iI_sub, iI_mul, iI_neg, iI_cl, iI_inb, iI_eq, iI_lt, iI_le, Int.cast_ofNat_Int, c_0, c_1, Int.natCast_add, Int.add_zero, cond_true, cond_false, Bool.and_self, Bool.and_true, Bool.true_and, Option.bind_some, if_pos, if_neg, decide_true, uI_hit, uI_miss, uI_o, ite_true, ite_false, eq_self, true_or, or_true, or_false, false_or, true_and, and_true, false_and, and_false, or_self, and_self, not_false_eq_true, not_true_eq_false, tn_i, k8]
theorem cq_isHouse_n {d : aI} {e : aJ} {A : Int → Int} (hC : CN d 1 A) (hW : WN A) {x : Int} (h : (x < 0 ∨ A 0 ≤ x) ∧ -2147483648 ≤ x ∧ x < 2147483648) : FX2_isHouse d e (iI x) = some (iI 0, d, e) := by
  obtain ⟨q8, q9, q10, q11, q12, q3, q4, q5, q6, q7, qh, qt, qb⟩ := hC
  have k8 : d 2 8 = iI (A 0) := q8
  have k9 : d 2 9 = iI (A 1) := q9
  have k10 : d 2 10 = iI (A 11) := q10
  have k11 : d 2 11 = iI (A 9) := q11
  have k12 : d 2 12 = iI (A 10) := q12
  have k3 : ∀ j : Nat, (j : Int) < A 0 → d 3 j = iI (A (42 + j)) := q3
  have k4 : ∀ j : Nat, (j : Int) < A 0 → d 4 j = iI (A (30 + 2 * j)) := q4
  have k5 : ∀ j : Nat, (j : Int) < A 0 → d 5 j = iI (A (30 + 2 * j + 1)) := q5
  have k6 : ∀ j : Nat, (j : Int) < A 1 → d 6 j = iI (A (54 + j)) := q6
  have k7 : ∀ j : Nat, (j : Int) < A 1 → d 7 j = iI (A (12 + 3 * j)) := q7
  have kh : ∀ j : Nat, (j : Int) < A 1 → d 8 j = iI (A (12 + 3 * j + 1)) := qh
  have kt : ∀ j : Nat, (j : Int) < A 1 → d 9 j = iI (A (12 + 3 * j + 2)) := qt
  have kb : ∀ j : Nat, (j : Int) < A 11 → d 10 j = iI (A (1936 + j)) := qb
  obtain ⟨w0, w1, w9, w10, w11, wc, wh, wb⟩ := hW
  unfold FX2_isHouse
  by_cases h1 : x < 0
  · simp (disch := omega) only [nI_iI, iI_0, iI_add, iI_sub, iI_mul, iI_neg, iI_cl, iI_inb, iI_eq, iI_lt, iI_le, Int.cast_ofNat_Int, c_0, c_1, Int.natCast_add, Int.add_zero, cond_true, cond_false, Bool.and_self, Bool.and_true, Bool.true_and, Option.bind_some, if_pos, if_neg, decide_true, uI_hit, uI_miss, uI_o, ite_true, ite_false, eq_self, true_or, or_true, or_false, false_or, true_and, and_true, false_and, and_false, or_self, and_self, not_false_eq_true, not_true_eq_false, tn_i, k8]
  · simp (disch := omega) only [nI_iI, iI_0, iI_add, iI_sub, iI_mul, iI_neg, iI_cl, iI_inb, iI_eq, iI_lt, iI_le, Int.cast_ofNat_Int, c_0, c_1, Int.natCast_add, Int.add_zero, cond_true, cond_false, Bool.and_self, Bool.and_true, Bool.true_and, Option.bind_some, if_pos, if_neg, decide_true, uI_hit, uI_miss, uI_o, ite_true, ite_false, eq_self, true_or, or_true, or_false, false_or, true_and, and_true, false_and, and_false, or_self, and_self, not_false_eq_true, not_true_eq_false, tn_i, k8]
theorem mq_get {d : aI} {e : aJ} {A : Int → Int} (hA : MA d 109 A) {c w : Int} (h : 0 ≤ 12 + 3 * c + w ∧ 12 + 3 * c + w < 1961 ∧ 0 ≤ c ∧ c < 1000 ∧ 0 ≤ w) : FX11_get d e (iI c) (iI w) = some (iI (A (12 + 3 * c + w)), d, e) := by
  have hr : ∀ j : Nat, j < 1961 → d 109 j = iI (A j) := hA
  unfold FX11_get
  simp (disch := omega) only [nI_iI, iI_0, iI_add, iI_sub, iI_mul, iI_neg, iI_cl, iI_inb, iI_eq, iI_lt, iI_le, Int.cast_ofNat_Int, c_0, c_1, Int.natCast_add, Int.add_zero, cond_true, cond_false, Bool.and_self, Bool.and_true, Bool.true_and, Option.bind_some, if_pos, if_neg, decide_true, uI_hit, uI_miss, uI_o, ite_true, ite_false, eq_self, true_or, or_true, or_false, false_or, true_and, and_true, false_and, and_false, or_self, and_self, not_false_eq_true, not_true_eq_false, tn_i, hr]
theorem mq_getOf {d : aI} {e : aJ} {A : Int → Int} (hA : MA d 109 A) {c w : Int} (h : 0 ≤ 30 + 2 * c + w ∧ 30 + 2 * c + w < 1961 ∧ 0 ≤ c ∧ c < 1000 ∧ 0 ≤ w) : FX11_getOf d e (iI c) (iI w) = some (iI (A (30 + 2 * c + w)), d, e) := by
  have hr : ∀ j : Nat, j < 1961 → d 109 j = iI (A j) := hA
  unfold FX11_getOf
  simp (disch := omega) only [nI_iI, iI_0, iI_add, iI_sub, iI_mul, iI_neg, iI_cl, iI_inb, iI_eq, iI_lt, iI_le, Int.cast_ofNat_Int, c_0, c_1, Int.natCast_add, Int.add_zero, cond_true, cond_false, Bool.and_self, Bool.and_true, Bool.true_and, Option.bind_some, if_pos, if_neg, decide_true, uI_hit, uI_miss, uI_o, ite_true, ite_false, eq_self, true_or, or_true, or_false, false_or, true_and, and_true, false_and, and_false, or_self, and_self, not_false_eq_true, not_true_eq_false, tn_i, hr]
theorem mq_wo_y {d : aI} {e : aJ} {A : Int → Int} (hA : MA d 109 A) (hW : WN A) {c : Int} (h : 0 ≤ c ∧ c < A 1 ∧ A (12 + 3 * c + 1) = -1) : FX11_isWithout d e (iI c) = some (iI 1, d, e) := by
  have hr : ∀ j : Nat, j < 1961 → d 109 j = iI (A j) := hA
  have r0 : d 109 0 = iI (A 0) := hr 0 (by omega)
  have r1 : d 109 1 = iI (A 1) := hr 1 (by omega)
  obtain ⟨w0, w1, w9, w10, w11, wc, wh, wb⟩ := hW
  unfold FX11_isWithout
  simp (disch := omega) only [nI_iI, iI_0, iI_add, iI_sub, iI_mul, iI_neg, iI_cl, iI_inb, iI_eq, iI_lt, iI_le, Int.cast_ofNat_Int, c_0, c_1, Int.natCast_add, Int.add_zero, cond_true, cond_false, Bool.and_self, Bool.and_true, Bool.true_and, Option.bind_some, if_pos, if_neg, decide_true, uI_hit, uI_miss, uI_o, ite_true, ite_false, eq_self, true_or, or_true, or_false, false_or, true_and, and_true, false_and, and_false, or_self, and_self, not_false_eq_true, not_true_eq_false, hr, r0, r1, tn_i, mq_get hA, h.2.2]
theorem mq_wo_n {d : aI} {e : aJ} {A : Int → Int} (hA : MA d 109 A) (hW : WN A) {c : Int} (h : 0 ≤ c ∧ c < A 1 ∧ A (12 + 3 * c + 1) ≠ -1) : FX11_isWithout d e (iI c) = some (iI 0, d, e) := by
  have hr : ∀ j : Nat, j < 1961 → d 109 j = iI (A j) := hA
  have r0 : d 109 0 = iI (A 0) := hr 0 (by omega)
  have r1 : d 109 1 = iI (A 1) := hr 1 (by omega)
  obtain ⟨w0, w1, w9, w10, w11, wc, wh, wb⟩ := hW
  have g := (wc c (by omega) (by omega)).2.1
  unfold FX11_isWithout
  simp (disch := omega) only [nI_iI, iI_0, iI_add, iI_sub, iI_mul, iI_neg, iI_cl, iI_inb, iI_eq, iI_lt, iI_le, Int.cast_ofNat_Int, c_0, c_1, Int.natCast_add, Int.add_zero, cond_true, cond_false, Bool.and_self, Bool.and_true, Bool.true_and, Option.bind_some, if_pos, if_neg, decide_true, uI_hit, uI_miss, uI_o, ite_true, ite_false, eq_self, true_or, or_true, or_false, false_or, true_and, and_true, false_and, and_false, or_self, and_self, not_false_eq_true, not_true_eq_false, hr, r0, r1, tn_i, mq_get hA]
theorem mq_placeOf {d : aI} {e : aJ} {A : Int → Int} (hA : MA d 109 A) (hW : WN A) {c : Int} (h : 0 ≤ c ∧ c < A 1) : FX11_placeOf d e (iI c) = some (iI (A (12 + 3 * c)), d, e) := by
  have hw := hW
  have hr : ∀ j : Nat, j < 1961 → d 109 j = iI (A j) := hA
  have r0 : d 109 0 = iI (A 0) := hr 0 (by omega)
  have r1 : d 109 1 = iI (A 1) := hr 1 (by omega)
  obtain ⟨w0, w1, w9, w10, w11, wc, wh, wb⟩ := hW
  have g := (wc c (by omega) (by omega)).2.1
  have g2 := (wc c (by omega) (by omega)).2.2.2.2.2
  unfold FX11_placeOf
  by_cases h1 : A (12 + 3 * c + 1) = -1
  · simp (disch := omega) only [nI_iI, iI_0, iI_add, iI_sub, iI_mul, iI_neg, iI_cl, iI_inb, iI_eq, iI_lt, iI_le, Int.cast_ofNat_Int, c_0, c_1, Int.natCast_add, Int.add_zero, cond_true, cond_false, Bool.and_self, Bool.and_true, Bool.true_and, Option.bind_some, if_pos, if_neg, decide_true, uI_hit, uI_miss, uI_o, ite_true, ite_false, eq_self, true_or, or_true, or_false, false_or, true_and, and_true, false_and, and_false, or_self, and_self, not_false_eq_true, not_true_eq_false, hr, r0, r1, tn_i, mq_get hA, mq_wo_y hA hw, iI_y]
  · simp (disch := omega) only [nI_iI, iI_0, iI_add, iI_sub, iI_mul, iI_neg, iI_cl, iI_inb, iI_eq, iI_lt, iI_le, Int.cast_ofNat_Int, c_0, c_1, Int.natCast_add, Int.add_zero, cond_true, cond_false, Bool.and_self, Bool.and_true, Bool.true_and, Option.bind_some, if_pos, if_neg, decide_true, uI_hit, uI_miss, uI_o, ite_true, ite_false, eq_self, true_or, or_true, or_false, false_or, true_and, and_true, false_and, and_false, or_self, and_self, not_false_eq_true, not_true_eq_false, hr, r0, r1, tn_i, mq_get hA, mq_wo_n hA hw, g2]
/-- how far two places are apart -/
def apS (p q : Int) : Int := if (if q ≤ p then p - q else q - p) ≤ 10 - (if q ≤ p then p - q else q - p) then (if q ≤ p then p - q else q - p) else 10 - (if q ≤ p then p - q else q - p)
theorem apS_in {p q : Int} (h : 0 ≤ p ∧ p ≤ 9 ∧ 0 ≤ q ∧ q ≤ 9) : 0 ≤ apS p q ∧ apS p q ≤ 5 := by
  unfold apS
  by_cases h1 : q ≤ p <;> simp only [h1, if_true, if_false] <;> split <;> omega
theorem mq_apart {d : aI} {e : aJ} {p q : Int} (h : 0 ≤ p ∧ p ≤ 9 ∧ 0 ≤ q ∧ q ≤ 9) : FX11_apart d e (iI p) (iI q) = some (iI (apS p q), d, e) := by
  unfold FX11_apart apS
  by_cases h1 : q ≤ p
  · by_cases h2 : p - q ≤ 10 - (p - q)
    · simp (disch := omega) only [nI_iI, iI_0, iI_add, iI_sub, iI_mul, iI_neg, iI_cl, iI_inb, iI_eq, iI_lt, iI_le, Int.cast_ofNat_Int, c_0, c_1, Int.natCast_add, Int.add_zero, cond_true, cond_false, Bool.and_self, Bool.and_true, Bool.true_and, Option.bind_some, if_pos, if_neg, decide_true, uI_hit, uI_miss, uI_o, ite_true, ite_false, eq_self, true_or, or_true, or_false, false_or, true_and, and_true, false_and, and_false, or_self, and_self, not_false_eq_true, not_true_eq_false, tn_i]
    · simp (disch := omega) only [nI_iI, iI_0, iI_add, iI_sub, iI_mul, iI_neg, iI_cl, iI_inb, iI_eq, iI_lt, iI_le, Int.cast_ofNat_Int, c_0, c_1, Int.natCast_add, Int.add_zero, cond_true, cond_false, Bool.and_self, Bool.and_true, Bool.true_and, Option.bind_some, if_pos, if_neg, decide_true, uI_hit, uI_miss, uI_o, ite_true, ite_false, eq_self, true_or, or_true, or_false, false_or, true_and, and_true, false_and, and_false, or_self, and_self, not_false_eq_true, not_true_eq_false, tn_i]
  · by_cases h2 : q - p ≤ 10 - (q - p)
    · simp (disch := omega) only [nI_iI, iI_0, iI_add, iI_sub, iI_mul, iI_neg, iI_cl, iI_inb, iI_eq, iI_lt, iI_le, Int.cast_ofNat_Int, c_0, c_1, Int.natCast_add, Int.add_zero, cond_true, cond_false, Bool.and_self, Bool.and_true, Bool.true_and, Option.bind_some, if_pos, if_neg, decide_true, uI_hit, uI_miss, uI_o, ite_true, ite_false, eq_self, true_or, or_true, or_false, false_or, true_and, and_true, false_and, and_false, or_self, and_self, not_false_eq_true, not_true_eq_false, tn_i]
    · simp (disch := omega) only [nI_iI, iI_0, iI_add, iI_sub, iI_mul, iI_neg, iI_cl, iI_inb, iI_eq, iI_lt, iI_le, Int.cast_ofNat_Int, c_0, c_1, Int.natCast_add, Int.add_zero, cond_true, cond_false, Bool.and_self, Bool.and_true, Bool.true_and, Option.bind_some, if_pos, if_neg, decide_true, uI_hit, uI_miss, uI_o, ite_true, ite_false, eq_self, true_or, or_true, or_false, false_or, true_and, and_true, false_and, and_false, or_self, and_self, not_false_eq_true, not_true_eq_false, tn_i]
theorem iI_abs {x : Int} (h : -2147483648 < x ∧ x < 2147483648) : a_abs (iI x) = iI (if 0 ≤ x then x else -x) := by
  unfold a_abs
  by_cases h1 : 0 ≤ x
  · simp (disch := omega) only [nI_iI, iI_0, iI_add, iI_sub, iI_mul, iI_neg, iI_cl, iI_inb, iI_eq, iI_lt, iI_le, Int.cast_ofNat_Int, c_0, c_1, Int.natCast_add, Int.add_zero, cond_true, cond_false, Bool.and_self, Bool.and_true, Bool.true_and, Option.bind_some, if_pos, if_neg, decide_true, uI_hit, uI_miss, uI_o, ite_true, ite_false, eq_self, true_or, or_true, or_false, false_or, true_and, and_true, false_and, and_false, or_self, and_self, not_false_eq_true, not_true_eq_false, tn_i]
  · simp (disch := omega) only [nI_iI, iI_0, iI_add, iI_sub, iI_mul, iI_neg, iI_cl, iI_inb, iI_eq, iI_lt, iI_le, Int.cast_ofNat_Int, c_0, c_1, Int.natCast_add, Int.add_zero, cond_true, cond_false, Bool.and_self, Bool.and_true, Bool.true_and, Option.bind_some, if_pos, if_neg, decide_true, uI_hit, uI_miss, uI_o, ite_true, ite_false, eq_self, true_or, or_true, or_false, false_or, true_and, and_true, false_and, and_false, or_self, and_self, not_false_eq_true, not_true_eq_false, tn_i, Int.zero_sub]
theorem iI_min {x y : Int} (h : -2147483648 ≤ x ∧ x < 2147483648 ∧ -2147483648 ≤ y ∧ y < 2147483648) : a_min (iI x) (iI y) = iI (if x ≤ y then x else y) := by
  unfold a_min
  by_cases h1 : x ≤ y
  · simp (disch := omega) only [nI_iI, iI_0, iI_add, iI_sub, iI_mul, iI_neg, iI_cl, iI_inb, iI_eq, iI_lt, iI_le, Int.cast_ofNat_Int, c_0, c_1, Int.natCast_add, Int.add_zero, cond_true, cond_false, Bool.and_self, Bool.and_true, Bool.true_and, Option.bind_some, if_pos, if_neg, decide_true, uI_hit, uI_miss, uI_o, ite_true, ite_false, eq_self, true_or, or_true, or_false, false_or, true_and, and_true, false_and, and_false, or_self, and_self, not_false_eq_true, not_true_eq_false, tn_i]
  · simp (disch := omega) only [nI_iI, iI_0, iI_add, iI_sub, iI_mul, iI_neg, iI_cl, iI_inb, iI_eq, iI_lt, iI_le, Int.cast_ofNat_Int, c_0, c_1, Int.natCast_add, Int.add_zero, cond_true, cond_false, Bool.and_self, Bool.and_true, Bool.true_and, Option.bind_some, if_pos, if_neg, decide_true, uI_hit, uI_miss, uI_o, ite_true, ite_false, eq_self, true_or, or_true, or_false, false_or, true_and, and_true, false_and, and_false, or_self, and_self, not_false_eq_true, not_true_eq_false, tn_i]
theorem iI_max {x y : Int} (h : -2147483648 ≤ x ∧ x < 2147483648 ∧ -2147483648 ≤ y ∧ y < 2147483648) : a_max (iI x) (iI y) = iI (if x < y then y else x) := by
  unfold a_max
  by_cases h1 : x < y
  · simp (disch := omega) only [nI_iI, iI_0, iI_add, iI_sub, iI_mul, iI_neg, iI_cl, iI_inb, iI_eq, iI_lt, iI_le, Int.cast_ofNat_Int, c_0, c_1, Int.natCast_add, Int.add_zero, cond_true, cond_false, Bool.and_self, Bool.and_true, Bool.true_and, Option.bind_some, if_pos, if_neg, decide_true, uI_hit, uI_miss, uI_o, ite_true, ite_false, eq_self, true_or, or_true, or_false, false_or, true_and, and_true, false_and, and_false, or_self, and_self, not_false_eq_true, not_true_eq_false, tn_i]
  · simp (disch := omega) only [nI_iI, iI_0, iI_add, iI_sub, iI_mul, iI_neg, iI_cl, iI_inb, iI_eq, iI_lt, iI_le, Int.cast_ofNat_Int, c_0, c_1, Int.natCast_add, Int.add_zero, cond_true, cond_false, Bool.and_self, Bool.and_true, Bool.true_and, Option.bind_some, if_pos, if_neg, decide_true, uI_hit, uI_miss, uI_o, ite_true, ite_false, eq_self, true_or, or_true, or_false, false_or, true_and, and_true, false_and, and_false, or_self, and_self, not_false_eq_true, not_true_eq_false, tn_i]
theorem cq_around {d : aI} {e : aJ} {p q : Int} (h : 0 ≤ p ∧ p ≤ 9 ∧ 0 ≤ q ∧ q ≤ 9) : FX10_around d e (iI p) (iI q) = some (iI (apS p q), d, e) := by
  unfold FX10_around
  have hz : (if 0 ≤ p - q then p - q else -(p - q)) = if q ≤ p then p - q else q - p := by
    by_cases h1 : q ≤ p
    · rw [if_pos h1, if_pos (by omega)]
    · rw [if_neg h1, if_neg (by omega)]; omega
  have hb : -100 ≤ (if q ≤ p then p - q else q - p) ∧ (if q ≤ p then p - q else q - p) ≤ 100 := by split <;> omega
  have e1 : apS p q = if (if q ≤ p then p - q else q - p) ≤ 10 - (if q ≤ p then p - q else q - p) then (if q ≤ p then p - q else q - p) else 10 - (if q ≤ p then p - q else q - p) := rfl
  generalize (if q ≤ p then p - q else q - p) = b at hb hz e1
  rw [e1]
  simp only [iI_sub, nI_iI, Int.cast_ofNat_Int]
  rw [iI_abs (by omega), hz]
  simp only [iI_sub]
  rw [iI_min (by omega)]
/-- cat and house apart -/
def farS (A : Int → Int) (c h : Int) : Int := apS (A (12 + 3 * c)) (A (42 + h))
theorem farS_in {A : Int → Int} (hW : WN A) {c h : Int} (hh : 0 ≤ c ∧ c < A 1 ∧ 0 ≤ h ∧ h < A 0) : 0 ≤ farS A c h ∧ farS A c h ≤ 5 := by
  obtain ⟨w0, w1, w9, w10, w11, wc, wh, wb⟩ := hW
  have g := (wc c (by omega) (by omega)).1
  have g2 := (wh h (by omega) (by omega)).2.2.1
  exact apS_in (by omega)
theorem mq_farOf {d : aI} {e : aJ} {A : Int → Int} (hA : MA d 109 A) (hW : WN A) {c h : Int} (hh : 0 ≤ c ∧ c < A 1 ∧ 0 ≤ h ∧ h < A 0) : FX11_farOf d e (iI c) (iI h) = some (iI (farS A c h), d, e) := by
  have hw := hW
  have hr : ∀ j : Nat, j < 1961 → d 109 j = iI (A j) := hA
  have r0 : d 109 0 = iI (A 0) := hr 0 (by omega)
  have r1 : d 109 1 = iI (A 1) := hr 1 (by omega)
  obtain ⟨w0, w1, w9, w10, w11, wc, wh, wb⟩ := hW
  have g := (wc c (by omega) (by omega)).1
  have g2 := (wh h (by omega) (by omega)).2.2.1
  unfold FX11_farOf farS
  simp (disch := omega) only [nI_iI, iI_0, iI_add, iI_sub, iI_mul, iI_neg, iI_cl, iI_inb, iI_eq, iI_lt, iI_le, Int.cast_ofNat_Int, c_0, c_1, Int.natCast_add, Int.add_zero, cond_true, cond_false, Bool.and_self, Bool.and_true, Bool.true_and, Option.bind_some, if_pos, if_neg, decide_true, uI_hit, uI_miss, uI_o, ite_true, ite_false, eq_self, true_or, or_true, or_false, false_or, true_and, and_true, false_and, and_false, or_self, and_self, not_false_eq_true, not_true_eq_false, hr, r0, r1, tn_i, mq_placeOf hA hw, mq_apart]
theorem cq_away {d : aI} {e : aJ} {A : Int → Int} (hC : CN d 1 A) (hW : WN A) {c h : Int} (hh : 0 ≤ c ∧ c < A 1 ∧ 0 ≤ h ∧ h < A 0) : FX2_away d e (iI c) (iI h) = some (iI (farS A c h), d, e) := by
  obtain ⟨q8, q9, q10, q11, q12, q3, q4, q5, q6, q7, qh, qt, qb⟩ := hC
  have k8 : d 2 8 = iI (A 0) := q8
  have k9 : d 2 9 = iI (A 1) := q9
  have k10 : d 2 10 = iI (A 11) := q10
  have k11 : d 2 11 = iI (A 9) := q11
  have k12 : d 2 12 = iI (A 10) := q12
  have k3 : ∀ j : Nat, (j : Int) < A 0 → d 3 j = iI (A (42 + j)) := q3
  have k4 : ∀ j : Nat, (j : Int) < A 0 → d 4 j = iI (A (30 + 2 * j)) := q4
  have k5 : ∀ j : Nat, (j : Int) < A 0 → d 5 j = iI (A (30 + 2 * j + 1)) := q5
  have k6 : ∀ j : Nat, (j : Int) < A 1 → d 6 j = iI (A (54 + j)) := q6
  have k7 : ∀ j : Nat, (j : Int) < A 1 → d 7 j = iI (A (12 + 3 * j)) := q7
  have kh : ∀ j : Nat, (j : Int) < A 1 → d 8 j = iI (A (12 + 3 * j + 1)) := qh
  have kt : ∀ j : Nat, (j : Int) < A 1 → d 9 j = iI (A (12 + 3 * j + 2)) := qt
  have kb : ∀ j : Nat, (j : Int) < A 11 → d 10 j = iI (A (1936 + j)) := qb
  obtain ⟨w0, w1, w9, w10, w11, wc, wh, wb⟩ := hW
  have g := (wc c (by omega) (by omega)).1
  have g2 := (wh h (by omega) (by omega)).2.2.1
  unfold FX2_away farS
  simp (disch := omega) only [nI_iI, iI_0, iI_add, iI_sub, iI_mul, iI_neg, iI_cl, iI_inb, iI_eq, iI_lt, iI_le, Int.cast_ofNat_Int, c_0, c_1, Int.natCast_add, Int.add_zero, cond_true, cond_false, Bool.and_self, Bool.and_true, Bool.true_and, Option.bind_some, if_pos, if_neg, decide_true, uI_hit, uI_miss, uI_o, ite_true, ite_false, eq_self, true_or, or_true, or_false, false_or, true_and, and_true, false_and, and_false, or_self, and_self, not_false_eq_true, not_true_eq_false, tn_i, k8, k9, k10, k11, k12, k3, k4, k5, k6, k7, kh, kt, kb, cq_around]
/-- the cat in a house -/
def gst (A : Int → Int) (h : Int) : Int := fnd (fun c => A (12 + 3 * c + 1) = h) (A 1).toNat
theorem gst_in {A : Int → Int} (hW : WN A) (h : Int) : -1 ≤ gst A h ∧ gst A h < A 1 := by
  have := fnd_le (p := fun c : Nat => A (12 + 3 * c + 1) = h) (A 1).toNat
  have := hW.2.1
  unfold gst
  omega
theorem mq_catIn {d : aI} {e : aJ} {A : Int → Int} (hA : MA d 109 A) (hW : WN A) {h : Int} (hh : -1 ≤ h ∧ h < A 0) : FX11_catIn d e (iI h) = some (iI (gst A h), d, e) := by
  have hr : ∀ j : Nat, j < 1961 → d 109 j = iI (A j) := hA
  have r0 : d 109 0 = iI (A 0) := hr 0 (by omega)
  have r1 : d 109 1 = iI (A 1) := hr 1 (by omega)
  obtain ⟨w0, w1, w9, w10, w11, wc, wh, wb⟩ := hW
  unfold FX11_catIn gst
  rw [a_run_step (st := stX11_catIn) (p := (0, [some (.ref 108), some (.int (iI h)), none], d, e)) (p2 := (2, [some (.ref 108), some (.int (iI h)), some (.int (iI (0 : Nat)))], d, e)) rfl rfl]
  rw [run_fnd (st := stX11_catIn) (R := some ([some (.int (iI (fnd (fun c => A (12 + 3 * c + 1) = h) (A 1).toNat)))], d, e)) (fun k => (2, [some (.ref 108), some (.int (iI h)), some (.int (iI (k : Nat)))], d, e)) (fun c => A (12 + 3 * c + 1) = h) (A 1).toNat (fun _ => rfl) ?_ ?_ ?_]
  · rfl
  · intro k hk hn
    have g := (wc k (by omega) (by omega)).2.1
    show sX11_catIn_2 d e _ _ = _
    unfold sX11_catIn_2
    simp (disch := omega) only [nI_iI, iI_0, iI_add, iI_sub, iI_mul, iI_neg, iI_cl, iI_inb, iI_eq, iI_lt, iI_le, Int.cast_ofNat_Int, c_0, c_1, Int.natCast_add, Int.add_zero, cond_true, cond_false, Bool.and_self, Bool.and_true, Bool.true_and, Option.bind_some, if_pos, if_neg, decide_true, uI_hit, uI_miss, uI_o, ite_true, ite_false, eq_self, true_or, or_true, or_false, false_or, true_and, and_true, false_and, and_false, or_self, and_self, not_false_eq_true, not_true_eq_false, hr, r0, r1, tn_i, mq_get hA]
  · intro k hk hy he
    have g := (wc k (by omega) (by omega)).2.1
    rw [he, a_run_step (st := stX11_catIn) (p2 := (100000, [some (.int (iI (k : Nat)))], d, e)) (by
      show sX11_catIn_2 d e _ _ = _
      unfold sX11_catIn_2
      simp (disch := omega) only [nI_iI, iI_0, iI_add, iI_sub, iI_mul, iI_neg, iI_cl, iI_inb, iI_eq, iI_lt, iI_le, Int.cast_ofNat_Int, c_0, c_1, Int.natCast_add, Int.add_zero, cond_true, cond_false, Bool.and_self, Bool.and_true, Bool.true_and, Option.bind_some, if_pos, if_neg, decide_true, uI_hit, uI_miss, uI_o, ite_true, ite_false, eq_self, true_or, or_true, or_false, false_or, true_and, and_true, false_and, and_false, or_self, and_self, not_false_eq_true, not_true_eq_false, hr, r0, r1, tn_i, mq_get hA]) rfl, a_run_end]
  · intro he
    rw [he, a_run_step (st := stX11_catIn) (p2 := (100000, [some (.int (iI (-1)))], d, e)) (by
      show sX11_catIn_2 d e _ _ = _
      unfold sX11_catIn_2
      simp (disch := omega) only [nI_iI, iI_0, iI_add, iI_sub, iI_mul, iI_neg, iI_cl, iI_inb, iI_eq, iI_lt, iI_le, Int.cast_ofNat_Int, c_0, c_1, Int.natCast_add, Int.add_zero, cond_true, cond_false, Bool.and_self, Bool.and_true, Bool.true_and, Option.bind_some, if_pos, if_neg, decide_true, uI_hit, uI_miss, uI_o, ite_true, ite_false, eq_self, true_or, or_true, or_false, false_or, true_and, and_true, false_and, and_false, or_self, and_self, not_false_eq_true, not_true_eq_false, hr, r0, r1, tn_i, mq_get hA]) rfl, a_run_end]
theorem cq_guest {d : aI} {e : aJ} {A : Int → Int} (hC : CN d 1 A) (hW : WN A) {h : Int} (hh : 0 ≤ h ∧ h < A 0) : FX2_guest d e (iI h) = some (iI (gst A h), d, e) := by
  have hw := hW
  have hc := hC
  obtain ⟨q8, q9, q10, q11, q12, q3, q4, q5, q6, q7, qh, qt, qb⟩ := hC
  have k8 : d 2 8 = iI (A 0) := q8
  have k9 : d 2 9 = iI (A 1) := q9
  have k10 : d 2 10 = iI (A 11) := q10
  have k11 : d 2 11 = iI (A 9) := q11
  have k12 : d 2 12 = iI (A 10) := q12
  have k3 : ∀ j : Nat, (j : Int) < A 0 → d 3 j = iI (A (42 + j)) := q3
  have k4 : ∀ j : Nat, (j : Int) < A 0 → d 4 j = iI (A (30 + 2 * j)) := q4
  have k5 : ∀ j : Nat, (j : Int) < A 0 → d 5 j = iI (A (30 + 2 * j + 1)) := q5
  have k6 : ∀ j : Nat, (j : Int) < A 1 → d 6 j = iI (A (54 + j)) := q6
  have k7 : ∀ j : Nat, (j : Int) < A 1 → d 7 j = iI (A (12 + 3 * j)) := q7
  have kh : ∀ j : Nat, (j : Int) < A 1 → d 8 j = iI (A (12 + 3 * j + 1)) := qh
  have kt : ∀ j : Nat, (j : Int) < A 1 → d 9 j = iI (A (12 + 3 * j + 2)) := qt
  have kb : ∀ j : Nat, (j : Int) < A 11 → d 10 j = iI (A (1936 + j)) := qb
  obtain ⟨w0, w1, w9, w10, w11, wc, wh, wb⟩ := hW
  unfold FX2_guest gst
  rw [a_run_step (st := stX2_guest) (p := (0, [some (.ref 2), some (.int (iI h)), none], d, e)) (p2 := (2, [some (.ref 2), some (.int (iI h)), some (.int (iI (0 : Nat)))], d, e)) rfl rfl]
  rw [run_fnd (st := stX2_guest) (R := some ([some (.int (iI (fnd (fun c => A (12 + 3 * c + 1) = h) (A 1).toNat)))], d, e)) (fun k => (2, [some (.ref 2), some (.int (iI h)), some (.int (iI (k : Nat)))], d, e)) (fun c => A (12 + 3 * c + 1) = h) (A 1).toNat (fun _ => rfl) ?_ ?_ ?_]
  · rfl
  · intro k hk hn
    have g := (wc k (by omega) (by omega)).2.1
    show sX2_guest_2 d e _ _ = _
    unfold sX2_guest_2
    simp (disch := omega) only [nI_iI, iI_0, iI_add, iI_sub, iI_mul, iI_neg, iI_cl, iI_inb, iI_eq, iI_lt, iI_le, Int.cast_ofNat_Int, c_0, c_1, Int.natCast_add, Int.add_zero, cond_true, cond_false, Bool.and_self, Bool.and_true, Bool.true_and, Option.bind_some, if_pos, if_neg, decide_true, uI_hit, uI_miss, uI_o, ite_true, ite_false, eq_self, true_or, or_true, or_false, false_or, true_and, and_true, false_and, and_false, or_self, and_self, not_false_eq_true, not_true_eq_false, tn_i, k8, k9, k10, k11, k12, k3, k4, k5, k6, k7, kh, kt, kb, cq_isHouse_y hc hw, iI_y]
  · intro k hk hy he
    have g := (wc k (by omega) (by omega)).2.1
    rw [he, a_run_step (st := stX2_guest) (p2 := (100000, [some (.int (iI (k : Nat)))], d, e)) (by
      show sX2_guest_2 d e _ _ = _
      unfold sX2_guest_2
      simp (disch := omega) only [nI_iI, iI_0, iI_add, iI_sub, iI_mul, iI_neg, iI_cl, iI_inb, iI_eq, iI_lt, iI_le, Int.cast_ofNat_Int, c_0, c_1, Int.natCast_add, Int.add_zero, cond_true, cond_false, Bool.and_self, Bool.and_true, Bool.true_and, Option.bind_some, if_pos, if_neg, decide_true, uI_hit, uI_miss, uI_o, ite_true, ite_false, eq_self, true_or, or_true, or_false, false_or, true_and, and_true, false_and, and_false, or_self, and_self, not_false_eq_true, not_true_eq_false, tn_i, k8, k9, k10, k11, k12, k3, k4, k5, k6, k7, kh, kt, kb, cq_isHouse_y hc hw, iI_y]) rfl, a_run_end]
  · intro he
    rw [he, a_run_step (st := stX2_guest) (p2 := (100000, [some (.int (iI (-1)))], d, e)) (by
      show sX2_guest_2 d e _ _ = _
      unfold sX2_guest_2
      simp (disch := omega) only [nI_iI, iI_0, iI_add, iI_sub, iI_mul, iI_neg, iI_cl, iI_inb, iI_eq, iI_lt, iI_le, Int.cast_ofNat_Int, c_0, c_1, Int.natCast_add, Int.add_zero, cond_true, cond_false, Bool.and_self, Bool.and_true, Bool.true_and, Option.bind_some, if_pos, if_neg, decide_true, uI_hit, uI_miss, uI_o, ite_true, ite_false, eq_self, true_or, or_true, or_false, false_or, true_and, and_true, false_and, and_false, or_self, and_self, not_false_eq_true, not_true_eq_false, tn_i, k8, k9, k10, k11, k12, k3, k4, k5, k6, k7, kh, kt, kb, cq_isHouse_y hc hw, iI_y]) rfl, a_run_end]
theorem cq_guest_n {d : aI} {e : aJ} {A : Int → Int} (hC : CN d 1 A) (hW : WN A) {h : Int} (hh : (h < 0 ∨ A 0 ≤ h) ∧ -2147483648 ≤ h ∧ h < 2147483648) : FX2_guest d e (iI h) = some (iI (-1), d, e) := by
  have hw := hW
  have hc := hC
  obtain ⟨q8, q9, q10, q11, q12, q3, q4, q5, q6, q7, qh, qt, qb⟩ := hC
  have k8 : d 2 8 = iI (A 0) := q8
  have k9 : d 2 9 = iI (A 1) := q9
  have k10 : d 2 10 = iI (A 11) := q10
  have k11 : d 2 11 = iI (A 9) := q11
  have k12 : d 2 12 = iI (A 10) := q12
  have k3 : ∀ j : Nat, (j : Int) < A 0 → d 3 j = iI (A (42 + j)) := q3
  have k4 : ∀ j : Nat, (j : Int) < A 0 → d 4 j = iI (A (30 + 2 * j)) := q4
  have k5 : ∀ j : Nat, (j : Int) < A 0 → d 5 j = iI (A (30 + 2 * j + 1)) := q5
  have k6 : ∀ j : Nat, (j : Int) < A 1 → d 6 j = iI (A (54 + j)) := q6
  have k7 : ∀ j : Nat, (j : Int) < A 1 → d 7 j = iI (A (12 + 3 * j)) := q7
  have kh : ∀ j : Nat, (j : Int) < A 1 → d 8 j = iI (A (12 + 3 * j + 1)) := qh
  have kt : ∀ j : Nat, (j : Int) < A 1 → d 9 j = iI (A (12 + 3 * j + 2)) := qt
  have kb : ∀ j : Nat, (j : Int) < A 11 → d 10 j = iI (A (1936 + j)) := qb
  obtain ⟨w0, w1, w9, w10, w11, wc, wh, wb⟩ := hW
  unfold FX2_guest
  rw [a_run_step (st := stX2_guest) (p := (0, [some (.ref 2), some (.int (iI h)), none], d, e)) (p2 := (2, [some (.ref 2), some (.int (iI h)), some (.int (iI (0 : Nat)))], d, e)) rfl rfl]
  rw [a_run_step (st := stX2_guest) (p2 := (100000, [some (.int (iI (-1)))], d, e)) (by
    show sX2_guest_2 d e _ _ = _
    unfold sX2_guest_2
    by_cases h1 : A 1 ≤ 0
    · simp (disch := omega) only [nI_iI, iI_0, iI_add, iI_sub, iI_mul, iI_neg, iI_cl, iI_inb, iI_eq, iI_lt, iI_le, Int.cast_ofNat_Int, c_0, c_1, Int.natCast_add, Int.add_zero, cond_true, cond_false, Bool.and_self, Bool.and_true, Bool.true_and, Option.bind_some, if_pos, if_neg, decide_true, uI_hit, uI_miss, uI_o, ite_true, ite_false, eq_self, true_or, or_true, or_false, false_or, true_and, and_true, false_and, and_false, or_self, and_self, not_false_eq_true, not_true_eq_false, tn_i, k8, k9, k10, k11, k12, k3, k4, k5, k6, k7, kh, kt, kb]
    · simp (disch := omega) only [nI_iI, iI_0, iI_add, iI_sub, iI_mul, iI_neg, iI_cl, iI_inb, iI_eq, iI_lt, iI_le, Int.cast_ofNat_Int, c_0, c_1, Int.natCast_add, Int.add_zero, cond_true, cond_false, Bool.and_self, Bool.and_true, Bool.true_and, Option.bind_some, if_pos, if_neg, decide_true, uI_hit, uI_miss, uI_o, ite_true, ite_false, eq_self, true_or, or_true, or_false, false_or, true_and, and_true, false_and, and_false, or_self, and_self, not_false_eq_true, not_true_eq_false, tn_i, k8, k9, k10, k11, k12, k3, k4, k5, k6, k7, kh, kt, kb, cq_isHouse_n hc hw]) rfl, a_run_end]
  rfl
