/-! ===== houses, places, the book ===== -/
def ofhS (A : Int → Int) (h w : Int) : Int := if 0 ≤ h ∧ h < A 0 then (if w = 0 then A (42 + h) else if w = 1 then A (30 + 2 * h) else if w = 2 then gst A h else if w = 3 then A (30 + 2 * h + 1) else -2) else -2
theorem cq_ofHouse {d : aI} {e : aJ} {A : Int → Int} (hC : CN d 1 A) (hW : WN A) {h w : Int} (hi : -2147483648 ≤ w ∧ w < 2147483648) (hj : -2147483648 ≤ h ∧ h < 2147483648) : FX10_ofHouse d e (iI h) (iI w) = some (iI (ofhS A h w), d, e) := by
  have hw := hW
  have hcc := hC
  obtain ⟨q8, q9, q10, q11, q12, q3, q4, q5, q6, q7, qh, qt, qb⟩ := hC
  have k8 : d 2 8 = iI (A 0) := q8
  have k9 : d 2 9 = iI (A 1) := q9
  have k10 : d 2 10 = iI (A 11) := q10
  have k11 : d 2 11 = iI (A 9) := q11
  have k12 : d 2 12 = iI (A 10) := q12
  have k3 : ∀ j : Nat, (j : Int) < A 0 → d 3 j = iI (A (42 + j)) := q3
  have k4 : ∀ j : Nat, (j : Int) < A 0 → d 4 j = iI (A (30 + 2 * j)) := q4
  have k5 : ∀ j : Nat, (j : Int) < A 0 → d 5 j = iI (A (30 + 2 * j + 1)) := q5
  have k6 : ∀ j : Nat, (j : Int) < A 1 → d 6 j = iI (A (54 + j)) := q6
  have k7 : ∀ j : Nat, (j : Int) < A 1 → d 7 j = iI (A (12 + 3 * j)) := q7
  have kh : ∀ j : Nat, (j : Int) < A 1 → d 8 j = iI (A (12 + 3 * j + 1)) := qh
  have kt : ∀ j : Nat, (j : Int) < A 1 → d 9 j = iI (A (12 + 3 * j + 2)) := qt
  have kb : ∀ j : Nat, (j : Int) < A 11 → d 10 j = iI (A (1936 + j)) := qb
  obtain ⟨w0, w1, w9, w10, w11, wc, wh, wb⟩ := hW
  unfold FX10_ofHouse ofhS
  by_cases hc : 0 ≤ h ∧ h < A 0
  · by_cases h0 : w = 0
    · simp (disch := omega) only [nI_iI, iI_0, iI_add, iI_sub, iI_mul, iI_neg, iI_cl, iI_inb, iI_eq, iI_lt, iI_le, Int.cast_ofNat_Int, c_0, c_1, Int.natCast_add, Int.add_zero, cond_true, cond_false, Bool.and_self, Bool.and_true, Bool.true_and, Option.bind_some, if_pos, if_neg, decide_true, uI_hit, uI_miss, uI_o, ite_true, ite_false, eq_self, true_or, or_true, or_false, false_or, true_and, and_true, false_and, and_false, or_self, and_self, not_false_eq_true, not_true_eq_false, tn_i, k8, k9, k10, k11, k12, k3, k4, k5, k6, k7, kh, kt, kb, cq_isHouse_y hcc hw, iI_y]
    · by_cases h1 : w = 1
      · simp (disch := omega) only [nI_iI, iI_0, iI_add, iI_sub, iI_mul, iI_neg, iI_cl, iI_inb, iI_eq, iI_lt, iI_le, Int.cast_ofNat_Int, c_0, c_1, Int.natCast_add, Int.add_zero, cond_true, cond_false, Bool.and_self, Bool.and_true, Bool.true_and, Option.bind_some, if_pos, if_neg, decide_true, uI_hit, uI_miss, uI_o, ite_true, ite_false, eq_self, true_or, or_true, or_false, false_or, true_and, and_true, false_and, and_false, or_self, and_self, not_false_eq_true, not_true_eq_false, tn_i, k8, k9, k10, k11, k12, k3, k4, k5, k6, k7, kh, kt, kb, cq_isHouse_y hcc hw, iI_y]
      · by_cases h2 : w = 2
        · simp (disch := omega) only [nI_iI, iI_0, iI_add, iI_sub, iI_mul, iI_neg, iI_cl, iI_inb, iI_eq, iI_lt, iI_le, Int.cast_ofNat_Int, c_0, c_1, Int.natCast_add, Int.add_zero, cond_true, cond_false, Bool.and_self, Bool.and_true, Bool.true_and, Option.bind_some, if_pos, if_neg, decide_true, uI_hit, uI_miss, uI_o, ite_true, ite_false, eq_self, true_or, or_true, or_false, false_or, true_and, and_true, false_and, and_false, or_self, and_self, not_false_eq_true, not_true_eq_false, tn_i, k8, k9, k10, k11, k12, k3, k4, k5, k6, k7, kh, kt, kb, cq_isHouse_y hcc hw, iI_y, cq_guest hcc hw]
        · by_cases h3 : w = 3
          · simp (disch := omega) only [nI_iI, iI_0, iI_add, iI_sub, iI_mul, iI_neg, iI_cl, iI_inb, iI_eq, iI_lt, iI_le, Int.cast_ofNat_Int, c_0, c_1, Int.natCast_add, Int.add_zero, cond_true, cond_false, Bool.and_self, Bool.and_true, Bool.true_and, Option.bind_some, if_pos, if_neg, decide_true, uI_hit, uI_miss, uI_o, ite_true, ite_false, eq_self, true_or, or_true, or_false, false_or, true_and, and_true, false_and, and_false, or_self, and_self, not_false_eq_true, not_true_eq_false, tn_i, k8, k9, k10, k11, k12, k3, k4, k5, k6, k7, kh, kt, kb, cq_isHouse_y hcc hw, iI_y]
          · simp (disch := omega) only [nI_iI, iI_0, iI_add, iI_sub, iI_mul, iI_neg, iI_cl, iI_inb, iI_eq, iI_lt, iI_le, Int.cast_ofNat_Int, c_0, c_1, Int.natCast_add, Int.add_zero, cond_true, cond_false, Bool.and_self, Bool.and_true, Bool.true_and, Option.bind_some, if_pos, if_neg, decide_true, uI_hit, uI_miss, uI_o, ite_true, ite_false, eq_self, true_or, or_true, or_false, false_or, true_and, and_true, false_and, and_false, or_self, and_self, not_false_eq_true, not_true_eq_false, tn_i, k8, k9, k10, k11, k12, k3, k4, k5, k6, k7, kh, kt, kb, cq_isHouse_y hcc hw, iI_y]
  · simp (disch := omega) only [nI_iI, iI_0, iI_add, iI_sub, iI_mul, iI_neg, iI_cl, iI_inb, iI_eq, iI_lt, iI_le, Int.cast_ofNat_Int, c_0, c_1, Int.natCast_add, Int.add_zero, cond_true, cond_false, Bool.and_self, Bool.and_true, Bool.true_and, Option.bind_some, if_pos, if_neg, decide_true, uI_hit, uI_miss, uI_o, ite_true, ite_false, eq_self, true_or, or_true, or_false, false_or, true_and, and_true, false_and, and_false, or_self, and_self, not_false_eq_true, not_true_eq_false, tn_i, k8, k9, k10, k11, k12, k3, k4, k5, k6, k7, kh, kt, kb, cq_isHouse_n hcc hw, iI_y]
theorem mq_ofHouse {d : aI} {e : aJ} {A : Int → Int} (hA : MA d 109 A) (hW : WN A) {h w : Int} (hi : -2147483648 ≤ w ∧ w < 2147483648) (hj : -2147483648 ≤ h ∧ h < 2147483648) : FX11_ofHouse d e (iI h) (iI w) = some (iI (ofhS A h w), d, e) := by
  have hw := hW
  have hr : ∀ j : Nat, j < 1961 → d 109 j = iI (A j) := hA
  have r0 : d 109 0 = iI (A 0) := hr 0 (by omega)
  have r1 : d 109 1 = iI (A 1) := hr 1 (by omega)
  obtain ⟨w0, w1, w9, w10, w11, wc, wh, wb⟩ := hW
  unfold FX11_ofHouse ofhS
  by_cases hc : 0 ≤ h ∧ h < A 0
  · by_cases h0 : w = 0
    · simp (disch := omega) only [nI_iI, iI_0, iI_add, iI_sub, iI_mul, iI_neg, iI_cl, iI_inb, iI_eq, iI_lt, iI_le, Int.cast_ofNat_Int, c_0, c_1, Int.natCast_add, Int.add_zero, cond_true, cond_false, Bool.and_self, Bool.and_true, Bool.true_and, Option.bind_some, if_pos, if_neg, decide_true, uI_hit, uI_miss, uI_o, ite_true, ite_false, eq_self, true_or, or_true, or_false, false_or, true_and, and_true, false_and, and_false, or_self, and_self, not_false_eq_true, not_true_eq_false, hr, r0, r1, tn_i, mq_isHouse_y hA hw, iI_y]
    · by_cases h1 : w = 1
      · simp (disch := omega) only [nI_iI, iI_0, iI_add, iI_sub, iI_mul, iI_neg, iI_cl, iI_inb, iI_eq, iI_lt, iI_le, Int.cast_ofNat_Int, c_0, c_1, Int.natCast_add, Int.add_zero, cond_true, cond_false, Bool.and_self, Bool.and_true, Bool.true_and, Option.bind_some, if_pos, if_neg, decide_true, uI_hit, uI_miss, uI_o, ite_true, ite_false, eq_self, true_or, or_true, or_false, false_or, true_and, and_true, false_and, and_false, or_self, and_self, not_false_eq_true, not_true_eq_false, hr, r0, r1, tn_i, mq_isHouse_y hA hw, iI_y, mq_getOf hA]
      · by_cases h2 : w = 2
        · simp (disch := omega) only [nI_iI, iI_0, iI_add, iI_sub, iI_mul, iI_neg, iI_cl, iI_inb, iI_eq, iI_lt, iI_le, Int.cast_ofNat_Int, c_0, c_1, Int.natCast_add, Int.add_zero, cond_true, cond_false, Bool.and_self, Bool.and_true, Bool.true_and, Option.bind_some, if_pos, if_neg, decide_true, uI_hit, uI_miss, uI_o, ite_true, ite_false, eq_self, true_or, or_true, or_false, false_or, true_and, and_true, false_and, and_false, or_self, and_self, not_false_eq_true, not_true_eq_false, hr, r0, r1, tn_i, mq_isHouse_y hA hw, iI_y, mq_catIn hA hw]
        · by_cases h3 : w = 3
          · simp (disch := omega) only [nI_iI, iI_0, iI_add, iI_sub, iI_mul, iI_neg, iI_cl, iI_inb, iI_eq, iI_lt, iI_le, Int.cast_ofNat_Int, c_0, c_1, Int.natCast_add, Int.add_zero, cond_true, cond_false, Bool.and_self, Bool.and_true, Bool.true_and, Option.bind_some, if_pos, if_neg, decide_true, uI_hit, uI_miss, uI_o, ite_true, ite_false, eq_self, true_or, or_true, or_false, false_or, true_and, and_true, false_and, and_false, or_self, and_self, not_false_eq_true, not_true_eq_false, hr, r0, r1, tn_i, mq_isHouse_y hA hw, iI_y, mq_getOf hA]
          · simp (disch := omega) only [nI_iI, iI_0, iI_add, iI_sub, iI_mul, iI_neg, iI_cl, iI_inb, iI_eq, iI_lt, iI_le, Int.cast_ofNat_Int, c_0, c_1, Int.natCast_add, Int.add_zero, cond_true, cond_false, Bool.and_self, Bool.and_true, Bool.true_and, Option.bind_some, if_pos, if_neg, decide_true, uI_hit, uI_miss, uI_o, ite_true, ite_false, eq_self, true_or, or_true, or_false, false_or, true_and, and_true, false_and, and_false, or_self, and_self, not_false_eq_true, not_true_eq_false, hr, r0, r1, tn_i, mq_isHouse_y hA hw, iI_y]
  · simp (disch := omega) only [nI_iI, iI_0, iI_add, iI_sub, iI_mul, iI_neg, iI_cl, iI_inb, iI_eq, iI_lt, iI_le, Int.cast_ofNat_Int, c_0, c_1, Int.natCast_add, Int.add_zero, cond_true, cond_false, Bool.and_self, Bool.and_true, Bool.true_and, Option.bind_some, if_pos, if_neg, decide_true, uI_hit, uI_miss, uI_o, ite_true, ite_false, eq_self, true_or, or_true, or_false, false_or, true_and, and_true, false_and, and_false, or_self, and_self, not_false_eq_true, not_true_eq_false, hr, r0, r1, tn_i, mq_isHouse_n hA hw, iI_y]
def farAS (A : Int → Int) (c h : Int) : Int := if (0 ≤ c ∧ c < A 1) ∧ (0 ≤ h ∧ h < A 0) then farS A c h else -1
theorem cq_far {d : aI} {e : aJ} {A : Int → Int} (hC : CN d 1 A) (hW : WN A) {c h : Int} (hi : -2147483648 ≤ c ∧ c < 2147483648) (hj : -2147483648 ≤ h ∧ h < 2147483648) : FX10_far d e (iI c) (iI h) = some (iI (farAS A c h), d, e) := by
  have hw := hW
  have hcc := hC
  obtain ⟨q8, q9, q10, q11, q12, q3, q4, q5, q6, q7, qh, qt, qb⟩ := hC
  have k8 : d 2 8 = iI (A 0) := q8
  have k9 : d 2 9 = iI (A 1) := q9
  have k10 : d 2 10 = iI (A 11) := q10
  have k11 : d 2 11 = iI (A 9) := q11
  have k12 : d 2 12 = iI (A 10) := q12
  have k3 : ∀ j : Nat, (j : Int) < A 0 → d 3 j = iI (A (42 + j)) := q3
  have k4 : ∀ j : Nat, (j : Int) < A 0 → d 4 j = iI (A (30 + 2 * j)) := q4
  have k5 : ∀ j : Nat, (j : Int) < A 0 → d 5 j = iI (A (30 + 2 * j + 1)) := q5
  have k6 : ∀ j : Nat, (j : Int) < A 1 → d 6 j = iI (A (54 + j)) := q6
  have k7 : ∀ j : Nat, (j : Int) < A 1 → d 7 j = iI (A (12 + 3 * j)) := q7
  have kh : ∀ j : Nat, (j : Int) < A 1 → d 8 j = iI (A (12 + 3 * j + 1)) := qh
  have kt : ∀ j : Nat, (j : Int) < A 1 → d 9 j = iI (A (12 + 3 * j + 2)) := qt
  have kb : ∀ j : Nat, (j : Int) < A 11 → d 10 j = iI (A (1936 + j)) := qb
  obtain ⟨w0, w1, w9, w10, w11, wc, wh, wb⟩ := hW
  unfold FX10_far farAS
  by_cases h1 : 0 ≤ c ∧ c < A 1
  · by_cases h2 : 0 ≤ h ∧ h < A 0
    · simp (disch := omega) only [nI_iI, iI_0, iI_add, iI_sub, iI_mul, iI_neg, iI_cl, iI_inb, iI_eq, iI_lt, iI_le, Int.cast_ofNat_Int, c_0, c_1, Int.natCast_add, Int.add_zero, cond_true, cond_false, Bool.and_self, Bool.and_true, Bool.true_and, Option.bind_some, if_pos, if_neg, decide_true, uI_hit, uI_miss, uI_o, ite_true, ite_false, eq_self, true_or, or_true, or_false, false_or, true_and, and_true, false_and, and_false, or_self, and_self, not_false_eq_true, not_true_eq_false, tn_i, k8, k9, k10, k11, k12, k3, k4, k5, k6, k7, kh, kt, kb, cq_isHouse_y hcc hw, cq_isCat_y hcc hw, iI_y, cq_away hcc hw]
    · simp (disch := omega) only [nI_iI, iI_0, iI_add, iI_sub, iI_mul, iI_neg, iI_cl, iI_inb, iI_eq, iI_lt, iI_le, Int.cast_ofNat_Int, c_0, c_1, Int.natCast_add, Int.add_zero, cond_true, cond_false, Bool.and_self, Bool.and_true, Bool.true_and, Option.bind_some, if_pos, if_neg, decide_true, uI_hit, uI_miss, uI_o, ite_true, ite_false, eq_self, true_or, or_true, or_false, false_or, true_and, and_true, false_and, and_false, or_self, and_self, not_false_eq_true, not_true_eq_false, tn_i, k8, k9, k10, k11, k12, k3, k4, k5, k6, k7, kh, kt, kb, cq_isHouse_n hcc hw, cq_isCat_y hcc hw, iI_y]
  · simp (disch := omega) only [nI_iI, iI_0, iI_add, iI_sub, iI_mul, iI_neg, iI_cl, iI_inb, iI_eq, iI_lt, iI_le, Int.cast_ofNat_Int, c_0, c_1, Int.natCast_add, Int.add_zero, cond_true, cond_false, Bool.and_self, Bool.and_true, Bool.true_and, Option.bind_some, if_pos, if_neg, decide_true, uI_hit, uI_miss, uI_o, ite_true, ite_false, eq_self, true_or, or_true, or_false, false_or, true_and, and_true, false_and, and_false, or_self, and_self, not_false_eq_true, not_true_eq_false, tn_i, k8, k9, k10, k11, k12, k3, k4, k5, k6, k7, kh, kt, kb, cq_isCat_n hcc hw]
theorem mq_far {d : aI} {e : aJ} {A : Int → Int} (hA : MA d 109 A) (hW : WN A) {c h : Int} (hi : -2147483648 ≤ c ∧ c < 2147483648) (hj : -2147483648 ≤ h ∧ h < 2147483648) : FX11_far d e (iI c) (iI h) = some (iI (farAS A c h), d, e) := by
  have hw := hW
  have hr : ∀ j : Nat, j < 1961 → d 109 j = iI (A j) := hA
  have r0 : d 109 0 = iI (A 0) := hr 0 (by omega)
  have r1 : d 109 1 = iI (A 1) := hr 1 (by omega)
  obtain ⟨w0, w1, w9, w10, w11, wc, wh, wb⟩ := hW
  unfold FX11_far farAS
  by_cases h1 : 0 ≤ c ∧ c < A 1
  · by_cases h2 : 0 ≤ h ∧ h < A 0
    · simp (disch := omega) only [nI_iI, iI_0, iI_add, iI_sub, iI_mul, iI_neg, iI_cl, iI_inb, iI_eq, iI_lt, iI_le, Int.cast_ofNat_Int, c_0, c_1, Int.natCast_add, Int.add_zero, cond_true, cond_false, Bool.and_self, Bool.and_true, Bool.true_and, Option.bind_some, if_pos, if_neg, decide_true, uI_hit, uI_miss, uI_o, ite_true, ite_false, eq_self, true_or, or_true, or_false, false_or, true_and, and_true, false_and, and_false, or_self, and_self, not_false_eq_true, not_true_eq_false, hr, r0, r1, tn_i, mq_isHouse_y hA hw, mq_isCat_y hA hw, iI_y, mq_farOf hA hw]
    · simp (disch := omega) only [nI_iI, iI_0, iI_add, iI_sub, iI_mul, iI_neg, iI_cl, iI_inb, iI_eq, iI_lt, iI_le, Int.cast_ofNat_Int, c_0, c_1, Int.natCast_add, Int.add_zero, cond_true, cond_false, Bool.and_self, Bool.and_true, Bool.true_and, Option.bind_some, if_pos, if_neg, decide_true, uI_hit, uI_miss, uI_o, ite_true, ite_false, eq_self, true_or, or_true, or_false, false_or, true_and, and_true, false_and, and_false, or_self, and_self, not_false_eq_true, not_true_eq_false, hr, r0, r1, tn_i, mq_isHouse_n hA hw, mq_isCat_y hA hw, iI_y]
  · simp (disch := omega) only [nI_iI, iI_0, iI_add, iI_sub, iI_mul, iI_neg, iI_cl, iI_inb, iI_eq, iI_lt, iI_le, Int.cast_ofNat_Int, c_0, c_1, Int.natCast_add, Int.add_zero, cond_true, cond_false, Bool.and_self, Bool.and_true, Bool.true_and, Option.bind_some, if_pos, if_neg, decide_true, uI_hit, uI_miss, uI_o, ite_true, ite_false, eq_self, true_or, or_true, or_false, false_or, true_and, and_true, false_and, and_false, or_self, and_self, not_false_eq_true, not_true_eq_false, hr, r0, r1, tn_i, mq_isCat_n hA hw]
def atAS (A : Int → Int) (p : Int) : Int32 := if 0 ≤ p ∧ p ≤ 9 then atS A p else iI (-1)
theorem cq_at {d : aI} {e : aJ} {A : Int → Int} (hC : CN d 1 A) (hW : WN A) {p : Int} (hi : -2147483648 ≤ p ∧ p < 2147483648) : FX10_at d e (iI p) = some (atAS A p, d, e) := by
  unfold FX10_at atAS
  by_cases h1 : 0 ≤ p ∧ p ≤ 9
  · simp (disch := omega) only [nI_iI, iI_0, iI_add, iI_sub, iI_mul, iI_neg, iI_cl, iI_inb, iI_eq, iI_lt, iI_le, Int.cast_ofNat_Int, c_0, c_1, Int.natCast_add, Int.add_zero, cond_true, cond_false, Bool.and_self, Bool.and_true, Bool.true_and, Option.bind_some, if_pos, if_neg, decide_true, uI_hit, uI_miss, uI_o, ite_true, ite_false, eq_self, true_or, or_true, or_false, false_or, true_and, and_true, false_and, and_false, or_self, and_self, not_false_eq_true, not_true_eq_false, tn_i, cq_in_y, iI_y, cq_catsAt hC hW]
  · simp (disch := omega) only [nI_iI, iI_0, iI_add, iI_sub, iI_mul, iI_neg, iI_cl, iI_inb, iI_eq, iI_lt, iI_le, Int.cast_ofNat_Int, c_0, c_1, Int.natCast_add, Int.add_zero, cond_true, cond_false, Bool.and_self, Bool.and_true, Bool.true_and, Option.bind_some, if_pos, if_neg, decide_true, uI_hit, uI_miss, uI_o, ite_true, ite_false, eq_self, true_or, or_true, or_false, false_or, true_and, and_true, false_and, and_false, or_self, and_self, not_false_eq_true, not_true_eq_false, tn_i, cq_in_n]
theorem mq_atA {d : aI} {e : aJ} {A : Int → Int} (hA : MA d 109 A) (hW : WN A) {p : Int} (hi : -2147483648 ≤ p ∧ p < 2147483648) : FX11_at d e (iI p) = some (atAS A p, d, e) := by
  unfold atAS
  by_cases h1 : 0 ≤ p ∧ p ≤ 9
  · rw [if_pos h1]
    exact mq_at hA hW h1
  · rw [if_neg h1]
    unfold FX11_at
    rw [a_run_step (st := stX11_at) (p := (0, [some (.ref 108), some (.int (iI p)), none, none], d, e)) (p2 := (100000, [some (.int (iI (-1)))], d, e)) (by
      show sX11_at_0 d e _ = _
      unfold sX11_at_0
      simp (disch := omega) only [nI_iI, iI_0, iI_add, iI_sub, iI_mul, iI_neg, iI_cl, iI_inb, iI_eq, iI_lt, iI_le, Int.cast_ofNat_Int, c_0, c_1, Int.natCast_add, Int.add_zero, cond_true, cond_false, Bool.and_self, Bool.and_true, Bool.true_and, Option.bind_some, if_pos, if_neg, decide_true, uI_hit, uI_miss, uI_o, ite_true, ite_false, eq_self, true_or, or_true, or_false, false_or, true_and, and_true, false_and, and_false, or_self, and_self, not_false_eq_true, not_true_eq_false, tn_i, mq_isPlace_n]) rfl, a_run_end]
    rfl
def gapF (A : Int → Int) (k : Nat) (s : Int × Int) : Int × Int := (if s.1 < (if atS A (k % 10 : Int) = iI 0 then s.2 + 1 else 0) then (if atS A (k % 10 : Int) = iI 0 then s.2 + 1 else 0) else s.1, if atS A (k % 10 : Int) = iI 0 then s.2 + 1 else 0)
theorem gapF_in {A : Int → Int} (k : Nat) : 0 ≤ (itr (gapF A) k (0, 0)).1 ∧ (itr (gapF A) k (0, 0)).1 ≤ k ∧ 0 ≤ (itr (gapF A) k (0, 0)).2 ∧ (itr (gapF A) k (0, 0)).2 ≤ k := by
  induction k with
  | zero => exact ⟨Int.le_refl _, Int.le_refl _, Int.le_refl _, Int.le_refl _⟩
  | succ k ih =>
    have e : itr (gapF A) (k + 1) (0, 0) = gapF A k (itr (gapF A) k (0, 0)) := rfl
    rw [e]
    generalize itr (gapF A) k (0, 0) = s at ih
    unfold gapF
    by_cases h1 : atS A (k % 10 : Int) = iI 0
    · simp only [if_pos h1]
      by_cases h2 : s.1 < s.2 + 1
      · simp only [if_pos h2]; omega
      · simp only [if_neg h2]; omega
    · simp only [if_neg h1]
      by_cases h2 : s.1 < 0
      · simp only [if_pos h2]; omega
      · simp only [if_neg h2]; omega
def gapS (A : Int → Int) : Int := if (itr (gapF A) 20 (0, 0)).1 ≤ 10 then (itr (gapF A) 20 (0, 0)).1 else 10
theorem cq_gap {d : aI} {e : aJ} {A : Int → Int} (hC : CN d 1 A) (hW : WN A) : FX10_gap d e = some (iI (gapS A), d, e) := by
  have hin := gapF_in (A := A) 20
  unfold FX10_gap gapS
  rw [a_run_step (st := stX10_gap) (p := (0, [some (.ref 0), none, none, none], d, e)) (p2 := (6, [some (.ref 0), some (.int (iI 0)), some (.int (iI 0)), some (.int (iI (0 : Nat)))], d, e)) rfl rfl]
  rw [run_fold (st := stX10_gap) (fun k s => (6, [some (.ref 0), some (.int (iI s.1)), some (.int (iI s.2)), some (.int (iI (k : Nat)))], d, e)) (gapF A) 20 (0, 0) (fun _ _ => rfl) ?_]
  · generalize itr (gapF A) 20 (0, 0) = s at hin
    rw [a_run_step (st := stX10_gap) (p2 := (100000, [some (.int (iI (if s.1 ≤ 10 then s.1 else 10)))], d, e)) (by
      show sX10_gap_6 d e _ _ _ = _
      unfold sX10_gap_6
      simp (disch := omega) only [nI_iI, iI_0, iI_add, iI_sub, iI_mul, iI_neg, iI_cl, iI_inb, iI_eq, iI_lt, iI_le, Int.cast_ofNat_Int, c_0, c_1, Int.natCast_add, Int.add_zero, cond_true, cond_false, Bool.and_self, Bool.and_true, Bool.true_and, Option.bind_some, if_pos, if_neg, decide_true, uI_hit, uI_miss, uI_o, ite_true, ite_false, eq_self, true_or, or_true, or_false, false_or, true_and, and_true, false_and, and_false, or_self, and_self, not_false_eq_true, not_true_eq_false, tn_i, iI_min]) rfl, a_run_end]
    rfl
  · intro k hk
    have hin := gapF_in (A := A) k
    generalize itr (gapF A) k (0, 0) = s at hin
    show sX10_gap_6 d e _ _ _ = _
    unfold sX10_gap_6
    unfold gapF
    by_cases h1 : atS A (k % 10 : Int) = iI 0
    · simp (disch := omega) only [nI_iI, iI_0, iI_add, iI_sub, iI_mul, iI_neg, iI_cl, iI_inb, iI_eq, iI_lt, iI_le, Int.cast_ofNat_Int, c_0, c_1, Int.natCast_add, Int.add_zero, cond_true, cond_false, Bool.and_self, Bool.and_true, Bool.true_and, Option.bind_some, if_pos, if_neg, decide_true, uI_hit, uI_miss, uI_o, ite_true, ite_false, eq_self, true_or, or_true, or_false, false_or, true_and, and_true, false_and, and_false, or_self, and_self, not_false_eq_true, not_true_eq_false, tn_i, cq_catsAt hC hW, iI_rem, decide_eq_true, iI_max, h1]
    · simp (disch := omega) only [nI_iI, iI_0, iI_add, iI_sub, iI_mul, iI_neg, iI_cl, iI_inb, iI_eq, iI_lt, iI_le, Int.cast_ofNat_Int, c_0, c_1, Int.natCast_add, Int.add_zero, cond_true, cond_false, Bool.and_self, Bool.and_true, Bool.true_and, Option.bind_some, if_pos, if_neg, decide_true, uI_hit, uI_miss, uI_o, ite_true, ite_false, eq_self, true_or, or_true, or_false, false_or, true_and, and_true, false_and, and_false, or_self, and_self, not_false_eq_true, not_true_eq_false, tn_i, cq_catsAt hC hW, iI_rem, decide_eq_true, iI_max]
theorem mq_gap {d : aI} {e : aJ} {A : Int → Int} (hA : MA d 109 A) (hW : WN A) : FX11_gap d e = some (iI (gapS A), d, e) := by
  have hin := gapF_in (A := A) 20
  unfold FX11_gap gapS
  rw [a_run_step (st := stX11_gap) (p := (0, [some (.ref 108), none, none, none], d, e)) (p2 := (6, [some (.ref 108), some (.int (iI 0)), some (.int (iI 0)), some (.int (iI (0 : Nat)))], d, e)) rfl rfl]
  rw [run_fold (st := stX11_gap) (fun k s => (6, [some (.ref 108), some (.int (iI s.1)), some (.int (iI s.2)), some (.int (iI (k : Nat)))], d, e)) (gapF A) 20 (0, 0) (fun _ _ => rfl) ?_]
  · generalize itr (gapF A) 20 (0, 0) = s at hin
    rw [a_run_step (st := stX11_gap) (p2 := (100000, [some (.int (iI (if s.1 ≤ 10 then s.1 else 10)))], d, e)) (by
      show sX11_gap_6 d e _ _ _ = _
      unfold sX11_gap_6
      by_cases h1 : s.1 ≤ 10
      · simp (disch := omega) only [nI_iI, iI_0, iI_add, iI_sub, iI_mul, iI_neg, iI_cl, iI_inb, iI_eq, iI_lt, iI_le, Int.cast_ofNat_Int, c_0, c_1, Int.natCast_add, Int.add_zero, cond_true, cond_false, Bool.and_self, Bool.and_true, Bool.true_and, Option.bind_some, if_pos, if_neg, decide_true, uI_hit, uI_miss, uI_o, ite_true, ite_false, eq_self, true_or, or_true, or_false, false_or, true_and, and_true, false_and, and_false, or_self, and_self, not_false_eq_true, not_true_eq_false, tn_i]
      · simp (disch := omega) only [nI_iI, iI_0, iI_add, iI_sub, iI_mul, iI_neg, iI_cl, iI_inb, iI_eq, iI_lt, iI_le, Int.cast_ofNat_Int, c_0, c_1, Int.natCast_add, Int.add_zero, cond_true, cond_false, Bool.and_self, Bool.and_true, Bool.true_and, Option.bind_some, if_pos, if_neg, decide_true, uI_hit, uI_miss, uI_o, ite_true, ite_false, eq_self, true_or, or_true, or_false, false_or, true_and, and_true, false_and, and_false, or_self, and_self, not_false_eq_true, not_true_eq_false, tn_i]) rfl, a_run_end]
    rfl
  · intro k hk
    have hin := gapF_in (A := A) k
    generalize itr (gapF A) k (0, 0) = s at hin
    show sX11_gap_6 d e _ _ _ = _
    unfold sX11_gap_6
    unfold gapF
    by_cases h1 : atS A (k % 10 : Int) = iI 0
    · by_cases h2 : s.1 < s.2 + 1
      · simp (disch := omega) only [nI_iI, iI_0, iI_add, iI_sub, iI_mul, iI_neg, iI_cl, iI_inb, iI_eq, iI_lt, iI_le, Int.cast_ofNat_Int, c_0, c_1, Int.natCast_add, Int.add_zero, cond_true, cond_false, Bool.and_self, Bool.and_true, Bool.true_and, Option.bind_some, if_pos, if_neg, decide_true, uI_hit, uI_miss, uI_o, ite_true, ite_false, eq_self, true_or, or_true, or_false, false_or, true_and, and_true, false_and, and_false, or_self, and_self, not_false_eq_true, not_true_eq_false, tn_i, mq_at hA hW, iI_rem, decide_eq_true, h1]
      · simp (disch := omega) only [nI_iI, iI_0, iI_add, iI_sub, iI_mul, iI_neg, iI_cl, iI_inb, iI_eq, iI_lt, iI_le, Int.cast_ofNat_Int, c_0, c_1, Int.natCast_add, Int.add_zero, cond_true, cond_false, Bool.and_self, Bool.and_true, Bool.true_and, Option.bind_some, if_pos, if_neg, decide_true, uI_hit, uI_miss, uI_o, ite_true, ite_false, eq_self, true_or, or_true, or_false, false_or, true_and, and_true, false_and, and_false, or_self, and_self, not_false_eq_true, not_true_eq_false, tn_i, mq_at hA hW, iI_rem, decide_eq_true, h1]
    · simp (disch := omega) only [nI_iI, iI_0, iI_add, iI_sub, iI_mul, iI_neg, iI_cl, iI_inb, iI_eq, iI_lt, iI_le, Int.cast_ofNat_Int, c_0, c_1, Int.natCast_add, Int.add_zero, cond_true, cond_false, Bool.and_self, Bool.and_true, Bool.true_and, Option.bind_some, if_pos, if_neg, decide_true, uI_hit, uI_miss, uI_o, ite_true, ite_false, eq_self, true_or, or_true, or_false, false_or, true_and, and_true, false_and, and_false, or_self, and_self, not_false_eq_true, not_true_eq_false, tn_i, mq_at hA hW, iI_rem, decide_eq_true]
