/-! ===== questions about the night ===== -/
theorem iI_m1 : -(iI 1) = iI (-1) := iI_neg 1
def dreamF (A : Int → Int) (k : Nat) (s : Int32) : Int32 := if A (30 + 2 * k) = 0 then s ||| a_shl (iI 1) (iI k) else s ||| iI 0
theorem mq_dreamless {d : aI} {e : aJ} {A : Int → Int} (hA : MA d 109 A) (hW : WN A) : FX11_dreamless d e = some (itr (dreamF A) (A 0).toNat (iI 0), d, e) := by
  have hr : ∀ j : Nat, j < 1961 → d 109 j = iI (A j) := hA
  have r0 : d 109 0 = iI (A 0) := hr 0 (by omega)
  have r1 : d 109 1 = iI (A 1) := hr 1 (by omega)
  obtain ⟨w0, w1, w9, w10, w11, wc, wh, wb⟩ := hW
  unfold FX11_dreamless
  rw [a_run_step (st := stX11_dreamless) (p := (0, [some (.ref 108), none, none], d, e)) (p2 := (4, [some (.ref 108), some (.int (iI 0)), some (.int (iI (0 : Nat)))], d, e)) rfl rfl]
  rw [run_fold (st := stX11_dreamless) (fun k s => (4, [some (.ref 108), some (.int s), some (.int (iI (k : Nat)))], d, e)) (dreamF A) (A 0).toNat (iI 0) (fun _ _ => rfl) ?_]
  · rw [a_run_step (st := stX11_dreamless) (p2 := (100000, [some (.int (itr (dreamF A) (A 0).toNat (iI 0)))], d, e)) (by
      show sX11_dreamless_4 d e _ _ = _
      unfold sX11_dreamless_4
      simp (disch := omega) only [nI_iI, iI_0, iI_add, iI_sub, iI_mul, iI_neg, iI_cl, iI_inb, iI_eq, iI_lt, iI_le, Int.cast_ofNat_Int, c_0, c_1, Int.natCast_add, Int.add_zero, cond_true, cond_false, Bool.and_self, Bool.and_true, Bool.true_and, Option.bind_some, if_pos, if_neg, decide_true, uI_hit, uI_miss, uI_o, ite_true, ite_false, eq_self, true_or, or_true, or_false, false_or, true_and, and_true, false_and, and_false, or_self, and_self, not_false_eq_true, not_true_eq_false, hr, r0, r1, tn_i]) rfl, a_run_end]
    rfl
  · intro k hk
    generalize itr (dreamF A) k (iI 0) = s
    have g := (wh k (by omega) (by omega)).1
    show sX11_dreamless_4 d e _ _ = _
    unfold sX11_dreamless_4
    unfold dreamF
    by_cases h : A (30 + 2 * k) = 0
    · simp (disch := omega) only [nI_iI, iI_0, iI_add, iI_sub, iI_mul, iI_neg, iI_cl, iI_inb, iI_eq, iI_lt, iI_le, Int.cast_ofNat_Int, c_0, c_1, Int.natCast_add, Int.add_zero, cond_true, cond_false, Bool.and_self, Bool.and_true, Bool.true_and, Option.bind_some, if_pos, if_neg, decide_true, uI_hit, uI_miss, uI_o, ite_true, ite_false, eq_self, true_or, or_true, or_false, false_or, true_and, and_true, false_and, and_false, or_self, and_self, not_false_eq_true, not_true_eq_false, hr, r0, r1, tn_i, mq_getOf hA]
    · simp (disch := omega) only [nI_iI, iI_0, iI_add, iI_sub, iI_mul, iI_neg, iI_cl, iI_inb, iI_eq, iI_lt, iI_le, Int.cast_ofNat_Int, c_0, c_1, Int.natCast_add, Int.add_zero, cond_true, cond_false, Bool.and_self, Bool.and_true, Bool.true_and, Option.bind_some, if_pos, if_neg, decide_true, uI_hit, uI_miss, uI_o, ite_true, ite_false, eq_self, true_or, or_true, or_false, false_or, true_and, and_true, false_and, and_false, or_self, and_self, not_false_eq_true, not_true_eq_false, hr, r0, r1, tn_i, mq_getOf hA]
theorem cq_dreamless {d : aI} {e : aJ} {A : Int → Int} (hC : CN d 1 A) (hW : WN A) : FX10_dreamless d e = some (itr (dreamF A) (A 0).toNat (iI 0), d, e) := by
  obtain ⟨q8, q9, q10, q11, q12, q3, q4, q5, q6, q7, qh, qt, qb⟩ := hC
  have k8 : d 2 8 = iI (A 0) := q8
  have k9 : d 2 9 = iI (A 1) := q9
  have k10 : d 2 10 = iI (A 11) := q10
  have k11 : d 2 11 = iI (A 9) := q11
  have k12 : d 2 12 = iI (A 10) := q12
  have k3 : ∀ j : Nat, (j : Int) < A 0 → d 3 j = iI (A (42 + j)) := q3
  have k4 : ∀ j : Nat, (j : Int) < A 0 → d 4 j = iI (A (30 + 2 * j)) := q4
  have k5 : ∀ j : Nat, (j : Int) < A 0 → d 5 j = iI (A (30 + 2 * j + 1)) := q5
  have k6 : ∀ j : Nat, (j : Int) < A 1 → d 6 j = iI (A (54 + j)) := q6
  have k7 : ∀ j : Nat, (j : Int) < A 1 → d 7 j = iI (A (12 + 3 * j)) := q7
  have kh : ∀ j : Nat, (j : Int) < A 1 → d 8 j = iI (A (12 + 3 * j + 1)) := qh
  have kt : ∀ j : Nat, (j : Int) < A 1 → d 9 j = iI (A (12 + 3 * j + 2)) := qt
  have kb : ∀ j : Nat, (j : Int) < A 11 → d 10 j = iI (A (1936 + j)) := qb
  obtain ⟨w0, w1, w9, w10, w11, wc, wh, wb⟩ := hW
  unfold FX10_dreamless
  rw [a_run_step (st := stX10_dreamless) (p := (0, [some (.ref 0), none, none], d, e)) (p2 := (4, [some (.ref 0), some (.int (iI 0)), some (.int (iI (0 : Nat)))], d, e)) rfl rfl]
  rw [run_fold (st := stX10_dreamless) (fun k s => (4, [some (.ref 0), some (.int s), some (.int (iI (k : Nat)))], d, e)) (dreamF A) (A 0).toNat (iI 0) (fun _ _ => rfl) ?_]
  · rw [a_run_step (st := stX10_dreamless) (p2 := (100000, [some (.int (itr (dreamF A) (A 0).toNat (iI 0)))], d, e)) (by
      show sX10_dreamless_4 d e _ _ = _
      unfold sX10_dreamless_4
      simp (disch := omega) only [nI_iI, iI_0, iI_add, iI_sub, iI_mul, iI_neg, iI_cl, iI_inb, iI_eq, iI_lt, iI_le, Int.cast_ofNat_Int, c_0, c_1, Int.natCast_add, Int.add_zero, cond_true, cond_false, Bool.and_self, Bool.and_true, Bool.true_and, Option.bind_some, if_pos, if_neg, decide_true, uI_hit, uI_miss, uI_o, ite_true, ite_false, eq_self, true_or, or_true, or_false, false_or, true_and, and_true, false_and, and_false, or_self, and_self, not_false_eq_true, not_true_eq_false, tn_i, k8, k9, k10, k11, k12, k3, k4, k5, k6, k7, kh, kt, kb]) rfl, a_run_end]
    rfl
  · intro k hk
    generalize itr (dreamF A) k (iI 0) = s
    have g := (wh k (by omega) (by omega)).1
    show sX10_dreamless_4 d e _ _ = _
    unfold sX10_dreamless_4
    unfold dreamF
    by_cases h : A (30 + 2 * k) = 0
    · simp (disch := omega) only [nI_iI, iI_0, iI_add, iI_sub, iI_mul, iI_neg, iI_cl, iI_inb, iI_eq, iI_lt, iI_le, Int.cast_ofNat_Int, c_0, c_1, Int.natCast_add, Int.add_zero, cond_true, cond_false, Bool.and_self, Bool.and_true, Bool.true_and, Option.bind_some, if_pos, if_neg, decide_true, uI_hit, uI_miss, uI_o, ite_true, ite_false, eq_self, true_or, or_true, or_false, false_or, true_and, and_true, false_and, and_false, or_self, and_self, not_false_eq_true, not_true_eq_false, tn_i, k8, k9, k10, k11, k12, k3, k4, k5, k6, k7, kh, kt, kb]
    · simp (disch := omega) only [nI_iI, iI_0, iI_add, iI_sub, iI_mul, iI_neg, iI_cl, iI_inb, iI_eq, iI_lt, iI_le, Int.cast_ofNat_Int, c_0, c_1, Int.natCast_add, Int.add_zero, cond_true, cond_false, Bool.and_self, Bool.and_true, Bool.true_and, Option.bind_some, if_pos, if_neg, decide_true, uI_hit, uI_miss, uI_o, ite_true, ite_false, eq_self, true_or, or_true, or_false, false_or, true_and, and_true, false_and, and_false, or_self, and_self, not_false_eq_true, not_true_eq_false, tn_i, k8, k9, k10, k11, k12, k3, k4, k5, k6, k7, kh, kt, kb]
theorem cq_coldest {d : aI} {e : aJ} {A : Int → Int} (hC : CN d 1 A) (hW : WN A) : FX10_coldest d e = some (iI (itr (coldF A) (A 1).toNat (-1)), d, e) := by
  obtain ⟨q8, q9, q10, q11, q12, q3, q4, q5, q6, q7, qh, qt, qb⟩ := hC
  have k8 : d 2 8 = iI (A 0) := q8
  have k9 : d 2 9 = iI (A 1) := q9
  have k10 : d 2 10 = iI (A 11) := q10
  have k11 : d 2 11 = iI (A 9) := q11
  have k12 : d 2 12 = iI (A 10) := q12
  have k3 : ∀ j : Nat, (j : Int) < A 0 → d 3 j = iI (A (42 + j)) := q3
  have k4 : ∀ j : Nat, (j : Int) < A 0 → d 4 j = iI (A (30 + 2 * j)) := q4
  have k5 : ∀ j : Nat, (j : Int) < A 0 → d 5 j = iI (A (30 + 2 * j + 1)) := q5
  have k6 : ∀ j : Nat, (j : Int) < A 1 → d 6 j = iI (A (54 + j)) := q6
  have k7 : ∀ j : Nat, (j : Int) < A 1 → d 7 j = iI (A (12 + 3 * j)) := q7
  have kh : ∀ j : Nat, (j : Int) < A 1 → d 8 j = iI (A (12 + 3 * j + 1)) := qh
  have kt : ∀ j : Nat, (j : Int) < A 1 → d 9 j = iI (A (12 + 3 * j + 2)) := qt
  have kb : ∀ j : Nat, (j : Int) < A 11 → d 10 j = iI (A (1936 + j)) := qb
  obtain ⟨w0, w1, w9, w10, w11, wc, wh, wb⟩ := hW
  have hin := coldF_in (A := A) (A 1).toNat
  unfold FX10_coldest
  rw [a_run_step (st := stX10_coldest) (p := (0, [some (.ref 0), none, none], d, e)) (p2 := (4, [some (.ref 0), some (.int (iI (-1))), some (.int (iI (0 : Nat)))], d, e)) rfl rfl]
  rw [run_fold (st := stX10_coldest) (fun k s => (4, [some (.ref 0), some (.int (iI s)), some (.int (iI (k : Nat)))], d, e)) (coldF A) (A 1).toNat (-1) (fun _ _ => rfl) ?_]
  · rw [a_run_step (st := stX10_coldest) (p2 := (100000, [some (.int (iI (itr (coldF A) (A 1).toNat (-1))))], d, e)) (by
      show sX10_coldest_4 d e _ _ = _
      unfold sX10_coldest_4
      simp (disch := omega) only [nI_iI, iI_0, iI_add, iI_sub, iI_mul, iI_neg, iI_cl, iI_inb, iI_eq, iI_lt, iI_le, Int.cast_ofNat_Int, c_0, c_1, Int.natCast_add, Int.add_zero, cond_true, cond_false, Bool.and_self, Bool.and_true, Bool.true_and, Option.bind_some, if_pos, if_neg, decide_true, uI_hit, uI_miss, uI_o, ite_true, ite_false, eq_self, true_or, or_true, or_false, false_or, true_and, and_true, false_and, and_false, or_self, and_self, not_false_eq_true, not_true_eq_false, tn_i, k8, k9, k10, k11, k12, k3, k4, k5, k6, k7, kh, kt, kb]) rfl, a_run_end]
    rfl
  · intro k hk
    have hin := coldF_in (A := A) k
    generalize itr (coldF A) k (-1) = f at hin
    have hk1 := (wc k (by omega) (by omega)).2.2.2.1
    show sX10_coldest_4 d e _ _ = _
    unfold sX10_coldest_4
    unfold coldF
    by_cases h1 : f = -1
    · subst h1
      simp (disch := omega) only [nI_iI, iI_0, iI_add, iI_sub, iI_mul, iI_neg, iI_cl, iI_inb, iI_eq, iI_lt, iI_le, Int.cast_ofNat_Int, c_0, c_1, Int.natCast_add, Int.add_zero, cond_true, cond_false, Bool.and_self, Bool.and_true, Bool.true_and, Option.bind_some, if_pos, if_neg, decide_true, uI_hit, uI_miss, uI_o, ite_true, ite_false, eq_self, true_or, or_true, or_false, false_or, true_and, and_true, false_and, and_false, or_self, and_self, not_false_eq_true, not_true_eq_false, tn_i, k8, k9, k10, k11, k12, k3, k4, k5, k6, k7, kh, kt, kb]
    · have hf1 := (wc f (by omega) (by omega)).2.2.2.1
      by_cases h2 : A (54 + f) < A (54 + k)
      · simp (disch := omega) only [nI_iI, iI_0, iI_add, iI_sub, iI_mul, iI_neg, iI_cl, iI_inb, iI_eq, iI_lt, iI_le, Int.cast_ofNat_Int, c_0, c_1, Int.natCast_add, Int.add_zero, cond_true, cond_false, Bool.and_self, Bool.and_true, Bool.true_and, Option.bind_some, if_pos, if_neg, decide_true, uI_hit, uI_miss, uI_o, ite_true, ite_false, eq_self, true_or, or_true, or_false, false_or, true_and, and_true, false_and, and_false, or_self, and_self, not_false_eq_true, not_true_eq_false, tn_i, k8, k9, k10, k11, k12, k3, k4, k5, k6, k7, kh, kt, kb]
      · simp (disch := omega) only [nI_iI, iI_0, iI_add, iI_sub, iI_mul, iI_neg, iI_cl, iI_inb, iI_eq, iI_lt, iI_le, Int.cast_ofNat_Int, c_0, c_1, Int.natCast_add, Int.add_zero, cond_true, cond_false, Bool.and_self, Bool.and_true, Bool.true_and, Option.bind_some, if_pos, if_neg, decide_true, uI_hit, uI_miss, uI_o, ite_true, ite_false, eq_self, true_or, or_true, or_false, false_or, true_and, and_true, false_and, and_false, or_self, and_self, not_false_eq_true, not_true_eq_false, tn_i, k8, k9, k10, k11, k12, k3, k4, k5, k6, k7, kh, kt, kb]
def freeF (A : Int → Int) (k : Nat) (s : Int32) : Int32 := if gst A k = -1 then s ||| a_shl (iI 1) (iI k) else s ||| iI 0
theorem mq_free {d : aI} {e : aJ} {A : Int → Int} (hA : MA d 109 A) (hW : WN A) : FX11_free d e = some (itr (freeF A) (A 0).toNat (iI 0), d, e) := by
  have hw := hW
  have hr : ∀ j : Nat, j < 1961 → d 109 j = iI (A j) := hA
  have r0 : d 109 0 = iI (A 0) := hr 0 (by omega)
  have r1 : d 109 1 = iI (A 1) := hr 1 (by omega)
  obtain ⟨w0, w1, w9, w10, w11, wc, wh, wb⟩ := hW
  unfold FX11_free
  rw [a_run_step (st := stX11_free) (p := (0, [some (.ref 108), none, none], d, e)) (p2 := (4, [some (.ref 108), some (.int (iI 0)), some (.int (iI (0 : Nat)))], d, e)) rfl rfl]
  rw [run_fold (st := stX11_free) (fun k s => (4, [some (.ref 108), some (.int s), some (.int (iI (k : Nat)))], d, e)) (freeF A) (A 0).toNat (iI 0) (fun _ _ => rfl) ?_]
  · rw [a_run_step (st := stX11_free) (p2 := (100000, [some (.int (itr (freeF A) (A 0).toNat (iI 0)))], d, e)) (by
      show sX11_free_4 d e _ _ = _
      unfold sX11_free_4
      simp (disch := omega) only [nI_iI, iI_0, iI_add, iI_sub, iI_mul, iI_neg, iI_cl, iI_inb, iI_eq, iI_lt, iI_le, Int.cast_ofNat_Int, c_0, c_1, Int.natCast_add, Int.add_zero, cond_true, cond_false, Bool.and_self, Bool.and_true, Bool.true_and, Option.bind_some, if_pos, if_neg, decide_true, uI_hit, uI_miss, uI_o, ite_true, ite_false, eq_self, true_or, or_true, or_false, false_or, true_and, and_true, false_and, and_false, or_self, and_self, not_false_eq_true, not_true_eq_false, hr, r0, r1, tn_i]) rfl, a_run_end]
    rfl
  · intro k hk
    generalize itr (freeF A) k (iI 0) = s
    have g := gst_in hw k
    show sX11_free_4 d e _ _ = _
    unfold sX11_free_4
    unfold freeF
    by_cases h : gst A k = -1
    · simp (disch := omega) only [nI_iI, iI_0, iI_add, iI_sub, iI_mul, iI_neg, iI_cl, iI_inb, iI_eq, iI_lt, iI_le, Int.cast_ofNat_Int, c_0, c_1, Int.natCast_add, Int.add_zero, cond_true, cond_false, Bool.and_self, Bool.and_true, Bool.true_and, Option.bind_some, if_pos, if_neg, decide_true, uI_hit, uI_miss, uI_o, ite_true, ite_false, eq_self, true_or, or_true, or_false, false_or, true_and, and_true, false_and, and_false, or_self, and_self, not_false_eq_true, not_true_eq_false, hr, r0, r1, tn_i, mq_catIn hA hw]
    · simp (disch := omega) only [nI_iI, iI_0, iI_add, iI_sub, iI_mul, iI_neg, iI_cl, iI_inb, iI_eq, iI_lt, iI_le, Int.cast_ofNat_Int, c_0, c_1, Int.natCast_add, Int.add_zero, cond_true, cond_false, Bool.and_self, Bool.and_true, Bool.true_and, Option.bind_some, if_pos, if_neg, decide_true, uI_hit, uI_miss, uI_o, ite_true, ite_false, eq_self, true_or, or_true, or_false, false_or, true_and, and_true, false_and, and_false, or_self, and_self, not_false_eq_true, not_true_eq_false, hr, r0, r1, tn_i, mq_catIn hA hw]
theorem cq_free {d : aI} {e : aJ} {A : Int → Int} (hC : CN d 1 A) (hW : WN A) : FX10_free d e = some (itr (freeF A) (A 0).toNat (iI 0), d, e) := by
  have hw := hW
  have hc := hC
  obtain ⟨q8, q9, q10, q11, q12, q3, q4, q5, q6, q7, qh, qt, qb⟩ := hC
  have k8 : d 2 8 = iI (A 0) := q8
  have k9 : d 2 9 = iI (A 1) := q9
  have k10 : d 2 10 = iI (A 11) := q10
  have k11 : d 2 11 = iI (A 9) := q11
  have k12 : d 2 12 = iI (A 10) := q12
  have k3 : ∀ j : Nat, (j : Int) < A 0 → d 3 j = iI (A (42 + j)) := q3
  have k4 : ∀ j : Nat, (j : Int) < A 0 → d 4 j = iI (A (30 + 2 * j)) := q4
  have k5 : ∀ j : Nat, (j : Int) < A 0 → d 5 j = iI (A (30 + 2 * j + 1)) := q5
  have k6 : ∀ j : Nat, (j : Int) < A 1 → d 6 j = iI (A (54 + j)) := q6
  have k7 : ∀ j : Nat, (j : Int) < A 1 → d 7 j = iI (A (12 + 3 * j)) := q7
  have kh : ∀ j : Nat, (j : Int) < A 1 → d 8 j = iI (A (12 + 3 * j + 1)) := qh
  have kt : ∀ j : Nat, (j : Int) < A 1 → d 9 j = iI (A (12 + 3 * j + 2)) := qt
  have kb : ∀ j : Nat, (j : Int) < A 11 → d 10 j = iI (A (1936 + j)) := qb
  obtain ⟨w0, w1, w9, w10, w11, wc, wh, wb⟩ := hW
  unfold FX10_free
  rw [a_run_step (st := stX10_free) (p := (0, [some (.ref 0), none, none], d, e)) (p2 := (4, [some (.ref 0), some (.int (iI 0)), some (.int (iI (0 : Nat)))], d, e)) rfl rfl]
  rw [run_fold (st := stX10_free) (fun k s => (4, [some (.ref 0), some (.int s), some (.int (iI (k : Nat)))], d, e)) (freeF A) (A 0).toNat (iI 0) (fun _ _ => rfl) ?_]
  · rw [a_run_step (st := stX10_free) (p2 := (100000, [some (.int (itr (freeF A) (A 0).toNat (iI 0)))], d, e)) (by
      show sX10_free_4 d e _ _ = _
      unfold sX10_free_4
      simp (disch := omega) only [nI_iI, iI_0, iI_add, iI_sub, iI_mul, iI_neg, iI_cl, iI_inb, iI_eq, iI_lt, iI_le, Int.cast_ofNat_Int, c_0, c_1, Int.natCast_add, Int.add_zero, cond_true, cond_false, Bool.and_self, Bool.and_true, Bool.true_and, Option.bind_some, if_pos, if_neg, decide_true, uI_hit, uI_miss, uI_o, ite_true, ite_false, eq_self, true_or, or_true, or_false, false_or, true_and, and_true, false_and, and_false, or_self, and_self, not_false_eq_true, not_true_eq_false, tn_i, k8, k9, k10, k11, k12, k3, k4, k5, k6, k7, kh, kt, kb]) rfl, a_run_end]
    rfl
  · intro k hk
    generalize itr (freeF A) k (iI 0) = s
    have g := gst_in hw k
    show sX10_free_4 d e _ _ = _
    unfold sX10_free_4
    unfold freeF
    by_cases h : gst A k = -1
    · simp (disch := omega) only [nI_iI, iI_0, iI_add, iI_sub, iI_mul, iI_neg, iI_cl, iI_inb, iI_eq, iI_lt, iI_le, Int.cast_ofNat_Int, c_0, c_1, Int.natCast_add, Int.add_zero, cond_true, cond_false, Bool.and_self, Bool.and_true, Bool.true_and, Option.bind_some, if_pos, if_neg, decide_true, uI_hit, uI_miss, uI_o, ite_true, ite_false, eq_self, true_or, or_true, or_false, false_or, true_and, and_true, false_and, and_false, or_self, and_self, not_false_eq_true, not_true_eq_false, tn_i, k8, k9, k10, k11, k12, k3, k4, k5, k6, k7, kh, kt, kb, cq_guest hc hw]
    · simp (disch := omega) only [nI_iI, iI_0, iI_add, iI_sub, iI_mul, iI_neg, iI_cl, iI_inb, iI_eq, iI_lt, iI_le, Int.cast_ofNat_Int, c_0, c_1, Int.natCast_add, Int.add_zero, cond_true, cond_false, Bool.and_self, Bool.and_true, Bool.true_and, Option.bind_some, if_pos, if_neg, decide_true, uI_hit, uI_miss, uI_o, ite_true, ite_false, eq_self, true_or, or_true, or_false, false_or, true_and, and_true, false_and, and_false, or_self, and_self, not_false_eq_true, not_true_eq_false, tn_i, k8, k9, k10, k11, k12, k3, k4, k5, k6, k7, kh, kt, kb, cq_guest hc hw]
def atF (A : Int → Int) (p : Int) (k : Nat) (s : Int32) : Int32 := if A (12 + 3 * k + 1) = -1 ∧ A (12 + 3 * k) = p then s ||| a_shl (iI 1) (iI k) else s ||| iI 0
def atS (A : Int → Int) (p : Int) : Int32 := itr (atF A p) (A 1).toNat (iI 0)
theorem cq_catsAt {d : aI} {e : aJ} {A : Int → Int} (hC : CN d 1 A) (hW : WN A) {p : Int} (hp : 0 ≤ p ∧ p ≤ 9) : FX2_catsAt d e (iI p) = some (atS A p, d, e) := by
  obtain ⟨q8, q9, q10, q11, q12, q3, q4, q5, q6, q7, qh, qt, qb⟩ := hC
  have k8 : d 2 8 = iI (A 0) := q8
  have k9 : d 2 9 = iI (A 1) := q9
  have k10 : d 2 10 = iI (A 11) := q10
  have k11 : d 2 11 = iI (A 9) := q11
  have k12 : d 2 12 = iI (A 10) := q12
  have k3 : ∀ j : Nat, (j : Int) < A 0 → d 3 j = iI (A (42 + j)) := q3
  have k4 : ∀ j : Nat, (j : Int) < A 0 → d 4 j = iI (A (30 + 2 * j)) := q4
  have k5 : ∀ j : Nat, (j : Int) < A 0 → d 5 j = iI (A (30 + 2 * j + 1)) := q5
  have k6 : ∀ j : Nat, (j : Int) < A 1 → d 6 j = iI (A (54 + j)) := q6
  have k7 : ∀ j : Nat, (j : Int) < A 1 → d 7 j = iI (A (12 + 3 * j)) := q7
  have kh : ∀ j : Nat, (j : Int) < A 1 → d 8 j = iI (A (12 + 3 * j + 1)) := qh
  have kt : ∀ j : Nat, (j : Int) < A 1 → d 9 j = iI (A (12 + 3 * j + 2)) := qt
  have kb : ∀ j : Nat, (j : Int) < A 11 → d 10 j = iI (A (1936 + j)) := qb
  obtain ⟨w0, w1, w9, w10, w11, wc, wh, wb⟩ := hW
  unfold FX2_catsAt atS
  rw [a_run_step (st := stX2_catsAt) (p := (0, [some (.ref 2), some (.int (iI p)), none, none], d, e)) (p2 := (4, [some (.ref 2), some (.int (iI p)), some (.int (iI 0)), some (.int (iI (0 : Nat)))], d, e)) rfl rfl]
  rw [run_fold (st := stX2_catsAt) (fun k s => (4, [some (.ref 2), some (.int (iI p)), some (.int s), some (.int (iI (k : Nat)))], d, e)) (atF A p) (A 1).toNat (iI 0) (fun _ _ => rfl) ?_]
  · rw [a_run_step (st := stX2_catsAt) (p2 := (100000, [some (.int (itr (atF A p) (A 1).toNat (iI 0)))], d, e)) (by
      show sX2_catsAt_4 d e _ _ _ = _
      unfold sX2_catsAt_4
      simp (disch := omega) only [nI_iI, iI_0, iI_add, iI_sub, iI_mul, iI_neg, iI_cl, iI_inb, iI_eq, iI_lt, iI_le, Int.cast_ofNat_Int, c_0, c_1, Int.natCast_add, Int.add_zero, cond_true, cond_false, Bool.and_self, Bool.and_true, Bool.true_and, Option.bind_some, if_pos, if_neg, decide_true, uI_hit, uI_miss, uI_o, ite_true, ite_false, eq_self, true_or, or_true, or_false, false_or, true_and, and_true, false_and, and_false, or_self, and_self, not_false_eq_true, not_true_eq_false, tn_i, k8, k9, k10, k11, k12, k3, k4, k5, k6, k7, kh, kt, kb]) rfl, a_run_end]
    rfl
  · intro k hk
    generalize itr (atF A p) k (iI 0) = s
    have g := wc k (by omega) (by omega)
    show sX2_catsAt_4 d e _ _ _ = _
    unfold sX2_catsAt_4
    unfold atF
    by_cases h : A (12 + 3 * k + 1) = -1
    · by_cases h2 : A (12 + 3 * k) = p
      · simp (disch := omega) only [nI_iI, iI_0, iI_add, iI_sub, iI_mul, iI_neg, iI_cl, iI_inb, iI_eq, iI_lt, iI_le, Int.cast_ofNat_Int, c_0, c_1, Int.natCast_add, Int.add_zero, cond_true, cond_false, Bool.and_self, Bool.and_true, Bool.true_and, Option.bind_some, if_pos, if_neg, decide_true, uI_hit, uI_miss, uI_o, ite_true, ite_false, eq_self, true_or, or_true, or_false, false_or, true_and, and_true, false_and, and_false, or_self, and_self, not_false_eq_true, not_true_eq_false, tn_i, k8, k9, k10, k11, k12, k3, k4, k5, k6, k7, kh, kt, kb, h]
      · simp (disch := omega) only [nI_iI, iI_0, iI_add, iI_sub, iI_mul, iI_neg, iI_cl, iI_inb, iI_eq, iI_lt, iI_le, Int.cast_ofNat_Int, c_0, c_1, Int.natCast_add, Int.add_zero, cond_true, cond_false, Bool.and_self, Bool.and_true, Bool.true_and, Option.bind_some, if_pos, if_neg, decide_true, uI_hit, uI_miss, uI_o, ite_true, ite_false, eq_self, true_or, or_true, or_false, false_or, true_and, and_true, false_and, and_false, or_self, and_self, not_false_eq_true, not_true_eq_false, tn_i, k8, k9, k10, k11, k12, k3, k4, k5, k6, k7, kh, kt, kb, h]
    · simp (disch := omega) only [nI_iI, iI_0, iI_add, iI_sub, iI_mul, iI_neg, iI_cl, iI_inb, iI_eq, iI_lt, iI_le, Int.cast_ofNat_Int, c_0, c_1, Int.natCast_add, Int.add_zero, cond_true, cond_false, Bool.and_self, Bool.and_true, Bool.true_and, Option.bind_some, if_pos, if_neg, decide_true, uI_hit, uI_miss, uI_o, ite_true, ite_false, eq_self, true_or, or_true, or_false, false_or, true_and, and_true, false_and, and_false, or_self, and_self, not_false_eq_true, not_true_eq_false, tn_i, k8, k9, k10, k11, k12, k3, k4, k5, k6, k7, kh, kt, kb]
theorem mq_at {d : aI} {e : aJ} {A : Int → Int} (hA : MA d 109 A) (hW : WN A) {p : Int} (hp : 0 ≤ p ∧ p ≤ 9) : FX11_at d e (iI p) = some (atS A p, d, e) := by
  have hw := hW
  have hr : ∀ j : Nat, j < 1961 → d 109 j = iI (A j) := hA
  have r0 : d 109 0 = iI (A 0) := hr 0 (by omega)
  have r1 : d 109 1 = iI (A 1) := hr 1 (by omega)
  obtain ⟨w0, w1, w9, w10, w11, wc, wh, wb⟩ := hW
  unfold FX11_at atS
  rw [a_run_step (st := stX11_at) (p := (0, [some (.ref 108), some (.int (iI p)), none, none], d, e)) (p2 := (13, [some (.ref 108), some (.int (iI p)), some (.int (iI 0)), some (.int (iI (0 : Nat)))], d, e)) (by
    show sX11_at_0 d e _ = _
    unfold sX11_at_0
    simp (disch := omega) only [nI_iI, iI_0, iI_add, iI_sub, iI_mul, iI_neg, iI_cl, iI_inb, iI_eq, iI_lt, iI_le, Int.cast_ofNat_Int, c_0, c_1, Int.natCast_add, Int.add_zero, cond_true, cond_false, Bool.and_self, Bool.and_true, Bool.true_and, Option.bind_some, if_pos, if_neg, decide_true, uI_hit, uI_miss, uI_o, ite_true, ite_false, eq_self, true_or, or_true, or_false, false_or, true_and, and_true, false_and, and_false, or_self, and_self, not_false_eq_true, not_true_eq_false, hr, r0, r1, tn_i, mq_isPlace_y]) rfl]
  rw [run_fold (st := stX11_at) (fun k s => (13, [some (.ref 108), some (.int (iI p)), some (.int s), some (.int (iI (k : Nat)))], d, e)) (atF A p) (A 1).toNat (iI 0) (fun _ _ => rfl) ?_]
  · rw [a_run_step (st := stX11_at) (p2 := (100000, [some (.int (itr (atF A p) (A 1).toNat (iI 0)))], d, e)) (by
      show sX11_at_13 d e _ _ _ = _
      unfold sX11_at_13
      simp (disch := omega) only [nI_iI, iI_0, iI_add, iI_sub, iI_mul, iI_neg, iI_cl, iI_inb, iI_eq, iI_lt, iI_le, Int.cast_ofNat_Int, c_0, c_1, Int.natCast_add, Int.add_zero, cond_true, cond_false, Bool.and_self, Bool.and_true, Bool.true_and, Option.bind_some, if_pos, if_neg, decide_true, uI_hit, uI_miss, uI_o, ite_true, ite_false, eq_self, true_or, or_true, or_false, false_or, true_and, and_true, false_and, and_false, or_self, and_self, not_false_eq_true, not_true_eq_false, hr, r0, r1, tn_i]) rfl, a_run_end]
    rfl
  · intro k hk
    generalize itr (atF A p) k (iI 0) = s
    have g := wc k (by omega) (by omega)
    show sX11_at_13 d e _ _ _ = _
    unfold sX11_at_13
    unfold atF
    by_cases h : A (12 + 3 * k + 1) = -1
    · by_cases h2 : A (12 + 3 * k) = p
      · simp (disch := omega) only [nI_iI, iI_0, iI_add, iI_sub, iI_mul, iI_neg, iI_cl, iI_inb, iI_eq, iI_lt, iI_le, Int.cast_ofNat_Int, c_0, c_1, Int.natCast_add, Int.add_zero, cond_true, cond_false, Bool.and_self, Bool.and_true, Bool.true_and, Option.bind_some, if_pos, if_neg, decide_true, uI_hit, uI_miss, uI_o, ite_true, ite_false, eq_self, true_or, or_true, or_false, false_or, true_and, and_true, false_and, and_false, or_self, and_self, not_false_eq_true, not_true_eq_false, hr, r0, r1, tn_i, mq_wo_y hA hw, mq_get hA, h]
      · simp (disch := omega) only [nI_iI, iI_0, iI_add, iI_sub, iI_mul, iI_neg, iI_cl, iI_inb, iI_eq, iI_lt, iI_le, Int.cast_ofNat_Int, c_0, c_1, Int.natCast_add, Int.add_zero, cond_true, cond_false, Bool.and_self, Bool.and_true, Bool.true_and, Option.bind_some, if_pos, if_neg, decide_true, uI_hit, uI_miss, uI_o, ite_true, ite_false, eq_self, true_or, or_true, or_false, false_or, true_and, and_true, false_and, and_false, or_self, and_self, not_false_eq_true, not_true_eq_false, hr, r0, r1, tn_i, mq_wo_y hA hw, mq_get hA, h]
    · simp (disch := omega) only [nI_iI, iI_0, iI_add, iI_sub, iI_mul, iI_neg, iI_cl, iI_inb, iI_eq, iI_lt, iI_le, Int.cast_ofNat_Int, c_0, c_1, Int.natCast_add, Int.add_zero, cond_true, cond_false, Bool.and_self, Bool.and_true, Bool.true_and, Option.bind_some, if_pos, if_neg, decide_true, uI_hit, uI_miss, uI_o, ite_true, ite_false, eq_self, true_or, or_true, or_false, false_or, true_and, and_true, false_and, and_false, or_self, and_self, not_false_eq_true, not_true_eq_false, hr, r0, r1, tn_i, mq_wo_n hA hw]
