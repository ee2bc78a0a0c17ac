/-! ===== more questions ===== -/
theorem run_inv {st : aP → Option aP} (I : Nat → aP → Prop) (n : Nat) {p0 : aP} (h0 : I 0 p0) (hp : ∀ k p, I k p → Nat.beq p.1 100000 = false) (hs : ∀ k p, k < n → I k p → ∃ p', st p = some p' ∧ I (k + 1) p') : ∃ p', I n p' ∧ a_run st p0 = a_run st p' := by
  have key : ∀ m, m ≤ n → ∃ p', I m p' ∧ a_run st p0 = a_run st p' := by
    intro m
    induction m with
    | zero => intro _; exact ⟨p0, h0, rfl⟩
    | succ m ih =>
      intro hm
      obtain ⟨p1, i1, e1⟩ := ih (by omega)
      obtain ⟨p2, e2, i2⟩ := hs m p1 (by omega) i1
      exact ⟨p2, i2, e1.trans (a_run_step e2 (hp _ _ i1))⟩
  exact key n (Nat.le_refl _)
def nearF (A : Int → Int) (c : Int) (k : Nat) (f : Int) : Int := if gst A k = -1 ∧ (f = -1 ∨ farS A c k < farS A c f) then (k : Int) else f
theorem nearF_in {A : Int → Int} {c : Int} (k : Nat) : -1 ≤ itr (nearF A c) k (-1) ∧ itr (nearF A c) k (-1) < k := by
  induction k with
  | zero => exact ⟨Int.le_refl _, by show (-1 : Int) < 0; decide⟩
  | succ k ih =>
    have e : itr (nearF A c) (k + 1) (-1) = if gst A k = -1 ∧ (itr (nearF A c) k (-1) = -1 ∨ farS A c k < farS A c (itr (nearF A c) k (-1))) then (k : Int) else itr (nearF A c) k (-1) := rfl
    rw [e]
    split <;> omega
theorem mq_nearest {d : aI} {e : aJ} {A : Int → Int} (hA : MA d 109 A) (hW : WN A) {c : Int} (hc : 0 ≤ c ∧ c < A 1) : FX11_nearest d e (iI c) = some (iI (itr (nearF A c) (A 0).toNat (-1)), d, e) := by
  have hw := hW
  have hr : ∀ j : Nat, j < 1961 → d 109 j = iI (A j) := hA
  have r0 : d 109 0 = iI (A 0) := hr 0 (by omega)
  have r1 : d 109 1 = iI (A 1) := hr 1 (by omega)
  obtain ⟨w0, w1, w9, w10, w11, wc, wh, wb⟩ := hW
  have hin := nearF_in (A := A) (c := c) (A 0).toNat
  unfold FX11_nearest
  rw [a_run_step (st := stX11_nearest) (p := (0, [some (.ref 108), some (.int (iI c)), none, none], d, e)) (p2 := (14, [some (.ref 108), some (.int (iI c)), some (.int (iI (-1))), some (.int (iI (0 : Nat)))], d, e)) (by
    show sX11_nearest_0 d e _ = _
    unfold sX11_nearest_0
    simp (disch := omega) only [nI_iI, iI_0, iI_add, iI_sub, iI_mul, iI_neg, iI_cl, iI_inb, iI_eq, iI_lt, iI_le, Int.cast_ofNat_Int, c_0, c_1, Int.natCast_add, Int.add_zero, cond_true, cond_false, Bool.and_self, Bool.and_true, Bool.true_and, Option.bind_some, if_pos, if_neg, decide_true, uI_hit, uI_miss, uI_o, ite_true, ite_false, eq_self, true_or, or_true, or_false, false_or, true_and, and_true, false_and, and_false, or_self, and_self, not_false_eq_true, not_true_eq_false, hr, r0, r1, tn_i, mq_isCat_y hA hw, iI_y]) rfl]
  rw [run_fold (st := stX11_nearest) (fun k s => (14, [some (.ref 108), some (.int (iI c)), some (.int (iI s)), some (.int (iI (k : Nat)))], d, e)) (nearF A c) (A 0).toNat (-1) (fun _ _ => rfl) ?_]
  · rw [a_run_step (st := stX11_nearest) (p2 := (100000, [some (.int (iI (itr (nearF A c) (A 0).toNat (-1))))], d, e)) (by
      show sX11_nearest_14 d e _ _ _ = _
      unfold sX11_nearest_14
      simp (disch := omega) only [nI_iI, iI_0, iI_add, iI_sub, iI_mul, iI_neg, iI_cl, iI_inb, iI_eq, iI_lt, iI_le, Int.cast_ofNat_Int, c_0, c_1, Int.natCast_add, Int.add_zero, cond_true, cond_false, Bool.and_self, Bool.and_true, Bool.true_and, Option.bind_some, if_pos, if_neg, decide_true, uI_hit, uI_miss, uI_o, ite_true, ite_false, eq_self, true_or, or_true, or_false, false_or, true_and, and_true, false_and, and_false, or_self, and_self, not_false_eq_true, not_true_eq_false, hr, r0, r1, tn_i]) rfl, a_run_end]
    rfl
  · intro k hk
    have hin := nearF_in (A := A) (c := c) k
    generalize itr (nearF A c) k (-1) = f at hin
    have g := gst_in hw k
    have f1 := farS_in hw (c := c) (h := k) (by omega)
    show sX11_nearest_14 d e _ _ _ = _
    unfold sX11_nearest_14
    unfold nearF
    by_cases h : gst A k = -1
    · by_cases h1 : f = -1
      · subst h1
        simp (disch := omega) only [nI_iI, iI_0, iI_add, iI_sub, iI_mul, iI_neg, iI_cl, iI_inb, iI_eq, iI_lt, iI_le, Int.cast_ofNat_Int, c_0, c_1, Int.natCast_add, Int.add_zero, cond_true, cond_false, Bool.and_self, Bool.and_true, Bool.true_and, Option.bind_some, if_pos, if_neg, decide_true, uI_hit, uI_miss, uI_o, ite_true, ite_false, eq_self, true_or, or_true, or_false, false_or, true_and, and_true, false_and, and_false, or_self, and_self, not_false_eq_true, not_true_eq_false, hr, r0, r1, tn_i, mq_catIn hA hw, h]
      · have f2 := farS_in hw (c := c) (h := f) (by omega)
        by_cases h2 : farS A c k < farS A c f
        · simp (disch := omega) only [nI_iI, iI_0, iI_add, iI_sub, iI_mul, iI_neg, iI_cl, iI_inb, iI_eq, iI_lt, iI_le, Int.cast_ofNat_Int, c_0, c_1, Int.natCast_add, Int.add_zero, cond_true, cond_false, Bool.and_self, Bool.and_true, Bool.true_and, Option.bind_some, if_pos, if_neg, decide_true, uI_hit, uI_miss, uI_o, ite_true, ite_false, eq_self, true_or, or_true, or_false, false_or, true_and, and_true, false_and, and_false, or_self, and_self, not_false_eq_true, not_true_eq_false, hr, r0, r1, tn_i, mq_catIn hA hw, mq_farOf hA hw, h]
        · simp (disch := omega) only [nI_iI, iI_0, iI_add, iI_sub, iI_mul, iI_neg, iI_cl, iI_inb, iI_eq, iI_lt, iI_le, Int.cast_ofNat_Int, c_0, c_1, Int.natCast_add, Int.add_zero, cond_true, cond_false, Bool.and_self, Bool.and_true, Bool.true_and, Option.bind_some, if_pos, if_neg, decide_true, uI_hit, uI_miss, uI_o, ite_true, ite_false, eq_self, true_or, or_true, or_false, false_or, true_and, and_true, false_and, and_false, or_self, and_self, not_false_eq_true, not_true_eq_false, hr, r0, r1, tn_i, mq_catIn hA hw, mq_farOf hA hw, h]
    · simp (disch := omega) only [nI_iI, iI_0, iI_add, iI_sub, iI_mul, iI_neg, iI_cl, iI_inb, iI_eq, iI_lt, iI_le, Int.cast_ofNat_Int, c_0, c_1, Int.natCast_add, Int.add_zero, cond_true, cond_false, Bool.and_self, Bool.and_true, Bool.true_and, Option.bind_some, if_pos, if_neg, decide_true, uI_hit, uI_miss, uI_o, ite_true, ite_false, eq_self, true_or, or_true, or_false, false_or, true_and, and_true, false_and, and_false, or_self, and_self, not_false_eq_true, not_true_eq_false, hr, r0, r1, tn_i, mq_catIn hA hw]
theorem mq_nearest_n {d : aI} {e : aJ} {A : Int → Int} (hA : MA d 109 A) (hW : WN A) {c : Int} (hc : (c < 0 ∨ A 1 ≤ c) ∧ -2147483648 ≤ c ∧ c < 2147483648) : FX11_nearest d e (iI c) = some (iI (-1), d, e) := by
  have hw := hW
  have hr : ∀ j : Nat, j < 1961 → d 109 j = iI (A j) := hA
  have r0 : d 109 0 = iI (A 0) := hr 0 (by omega)
  have r1 : d 109 1 = iI (A 1) := hr 1 (by omega)
  obtain ⟨w0, w1, w9, w10, w11, wc, wh, wb⟩ := hW
  unfold FX11_nearest
  rw [a_run_step (st := stX11_nearest) (p := (0, [some (.ref 108), some (.int (iI c)), none, none], d, e)) (p2 := (100000, [some (.int (iI (-1)))], d, e)) (by
    show sX11_nearest_0 d e _ = _
    unfold sX11_nearest_0
    simp (disch := omega) only [nI_iI, iI_0, iI_add, iI_sub, iI_mul, iI_neg, iI_cl, iI_inb, iI_eq, iI_lt, iI_le, Int.cast_ofNat_Int, c_0, c_1, Int.natCast_add, Int.add_zero, cond_true, cond_false, Bool.and_self, Bool.and_true, Bool.true_and, Option.bind_some, if_pos, if_neg, decide_true, uI_hit, uI_miss, uI_o, ite_true, ite_false, eq_self, true_or, or_true, or_false, false_or, true_and, and_true, false_and, and_false, or_self, and_self, not_false_eq_true, not_true_eq_false, hr, r0, r1, tn_i, mq_isCat_n hA hw]) rfl, a_run_end]
  rfl
theorem cq_nearest_n {d : aI} {e : aJ} {A : Int → Int} (hC : CN d 1 A) (hW : WN A) {c : Int} (hc : (c < 0 ∨ A 1 ≤ c) ∧ -2147483648 ≤ c ∧ c < 2147483648) : FX10_nearest d e (iI c) = some (iI (-1), d, e) := by
  unfold FX10_nearest
  rw [a_run_step (st := stX10_nearest) (p := (0, [some (.ref 0), some (.int (iI c)), none, none, none, none], d, e)) (p2 := (100000, [some (.int (iI (-1)))], d, e)) (by
    show sX10_nearest_0 d e _ = _
    unfold sX10_nearest_0
    simp (disch := omega) only [nI_iI, iI_0, iI_add, iI_sub, iI_mul, iI_neg, iI_cl, iI_inb, iI_eq, iI_lt, iI_le, Int.cast_ofNat_Int, c_0, c_1, Int.natCast_add, Int.add_zero, cond_true, cond_false, Bool.and_self, Bool.and_true, Bool.true_and, Option.bind_some, if_pos, if_neg, decide_true, uI_hit, uI_miss, uI_o, ite_true, ite_false, eq_self, true_or, or_true, or_false, false_or, true_and, and_true, false_and, and_false, or_self, and_self, not_false_eq_true, not_true_eq_false, tn_i, cq_isCat_n hC hW]) rfl, a_run_end]
  rfl
theorem cq_nearest {d : aI} {e : aJ} {A : Int → Int} (hC : CN d 1 A) (hW : WN A) {c : Int} (hc : 0 ≤ c ∧ c < A 1) : FX10_nearest d e (iI c) = some (iI (itr (nearF A c) (A 0).toNat (-1)), d, e) := by
  have hw := hW
  have hcc := hC
  obtain ⟨q8, q9, q10, q11, q12, q3, q4, q5, q6, q7, qh, qt, qb⟩ := hC
  have k8 : d 2 8 = iI (A 0) := q8
  have k9 : d 2 9 = iI (A 1) := q9
  have k10 : d 2 10 = iI (A 11) := q10
  have k11 : d 2 11 = iI (A 9) := q11
  have k12 : d 2 12 = iI (A 10) := q12
  have k3 : ∀ j : Nat, (j : Int) < A 0 → d 3 j = iI (A (42 + j)) := q3
  have k4 : ∀ j : Nat, (j : Int) < A 0 → d 4 j = iI (A (30 + 2 * j)) := q4
  have k5 : ∀ j : Nat, (j : Int) < A 0 → d 5 j = iI (A (30 + 2 * j + 1)) := q5
  have k6 : ∀ j : Nat, (j : Int) < A 1 → d 6 j = iI (A (54 + j)) := q6
  have k7 : ∀ j : Nat, (j : Int) < A 1 → d 7 j = iI (A (12 + 3 * j)) := q7
  have kh : ∀ j : Nat, (j : Int) < A 1 → d 8 j = iI (A (12 + 3 * j + 1)) := qh
  have kt : ∀ j : Nat, (j : Int) < A 1 → d 9 j = iI (A (12 + 3 * j + 2)) := qt
  have kb : ∀ j : Nat, (j : Int) < A 11 → d 10 j = iI (A (1936 + j)) := qb
  obtain ⟨w0, w1, w9, w10, w11, wc, wh, wb⟩ := hW
  have hin := nearF_in (A := A) (c := c) (A 0).toNat
  unfold FX10_nearest
  rw [a_run_step (st := stX10_nearest) (p := (0, [some (.ref 0), some (.int (iI c)), none, none, none, none], d, e)) (p2 := (23, [some (.ref 0), some (.int (iI c)), some (.ref 2), some (.int (iI (-1))), some (.int (iI (0 : Nat))), none], d, e)) (by
    show sX10_nearest_0 d e _ = _
    unfold sX10_nearest_0
    simp (disch := omega) only [nI_iI, iI_0, iI_add, iI_sub, iI_mul, iI_neg, iI_cl, iI_inb, iI_eq, iI_lt, iI_le, Int.cast_ofNat_Int, c_0, c_1, Int.natCast_add, Int.add_zero, cond_true, cond_false, Bool.and_self, Bool.and_true, Bool.true_and, Option.bind_some, if_pos, if_neg, decide_true, uI_hit, uI_miss, uI_o, ite_true, ite_false, eq_self, true_or, or_true, or_false, false_or, true_and, and_true, false_and, and_false, or_self, and_self, not_false_eq_true, not_true_eq_false, tn_i, cq_isCat_y hcc hw, iI_y]) rfl]
  obtain ⟨p, hp, he⟩ := run_inv (st := stX10_nearest) (fun k p => ∃ v : Option Value, p = (23, [some (.ref 0), some (.int (iI c)), some (.ref 2), some (.int (iI (itr (nearF A c) k (-1)))), some (.int (iI (k : Nat))), v], d, e)) (A 0).toNat (p0 := (23, [some (.ref 0), some (.int (iI c)), some (.ref 2), some (.int (iI (-1))), some (.int (iI (0 : Nat))), none], d, e)) ⟨none, rfl⟩ (by
      rintro k p ⟨v, rfl⟩
      rfl) (by
    rintro k p hk ⟨v, rfl⟩
    have hin := nearF_in (A := A) (c := c) k
    have e1 : itr (nearF A c) (k + 1) (-1) = nearF A c k (itr (nearF A c) k (-1)) := rfl
    simp only [e1]
    generalize itr (nearF A c) k (-1) = f at hin
    have g := gst_in hw k
    have f1 := farS_in hw (c := c) (h := k) (by omega)
    unfold nearF
    by_cases h : gst A k = -1
    · refine ⟨_, ?_, some (.int (iI 1)), rfl⟩
      show sX10_nearest_23 d e _ _ _ v = _
      unfold sX10_nearest_23
      by_cases h1 : f = -1
      · subst h1
        simp (disch := omega) only [nI_iI, iI_0, iI_add, iI_sub, iI_mul, iI_neg, iI_cl, iI_inb, iI_eq, iI_lt, iI_le, Int.cast_ofNat_Int, c_0, c_1, Int.natCast_add, Int.add_zero, cond_true, cond_false, Bool.and_self, Bool.and_true, Bool.true_and, Option.bind_some, if_pos, if_neg, decide_true, uI_hit, uI_miss, uI_o, ite_true, ite_false, eq_self, true_or, or_true, or_false, false_or, true_and, and_true, false_and, and_false, or_self, and_self, not_false_eq_true, not_true_eq_false, tn_i, k8, k9, k10, k11, k12, k3, k4, k5, k6, k7, kh, kt, kb, cq_guest hcc hw, h, iI_y]
      · have f2 := farS_in hw (c := c) (h := f) (by omega)
        by_cases h2 : farS A c k < farS A c f
        · simp (disch := omega) only [nI_iI, iI_0, iI_add, iI_sub, iI_mul, iI_neg, iI_cl, iI_inb, iI_eq, iI_lt, iI_le, Int.cast_ofNat_Int, c_0, c_1, Int.natCast_add, Int.add_zero, cond_true, cond_false, Bool.and_self, Bool.and_true, Bool.true_and, Option.bind_some, if_pos, if_neg, decide_true, uI_hit, uI_miss, uI_o, ite_true, ite_false, eq_self, true_or, or_true, or_false, false_or, true_and, and_true, false_and, and_false, or_self, and_self, not_false_eq_true, not_true_eq_false, tn_i, k8, k9, k10, k11, k12, k3, k4, k5, k6, k7, kh, kt, kb, cq_guest hcc hw, cq_away hcc hw, h, iI_y]
        · simp (disch := omega) only [nI_iI, iI_0, iI_add, iI_sub, iI_mul, iI_neg, iI_cl, iI_inb, iI_eq, iI_lt, iI_le, Int.cast_ofNat_Int, c_0, c_1, Int.natCast_add, Int.add_zero, cond_true, cond_false, Bool.and_self, Bool.and_true, Bool.true_and, Option.bind_some, if_pos, if_neg, decide_true, uI_hit, uI_miss, uI_o, ite_true, ite_false, eq_self, true_or, or_true, or_false, false_or, true_and, and_true, false_and, and_false, or_self, and_self, not_false_eq_true, not_true_eq_false, tn_i, k8, k9, k10, k11, k12, k3, k4, k5, k6, k7, kh, kt, kb, cq_guest hcc hw, cq_away hcc hw, h, iI_y]
    · refine ⟨_, ?_, some (.int (iI 0)), rfl⟩
      show sX10_nearest_23 d e _ _ _ v = _
      unfold sX10_nearest_23
      simp (disch := omega) only [nI_iI, iI_0, iI_add, iI_sub, iI_mul, iI_neg, iI_cl, iI_inb, iI_eq, iI_lt, iI_le, Int.cast_ofNat_Int, c_0, c_1, Int.natCast_add, Int.add_zero, cond_true, cond_false, Bool.and_self, Bool.and_true, Bool.true_and, Option.bind_some, if_pos, if_neg, decide_true, uI_hit, uI_miss, uI_o, ite_true, ite_false, eq_self, true_or, or_true, or_false, false_or, true_and, and_true, false_and, and_false, or_self, and_self, not_false_eq_true, not_true_eq_false, tn_i, k8, k9, k10, k11, k12, k3, k4, k5, k6, k7, kh, kt, kb, cq_guest hcc hw])
  obtain ⟨v, rfl⟩ := hp
  rw [he, a_run_step (st := stX10_nearest) (p2 := (100000, [some (.int (iI (itr (nearF A c) (A 0).toNat (-1))))], d, e)) (by
    show sX10_nearest_23 d e _ _ _ v = _
    unfold sX10_nearest_23
    simp (disch := omega) only [nI_iI, iI_0, iI_add, iI_sub, iI_mul, iI_neg, iI_cl, iI_inb, iI_eq, iI_lt, iI_le, Int.cast_ofNat_Int, c_0, c_1, Int.natCast_add, Int.add_zero, cond_true, cond_false, Bool.and_self, Bool.and_true, Bool.true_and, Option.bind_some, if_pos, if_neg, decide_true, uI_hit, uI_miss, uI_o, ite_true, ite_false, eq_self, true_or, or_true, or_false, false_or, true_and, and_true, false_and, and_false, or_self, and_self, not_false_eq_true, not_true_eq_false, tn_i, k8, k9, k10, k11, k12, k3, k4, k5, k6, k7, kh, kt, kb]) rfl, a_run_end]
  rfl
