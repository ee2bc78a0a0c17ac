/-! ===== class and reference over one table of whole numbers ===== -/
/-- the ranges of what the table holds of houses and cats -/
def WN (A : Int → Int) : Prop :=
  (0 ≤ A 0 ∧ A 0 ≤ 6) ∧ (0 ≤ A 1 ∧ A 1 ≤ 6) ∧ (0 ≤ A 9 ∧ A 9 ≤ 9999) ∧ (0 ≤ A 10 ∧ A 10 < 30931) ∧ (0 ≤ A 11 ∧ A 11 ≤ 25) ∧
  (∀ c : Int, 0 ≤ c → c < A 1 → (0 ≤ A (12 + 3 * c) ∧ A (12 + 3 * c) ≤ 9) ∧ (-1 ≤ A (12 + 3 * c + 1) ∧ A (12 + 3 * c + 1) < A 0) ∧ (0 ≤ A (12 + 3 * c + 2) ∧ A (12 + 3 * c + 2) ≤ 9999) ∧ (0 ≤ A (54 + c) ∧ A (54 + c) ≤ 9) ∧ (0 ≤ A (60 + c) ∧ A (60 + c) ≤ 9) ∧ (0 ≤ A (12 + 3 * c + 1) → A (42 + A (12 + 3 * c + 1)) = A (12 + 3 * c))) ∧
  (∀ h : Int, 0 ≤ h → h < A 0 → (0 ≤ A (30 + 2 * h) ∧ A (30 + 2 * h) ≤ 999) ∧ (0 ≤ A (30 + 2 * h + 1) ∧ A (30 + 2 * h + 1) ≤ 999) ∧ (0 ≤ A (42 + h) ∧ A (42 + h) ≤ 9) ∧ (0 ≤ A (48 + h) ∧ A (48 + h) ≤ 999)) ∧
  (∀ i : Int, 0 ≤ i → i < A 11 → 0 ≤ A (1936 + i) ∧ A (1936 + i) < 1080000)
/-- the class's night in the world that begins at w holds it -/
def CN (d : aI) (w : Nat) (A : Int → Int) : Prop :=
  d (w + 1) 8 = iI (A 0) ∧ d (w + 1) 9 = iI (A 1) ∧ d (w + 1) 10 = iI (A 11) ∧ d (w + 1) 11 = iI (A 9) ∧ d (w + 1) 12 = iI (A 10) ∧
  (∀ j : Nat, (j : Int) < A 0 → d (w + 2) j = iI (A (42 + j))) ∧ (∀ j : Nat, (j : Int) < A 0 → d (w + 3) j = iI (A (30 + 2 * j))) ∧ (∀ j : Nat, (j : Int) < A 0 → d (w + 4) j = iI (A (30 + 2 * j + 1))) ∧
  (∀ j : Nat, (j : Int) < A 1 → d (w + 5) j = iI (A (54 + j))) ∧ (∀ j : Nat, (j : Int) < A 1 → d (w + 6) j = iI (A (12 + 3 * j))) ∧ (∀ j : Nat, (j : Int) < A 1 → d (w + 7) j = iI (A (12 + 3 * j + 1))) ∧ (∀ j : Nat, (j : Int) < A 1 → d (w + 8) j = iI (A (12 + 3 * j + 2))) ∧
  (∀ j : Nat, (j : Int) < A 11 → d (w + 9) j = iI (A (1936 + j)))
/-- the coldest -/
def coldF (A : Int → Int) (c : Nat) (f : Int) : Int := if f = -1 ∨ A (54 + f) < A (54 + c) then (c : Int) else f
theorem coldF_in {A : Int → Int} (k : Nat) : -1 ≤ itr (coldF A) k (-1) ∧ itr (coldF A) k (-1) < k := by
  induction k with
  | zero => exact ⟨Int.le_refl _, by show (-1 : Int) < 0; decide⟩
  | succ k ih =>
    have e : itr (coldF A) (k + 1) (-1) = if itr (coldF A) k (-1) = -1 ∨ A (54 + itr (coldF A) k (-1)) < A (54 + k) then (k : Int) else itr (coldF A) k (-1) := rfl
    rw [e]
    split <;> omega
theorem mq_coldest {d : aI} {e : aJ} {A : Int → Int} (hA : MA d 109 A) (hW : WN A) : FX11_coldest d e = some (iI (itr (coldF A) (A 1).toNat (-1)), d, e) := by
  have hr : ∀ j : Nat, j < 1961 → d 109 j = iI (A j) := hA
  have r0 : d 109 0 = iI (A 0) := hr 0 (by omega)
  have r1 : d 109 1 = iI (A 1) := hr 1 (by omega)
  obtain ⟨w0, w1, w9, w10, w11, wc, wh, wb⟩ := hW
  unfold FX11_coldest
  rw [a_run_step (st := stX11_coldest) (p := (0, [some (.ref 108), none, none], d, e)) (p2 := (4, [some (.ref 108), some (.int (iI (-1))), some (.int (iI (0 : Nat)))], d, e)) rfl rfl]
  rw [run_fold (st := stX11_coldest) (fun k s => (4, [some (.ref 108), some (.int (iI s)), some (.int (iI (k : Nat)))], d, e)) (coldF A) (A 1).toNat (-1) (fun _ _ => rfl) ?_]
  · have hin := coldF_in (A := A) (A 1).toNat
    rw [a_run_step (st := stX11_coldest) (p2 := (100000, [some (.int (iI (itr (coldF A) (A 1).toNat (-1))))], d, e)) (by
      show sX11_coldest_4 d e _ _ = _
      unfold sX11_coldest_4
      simp (disch := omega) only [nI_iI, iI_0, iI_add, iI_sub, iI_mul, iI_neg, iI_cl, iI_inb, iI_eq, iI_lt, iI_le, Int.cast_ofNat_Int, c_0, c_1, Int.natCast_add, Int.add_zero, cond_true, cond_false, Bool.and_self, Bool.and_true, Bool.true_and, Option.bind_some, if_pos, if_neg, decide_true, uI_hit, uI_miss, uI_o, ite_true, ite_false, eq_self, true_or, or_true, or_false, false_or, true_and, and_true, false_and, and_false, or_self, and_self, not_false_eq_true, not_true_eq_false, hr, r0, r1, tn_i]) rfl, a_run_end]
    rfl
  · intro k hk
    have hin := coldF_in (A := A) k
    generalize itr (coldF A) k (-1) = f at hin
    have hk1 := (wc k (by omega) (by omega)).2.2.2.1
    show sX11_coldest_4 d e _ _ = _
    unfold sX11_coldest_4 coldF
    by_cases h1 : f = -1
    · subst h1
      simp (disch := omega) only [nI_iI, iI_0, iI_add, iI_sub, iI_mul, iI_neg, iI_cl, iI_inb, iI_eq, iI_lt, iI_le, Int.cast_ofNat_Int, c_0, c_1, Int.natCast_add, Int.add_zero, cond_true, cond_false, Bool.and_self, Bool.and_true, Bool.true_and, Option.bind_some, if_pos, if_neg, decide_true, uI_hit, uI_miss, uI_o, ite_true, ite_false, eq_self, true_or, or_true, or_false, false_or, true_and, and_true, false_and, and_false, or_self, and_self, not_false_eq_true, not_true_eq_false, hr, r0, r1, tn_i, true_or]
    · have hf1 := (wc f (by omega) (by omega)).2.2.2.1
      by_cases h2 : A (54 + f) < A (54 + k)
      · simp (disch := omega) only [nI_iI, iI_0, iI_add, iI_sub, iI_mul, iI_neg, iI_cl, iI_inb, iI_eq, iI_lt, iI_le, Int.cast_ofNat_Int, c_0, c_1, Int.natCast_add, Int.add_zero, cond_true, cond_false, Bool.and_self, Bool.and_true, Bool.true_and, Option.bind_some, if_pos, if_neg, decide_true, uI_hit, uI_miss, uI_o, ite_true, ite_false, eq_self, true_or, or_true, or_false, false_or, true_and, and_true, false_and, and_false, or_self, and_self, not_false_eq_true, not_true_eq_false, hr, r0, r1, tn_i, or_true]
      · simp (disch := omega) only [nI_iI, iI_0, iI_add, iI_sub, iI_mul, iI_neg, iI_cl, iI_inb, iI_eq, iI_lt, iI_le, Int.cast_ofNat_Int, c_0, c_1, Int.natCast_add, Int.add_zero, cond_true, cond_false, Bool.and_self, Bool.and_true, Bool.true_and, Option.bind_some, if_pos, if_neg, decide_true, uI_hit, uI_miss, uI_o, ite_true, ite_false, eq_self, true_or, or_true, or_false, false_or, true_and, and_true, false_and, and_false, or_self, and_self, not_false_eq_true, not_true_eq_false, hr, r0, r1, tn_i, or_self]
