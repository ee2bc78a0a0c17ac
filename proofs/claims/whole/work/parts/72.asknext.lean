/-! ===== whom to ask next ===== -/
theorem run_invR {st : aP → Option aP} (I : Nat → aP → Prop) (n : Nat) {p0 : aP} (h0 : I 0 p0) (hs : ∀ k p, k < n → I k p → ∃ p', a_run st p = a_run st p' ∧ I (k + 1) p') : ∃ p', I n p' ∧ a_run st p0 = a_run st p' := by
  have key : ∀ m, m ≤ n → ∃ p', I m p' ∧ a_run st p0 = a_run st p' := by
    intro m
    induction m with
    | zero => intro _; exact ⟨p0, h0, rfl⟩
    | succ m ih =>
      intro hm
      obtain ⟨p1, i1, e1⟩ := ih (by omega)
      obtain ⟨p2, e2, i2⟩ := hs m p1 (by omega) i1
      exact ⟨p2, i2, e1.trans e2⟩
  exact key n (Nat.le_refl _)
/-- how many of the first m are like c -/
def cntS (T : Nat → Int) (c m : Nat) : Int := itr (fun j g => if T c ≠ -1 ∧ T j = T c then g + 1 else g + 0) m 0
theorem cntS_s {T : Nat → Int} {c m : Nat} : cntS T c (m + 1) = if T c ≠ -1 ∧ T m = T c then cntS T c m + 1 else cntS T c m + 0 := rfl
theorem cntS_in {T : Nat → Int} {c m : Nat} : 0 ≤ cntS T c m ∧ cntS T c m ≤ m := by
  induction m with
  | zero => exact ⟨Int.le_refl _, Int.le_refl _⟩
  | succ m ih =>
    rw [cntS_s]
    split <;> omega
theorem cntS_mono {T : Nat → Int} {c m n : Nat} (h : m ≤ n) : cntS T c m ≤ cntS T c n := by
  induction n with
  | zero => rw [show m = 0 by omega]; exact Int.le_refl _
  | succ n ih =>
    by_cases q : m = n + 1
    · rw [q]; exact Int.le_refl _
    · have := ih (by omega)
      rw [cntS_s]
      split <;> omega
theorem cntS_like {T : Nat → Int} {c c2 : Nat} (h : T c2 = T c) (m : Nat) : cntS T c2 m = cntS T c m := by
  unfold cntS
  rw [h]
theorem cntS_last {T : Nat → Int} {c : Nat} (m : Nat) : cntS T c m = 0 ∨ ∃ c2, c2 < m ∧ T c2 = T c ∧ cntS T c m = cntS T c2 (c2 + 1) := by
  induction m with
  | zero => exact Or.inl rfl
  | succ m ih =>
    by_cases q : T m = T c
    · by_cases q2 : T c ≠ -1
      · exact Or.inr ⟨m, by omega, q, (cntS_like q (m + 1)).symm⟩
      · rw [cntS_s, if_neg (fun z => q2 z.1)]
        rcases ih with ih | ⟨c2, h1, h2, h3⟩
        · exact Or.inl (by omega)
        · exact Or.inr ⟨c2, by omega, h2, by omega⟩
    · rw [cntS_s, if_neg (fun z => q z.2)]
      rcases ih with ih | ⟨c2, h1, h2, h3⟩
      · exact Or.inl (by omega)
      · exact Or.inr ⟨c2, by omega, h2, by omega⟩
def mxS (f : Nat → Int) (n : Nat) : Int := itr (fun c m => if f c ≤ m then m else f c) n 0
theorem mxS_s {f : Nat → Int} {n : Nat} : mxS f (n + 1) = if f n ≤ mxS f n then mxS f n else f n := rfl
theorem mxS_ub {f : Nat → Int} {n : Nat} : 0 ≤ mxS f n ∧ ∀ c, c < n → f c ≤ mxS f n := by
  induction n with
  | zero => exact ⟨Int.le_refl _, fun c h => by omega⟩
  | succ n ih =>
    rw [mxS_s]
    refine ⟨by split <;> omega, fun c h => ?_⟩
    by_cases q : c = n
    · subst q; split <;> omega
    · have := ih.2 c (by omega)
      split <;> omega
theorem mxS_at {f : Nat → Int} {n : Nat} : mxS f n = 0 ∨ ∃ c, c < n ∧ mxS f n = f c := by
  induction n with
  | zero => exact Or.inl rfl
  | succ n ih =>
    rw [mxS_s]
    by_cases q : f n ≤ mxS f n
    · rw [if_pos q]
      rcases ih with h | ⟨c, h1, h2⟩
      · exact Or.inl h
      · exact Or.inr ⟨c, by omega, h2⟩
    · rw [if_neg q]
      exact Or.inr ⟨n, by omega, rfl⟩
/-- the most who are alike -/
def aliS (T : Nat → Int) (n : Nat) : Int := mxS (fun c => cntS T c n) n
theorem aliS_eq (T : Nat → Int) (n : Nat) : mxS (fun c => cntS T c (c + 1)) n = aliS T n := by
  unfold aliS
  have a := mxS_ub (f := fun c => cntS T c (c + 1)) (n := n)
  have b := mxS_ub (f := fun c => cntS T c n) (n := n)
  have h1 : mxS (fun c => cntS T c (c + 1)) n ≤ mxS (fun c => cntS T c n) n := by
    rcases mxS_at (f := fun c => cntS T c (c + 1)) (n := n) with h | ⟨c, h1, h2⟩
    · omega
    · have q := b.2 c h1
      have q2 := cntS_mono (T := T) (c := c) (show c + 1 ≤ n by omega)
      have h3 : mxS (fun c => cntS T c (c + 1)) n = cntS T c (c + 1) := h2
      have q3 : cntS T c n ≤ mxS (fun c => cntS T c n) n := q
      omega
  have h2 : mxS (fun c => cntS T c n) n ≤ mxS (fun c => cntS T c (c + 1)) n := by
    rcases mxS_at (f := fun c => cntS T c n) (n := n) with h | ⟨c, h1, h2⟩
    · omega
    · have h3 : mxS (fun c => cntS T c n) n = cntS T c n := h2
      rcases cntS_last (T := T) (c := c) n with z | ⟨c2, z1, z2, z3⟩
      · omega
      · have q3 : cntS T c2 (c2 + 1) ≤ mxS (fun c => cntS T c (c + 1)) n := a.2 c2 z1
        omega
  omega
theorem aliS_in {T : Nat → Int} {n : Nat} : 0 ≤ aliS T n ∧ aliS T n ≤ n := by
  refine ⟨mxS_ub.1, ?_⟩
  rcases mxS_at (f := fun c => cntS T c n) (n := n) with h | ⟨c, h1, h2⟩
  · unfold aliS; omega
  · have h3 : aliS T n = cntS T c n := h2
    have := cntS_in (T := T) (c := c) (m := n)
    omega
/-- what each would take there; -1 of one that is out of the question -/
def aT (A : Int → Int) (y : Option (En → Int)) (f : Int32) (h : Int) : Nat → Int := fun k => if hasP f k then takesS A y k h else -1
theorem aT_in {A : Int → Int} (hW : WN A) {y : Option (En → Int)} {f : Int32} {h : Int} {k : Nat} (hk : (k : Int) < A 1) : -1 ≤ aT A y f h k ∧ aT A y f h k ≤ 99 ∧ (hasP f k ↔ aT A y f h k ≠ -1) := by
  have := takesS_in hW (y := y) (c := k) (h := h) (by omega)
  unfold aT
  split
  · next c => exact ⟨by omega, by omega, ⟨fun _ => by omega, fun _ => c⟩⟩
  · next c => exact ⟨by omega, by omega, ⟨fun z => absurd z c, fun z => absurd rfl z⟩⟩
abbrev Sx6 (d d' : aI) : Prop := ∀ k, k ≠ 93 → k ≠ 94 → k ≠ 106 → d' k = d k
theorem CI.of6 {d d' : aI} {S : aS} (hS : sOK S) (h : CI d S) (g : Sx6 d d') : CI d' S := h.of (fun k hk => g k (by omega) (by omega) (by omega)) hS.1.2.2.1.2
theorem cq_mostAlike {d : aI} {e : aJ} {S : aS} (hS : sOK S) (hC : CI d S) {f : Int32} {h : Int} (hh : 0 ≤ h ∧ h < S.1 0) : ∃ d', FX10_mostAlike d e f (iI h) = some (iI (aliS (aT S.1 (lawT S) f h) (S.1 1).toNat), d', e) ∧ Sx6 d d' := by
  have hW := hS.1.1
  have w1 := hW.2.1
  rw [← aliS_eq]
  generalize hT : aT S.1 (lawT S) f h = T
  have Tin : ∀ k : Nat, (k : Int) < S.1 1 → -1 ≤ T k ∧ T k ≤ 99 ∧ (hasP f k ↔ T k ≠ -1) := fun k hk => by rw [← hT]; exact aT_in hW hk
  have Ty : ∀ k : Nat, hasP f k → takesS S.1 (lawT S) k h = T k := fun k q => by rw [← hT]; exact (if_pos q).symm
  unfold FX10_mostAlike
  rw [a_run_step (st := stX10_mostAlike) (p := (0, [some (.ref 0), some (.int f), some (.int (iI h)), none, none, none, none], d, e)) (p2 := (5, [some (.ref 0), some (.int f), some (.int (iI h)), some (.int (iI (mxS (fun c => cntS T c (c + 1)) 0))), some (.int (iI (0 : Nat))), none, none], d, e)) rfl rfl]
  have key := run_invR (st := stX10_mostAlike) (fun k p => ∃ d1 v5 v6, p = (5, [some (.ref 0), some (.int f), some (.int (iI h)), some (.int (iI (mxS (fun c => cntS T c (c + 1)) k))), some (.int (iI (k : Nat))), v5, v6], d1, e) ∧ Sx6 d d1 ∧ ∀ j : Nat, j < k → d1 106 j = iI (T j)) (S.1 1).toNat (p0 := (5, [some (.ref 0), some (.int f), some (.int (iI h)), some (.int (iI (mxS (fun c => cntS T c (c + 1)) 0))), some (.int (iI (0 : Nat))), none, none], d, e)) ⟨d, none, none, rfl, fun _ _ _ _ => rfl, fun j hj => by omega⟩ ?_
  · obtain ⟨p, ⟨d1, v5, v6, rfl, s1, s2⟩, q⟩ := key
    have hC1 := hC.of6 hS s1
    have k9 : d1 2 9 = iI (S.1 1) := hC1.cn.2.1
    refine ⟨d1, ?_, s1⟩
    rw [q, a_run_step (st := stX10_mostAlike) (p2 := (100000, [some (.int (iI (mxS (fun c => cntS T c (c + 1)) (S.1 1).toNat)))], d1, e)) (by
      show sX10_mostAlike_5 d1 e _ _ _ _ v5 v6 = _
      unfold sX10_mostAlike_5
      simp (disch := omega) only [nI_iI, lN_lJ, iI_0, lJ_0, iI_add, iI_sub, iI_mul, iI_neg, lJ_add, lJ_sub, lJ_mul, lJ_neg, i_l, l_i, iI_cl, iI_inb, iI_eqT, iI_eqF, iI_ltT, iI_ltF, iI_leT, iI_leF, lJ_eqT, lJ_eqF, lJ_cG, lJ_cE, lJ_cL, lJ_cF, lJ_cGE, lJ_cLE, lJ_cNL, lJ_cNG, Int.cast_ofNat_Int, c_0, c_1, Int.natCast_add, Int.add_zero, cond_true, cond_false, Bool.and_self, Bool.and_true, Bool.true_and, Option.bind_some, decide_true, uI_hit, uI_miss, uI_o, uA_o, uA_s, ↓reduceIte, eq_self, true_or, or_true, or_false, false_or, true_and, and_true, false_and, and_false, or_self, and_self, not_false_eq_true, not_true_eq_false, tn_i, k9]) rfl, a_run_end]
    rfl
  · rintro k p hk ⟨d1, v5, v6, rfl, s1, s2⟩
    have hC1 := hC.of6 hS s1
    have k9 : d1 2 9 = iI (S.1 1) := hC1.cn.2.1
    have kT := Tin k (by omega)
    -- what is written for this one
    have wr : ∃ d2, a_run stX10_mostAlike (5, [some (.ref 0), some (.int f), some (.int (iI h)), some (.int (iI (mxS (fun c => cntS T c (c + 1)) k))), some (.int (iI (k : Nat))), v5, v6], d1, e) = a_run stX10_mostAlike (53, [some (.ref 0), some (.int f), some (.int (iI h)), some (.int (iI (mxS (fun c => cntS T c (c + 1)) k))), some (.int (iI (k : Nat))), some (.int (iI (cntS T k 0))), some (.int (iI (0 : Nat)))], d2, e) ∧ Sx6 d d2 ∧ ∀ j : Nat, j < k + 1 → d2 106 j = iI (T j) := by
      generalize mxS (fun c => cntS T c (c + 1)) k = mx
      by_cases c : hasP f k
      · have g := cq_has_y (d := d1) (e := e) c
        obtain ⟨d2, q1, q2⟩ := cq_takesW (e := e) hS hC1 (c := k) (by omega) hh
        rw [Ty k c] at q1
        refine ⟨uI d2 106 k (iI (T k)), ?_, ?_, ?_⟩
        · rw [a_run_step (st := stX10_mostAlike) (p2 := (53, [some (.ref 0), some (.int f), some (.int (iI h)), some (.int (iI mx)), some (.int (iI (k : Nat))), some (.int (iI (cntS T k 0))), some (.int (iI (0 : Nat)))], uI d2 106 k (iI (T k)), e)) (by
            show sX10_mostAlike_5 d1 e _ _ _ _ v5 v6 = _
            unfold sX10_mostAlike_5
            simp (disch := omega) only [nI_iI, lN_lJ, iI_0, lJ_0, iI_add, iI_sub, iI_mul, iI_neg, lJ_add, lJ_sub, lJ_mul, lJ_neg, i_l, l_i, iI_cl, iI_inb, iI_eqT, iI_eqF, iI_ltT, iI_ltF, iI_leT, iI_leF, lJ_eqT, lJ_eqF, lJ_cG, lJ_cE, lJ_cL, lJ_cF, lJ_cGE, lJ_cLE, lJ_cNL, lJ_cNG, Int.cast_ofNat_Int, c_0, c_1, Int.natCast_add, Int.add_zero, cond_true, cond_false, Bool.and_self, Bool.and_true, Bool.true_and, Option.bind_some, decide_true, uI_hit, uI_miss, uI_o, uA_o, uA_s, ↓reduceIte, eq_self, true_or, or_true, or_false, false_or, true_and, and_true, false_and, and_false, or_self, and_self, not_false_eq_true, not_true_eq_false, tn_i, Int.toNat_natCast, k9, g, q1]
            rfl) rfl]
        · intro o a b c2
          rw [uI_o c2, q2 o a b]
          exact s1 o a b c2
        · intro j hj
          by_cases z : j = k
          · subst z
            simp (disch := omega) only [uI_o, uI_hit, uI_miss, uA_o, uA_s, cpy_in, cpy_out, aU_hit, aU_miss, tn_i, if_pos, if_neg]
          · rw [show uI d2 106 k (iI (T k)) 106 j = d2 106 j by simp (disch := omega) only [uI_o, uI_hit, uI_miss, uA_o, uA_s, cpy_in, cpy_out, aU_hit, aU_miss, tn_i, if_pos, if_neg], q2 106 (by omega) (by omega)]
            exact s2 j (by omega)
      · have g := cq_has_n (d := d1) (e := e) c
        have tk : T k = -1 := Classical.byContradiction (fun z => c (kT.2.2.2 z))
        refine ⟨uI d1 106 k (iI (-1)), ?_, ?_, ?_⟩
        · rw [a_run_step (st := stX10_mostAlike) (p2 := (53, [some (.ref 0), some (.int f), some (.int (iI h)), some (.int (iI mx)), some (.int (iI (k : Nat))), some (.int (iI (cntS T k 0))), some (.int (iI (0 : Nat)))], uI d1 106 k (iI (-1)), e)) (by
            show sX10_mostAlike_5 d1 e _ _ _ _ v5 v6 = _
            unfold sX10_mostAlike_5
            simp (disch := omega) only [nI_iI, lN_lJ, iI_0, lJ_0, iI_add, iI_sub, iI_mul, iI_neg, lJ_add, lJ_sub, lJ_mul, lJ_neg, i_l, l_i, iI_cl, iI_inb, iI_eqT, iI_eqF, iI_ltT, iI_ltF, iI_leT, iI_leF, lJ_eqT, lJ_eqF, lJ_cG, lJ_cE, lJ_cL, lJ_cF, lJ_cGE, lJ_cLE, lJ_cNL, lJ_cNG, Int.cast_ofNat_Int, c_0, c_1, Int.natCast_add, Int.add_zero, cond_true, cond_false, Bool.and_self, Bool.and_true, Bool.true_and, Option.bind_some, decide_true, uI_hit, uI_miss, uI_o, uA_o, uA_s, ↓reduceIte, eq_self, true_or, or_true, or_false, false_or, true_and, and_true, false_and, and_false, or_self, and_self, not_false_eq_true, not_true_eq_false, tn_i, Int.toNat_natCast, k9, g]
            rfl) rfl]
        · intro o a b c2
          rw [uI_o c2]
          exact s1 o a b c2
        · intro j hj
          by_cases z : j = k
          · subst z
            rw [tk]
            simp (disch := omega) only [uI_o, uI_hit, uI_miss, uA_o, uA_s, cpy_in, cpy_out, aU_hit, aU_miss, tn_i, if_pos, if_neg]
          · rw [show uI d1 106 k (iI (-1)) 106 j = d1 106 j by simp (disch := omega) only [uI_o, uI_hit, uI_miss, uA_o, uA_s, cpy_in, cpy_out, aU_hit, aU_miss, tn_i, if_pos, if_neg]]
            exact s2 j (by omega)
    obtain ⟨d2, q, s3, s4⟩ := wr
    rw [q]
    have mi : 0 ≤ mxS (fun c => cntS T c (c + 1)) k ∧ mxS (fun c => cntS T c (c + 1)) k ≤ 6 := by
      refine ⟨mxS_ub.1, ?_⟩
      rcases mxS_at (f := fun c => cntS T c (c + 1)) (n := k) with z | ⟨c, z1, z2⟩
      · omega
      · have z3 : mxS (fun c => cntS T c (c + 1)) k = cntS T c (c + 1) := z2
        have := cntS_in (T := T) (c := c) (m := c + 1)
        omega
    have ms : mxS (fun c => cntS T c (c + 1)) (k + 1) = if cntS T k (k + 1) ≤ mxS (fun c => cntS T c (c + 1)) k then mxS (fun c => cntS T c (c + 1)) k else cntS T k (k + 1) := rfl
    rw [ms]
    generalize mxS (fun c => cntS T c (c + 1)) k = mx at mi
    have e2 := run_fold (st := stX10_mostAlike) (fun j s => (53, [some (.ref 0), some (.int f), some (.int (iI h)), some (.int (iI mx)), some (.int (iI (k : Nat))), some (.int (iI s)), some (.int (iI (j : Nat)))], d2, e)) (fun j g => if T k ≠ -1 ∧ T j = T k then g + 1 else g + 0) (k + 1) 0 (fun _ _ => rfl) ?_
    · refine ⟨_, e2.trans (a_run_step (p2 := (5, [some (.ref 0), some (.int f), some (.int (iI h)), some (.int (iI (if cntS T k (k + 1) ≤ mx then mx else cntS T k (k + 1)))), some (.int (iI (k + 1 : Nat))), some (.int (iI (cntS T k (k + 1)))), some (.int (iI (k + 1 : Nat)))], d2, e)) ?_ rfl), d2, _, _, rfl, s3, s4⟩
      have ci := cntS_in (T := T) (c := k) (m := k + 1)
      show sX10_mostAlike_53 d2 e _ _ _ _ (iI (cntS T k (k + 1))) _ = _
      unfold sX10_mostAlike_53
      by_cases z : cntS T k (k + 1) ≤ mx
      · rw [if_pos z]
        simp (disch := omega) only [nI_iI, lN_lJ, iI_0, lJ_0, iI_add, iI_sub, iI_mul, iI_neg, lJ_add, lJ_sub, lJ_mul, lJ_neg, i_l, l_i, iI_cl, iI_inb, iI_eqT, iI_eqF, iI_ltT, iI_ltF, iI_leT, iI_leF, lJ_eqT, lJ_eqF, lJ_cG, lJ_cE, lJ_cL, lJ_cF, lJ_cGE, lJ_cLE, lJ_cNL, lJ_cNG, Int.cast_ofNat_Int, c_0, c_1, Int.natCast_add, Int.add_zero, cond_true, cond_false, Bool.and_self, Bool.and_true, Bool.true_and, Option.bind_some, decide_true, uI_hit, uI_miss, uI_o, uA_o, uA_s, ↓reduceIte, eq_self, true_or, or_true, or_false, false_or, true_and, and_true, false_and, and_false, or_self, and_self, not_false_eq_true, not_true_eq_false, tn_i, iI_maxL]
      · rw [if_neg z]
        simp (disch := omega) only [nI_iI, lN_lJ, iI_0, lJ_0, iI_add, iI_sub, iI_mul, iI_neg, lJ_add, lJ_sub, lJ_mul, lJ_neg, i_l, l_i, iI_cl, iI_inb, iI_eqT, iI_eqF, iI_ltT, iI_ltF, iI_leT, iI_leF, lJ_eqT, lJ_eqF, lJ_cG, lJ_cE, lJ_cL, lJ_cF, lJ_cGE, lJ_cLE, lJ_cNL, lJ_cNG, Int.cast_ofNat_Int, c_0, c_1, Int.natCast_add, Int.add_zero, cond_true, cond_false, Bool.and_self, Bool.and_true, Bool.true_and, Option.bind_some, decide_true, uI_hit, uI_miss, uI_o, uA_o, uA_s, ↓reduceIte, eq_self, true_or, or_true, or_false, false_or, true_and, and_true, false_and, and_false, or_self, and_self, not_false_eq_true, not_true_eq_false, tn_i, iI_maxR]
    · intro j hj
      have ci := cntS_in (T := T) (c := k) (m := j)
      have n1 := s4 k (by omega)
      have n2 := s4 j (by omega)
      have jT := Tin j (by omega)
      show sX10_mostAlike_53 d2 e _ _ _ _ (iI (cntS T k j)) _ = some (53, [_, _, _, _, _, some (.int (iI (cntS T k (j + 1)))), _], _, _)
      rw [cntS_s]
      generalize cntS T k j = s at ci
      unfold sX10_mostAlike_53
      by_cases z1 : T k = -1
      · rw [if_neg (show ¬(T k ≠ -1 ∧ T j = T k) from fun z => z.1 z1)]
        simp (disch := omega) only [nI_iI, lN_lJ, iI_0, lJ_0, iI_add, iI_sub, iI_mul, iI_neg, lJ_add, lJ_sub, lJ_mul, lJ_neg, i_l, l_i, iI_cl, iI_inb, iI_eqT, iI_eqF, iI_ltT, iI_ltF, iI_leT, iI_leF, lJ_eqT, lJ_eqF, lJ_cG, lJ_cE, lJ_cL, lJ_cF, lJ_cGE, lJ_cLE, lJ_cNL, lJ_cNG, Int.cast_ofNat_Int, c_0, c_1, Int.natCast_add, Int.add_zero, cond_true, cond_false, Bool.and_self, Bool.and_true, Bool.true_and, Option.bind_some, decide_true, uI_hit, uI_miss, uI_o, uA_o, uA_s, ↓reduceIte, eq_self, true_or, or_true, or_false, false_or, true_and, and_true, false_and, and_false, or_self, and_self, not_false_eq_true, not_true_eq_false, tn_i, Int.toNat_natCast, n1, n2]
      · by_cases z2 : T j = T k
        · rw [if_pos (show T k ≠ -1 ∧ T j = T k from ⟨z1, z2⟩)]
          simp (disch := omega) only [nI_iI, lN_lJ, iI_0, lJ_0, iI_add, iI_sub, iI_mul, iI_neg, lJ_add, lJ_sub, lJ_mul, lJ_neg, i_l, l_i, iI_cl, iI_inb, iI_eqT, iI_eqF, iI_ltT, iI_ltF, iI_leT, iI_leF, lJ_eqT, lJ_eqF, lJ_cG, lJ_cE, lJ_cL, lJ_cF, lJ_cGE, lJ_cLE, lJ_cNL, lJ_cNG, Int.cast_ofNat_Int, c_0, c_1, Int.natCast_add, Int.add_zero, cond_true, cond_false, Bool.and_self, Bool.and_true, Bool.true_and, Option.bind_some, decide_true, uI_hit, uI_miss, uI_o, uA_o, uA_s, ↓reduceIte, eq_self, true_or, or_true, or_false, false_or, true_and, and_true, false_and, and_false, or_self, and_self, not_false_eq_true, not_true_eq_false, tn_i, Int.toNat_natCast, n1, n2]
        · rw [if_neg (show ¬(T k ≠ -1 ∧ T j = T k) from fun z => z2 z.2)]
          simp (disch := omega) only [nI_iI, lN_lJ, iI_0, lJ_0, iI_add, iI_sub, iI_mul, iI_neg, lJ_add, lJ_sub, lJ_mul, lJ_neg, i_l, l_i, iI_cl, iI_inb, iI_eqT, iI_eqF, iI_ltT, iI_ltF, iI_leT, iI_leF, lJ_eqT, lJ_eqF, lJ_cG, lJ_cE, lJ_cL, lJ_cF, lJ_cGE, lJ_cLE, lJ_cNL, lJ_cNG, Int.cast_ofNat_Int, c_0, c_1, Int.natCast_add, Int.add_zero, cond_true, cond_false, Bool.and_self, Bool.and_true, Bool.true_and, Option.bind_some, decide_true, uI_hit, uI_miss, uI_o, uA_o, uA_s, ↓reduceIte, eq_self, true_or, or_true, or_false, false_or, true_and, and_true, false_and, and_false, or_self, and_self, not_false_eq_true, not_true_eq_false, tn_i, Int.toNat_natCast, n1, n2]
-- reference
theorem mq_mostAlike {d : aI} {e : aJ} {S : aS} (hS : sOK S) (hM : MI d S) {f : Int32} {h : Int} (hh : 0 ≤ h ∧ h < S.1 0) : ∃ d' e', FX11_mostAlike d e (iI h) f = some (iI (aliS (aT S.1 (lawT S) f h) (S.1 1).toNat), d', e') ∧ KmT d d' := by
  have hW := hS.1.1
  have w1 := hW.2.1
  generalize hT : aT S.1 (lawT S) f h = T
  have Tin : ∀ k : Nat, (k : Int) < S.1 1 → -1 ≤ T k ∧ T k ≤ 99 ∧ (hasP f k ↔ T k ≠ -1) := fun k hk => by rw [← hT]; exact aT_in hW hk
  have Ty : ∀ k : Nat, hasP f k → takesS S.1 (lawT S) k h = T k := fun k q => by rw [← hT]; exact (if_pos q).symm
  unfold FX11_mostAlike
  rw [a_run_step (st := stX11_mostAlike) (p := (0, [some (.ref 108), some (.int (iI h)), some (.int f), none, none, none, none], d, e)) (p2 := (5, [some (.ref 108), some (.int (iI h)), some (.int f), some (.int (iI 0)), some (.int (iI (0 : Nat))), none, none], d, e)) rfl rfl]
  have key := run_foldV (st := stX11_mostAlike) (V := {x : aI × aJ // KmT d x.1} × (Option Value × Option Value)) (fun k s v => (5, [some (.ref 108), some (.int (iI h)), some (.int f), some (.int (iI s)), some (.int (iI (k : Nat))), v.2.1, v.2.2], v.1.1.1, v.1.1.2)) (fun c m => if cntS T c (S.1 1).toNat ≤ m then m else cntS T c (S.1 1).toNat) (S.1 1).toNat 0 ?_ (⟨(d, e), fun _ _ _ => rfl⟩, none, none)
  · obtain ⟨⟨⟨v', hv⟩, v3, v4⟩, q⟩ := key
    have n1 : v'.1 109 1 = iI (S.1 1) := by rw [hv 109 (by omega) (by omega)]; exact hM.1.cell (j := 1) (by omega)
    refine ⟨v'.1, v'.2, ?_, hv⟩
    rw [q, a_run_step (st := stX11_mostAlike) (p2 := (100000, [some (.int (iI (aliS T (S.1 1).toNat)))], v'.1, v'.2)) (by
      show sX11_mostAlike_5 v'.1 v'.2 _ _ (iI (aliS T (S.1 1).toNat)) _ v3 v4 = _
      unfold sX11_mostAlike_5
      simp (disch := omega) only [nI_iI, lN_lJ, iI_0, lJ_0, iI_add, iI_sub, iI_mul, iI_neg, lJ_add, lJ_sub, lJ_mul, lJ_neg, i_l, l_i, iI_cl, iI_inb, iI_eqT, iI_eqF, iI_ltT, iI_ltF, iI_leT, iI_leF, lJ_eqT, lJ_eqF, lJ_cG, lJ_cE, lJ_cL, lJ_cF, lJ_cGE, lJ_cLE, lJ_cNL, lJ_cNG, Int.cast_ofNat_Int, c_0, c_1, Int.natCast_add, Int.add_zero, cond_true, cond_false, Bool.and_self, Bool.and_true, Bool.true_and, Option.bind_some, decide_true, uI_hit, uI_miss, uI_o, uA_o, uA_s, ↓reduceIte, eq_self, true_or, or_true, or_false, false_or, true_and, and_true, false_and, and_false, or_self, and_self, not_false_eq_true, not_true_eq_false, tn_i, n1]) rfl, a_run_end]
    rfl
  · rintro k ⟨⟨v, hv⟩, v3, v4⟩ hk
    have n1 : v.1 109 1 = iI (S.1 1) := by rw [hv 109 (by omega) (by omega)]; exact hM.1.cell (j := 1) (by omega)
    have mi : 0 ≤ mxS (fun c => cntS T c (S.1 1).toNat) k ∧ mxS (fun c => cntS T c (S.1 1).toNat) k ≤ 6 := by
      refine ⟨mxS_ub.1, ?_⟩
      rcases mxS_at (f := fun c => cntS T c (S.1 1).toNat) (n := k) with z | ⟨c, z1, z2⟩
      · omega
      · have z3 : mxS (fun c => cntS T c (S.1 1).toNat) k = cntS T c (S.1 1).toNat := z2
        have := cntS_in (T := T) (c := c) (m := (S.1 1).toNat)
        omega
    show ∃ v' : {x : aI × aJ // KmT d x.1} × (Option Value × Option Value), a_run stX11_mostAlike (5, [some (.ref 108), some (.int (iI h)), some (.int f), some (.int (iI (mxS (fun c => cntS T c (S.1 1).toNat) k))), some (.int (iI (k : Nat))), v3, v4], v.1, v.2) = a_run stX11_mostAlike (5, [some (.ref 108), some (.int (iI h)), some (.int f), some (.int (iI (if cntS T k (S.1 1).toNat ≤ mxS (fun c => cntS T c (S.1 1).toNat) k then mxS (fun c => cntS T c (S.1 1).toNat) k else cntS T k (S.1 1).toNat))), some (.int (iI (k + 1 : Nat))), v'.2.1, v'.2.2], v'.1.1.1, v'.1.1.2)
    generalize mxS (fun c => cntS T c (S.1 1).toNat) k = mx at mi
    rw [a_run_step (st := stX11_mostAlike) (p2 := (22, [some (.ref 108), some (.int (iI h)), some (.int f), some (.int (iI mx)), some (.int (iI (k : Nat))), some (.int (iI 0)), some (.int (iI (0 : Nat)))], v.1, v.2)) (by
      show sX11_mostAlike_5 v.1 v.2 _ _ _ _ v3 v4 = _
      unfold sX11_mostAlike_5
      simp (disch := omega) only [nI_iI, lN_lJ, iI_0, lJ_0, iI_add, iI_sub, iI_mul, iI_neg, lJ_add, lJ_sub, lJ_mul, lJ_neg, i_l, l_i, iI_cl, iI_inb, iI_eqT, iI_eqF, iI_ltT, iI_ltF, iI_leT, iI_leF, lJ_eqT, lJ_eqF, lJ_cG, lJ_cE, lJ_cL, lJ_cF, lJ_cGE, lJ_cLE, lJ_cNL, lJ_cNG, Int.cast_ofNat_Int, c_0, c_1, Int.natCast_add, Int.add_zero, cond_true, cond_false, Bool.and_self, Bool.and_true, Bool.true_and, Option.bind_some, decide_true, uI_hit, uI_miss, uI_o, uA_o, uA_s, ↓reduceIte, eq_self, true_or, or_true, or_false, false_or, true_and, and_true, false_and, and_false, or_self, and_self, not_false_eq_true, not_true_eq_false, tn_i, n1]) rfl]
    have key := run_foldV (st := stX11_mostAlike) (V := {x : aI × aJ // KmT d x.1}) (fun j g w => (22, [some (.ref 108), some (.int (iI h)), some (.int f), some (.int (iI mx)), some (.int (iI (k : Nat))), some (.int (iI g)), some (.int (iI (j : Nat)))], w.1.1, w.1.2)) (fun j g => if T k ≠ -1 ∧ T j = T k then g + 1 else g + 0) (S.1 1).toNat 0 ?_ ⟨v, hv⟩
    · obtain ⟨⟨w, hw⟩, q⟩ := key
      have m1 : w.1 109 1 = iI (S.1 1) := by rw [hw 109 (by omega) (by omega)]; exact hM.1.cell (j := 1) (by omega)
      have ci := cntS_in (T := T) (c := k) (m := (S.1 1).toNat)
      rw [q]
      refine ⟨(⟨w, hw⟩, some (.int (iI (cntS T k (S.1 1).toNat))), some (.int (iI ((S.1 1).toNat : Nat)))), a_run_step ?_ rfl⟩
      show sX11_mostAlike_22 w.1 w.2 _ _ _ _ (iI (cntS T k (S.1 1).toNat)) _ = _
      unfold sX11_mostAlike_22
      by_cases z : cntS T k (S.1 1).toNat ≤ mx
      · rw [if_pos z]
        simp (disch := omega) only [nI_iI, lN_lJ, iI_0, lJ_0, iI_add, iI_sub, iI_mul, iI_neg, lJ_add, lJ_sub, lJ_mul, lJ_neg, i_l, l_i, iI_cl, iI_inb, iI_eqT, iI_eqF, iI_ltT, iI_ltF, iI_leT, iI_leF, lJ_eqT, lJ_eqF, lJ_cG, lJ_cE, lJ_cL, lJ_cF, lJ_cGE, lJ_cLE, lJ_cNL, lJ_cNG, Int.cast_ofNat_Int, c_0, c_1, Int.natCast_add, Int.add_zero, cond_true, cond_false, Bool.and_self, Bool.and_true, Bool.true_and, Option.bind_some, decide_true, uI_hit, uI_miss, uI_o, uA_o, uA_s, ↓reduceIte, eq_self, true_or, or_true, or_false, false_or, true_and, and_true, false_and, and_false, or_self, and_self, not_false_eq_true, not_true_eq_false, tn_i, m1]
      · rw [if_neg z]
        simp (disch := omega) only [nI_iI, lN_lJ, iI_0, lJ_0, iI_add, iI_sub, iI_mul, iI_neg, lJ_add, lJ_sub, lJ_mul, lJ_neg, i_l, l_i, iI_cl, iI_inb, iI_eqT, iI_eqF, iI_ltT, iI_ltF, iI_leT, iI_leF, lJ_eqT, lJ_eqF, lJ_cG, lJ_cE, lJ_cL, lJ_cF, lJ_cGE, lJ_cLE, lJ_cNL, lJ_cNG, Int.cast_ofNat_Int, c_0, c_1, Int.natCast_add, Int.add_zero, cond_true, cond_false, Bool.and_self, Bool.and_true, Bool.true_and, Option.bind_some, decide_true, uI_hit, uI_miss, uI_o, uA_o, uA_s, ↓reduceIte, eq_self, true_or, or_true, or_false, false_or, true_and, and_true, false_and, and_false, or_self, and_self, not_false_eq_true, not_true_eq_false, tn_i, m1]
    · rintro j ⟨w, hw⟩ hj
      have m1 : w.1 109 1 = iI (S.1 1) := by rw [hw 109 (by omega) (by omega)]; exact hM.1.cell (j := 1) (by omega)
      have m3 : w.1 109 3 = iI (S.1 3) := by rw [hw 109 (by omega) (by omega)]; exact hM.1.cell (j := 3) (by omega)
      have kT := Tin k (by omega)
      have jT := Tin j (by omega)
      have ci := cntS_in (T := T) (c := k) (m := j)
      show ∃ v' : {x : aI × aJ // KmT d x.1}, a_run stX11_mostAlike (22, [some (.ref 108), some (.int (iI h)), some (.int f), some (.int (iI mx)), some (.int (iI (k : Nat))), some (.int (iI (cntS T k j))), some (.int (iI (j : Nat)))], w.1, w.2) = a_run stX11_mostAlike (22, [some (.ref 108), some (.int (iI h)), some (.int f), some (.int (iI mx)), some (.int (iI (k : Nat))), some (.int (iI (if T k ≠ -1 ∧ T j = T k then cntS T k j + 1 else cntS T k j + 0))), some (.int (iI (j + 1 : Nat)))], v'.1.1, v'.1.2)
      generalize cntS T k j = s at ci
      by_cases c1 : hasP f k
      · by_cases c2 : hasP f j
        · have g1 := mq_has_y (d := w.1) (e := w.2) c1
          have g2 := mq_has_y (d := w.1) (e := w.2) c2
          have t1 : T k ≠ -1 := kT.2.2.1 c1
          obtain ⟨d1, e1, q1, q2⟩ := mq_takesOf (e := w.2) (hM.1.of (hw 109 (by omega) (by omega))) hW ((hM.mx hS).of (hw 111 (by omega) (by omega))) (c := k) (h := h) (by omega) hh
          have hd1 : KmT d d1 := fun o a b => (q2 o a b).trans (hw o a b)
          obtain ⟨d2, e2, q3, q4⟩ := mq_takesOf (e := e1) (hM.1.of (hd1 109 (by omega) (by omega))) hW ((hM.mx hS).of (hd1 111 (by omega) (by omega))) (c := j) (h := h) (by omega) hh
          have hd2 : KmT d d2 := fun o a b => (q4 o a b).trans (hd1 o a b)
          have m4 : d1 109 3 = iI (S.1 3) := by rw [hd1 109 (by omega) (by omega)]; exact hM.1.cell (j := 3) (by omega)
          rw [Ty k c1] at q1
          rw [Ty j c2] at q3
          refine ⟨⟨(d2, e2), hd2⟩, a_run_step ?_ rfl⟩
          show sX11_mostAlike_22 w.1 w.2 _ _ _ _ _ _ = _
          by_cases z : T j = T k
          · rw [if_pos (show T k ≠ -1 ∧ T j = T k from ⟨t1, z⟩)]
            rw [z] at q3
            unfold sX11_mostAlike_22
            simp (disch := omega) only [nI_iI, lN_lJ, iI_0, lJ_0, iI_add, iI_sub, iI_mul, iI_neg, lJ_add, lJ_sub, lJ_mul, lJ_neg, i_l, l_i, iI_cl, iI_inb, iI_eqT, iI_eqF, iI_ltT, iI_ltF, iI_leT, iI_leF, lJ_eqT, lJ_eqF, lJ_cG, lJ_cE, lJ_cL, lJ_cF, lJ_cGE, lJ_cLE, lJ_cNL, lJ_cNG, Int.cast_ofNat_Int, c_0, c_1, Int.natCast_add, Int.add_zero, cond_true, cond_false, Bool.and_self, Bool.and_true, Bool.true_and, Option.bind_some, decide_true, uI_hit, uI_miss, uI_o, uA_o, uA_s, ↓reduceIte, eq_self, true_or, or_true, or_false, false_or, true_and, and_true, false_and, and_false, or_self, and_self, not_false_eq_true, not_true_eq_false, tn_i, m1, m3, m4, g1, g2, q1, q3]
          · rw [if_neg (show ¬(T k ≠ -1 ∧ T j = T k) from fun a => z a.2)]
            unfold sX11_mostAlike_22
            simp (disch := omega) only [nI_iI, lN_lJ, iI_0, lJ_0, iI_add, iI_sub, iI_mul, iI_neg, lJ_add, lJ_sub, lJ_mul, lJ_neg, i_l, l_i, iI_cl, iI_inb, iI_eqT, iI_eqF, iI_ltT, iI_ltF, iI_leT, iI_leF, lJ_eqT, lJ_eqF, lJ_cG, lJ_cE, lJ_cL, lJ_cF, lJ_cGE, lJ_cLE, lJ_cNL, lJ_cNG, Int.cast_ofNat_Int, c_0, c_1, Int.natCast_add, Int.add_zero, cond_true, cond_false, Bool.and_self, Bool.and_true, Bool.true_and, Option.bind_some, decide_true, uI_hit, uI_miss, uI_o, uA_o, uA_s, ↓reduceIte, eq_self, true_or, or_true, or_false, false_or, true_and, and_true, false_and, and_false, or_self, and_self, not_false_eq_true, not_true_eq_false, tn_i, m1, m3, m4, g1, g2, q1, q3]
        · have g1 := mq_has_y (d := w.1) (e := w.2) c1
          have g2 := mq_has_n (d := w.1) (e := w.2) c2
          refine ⟨⟨w, hw⟩, a_run_step ?_ rfl⟩
          show sX11_mostAlike_22 w.1 w.2 _ _ _ _ _ _ = _
          rw [if_neg (show ¬(T k ≠ -1 ∧ T j = T k) from fun a => c2 (jT.2.2.2 (by rw [a.2]; exact a.1)))]
          unfold sX11_mostAlike_22
          simp (disch := omega) only [nI_iI, lN_lJ, iI_0, lJ_0, iI_add, iI_sub, iI_mul, iI_neg, lJ_add, lJ_sub, lJ_mul, lJ_neg, i_l, l_i, iI_cl, iI_inb, iI_eqT, iI_eqF, iI_ltT, iI_ltF, iI_leT, iI_leF, lJ_eqT, lJ_eqF, lJ_cG, lJ_cE, lJ_cL, lJ_cF, lJ_cGE, lJ_cLE, lJ_cNL, lJ_cNG, Int.cast_ofNat_Int, c_0, c_1, Int.natCast_add, Int.add_zero, cond_true, cond_false, Bool.and_self, Bool.and_true, Bool.true_and, Option.bind_some, decide_true, uI_hit, uI_miss, uI_o, uA_o, uA_s, ↓reduceIte, eq_self, true_or, or_true, or_false, false_or, true_and, and_true, false_and, and_false, or_self, and_self, not_false_eq_true, not_true_eq_false, tn_i, m1, m3, g1, g2]
      · have g1 := mq_has_n (d := w.1) (e := w.2) c1
        refine ⟨⟨w, hw⟩, a_run_step ?_ rfl⟩
        show sX11_mostAlike_22 w.1 w.2 _ _ _ _ _ _ = _
        rw [if_neg (show ¬(T k ≠ -1 ∧ T j = T k) from fun a => c1 (kT.2.2.2 a.1))]
        unfold sX11_mostAlike_22
        simp (disch := omega) only [nI_iI, lN_lJ, iI_0, lJ_0, iI_add, iI_sub, iI_mul, iI_neg, lJ_add, lJ_sub, lJ_mul, lJ_neg, i_l, l_i, iI_cl, iI_inb, iI_eqT, iI_eqF, iI_ltT, iI_ltF, iI_leT, iI_leF, lJ_eqT, lJ_eqF, lJ_cG, lJ_cE, lJ_cL, lJ_cF, lJ_cGE, lJ_cLE, lJ_cNL, lJ_cNG, Int.cast_ofNat_Int, c_0, c_1, Int.natCast_add, Int.add_zero, cond_true, cond_false, Bool.and_self, Bool.and_true, Bool.true_and, Option.bind_some, decide_true, uI_hit, uI_miss, uI_o, uA_o, uA_s, ↓reduceIte, eq_self, true_or, or_true, or_false, false_or, true_and, and_true, false_and, and_false, or_self, and_self, not_false_eq_true, not_true_eq_false, tn_i, m1, m3, g1]
-- how many bits
def bcN (m : Nat) : Nat := m % 2 + m / 2 % 2 + m / 4 % 2 + m / 8 % 2 + m / 16 % 2 + m / 32 % 2
theorem bc_c : ∀ m, m < 64 → a_bits (iI (m : Nat)) = iI (bcN m : Nat) := by decide +kernel
theorem bc_J {d : aI} {e : aJ} {m : Nat} (h : m < 64) : FJbit d e (iI m) = some (iI (bcN m : Nat), d, e) := congrArg (fun z => some (z, d, e)) (bc_c m h)
theorem bc_m : ∀ m, m < 64 → m ≠ 0 → iI (m : Nat) &&& (iI (m : Nat) - iI 1) = iI ((m &&& (m - 1) : Nat) : Int) ∧ (m &&& (m - 1)) < m ∧ bcN (m &&& (m - 1)) + 1 = bcN m := by decide +kernel
theorem bc_z : ∀ m, m < 64 → m ≠ 0 → ¬iI (m : Nat) = 0 := by decide +kernel
theorem bc_in : ∀ m, m < 64 → bcN m ≤ 6 := by decide +kernel
theorem mq_bits {d : aI} {e : aJ} (m : Nat) (hm : m < 64) : FX11_bits d e (iI m) = some (iI (bcN m : Nat), d, e) := by
  have key : ∀ (n p : Nat) (c : Nat), p ≤ n → p < 64 → a_run stX11_bits (4, [some (.int (iI m)), some (.int (iI (c : Nat))), some (.int (iI (p : Nat)))], d, e) = some ([some (.int (iI ((c + bcN p : Nat) : Int)))], d, e) := by
    intro n
    induction n with
    | zero =>
      intro p c h1 h2
      obtain rfl : p = 0 := by omega
      rw [a_run_step (st := stX11_bits) (p2 := (100000, [some (.int (iI (c : Nat)))], d, e)) rfl rfl, a_run_end]
      rfl
    | succ n ih =>
      intro p c h1 h2
      by_cases z : p = 0
      · subst z
        rw [a_run_step (st := stX11_bits) (p2 := (100000, [some (.int (iI (c : Nat)))], d, e)) rfl rfl, a_run_end]
        rfl
      · obtain ⟨b1, b2, b3⟩ := bc_m p h2 z
        rw [a_run_step (st := stX11_bits) (p2 := (4, [some (.int (iI m)), some (.int (iI ((c + 1 : Nat) : Int))), some (.int (iI ((p &&& (p - 1) : Nat) : Int)))], d, e)) (by
          show sX11_bits_4 d e _ _ _ = _
          unfold sX11_bits_4
          rw [if_neg (bc_z p h2 z), ← b1]
          rw [show iI ((c + 1 : Nat) : Int) = iI (c : Nat) + nI 1 from (iI_add (c : Nat) 1).symm]
          rfl) rfl, ih _ _ (by omega) (by omega)]
        rw [show c + 1 + bcN (p &&& (p - 1)) = c + bcN p by omega]
  unfold FX11_bits
  rw [a_run_step (st := stX11_bits) (p := (0, [some (.int (iI m)), none, none], d, e)) (p2 := (4, [some (.int (iI m)), some (.int (iI (0 : Nat))), some (.int (iI m))], d, e)) rfl rfl]
  rw [key m m 0 (Nat.le_refl _) hm, Nat.zero_add]
  rfl
/-- where the fewest are alike -/
def askF (M : Nat → Int) (k : Nat) (s : Int × Int) : Int × Int := if M k < s.2 then ((k : Int), M k) else s
theorem askF_eq {M : Nat → Int} {L : Int} (hM : ∀ k, 0 ≤ M k ∧ M k ≤ 6) (hL : 7 ≤ L) (n : Nat) : (itr (askF M) n (-1, 7)).1 = (itr (askF M) n (-1, L)).1 ∧ (itr (askF M) n (-1, 7)).2 = (if n = 0 then 7 else (itr (askF M) n (-1, L)).2) ∧ 0 ≤ (itr (askF M) n (-1, 7)).2 ∧ (itr (askF M) n (-1, 7)).2 ≤ 7 ∧ (n = 0 → (itr (askF M) n (-1, L)).2 = L) := by
  induction n with
  | zero => exact ⟨rfl, rfl, by show (0 : Int) ≤ 7; omega, by show (7 : Int) ≤ 7; omega, fun _ => rfl⟩
  | succ n ih =>
    have e1 : itr (askF M) (n + 1) (-1, 7) = askF M n (itr (askF M) n (-1, 7)) := rfl
    have e2 : itr (askF M) (n + 1) (-1, L) = askF M n (itr (askF M) n (-1, L)) := rfl
    rw [e1, e2, if_neg (show ¬n + 1 = 0 by omega)]
    obtain ⟨i1, i2, i3, i4, i5⟩ := ih
    have h := hM n
    generalize itr (askF M) n (-1, 7) = s1 at i1 i2 i3 i4 i5 ⊢
    generalize itr (askF M) n (-1, L) = s2 at i1 i2 i3 i4 i5 ⊢
    unfold askF
    by_cases z : n = 0
    · have i6 := i5 z
      rw [if_pos z] at i2
      rw [i2, i6, if_pos (show M n < 7 by omega), if_pos (show M n < L by omega)]
      exact ⟨rfl, rfl, h.1, by show M n ≤ 7; omega, fun q => absurd q (by omega)⟩
    · rw [if_neg z] at i2
      rw [← i2]
      by_cases c : M n < s1.2
      · rw [if_pos c, if_pos c]
        exact ⟨rfl, rfl, h.1, by show M n ≤ 7; omega, fun q => absurd q (by omega)⟩
      · rw [if_neg c, if_neg c]
        exact ⟨i1, i2, i3, i4, fun q => absurd q (by omega)⟩
def askM (S : aS) (k : Nat) : Int := aliS (aT S.1 (lawT S) (whS S.1 (lawT S)) k) (S.1 1).toNat
theorem askM_in {S : aS} (hS : sOK S) (k : Nat) : 0 ≤ askM S k ∧ askM S k ≤ 6 := by
  have w1 := hS.1.1.2.1
  have := aliS_in (T := aT S.1 (lawT S) (whS S.1 (lawT S)) k) (n := (S.1 1).toNat)
  unfold askM
  omega
theorem bind_at {α β : Type} {o : Option α} {a : α} (h : o = some a) (F : α → Option β) : o.bind F = F a := by rw [h]; rfl
theorem cq_ask0 {d d1 : aI} {e : aJ} {m : Nat} (m64 : m < 64) {f : Int32} (f1 : f = iI m) (q1 : FX10_which d e = some (f, d1, e)) : sX10_askNext_0 d e = if 2 ≤ bcN m then some (23, [some (.ref 0), some (.int f), some (.int (iI (-1))), some (.int (iI 7)), some (.int (iI (0 : Nat))), none], d1, e) else some (100000, [some (.int (iI (-1)))], d1, e) := by
  have b6 := bc_in m m64
  have j := bc_J (d := d1) (e := e) m64
  rw [← f1] at j
  have h : sX10_askNext_0 d e = (if (nI 2) ≤ iI (bcN m : Nat) then (some (23, [some (.ref 0), some (.int f), some (.int (-(nI 1))), some (.int (nI 7)), some (.int (nI 0)), none], d1, e)) else (some (100000, [some (.int (-(nI 1)))], d1, e))) := by
    unfold sX10_askNext_0
    exact (bind_at q1 _).trans (bind_at j _)
  rw [h]
  by_cases hb : 2 ≤ bcN m
  · rw [if_pos hb]
    simp (disch := omega) only [nI_iI, lN_lJ, iI_0, lJ_0, iI_add, iI_sub, iI_mul, iI_neg, lJ_add, lJ_sub, lJ_mul, lJ_neg, i_l, l_i, iI_cl, iI_inb, iI_eqT, iI_eqF, iI_ltT, iI_ltF, iI_leT, iI_leF, lJ_eqT, lJ_eqF, lJ_cG, lJ_cE, lJ_cL, lJ_cF, lJ_cGE, lJ_cLE, lJ_cNL, lJ_cNG, Int.cast_ofNat_Int, c_0, c_1, Int.natCast_add, Int.add_zero, cond_true, cond_false, Bool.and_self, Bool.and_true, Bool.true_and, Option.bind_some, decide_true, uI_hit, uI_miss, uI_o, uA_o, uA_s, ↓reduceIte, eq_self, true_or, or_true, or_false, false_or, true_and, and_true, false_and, and_false, or_self, and_self, not_false_eq_true, not_true_eq_false, tn_i]
  · rw [if_neg hb]
    simp (disch := omega) only [nI_iI, lN_lJ, iI_0, lJ_0, iI_add, iI_sub, iI_mul, iI_neg, lJ_add, lJ_sub, lJ_mul, lJ_neg, i_l, l_i, iI_cl, iI_inb, iI_eqT, iI_eqF, iI_ltT, iI_ltF, iI_leT, iI_leF, lJ_eqT, lJ_eqF, lJ_cG, lJ_cE, lJ_cL, lJ_cF, lJ_cGE, lJ_cLE, lJ_cNL, lJ_cNG, Int.cast_ofNat_Int, c_0, c_1, Int.natCast_add, Int.add_zero, cond_true, cond_false, Bool.and_self, Bool.and_true, Bool.true_and, Option.bind_some, decide_true, uI_hit, uI_miss, uI_o, uA_o, uA_s, ↓reduceIte, eq_self, true_or, or_true, or_false, false_or, true_and, and_true, false_and, and_false, or_self, and_self, not_false_eq_true, not_true_eq_false, tn_i]
theorem cq_askNext_y {d : aI} {e : aJ} {S : aS} (hS : sOK S) (hC : CI d S) {m : Nat} (f1 : whS S.1 (lawT S) = iI m) (m64 : m < 64) (hb : 2 ≤ bcN m) : ∃ d' e', FX10_askNext d e = some (iI (itr (askF (askM S)) (S.1 0).toNat (-1, 7)).1, d', e') ∧ Kc d d' := by
  have hW := hS.1.1
  have w0 := hW.1
  have w1 := hW.2.1
  have b6 := bc_in m m64
  obtain ⟨L, hL⟩ : ∃ L : Int, L = 1000000 := ⟨_, rfl⟩
  have L7 : 7 ≤ L := by omega
  have aM : ∀ k, 0 ≤ askM S k ∧ askM S k ≤ 6 := askM_in hS
  have fin : ∀ {d d' : aI}, Sx6 d d' → Kc d d' := fun h k hk => h k (by omega) (by omega) (by omega)
  have fim : ∀ {d d' : aI}, KmT d d' → Km d d' := fun h => ⟨fun k a b => h k (by omega) (by omega), fun j _ => by rw [h 108 (by omega) (by omega)]⟩
  obtain ⟨d1, q1, q2⟩ := cq_which (e := e) hS hC
  unfold FX10_askNext
  rw [a_run_step (st := stX10_askNext) (p := (0, [some (.ref 0), none, none, none, none, none], d, e)) (p2 := (23, [some (.ref 0), some (.int (whS S.1 (lawT S))), some (.int (iI (-1))), some (.int (iI 7)), some (.int (iI (0 : Nat))), none], d1, e)) (by
    exact (cq_ask0 m64 f1 q1).trans (if_pos hb)) rfl]
  have key := run_foldV (st := stX10_askNext) (V := {x : aI // Sx6 d x} × Option Value) (fun k (s : Int × Int) v => (23, [some (.ref 0), some (.int (whS S.1 (lawT S))), some (.int (iI s.1)), some (.int (iI s.2)), some (.int (iI (k : Nat))), v.2], v.1.1, e)) (askF (askM S)) (S.1 0).toNat (-1, 7) ?_ (⟨d1, fun o a b _ => q2 o a b⟩, none)
  · obtain ⟨⟨⟨d2, s2⟩, v⟩, q⟩ := key
    have hC2 := hC.of6 hS s2
    have k8 : d2 2 8 = iI (S.1 0) := hC2.cn.1
    refine ⟨d2, e, ?_, fin s2⟩
    rw [q, a_run_step (st := stX10_askNext) (p2 := (100000, [some (.int (iI (itr (askF (askM S)) (S.1 0).toNat (-1, 7)).1))], d2, e)) (by
      show sX10_askNext_23 d2 e _ _ _ _ v = _
      unfold sX10_askNext_23
      simp (disch := omega) only [nI_iI, lN_lJ, iI_0, lJ_0, iI_add, iI_sub, iI_mul, iI_neg, lJ_add, lJ_sub, lJ_mul, lJ_neg, i_l, l_i, iI_cl, iI_inb, iI_eqT, iI_eqF, iI_ltT, iI_ltF, iI_leT, iI_leF, lJ_eqT, lJ_eqF, lJ_cG, lJ_cE, lJ_cL, lJ_cF, lJ_cGE, lJ_cLE, lJ_cNL, lJ_cNG, Int.cast_ofNat_Int, c_0, c_1, Int.natCast_add, Int.add_zero, cond_true, cond_false, Bool.and_self, Bool.and_true, Bool.true_and, Option.bind_some, decide_true, uI_hit, uI_miss, uI_o, uA_o, uA_s, ↓reduceIte, eq_self, true_or, or_true, or_false, false_or, true_and, and_true, false_and, and_false, or_self, and_self, not_false_eq_true, not_true_eq_false, tn_i, k8]) rfl, a_run_end]
    rfl
  · rintro k ⟨⟨d2, s2⟩, v⟩ hk
    have hC2 := hC.of6 hS s2
    have k8 : d2 2 8 = iI (S.1 0) := hC2.cn.1
    have in1 := askF_eq aM L7 k
    have h6 := aM k
    obtain ⟨d3, q3, s3⟩ := cq_mostAlike (e := e) hS hC2 (f := whS S.1 (lawT S)) (h := k) (by omega)
    have q4 : FX10_mostAlike d2 e (whS S.1 (lawT S)) (iI k) = some (iI (askM S k), d3, e) := q3
    show ∃ v', a_run stX10_askNext (23, [some (.ref 0), some (.int (whS S.1 (lawT S))), some (.int (iI (itr (askF (askM S)) k (-1, 7)).1)), some (.int (iI (itr (askF (askM S)) k (-1, 7)).2)), some (.int (iI (k : Nat))), v], d2, e) = _
    generalize itr (askF (askM S)) k (-1, 7) = s at in1
    unfold askF
    generalize askM S k = M at q4 h6
    refine ⟨(⟨d3, fun o a b c => (s3 o a b c).trans (s2 o a b c)⟩, some (.int (iI M))), a_run_step ?_ rfl⟩
    show sX10_askNext_23 d2 e _ _ _ _ v = _
    unfold sX10_askNext_23
    by_cases z : M < s.2
    · rw [if_pos z]
      simp (disch := omega) only [nI_iI, lN_lJ, iI_0, lJ_0, iI_add, iI_sub, iI_mul, iI_neg, lJ_add, lJ_sub, lJ_mul, lJ_neg, i_l, l_i, iI_cl, iI_inb, iI_eqT, iI_eqF, iI_ltT, iI_ltF, iI_leT, iI_leF, lJ_eqT, lJ_eqF, lJ_cG, lJ_cE, lJ_cL, lJ_cF, lJ_cGE, lJ_cLE, lJ_cNL, lJ_cNG, Int.cast_ofNat_Int, c_0, c_1, Int.natCast_add, Int.add_zero, cond_true, cond_false, Bool.and_self, Bool.and_true, Bool.true_and, Option.bind_some, decide_true, uI_hit, uI_miss, uI_o, uA_o, uA_s, ↓reduceIte, eq_self, true_or, or_true, or_false, false_or, true_and, and_true, false_and, and_false, or_self, and_self, not_false_eq_true, not_true_eq_false, tn_i, k8, q4]
    · rw [if_neg z]
      simp (disch := omega) only [nI_iI, lN_lJ, iI_0, lJ_0, iI_add, iI_sub, iI_mul, iI_neg, lJ_add, lJ_sub, lJ_mul, lJ_neg, i_l, l_i, iI_cl, iI_inb, iI_eqT, iI_eqF, iI_ltT, iI_ltF, iI_leT, iI_leF, lJ_eqT, lJ_eqF, lJ_cG, lJ_cE, lJ_cL, lJ_cF, lJ_cGE, lJ_cLE, lJ_cNL, lJ_cNG, Int.cast_ofNat_Int, c_0, c_1, Int.natCast_add, Int.add_zero, cond_true, cond_false, Bool.and_self, Bool.and_true, Bool.true_and, Option.bind_some, decide_true, uI_hit, uI_miss, uI_o, uA_o, uA_s, ↓reduceIte, eq_self, true_or, or_true, or_false, false_or, true_and, and_true, false_and, and_false, or_self, and_self, not_false_eq_true, not_true_eq_false, tn_i, k8, q4]
theorem mq_askNext_y {d : aI} {e : aJ} {S : aS} (hS : sOK S) (hM : MI d S) {m : Nat} (f1 : whS S.1 (lawT S) = iI m) (m64 : m < 64) (hb : 2 ≤ bcN m) : ∃ d' e', FX11_askNext d e = some (iI (itr (askF (askM S)) (S.1 0).toNat (-1, 7)).1, d', e') ∧ Km d d' := by
  have hW := hS.1.1
  have w0 := hW.1
  have w1 := hW.2.1
  have b6 := bc_in m m64
  obtain ⟨L, hL⟩ : ∃ L : Int, L = 1000000 := ⟨_, rfl⟩
  have L7 : 7 ≤ L := by omega
  have aM : ∀ k, 0 ≤ askM S k ∧ askM S k ≤ 6 := askM_in hS
  have fin : ∀ {d d' : aI}, Sx6 d d' → Kc d d' := fun h k hk => h k (by omega) (by omega) (by omega)
  have fim : ∀ {d d' : aI}, KmT d d' → Km d d' := fun h => ⟨fun k a b => h k (by omega) (by omega), fun j _ => by rw [h 108 (by omega) (by omega)]⟩
  rw [(askF_eq aM L7 (S.1 0).toNat).1]
  obtain ⟨d1, e1, q1, q2⟩ := mq_which (e := e) hS hM
  unfold FX11_askNext
  rw [a_run_step (st := stX11_askNext) (p := (0, [some (.ref 108), none, none, none, none, none], d, e)) (p2 := (24, [some (.ref 108), some (.int (whS S.1 (lawT S))), some (.int (iI (-1))), some (.int (iI L)), some (.int (iI (0 : Nat))), none], d1, e1)) (by
    show sX11_askNext_0 d e = _
    unfold sX11_askNext_0
    rw [q1, f1, hL]
    simp only [Option.bind_some]
    rw [mq_bits m m64]
    simp (disch := omega) only [nI_iI, lN_lJ, iI_0, lJ_0, iI_add, iI_sub, iI_mul, iI_neg, lJ_add, lJ_sub, lJ_mul, lJ_neg, i_l, l_i, iI_cl, iI_inb, iI_eqT, iI_eqF, iI_ltT, iI_ltF, iI_leT, iI_leF, lJ_eqT, lJ_eqF, lJ_cG, lJ_cE, lJ_cL, lJ_cF, lJ_cGE, lJ_cLE, lJ_cNL, lJ_cNG, Int.cast_ofNat_Int, c_0, c_1, Int.natCast_add, Int.add_zero, cond_true, cond_false, Bool.and_self, Bool.and_true, Bool.true_and, Option.bind_some, decide_true, uI_hit, uI_miss, uI_o, uA_o, uA_s, ↓reduceIte, eq_self, true_or, or_true, or_false, false_or, true_and, and_true, false_and, and_false, or_self, and_self, not_false_eq_true, not_true_eq_false, tn_i]) rfl]
  have key := run_foldV (st := stX11_askNext) (V := {x : aI × aJ // KmT d x.1} × Option Value) (fun k (s : Int × Int) v => (24, [some (.ref 108), some (.int (whS S.1 (lawT S))), some (.int (iI s.1)), some (.int (iI s.2)), some (.int (iI (k : Nat))), v.2], v.1.1.1, v.1.1.2)) (askF (askM S)) (S.1 0).toNat (-1, L) ?_ (⟨(d1, e1), q2⟩, none)
  · obtain ⟨⟨⟨w, s2⟩, v⟩, q⟩ := key
    have k8 : w.1 109 0 = iI (S.1 0) := by rw [s2 109 (by omega) (by omega)]; exact hM.1.cell (j := 0) (by omega)
    refine ⟨w.1, w.2, ?_, fim s2⟩
    rw [q, a_run_step (st := stX11_askNext) (p2 := (100000, [some (.int (iI (itr (askF (askM S)) (S.1 0).toNat (-1, L)).1))], w.1, w.2)) (by
      show sX11_askNext_24 w.1 w.2 _ _ _ _ v = _
      unfold sX11_askNext_24
      simp (disch := omega) only [nI_iI, lN_lJ, iI_0, lJ_0, iI_add, iI_sub, iI_mul, iI_neg, lJ_add, lJ_sub, lJ_mul, lJ_neg, i_l, l_i, iI_cl, iI_inb, iI_eqT, iI_eqF, iI_ltT, iI_ltF, iI_leT, iI_leF, lJ_eqT, lJ_eqF, lJ_cG, lJ_cE, lJ_cL, lJ_cF, lJ_cGE, lJ_cLE, lJ_cNL, lJ_cNG, Int.cast_ofNat_Int, c_0, c_1, Int.natCast_add, Int.add_zero, cond_true, cond_false, Bool.and_self, Bool.and_true, Bool.true_and, Option.bind_some, decide_true, uI_hit, uI_miss, uI_o, uA_o, uA_s, ↓reduceIte, eq_self, true_or, or_true, or_false, false_or, true_and, and_true, false_and, and_false, or_self, and_self, not_false_eq_true, not_true_eq_false, tn_i, k8]) rfl, a_run_end]
    rfl
  · rintro k ⟨⟨w, s2⟩, v⟩ hk
    have k8 : w.1 109 0 = iI (S.1 0) := by rw [s2 109 (by omega) (by omega)]; exact hM.1.cell (j := 0) (by omega)
    have in1 := askF_eq aM L7 k
    have h6 := aM k
    have hM2 : MI w.1 S := hM.of (fim s2)
    obtain ⟨d3, e3, q3, s3⟩ := mq_mostAlike (e := w.2) hS hM2 (f := whS S.1 (lawT S)) (h := k) (by omega)
    have q4 : FX11_mostAlike w.1 w.2 (iI k) (whS S.1 (lawT S)) = some (iI (askM S k), d3, e3) := q3
    have s22 : 0 ≤ (itr (askF (askM S)) k (-1, L)).2 ∧ (itr (askF (askM S)) k (-1, L)).2 ≤ 1000000 := by
      obtain ⟨i1, i2, i3, i4, i5⟩ := in1
      by_cases z : k = 0
      · have := i5 z; omega
      · rw [if_neg z] at i2; omega
    show ∃ v', a_run stX11_askNext (24, [some (.ref 108), some (.int (whS S.1 (lawT S))), some (.int (iI (itr (askF (askM S)) k (-1, L)).1)), some (.int (iI (itr (askF (askM S)) k (-1, L)).2)), some (.int (iI (k : Nat))), v], w.1, w.2) = _
    generalize itr (askF (askM S)) k (-1, L) = s at s22
    clear in1
    unfold askF
    generalize askM S k = M at q4 h6
    refine ⟨(⟨(d3, e3), fun o a b => (s3 o a b).trans (s2 o a b)⟩, some (.int (iI M))), a_run_step ?_ rfl⟩
    show sX11_askNext_24 w.1 w.2 _ _ _ _ v = _
    unfold sX11_askNext_24
    by_cases z : M < s.2
    · rw [if_pos z]
      simp (disch := omega) only [nI_iI, lN_lJ, iI_0, lJ_0, iI_add, iI_sub, iI_mul, iI_neg, lJ_add, lJ_sub, lJ_mul, lJ_neg, i_l, l_i, iI_cl, iI_inb, iI_eqT, iI_eqF, iI_ltT, iI_ltF, iI_leT, iI_leF, lJ_eqT, lJ_eqF, lJ_cG, lJ_cE, lJ_cL, lJ_cF, lJ_cGE, lJ_cLE, lJ_cNL, lJ_cNG, Int.cast_ofNat_Int, c_0, c_1, Int.natCast_add, Int.add_zero, cond_true, cond_false, Bool.and_self, Bool.and_true, Bool.true_and, Option.bind_some, decide_true, uI_hit, uI_miss, uI_o, uA_o, uA_s, ↓reduceIte, eq_self, true_or, or_true, or_false, false_or, true_and, and_true, false_and, and_false, or_self, and_self, not_false_eq_true, not_true_eq_false, tn_i, k8, q4]
    · rw [if_neg z]
      simp (disch := omega) only [nI_iI, lN_lJ, iI_0, lJ_0, iI_add, iI_sub, iI_mul, iI_neg, lJ_add, lJ_sub, lJ_mul, lJ_neg, i_l, l_i, iI_cl, iI_inb, iI_eqT, iI_eqF, iI_ltT, iI_ltF, iI_leT, iI_leF, lJ_eqT, lJ_eqF, lJ_cG, lJ_cE, lJ_cL, lJ_cF, lJ_cGE, lJ_cLE, lJ_cNL, lJ_cNG, Int.cast_ofNat_Int, c_0, c_1, Int.natCast_add, Int.add_zero, cond_true, cond_false, Bool.and_self, Bool.and_true, Bool.true_and, Option.bind_some, decide_true, uI_hit, uI_miss, uI_o, uA_o, uA_s, ↓reduceIte, eq_self, true_or, or_true, or_false, false_or, true_and, and_true, false_and, and_false, or_self, and_self, not_false_eq_true, not_true_eq_false, tn_i, k8, q4]
theorem cq_askNext_n {d : aI} {e : aJ} {S : aS} (hS : sOK S) (hC : CI d S) {m : Nat} (f1 : whS S.1 (lawT S) = iI m) (m64 : m < 64) (hb : ¬2 ≤ bcN m) : ∃ d' e', FX10_askNext d e = some (iI (-1), d', e') ∧ Kc d d' := by
  have hW := hS.1.1
  have w0 := hW.1
  have w1 := hW.2.1
  have b6 := bc_in m m64
  obtain ⟨L, hL⟩ : ∃ L : Int, L = 1000000 := ⟨_, rfl⟩
  have L7 : 7 ≤ L := by omega
  have aM : ∀ k, 0 ≤ askM S k ∧ askM S k ≤ 6 := askM_in hS
  have fin : ∀ {d d' : aI}, Sx6 d d' → Kc d d' := fun h k hk => h k (by omega) (by omega) (by omega)
  have fim : ∀ {d d' : aI}, KmT d d' → Km d d' := fun h => ⟨fun k a b => h k (by omega) (by omega), fun j _ => by rw [h 108 (by omega) (by omega)]⟩
  obtain ⟨d1, q1, q2⟩ := cq_which (e := e) hS hC
  refine ⟨d1, e, ?_, fin (fun o a b _ => q2 o a b)⟩
  unfold FX10_askNext
  rw [a_run_step (st := stX10_askNext) (p := (0, [some (.ref 0), none, none, none, none, none], d, e)) (p2 := (100000, [some (.int (iI (-1)))], d1, e)) (by
    exact (cq_ask0 m64 f1 q1).trans (if_neg hb)) rfl, a_run_end]
  rfl
theorem mq_askNext_n {d : aI} {e : aJ} {S : aS} (hS : sOK S) (hM : MI d S) {m : Nat} (f1 : whS S.1 (lawT S) = iI m) (m64 : m < 64) (hb : ¬2 ≤ bcN m) : ∃ d' e', FX11_askNext d e = some (iI (-1), d', e') ∧ Km d d' := by
  have hW := hS.1.1
  have w0 := hW.1
  have w1 := hW.2.1
  have b6 := bc_in m m64
  obtain ⟨L, hL⟩ : ∃ L : Int, L = 1000000 := ⟨_, rfl⟩
  have L7 : 7 ≤ L := by omega
  have aM : ∀ k, 0 ≤ askM S k ∧ askM S k ≤ 6 := askM_in hS
  have fin : ∀ {d d' : aI}, Sx6 d d' → Kc d d' := fun h k hk => h k (by omega) (by omega) (by omega)
  have fim : ∀ {d d' : aI}, KmT d d' → Km d d' := fun h => ⟨fun k a b => h k (by omega) (by omega), fun j _ => by rw [h 108 (by omega) (by omega)]⟩
  obtain ⟨d1, e1, q1, q2⟩ := mq_which (e := e) hS hM
  refine ⟨d1, e1, ?_, fim q2⟩
  unfold FX11_askNext
  rw [a_run_step (st := stX11_askNext) (p := (0, [some (.ref 108), none, none, none, none, none], d, e)) (p2 := (100000, [some (.int (iI (-1)))], d1, e1)) (by
    show sX11_askNext_0 d e = _
    unfold sX11_askNext_0
    rw [q1, f1]
    simp only [Option.bind_some]
    rw [mq_bits m m64]
    simp (disch := omega) only [nI_iI, lN_lJ, iI_0, lJ_0, iI_add, iI_sub, iI_mul, iI_neg, lJ_add, lJ_sub, lJ_mul, lJ_neg, i_l, l_i, iI_cl, iI_inb, iI_eqT, iI_eqF, iI_ltT, iI_ltF, iI_leT, iI_leF, lJ_eqT, lJ_eqF, lJ_cG, lJ_cE, lJ_cL, lJ_cF, lJ_cGE, lJ_cLE, lJ_cNL, lJ_cNG, Int.cast_ofNat_Int, c_0, c_1, Int.natCast_add, Int.add_zero, cond_true, cond_false, Bool.and_self, Bool.and_true, Bool.true_and, Option.bind_some, decide_true, uI_hit, uI_miss, uI_o, uA_o, uA_s, ↓reduceIte, eq_self, true_or, or_true, or_false, false_or, true_and, and_true, false_and, and_false, or_self, and_self, not_false_eq_true, not_true_eq_false, tn_i]) rfl, a_run_end]
  rfl
theorem o_askNext : Op FX10_askNext FX11_askNext := by
  refine Op.quest (fun S hS => ?_)
  have w1 := hS.1.1.2.1
  obtain ⟨m, f1, f2⟩ := whS_b (y := lawT S) w1
  have m64 : m < 64 := Nat.lt_of_lt_of_le f2 (Nat.le_trans (Nat.pow_le_pow_right (by decide) (show (S.1 1).toNat ≤ 6 by omega)) (by decide))
  by_cases hb : 2 ≤ bcN m
  · exact ⟨_, fun d e hC => cq_askNext_y hS hC f1 m64 hb, fun d e hM => mq_askNext_y hS hM f1 m64 hb⟩
  · exact ⟨_, fun d e hC => cq_askNext_n hS hC f1 m64 hb, fun d e hM => mq_askNext_n hS hM f1 m64 hb⟩
