/-! ===== a text: the class keeps it ===== -/
theorem c7_become {d : aI} {e : aJ} {o0 : Nat} (ho : o0 = 58 ∨ o0 = 63 ∨ o0 = 68 ∨ o0 = 73) : ∃ d', FX7_become d e o0 = some ((), d', e) ∧ (∀ k, k < 24 → d' (o0 + 1) k = d 89 k) ∧ (∀ k, k < 24 → d' (o0 + 2) k = d 90 k) ∧ (∀ k, k < 24 → d' (o0 + 3) k = d 91 k) ∧ (∀ k, k < 300 → d' (o0 + 4) k = d 92 k) ∧ (∀ j, 4 ≤ j → j ≤ 9 → d' o0 j = d 88 j) ∧ ∀ o, (o < o0 ∨ o0 + 4 < o) → d' o = d o := by
  obtain ⟨d1, h1⟩ : ∃ d1, d1 = uA d (o0 + 1) (va_cpy (d 89) (d (o0 + 1)) 0 0 24) := ⟨_, rfl⟩
  obtain ⟨d2, h2⟩ : ∃ d2, d2 = uA d1 (o0 + 2) (va_cpy (d1 90) (d1 (o0 + 2)) 0 0 24) := ⟨_, rfl⟩
  obtain ⟨d3, h3⟩ : ∃ d3, d3 = uA d2 (o0 + 3) (va_cpy (d2 91) (d2 (o0 + 3)) 0 0 24) := ⟨_, rfl⟩
  obtain ⟨d4, h4⟩ : ∃ d4, d4 = uA d3 (o0 + 4) (va_cpy (d3 92) (d3 (o0 + 4)) 0 0 300) := ⟨_, rfl⟩
  obtain ⟨d5, h5⟩ : ∃ d5, d5 = uI (uI (uI (uI (uI (uI d4 o0 4 (d4 88 4)) o0 5 (d4 88 5)) o0 6 (d4 88 6)) o0 7 (d4 88 7)) o0 8 (d4 88 8)) o0 9 (d4 88 9) := ⟨_, rfl⟩
  have dc : decide (o0 = 58 ∨ o0 = 63 ∨ o0 = 68 ∨ o0 = 73) = true := decide_eq_true ho
  have s0 : stX7_become (0, [some (.ref o0), some (.ref 88)], d, e) = some (15, [some (.ref o0), some (.ref 88)], d1, e) := by
    show sX7_become_0 d e o0 = _
    unfold sX7_become_0
    rw [dc, h1]
    simp (disch := omega) only [nI_iI, lN_lJ, iI_0, lJ_0, iI_add, iI_sub, iI_mul, iI_neg, lJ_add, lJ_sub, lJ_mul, lJ_neg, i_l, l_i, iI_cl, iI_inb, iI_eqT, iI_eqF, iI_ltT, iI_ltF, iI_leT, iI_leF, lJ_eqT, lJ_eqF, lJ_cG, lJ_cE, lJ_cL, lJ_cF, lJ_cGE, lJ_cLE, lJ_cNL, lJ_cNG, Int.cast_ofNat_Int, c_0, c_1, Int.natCast_add, Int.add_zero, cond_true, cond_false, Bool.and_self, Bool.and_true, Bool.true_and, Option.bind_some, decide_true, uI_hit, uI_miss, uI_o, uA_o, uA_s, ↓reduceIte, eq_self, true_or, or_true, or_false, false_or, true_and, and_true, false_and, and_false, or_self, and_self, not_false_eq_true, not_true_eq_false, tn_i, decide_eq_true]
  have s1 : stX7_become (15, [some (.ref o0), some (.ref 88)], d1, e) = some (30, [some (.ref o0), some (.ref 88)], d2, e) := by
    show sX7_become_15 d1 e o0 = _
    unfold sX7_become_15
    rw [dc, h2]
    simp (disch := omega) only [nI_iI, lN_lJ, iI_0, lJ_0, iI_add, iI_sub, iI_mul, iI_neg, lJ_add, lJ_sub, lJ_mul, lJ_neg, i_l, l_i, iI_cl, iI_inb, iI_eqT, iI_eqF, iI_ltT, iI_ltF, iI_leT, iI_leF, lJ_eqT, lJ_eqF, lJ_cG, lJ_cE, lJ_cL, lJ_cF, lJ_cGE, lJ_cLE, lJ_cNL, lJ_cNG, Int.cast_ofNat_Int, c_0, c_1, Int.natCast_add, Int.add_zero, cond_true, cond_false, Bool.and_self, Bool.and_true, Bool.true_and, Option.bind_some, decide_true, uI_hit, uI_miss, uI_o, uA_o, uA_s, ↓reduceIte, eq_self, true_or, or_true, or_false, false_or, true_and, and_true, false_and, and_false, or_self, and_self, not_false_eq_true, not_true_eq_false, tn_i, decide_eq_true]
  have s2 : stX7_become (30, [some (.ref o0), some (.ref 88)], d2, e) = some (45, [some (.ref o0), some (.ref 88)], d3, e) := by
    show sX7_become_30 d2 e o0 = _
    unfold sX7_become_30
    rw [dc, h3]
    simp (disch := omega) only [nI_iI, lN_lJ, iI_0, lJ_0, iI_add, iI_sub, iI_mul, iI_neg, lJ_add, lJ_sub, lJ_mul, lJ_neg, i_l, l_i, iI_cl, iI_inb, iI_eqT, iI_eqF, iI_ltT, iI_ltF, iI_leT, iI_leF, lJ_eqT, lJ_eqF, lJ_cG, lJ_cE, lJ_cL, lJ_cF, lJ_cGE, lJ_cLE, lJ_cNL, lJ_cNG, Int.cast_ofNat_Int, c_0, c_1, Int.natCast_add, Int.add_zero, cond_true, cond_false, Bool.and_self, Bool.and_true, Bool.true_and, Option.bind_some, decide_true, uI_hit, uI_miss, uI_o, uA_o, uA_s, ↓reduceIte, eq_self, true_or, or_true, or_false, false_or, true_and, and_true, false_and, and_false, or_self, and_self, not_false_eq_true, not_true_eq_false, tn_i, decide_eq_true]
  have s3 : stX7_become (45, [some (.ref o0), some (.ref 88)], d3, e) = some (61, [some (.ref o0), some (.ref 88)], d4, e) := by
    show sX7_become_45 d3 e o0 = _
    unfold sX7_become_45
    rw [dc, h4]
    simp (disch := omega) only [nI_iI, lN_lJ, iI_0, lJ_0, iI_add, iI_sub, iI_mul, iI_neg, lJ_add, lJ_sub, lJ_mul, lJ_neg, i_l, l_i, iI_cl, iI_inb, iI_eqT, iI_eqF, iI_ltT, iI_ltF, iI_leT, iI_leF, lJ_eqT, lJ_eqF, lJ_cG, lJ_cE, lJ_cL, lJ_cF, lJ_cGE, lJ_cLE, lJ_cNL, lJ_cNG, Int.cast_ofNat_Int, c_0, c_1, Int.natCast_add, Int.add_zero, cond_true, cond_false, Bool.and_self, Bool.and_true, Bool.true_and, Option.bind_some, decide_true, uI_hit, uI_miss, uI_o, uA_o, uA_s, ↓reduceIte, eq_self, true_or, or_true, or_false, false_or, true_and, and_true, false_and, and_false, or_self, and_self, not_false_eq_true, not_true_eq_false, tn_i, decide_eq_true]
  have s4 : stX7_become (61, [some (.ref o0), some (.ref 88)], d4, e) = some (100000, [], d5, e) := by
    show sX7_become_61 d4 e o0 = _
    unfold sX7_become_61
    rw [dc, h5]
    have ne : (88 : Nat) ≠ o0 := by omega
    have m : ∀ (d : aI) (f : Nat) (x : Int32) (j : Nat), uI d o0 f x 88 j = d 88 j := fun d f x j => by rw [uI_o ne]
    simp only [m, cond_true]
  have c4 : ∀ o, o ≠ o0 → d5 o = d4 o := fun o h => by rw [h5, uI_o h, uI_o h, uI_o h, uI_o h, uI_o h, uI_o h]
  have c3 : ∀ o, o ≠ o0 + 4 → d4 o = d3 o := fun o h => by rw [h4, uA_o h]
  have c2 : ∀ o, o ≠ o0 + 3 → d3 o = d2 o := fun o h => by rw [h3, uA_o h]
  have c1 : ∀ o, o ≠ o0 + 2 → d2 o = d1 o := fun o h => by rw [h2, uA_o h]
  have c0 : ∀ o, o ≠ o0 + 1 → d1 o = d o := fun o h => by rw [h1, uA_o h]
  refine ⟨d5, ?_, fun k hk => ?_, fun k hk => ?_, fun k hk => ?_, fun k hk => ?_, fun j j1 j2 => ?_, fun o h => ?_⟩
  · unfold FX7_become
    rw [a_run_step s0 rfl, a_run_step s1 rfl, a_run_step s2 rfl, a_run_step s3 rfl, a_run_step s4 rfl, a_run_end]
    rfl
  · rw [c4 _ (by omega), c3 _ (by omega), c2 _ (by omega), c1 _ (by omega), h1, uA_s, cpy_in (by omega)]
    rw [show 0 + (k - 0) = k by omega]
  · rw [c4 _ (by omega), c3 _ (by omega), c2 _ (by omega), h2, uA_s, cpy_in (by omega), c0 _ (by omega)]
    rw [show 0 + (k - 0) = k by omega]
  · rw [c4 _ (by omega), c3 _ (by omega), h3, uA_s, cpy_in (by omega), c1 _ (by omega), c0 _ (by omega)]
    rw [show 0 + (k - 0) = k by omega]
  · rw [c4 _ (by omega), h4, uA_s, cpy_in (by omega), c2 _ (by omega), c1 _ (by omega), c0 _ (by omega)]
    rw [show 0 + (k - 0) = k by omega]
  · have d88 : d4 88 = d 88 := by rw [c3 _ (by omega), c2 _ (by omega), c1 _ (by omega), c0 _ (by omega)]
    rw [h5, ← d88]
    rcases (show j = 4 ∨ j = 5 ∨ j = 6 ∨ j = 7 ∨ j = 8 ∨ j = 9 by omega) with z | z | z | z | z | z
    · subst z; rw [uI_miss (by omega), uI_miss (by omega), uI_miss (by omega), uI_miss (by omega), uI_miss (by omega), uI_hit rfl]
    · subst z; rw [uI_miss (by omega), uI_miss (by omega), uI_miss (by omega), uI_miss (by omega), uI_hit rfl]
    · subst z; rw [uI_miss (by omega), uI_miss (by omega), uI_miss (by omega), uI_hit rfl]
    · subst z; rw [uI_miss (by omega), uI_miss (by omega), uI_hit rfl]
    · subst z; rw [uI_miss (by omega), uI_hit rfl]
    · subst z; rw [uI_hit rfl]
  · rw [c4 _ (by omega), c3 _ (by omega), c2 _ (by omega), c1 _ (by omega), c0 _ (by omega)]
/-- what was read, as a text -/
def txR (st : Rd) : Tx := (st.1, (st.2.1 : Int), fun k => st.2.2 k.toNat)
theorem DR.ct {d d' : aI} {st : Rd} {u o0 : Nat} (h : DR d st u) (hu : u ≤ 300) (g1 : ∀ k, k < 24 → d' (o0 + 1) k = d 89 k) (g2 : ∀ k, k < 24 → d' (o0 + 2) k = d 90 k) (g3 : ∀ k, k < 24 → d' (o0 + 3) k = d 91 k) (g4 : ∀ k, k < 300 → d' (o0 + 4) k = d 92 k) (g5 : ∀ j, 4 ≤ j → j ≤ 9 → d' o0 j = d 88 j) : CT d' o0 (txR st) := by
  obtain ⟨l1, l2, h4, n24, hc⟩ := h
  have law : ∀ (j : Nat) (s : Int) (x : Option Fn), (j = 6 ∨ j = 8) → CLu d j s x u → CL d' o0 j s x := by
    intro j s x hj hx
    cases x with
    | none =>
      show d' o0 j = iI (-1)
      rw [g5 j (by omega) (by omega)]; exact hx
    | some f =>
      obtain ⟨C, a, b, h1, h2, h3, h4, h5⟩ := hx
      refine ⟨C, a, b, by rw [g5 j (by omega) (by omega)]; exact h1, by rw [g5 (j + 1) (by omega) (by omega)]; exact h2, h3, by omega, fun i i1 i2 => ?_⟩
      rw [g4 i (by omega)]
      exact h5 i (by omega) (by omega)
  refine ⟨law 6 0 _ (Or.inl rfl) l1, law 8 1 _ (Or.inr rfl) l2, by rw [g5 4 (by omega) (by omega)]; exact h4, fun k hk => ?_⟩
  have hk2 : (k : Int) < (st.2.1 : Int) := hk
  have c := hc k (by omega)
  show d' (o0 + 1) k = iI (300 + (st.2.2 ((k : Int)).toNat).1) ∧ (2 ≤ (st.2.2 ((k : Int)).toNat).1 → d' (o0 + 2) k = iI (st.2.2 ((k : Int)).toNat).2.1 ∧ d' (o0 + 3) k = iI (st.2.2 ((k : Int)).toNat).2.2)
  rw [Int.toNat_natCast, g1 k (by omega), g2 k (by omega), g3 k (by omega)]
  exact c
-- the ranges of what is read
def rdOK (st : Rd) : Prop := st.2.1 ≤ 24 ∧ ∀ k, k < st.2.1 → (0 ≤ (st.2.2 k).1 ∧ (st.2.2 k).1 ≤ 8) ∧ (0 ≤ (st.2.2 k).2.1 ∧ (st.2.2 k).2.1 ≤ 9999) ∧ (0 ≤ (st.2.2 k).2.2 ∧ (st.2.2 k).2.2 ≤ 9999) ∧ ((st.2.2 k).1 = 8 → (st.2.2 k).2.1 ≤ 60)
theorem rdOK.add {st : Rd} {l : Option Fn × Option Fn} {x : Int × Int × Int} (h : rdOK st) (hn : st.2.1 < 24) (hx : (0 ≤ x.1 ∧ x.1 ≤ 8) ∧ (0 ≤ x.2.1 ∧ x.2.1 ≤ 9999) ∧ (0 ≤ x.2.2 ∧ x.2.2 ≤ 9999) ∧ (x.1 = 8 → x.2.1 ≤ 60)) : rdOK (addR st l x) := by
  refine ⟨by show st.2.1 + 1 ≤ 24; omega, fun k hk => ?_⟩
  have hk2 : k < st.2.1 + 1 := hk
  show (0 ≤ (if k = st.2.1 then x else st.2.2 k).1 ∧ (if k = st.2.1 then x else st.2.2 k).1 ≤ 8) ∧ (0 ≤ (if k = st.2.1 then x else st.2.2 k).2.1 ∧ (if k = st.2.1 then x else st.2.2 k).2.1 ≤ 9999) ∧ (0 ≤ (if k = st.2.1 then x else st.2.2 k).2.2 ∧ (if k = st.2.1 then x else st.2.2 k).2.2 ≤ 9999) ∧ ((if k = st.2.1 then x else st.2.2 k).1 = 8 → (if k = st.2.1 then x else st.2.2 k).2.1 ≤ 60)
  by_cases q : k = st.2.1
  · rw [if_pos q]; exact hx
  · rw [if_neg q]; exact h.2 k (by omega)
theorem pNum_in {K V : Nat → Int} {lo hi : Int} {i : Nat} {q : Nat × Int} (h : pNum K V lo hi i = .inr q) : lo ≤ q.2 ∧ q.2 ≤ hi := by
  unfold pNum at h
  by_cases q1 : K i = 1
  · rw [if_pos q1] at h
    by_cases q2 : lo ≤ V i ∧ V i ≤ hi
    · rw [if_pos q2] at h
      have e := Sum.inr.inj h
      rw [← e]; exact q2
    · rw [if_neg q2] at h; cases h
  · rw [if_neg q1] at h; cases h
theorem pTwo_in {K V : Nat → Int} {hi mid hi2 : Int} {i : Nat} {q : Nat × Int × Int} (h : pTwo K V hi mid hi2 i = .inr q) : (0 ≤ q.2.1 ∧ q.2.1 ≤ hi) ∧ (0 ≤ q.2.2 ∧ q.2.2 ≤ hi2) := by
  unfold pTwo at h
  cases h1 : pNum K V 0 hi i with
  | inl b => rw [h1] at h; cases h
  | inr w =>
    rw [h1] at h
    have h2 : (if K w.1 = mid then (match pNum K V 0 hi2 (w.1 + 1) with | .inl b => .inl b | .inr p => .inr (p.1, (w.2, p.2))) else .inl (1, w.1) : Rs (Int × Int)) = .inr q := h
    by_cases q1 : K w.1 = mid
    · rw [if_pos q1] at h2
      cases h3 : pNum K V 0 hi2 (w.1 + 1) with
      | inl b => rw [h3] at h2; cases h2
      | inr p =>
        rw [h3] at h2
        have e := Sum.inr.inj h2
        rw [← e]
        exact ⟨pNum_in h1, pNum_in h3⟩
    · rw [if_neg q1] at h2; cases h2
theorem pUno_in {K V : Nat → Int} {lo hi : Int} {i : Nat} {q : Nat × Int × Int} (h : pUno K V lo hi i = .inr q) : (lo ≤ q.2.1 ∧ q.2.1 ≤ hi) ∧ q.2.2 = 0 := by
  unfold pUno at h
  cases h1 : pNum K V lo hi i with
  | inl b => rw [h1] at h; cases h
  | inr w =>
    rw [h1] at h
    have e := Sum.inr.inj h
    rw [← e]
    exact ⟨pNum_in h1, rfl⟩
theorem pDeed_in {K V : Nat → Int} {c : Int} {i : Nat} {q : Nat × Int × Int} (h : pDeed K V c i = .inr q) : (0 ≤ q.2.1 ∧ q.2.1 ≤ 9999) ∧ (0 ≤ q.2.2 ∧ q.2.2 ≤ 9999) ∧ (c = 308 → q.2.1 ≤ 60) := by
  unfold pDeed at h
  by_cases q1 : c = 302
  · rw [if_pos q1] at h; have := pTwo_in h; omega
  · rw [if_neg q1] at h
    by_cases q2 : c = 303
    · rw [if_pos q2] at h; have := pTwo_in h; omega
    · rw [if_neg q2] at h
      by_cases q3 : c = 304
      · rw [if_pos q3] at h; have := pTwo_in h; omega
      · rw [if_neg q3] at h
        by_cases q4 : c = 308
        · rw [if_pos q4] at h; have := pUno_in h; omega
        · rw [if_neg q4] at h; have := pUno_in h; omega
theorem pCla_in {K V : Nat → Int} {st : Rd} {i : Nat} {q : Nat × Rd} (ok : rdOK st) (h : pCla K V st i = .inr q) : rdOK q.2 := by
  unfold pCla at h
  by_cases q1 : K i < 300 ∨ 308 < K i
  · rw [if_pos q1] at h; cases h
  · rw [if_neg q1] at h
    by_cases q2 : (K i = 300 ∧ st.1.1.isSome = true) ∨ (K i = 301 ∧ st.1.2.isSome = true)
    · rw [if_pos q2] at h; cases h
    · rw [if_neg q2] at h
      by_cases q3 : 24 ≤ st.2.1
      · rw [if_pos q3] at h; cases h
      · rw [if_neg q3] at h
        have body : ∀ w, pBody K V st i = .inr w → rdOK w.2 := by
          intro w hw
          unfold pBody at hw
          by_cases a : K i = 300
          · rw [if_pos a] at hw
            cases hp : pSum K V 0 (pOpd K V 0 12) 0 (i + 1) with
            | inl b => rw [hp] at hw; cases hw
            | inr p =>
              rw [hp] at hw
              rw [← Sum.inr.inj hw]
              exact ok.add (by omega) ⟨by omega, by show (0 : Int) ≤ 0 ∧ (0 : Int) ≤ 9999; omega, by show (0 : Int) ≤ 0 ∧ (0 : Int) ≤ 9999; omega, fun _ => by show (0 : Int) ≤ 60; omega⟩
          · rw [if_neg a] at hw
            by_cases a2 : K i = 301
            · rw [if_pos a2] at hw
              cases hp : pSum K V 1 (pOpd K V 1 12) 0 (i + 1) with
              | inl b => rw [hp] at hw; cases hw
              | inr p =>
                rw [hp] at hw
                rw [← Sum.inr.inj hw]
                exact ok.add (by omega) ⟨by omega, by show (0 : Int) ≤ 0 ∧ (0 : Int) ≤ 9999; omega, by show (0 : Int) ≤ 0 ∧ (0 : Int) ≤ 9999; omega, fun _ => by show (0 : Int) ≤ 60; omega⟩
            · rw [if_neg a2] at hw
              cases hp : pDeed K V (K i) (i + 1) with
              | inl b => rw [hp] at hw; cases hw
              | inr p =>
                rw [hp] at hw
                rw [← Sum.inr.inj hw]
                have d := pDeed_in hp
                exact ok.add (by omega) ⟨by show 0 ≤ K i - 300 ∧ K i - 300 ≤ 8; omega, d.1, d.2.1, fun z => d.2.2 (by have z2 : K i - 300 = 8 := z; omega)⟩
        cases hb : pBody K V st i with
        | inl b => rw [hb] at h; cases h
        | inr w =>
          rw [hb] at h
          have h2 : (if K w.1 = 59 then .inr (w.1 + 1, w.2) else .inl (1, w.1) : Rs Rd) = .inr q := h
          by_cases k : K w.1 = 59
          · rw [if_pos k] at h2
            rw [← Sum.inr.inj h2]
            exact body w hb
          · rw [if_neg k] at h2; cases h2
theorem pRd_in {K V : Nat → Int} : ∀ (r : Nat) (st : Rd) (i : Nat) (q : Nat × Rd), rdOK st → pRd K V r st i = .inr q → rdOK q.2
  | 0, st, i, q, ok, h => by
    have e := Sum.inr.inj (show (.inr (i, st) : Rs Rd) = .inr q from h)
    rw [← e]; exact ok
  | r + 1, st, i, q, ok, h => by
    have e1 : pRd K V (r + 1) st i = if K i = 0 then .inr (i, st) else match pCla K V st i with | .inl b => .inl b | .inr q => pRd K V r q.2 q.1 := rfl
    rw [e1] at h
    by_cases k : K i = 0
    · rw [if_pos k] at h
      rw [← Sum.inr.inj h]; exact ok
    · rw [if_neg k] at h
      cases hp : pCla K V st i with
      | inl b => rw [hp] at h; cases h
      | inr w =>
        rw [hp] at h
        exact pRd_in r w.2 w.1 q (pCla_in ok hp) h
theorem rd0_ok : rdOK rd0 := ⟨Nat.zero_le _, fun k hk => absurd hk (Nat.not_lt_zero k)⟩
theorem rdOK.tx {st : Rd} (h : rdOK st) : TxOK (txR st) := by
  refine ⟨⟨by show (0 : Int) ≤ (st.2.1 : Int); omega, by show (st.2.1 : Int) ≤ 24; have := h.1; omega⟩, fun k k0 k1 => ?_⟩
  have k2 : k < (st.2.1 : Int) := k1
  exact h.2 k.toNat (by omega)
