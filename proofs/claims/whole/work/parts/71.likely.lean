/-! ===== how likely, whom to ask ===== -/
abbrev hasP (f : Int32) (k : Int) : Prop := a_shr f (iI k) &&& iI 1 = iI 1
theorem cq_has_y {d : aI} {e : aJ} {f : Int32} {k : Int} (h : hasP f k) : FX10_hasBit d e f (iI k) = some (iI 1, d, e) := by
  have h2 : (a_shr f (iI k)) &&& (nI 1) = nI 1 := h
  unfold FX10_hasBit
  rw [if_pos h2]
  rfl
theorem cq_has_n {d : aI} {e : aJ} {f : Int32} {k : Int} (h : ¬hasP f k) : FX10_hasBit d e f (iI k) = some (iI 0, d, e) := by
  have h2 : ¬(a_shr f (iI k)) &&& (nI 1) = nI 1 := h
  unfold FX10_hasBit
  rw [if_neg h2]
  rfl
theorem mq_has_y {d : aI} {e : aJ} {f : Int32} {k : Int} (h : hasP f k) : FX11_has d e f (iI k) = some (iI 1, d, e) := by
  have h2 : (a_shr f (iI k)) &&& (nI 1) = nI 1 := h
  unfold FX11_has
  rw [if_pos h2]
  rfl
theorem mq_has_n {d : aI} {e : aJ} {f : Int32} {k : Int} (h : ¬hasP f k) : FX11_has d e f (iI k) = some (iI 0, d, e) := by
  have h2 : ¬(a_shr f (iI k)) &&& (nI 1) = nI 1 := h
  unfold FX11_has
  rw [if_neg h2]
  rfl
theorem or_b : ∀ k, k < 6 → ∀ m, m < 2 ^ k → iI (m : Nat) ||| a_shl (iI 1) (iI (k : Nat)) = iI ((m + 2 ^ k : Nat) : Int) := by decide +kernel
theorem nz_b : ∀ n, n < 7 → ∀ m, m < 2 ^ n → (∀ k, k < n → ¬hasP (iI (m : Nat)) (k : Nat)) → m = 0 := by decide +kernel
theorem whS_b {A : Int → Int} {y : Option (En → Int)} (h : 0 ≤ A 1 ∧ A 1 ≤ 6) : ∃ m : Nat, whS A y = iI m ∧ m < 2 ^ (A 1).toNat := by
  have key : ∀ n, n ≤ 6 → ∃ m : Nat, itr (whF A y) n (iI 0) = iI m ∧ m < 2 ^ n := by
    intro n
    induction n with
    | zero => intro _; exact ⟨0, rfl, by decide⟩
    | succ n ih =>
      intro hn
      obtain ⟨m, e1, e2⟩ := ih (by omega)
      show ∃ m : Nat, whF A y n (itr (whF A y) n (iI 0)) = iI m ∧ _
      rw [e1]
      unfold whF
      split
      · exact ⟨m + 2 ^ n, or_b n (by omega) m e2, by rw [Nat.pow_succ]; omega⟩
      · exact ⟨m, rfl, by rw [Nat.pow_succ]; omega⟩
  exact key _ (by omega)
def wI (A : Int → Int) (f : Int32) (k : Int) : Int := if hasP f k then 10 - A (54 + k) else 0
def alS (A : Int → Int) (f : Int32) (n : Nat) : Int := itr (fun k s => s + wI A f k) n 0
def owS (A : Int → Int) (f : Int32) (c : Int) (n : Nat) : Int := itr (fun k s => s + (if (k : Int) = c then wI A f k else 0)) n 0
theorem wI_in {A : Int → Int} (hW : WN A) {f : Int32} {k : Int} (h : 0 ≤ k ∧ k < A 1) : 0 ≤ wI A f k ∧ wI A f k ≤ 10 ∧ (hasP f k → 1 ≤ wI A f k) := by
  have := (hW.2.2.2.2.2.1 k h.1 h.2).2.2.2.1
  unfold wI
  split
  · exact ⟨by omega, by omega, fun _ => by omega⟩
  · next c => exact ⟨by omega, by omega, fun z => absurd z c⟩
theorem alS_s {A : Int → Int} {f : Int32} {n : Nat} : alS A f (n + 1) = alS A f n + wI A f n := rfl
theorem owS_s {A : Int → Int} {f : Int32} {c : Int} {n : Nat} : owS A f c (n + 1) = owS A f c n + (if (n : Int) = c then wI A f n else 0) := rfl
theorem alS_in {A : Int → Int} (hW : WN A) {f : Int32} {n : Nat} (hn : (n : Int) ≤ A 1) : 0 ≤ alS A f n ∧ alS A f n ≤ 10 * n ∧ ((∃ k : Nat, k < n ∧ hasP f k) → 1 ≤ alS A f n) := by
  induction n with
  | zero => exact ⟨Int.le_refl _, Int.le_refl _, fun ⟨k, a, b⟩ => by omega⟩
  | succ n ih =>
    have i := ih (by omega)
    have w := wI_in hW (f := f) (k := n) (by omega)
    rw [alS_s]
    refine ⟨by omega, by omega, fun ⟨k, a, b⟩ => ?_⟩
    by_cases q : k = n
    · subst q
      have := w.2.2 b
      omega
    · have := i.2.2 ⟨k, by omega, b⟩
      omega
theorem owS_eq {A : Int → Int} {f : Int32} {c : Int} (hc : 0 ≤ c) (n : Nat) : owS A f c n = if c < n then wI A f c else 0 := by
  induction n with
  | zero => rw [if_neg (show ¬c < ((0 : Nat) : Int) by omega)]; rfl
  | succ n ih =>
    rw [owS_s, ih]
    by_cases q : (n : Int) = c
    · subst q
      rw [if_neg (show ¬(n : Int) < n by omega), if_pos rfl, if_pos (show (n : Int) < (n + 1 : Nat) by omega)]
      omega
    · rw [if_neg q]
      by_cases q2 : c < n
      · rw [if_pos q2, if_pos (show c < (n + 1 : Nat) by omega)]
        omega
      · rw [if_neg q2, if_neg (show ¬c < (n + 1 : Nat) by omega)]
        omega
theorem alS_pos {A : Int → Int} (hW : WN A) {y : Option (En → Int)} (hz : whS A y ≠ iI 0) : 1 ≤ alS A (whS A y) (A 1).toNat := by
  have w1 := hW.2.1
  obtain ⟨m, e1, e2⟩ := whS_b (y := y) w1
  rw [e1] at hz ⊢
  refine (alS_in hW (by omega)).2.2 ?_
  exact Classical.byContradiction (fun q => hz (by
    have := nz_b (A 1).toNat (by omega) m e2 (fun k hk z => q ⟨k, hk, z⟩)
    rw [this]
    rfl))
theorem cq_likely {d : aI} {e : aJ} {S : aS} (hS : sOK S) (hC : CI d S) {c : Int} (low : Bool) (hc : 0 ≤ c ∧ c < S.1 1) (hz : whS S.1 (lawT S) ≠ iI 0) : ∃ d', FX10_likely d e (iI c) (iI (tv low)) = some (lJ (lowS (wI S.1 (whS S.1 (lawT S)) c).toNat (alS S.1 (whS S.1 (lawT S)) (S.1 1).toNat).toNat low), d', e) ∧ SameX d d' := by
  have hW := hS.1.1
  have w1 := hW.2.1
  obtain ⟨d1, q1, q2⟩ := cq_which (e := e) hS hC
  have hpos := alS_pos hW hz
  generalize hf : whS S.1 (lawT S) = f at q1 hz hpos ⊢
  have hC1 := hC.ofX hS q2
  have k9 : d1 2 9 = iI (S.1 1) := hC1.cn.2.1
  have ha := alS_in hW (f := f) (n := (S.1 1).toNat) (by omega)
  have hw := wI_in hW (f := f) (k := c) hc
  refine ⟨d1, ?_, q2⟩
  unfold FX10_likely
  rw [a_run_step (st := stX10_likely) (p := (0, [some (.ref 0), some (.int (iI c)), some (.int (iI (tv low))), none, none, none, none, none, none, none], d, e)) (p2 := (36, [some (.ref 0), some (.int (iI c)), some (.int (iI (tv low))), some (.int f), some (.long (lJ 0)), none, some (.long (lJ 0)), none, some (.int (iI (0 : Nat))), none], d1, e)) (by
    have hz2 : ¬f = 0 := hz
    show sX10_likely_0 d e _ _ = _
    unfold sX10_likely_0
    rw [q1]
    simp only [Option.bind_some]
    rw [cq_isCat_y hC1.cn hW hc]
    simp only [Option.bind_some]
    rw [if_neg (show ¬iI 1 = 0 by decide), if_neg hz2]
    rfl) rfl]
  have key := run_foldV (st := stX10_likely) (V := Option Value) (fun k (s : Int × Int) v => (36, [some (.ref 0), some (.int (iI c)), some (.int (iI (tv low))), some (.int f), some (.long (lJ s.1)), none, some (.long (lJ s.2)), none, some (.int (iI (k : Nat))), v], d1, e)) (fun k s => (s.1 + wI S.1 f k, s.2 + (if (k : Int) = c then wI S.1 f k else 0))) (S.1 1).toNat (0, 0) ?_ none
  · obtain ⟨v, q⟩ := key
    have pe : ∀ n : Nat, itr (fun k (s : Int × Int) => (s.1 + wI S.1 f k, s.2 + (if (k : Int) = c then wI S.1 f k else 0))) n (0, 0) = (alS S.1 f n, owS S.1 f c n) := by
      intro n
      induction n with
      | zero => rfl
      | succ n ih =>
        show (fun (s : Int × Int) => (s.1 + wI S.1 f n, s.2 + (if (n : Int) = c then wI S.1 f n else 0))) (itr _ n _) = _
        rw [ih]
        rfl
    rw [q, pe, owS_eq hc.1, if_pos (show c < ((S.1 1).toNat : Nat) by omega)]
    have r := cq_ratio (d := d1) (e := e) (u := (wI S.1 f c).toNat) (a := (alS S.1 f (S.1 1).toNat).toNat) low (by omega) (by omega)
    rw [tn_i (by omega), tn_i (by omega)] at r
    rw [a_run_step (st := stX10_likely) (p2 := (100000, [some (.long (lJ (lowS (wI S.1 f c).toNat (alS S.1 f (S.1 1).toNat).toNat low)))], d1, e)) (by
      show sX10_likely_36 d1 e _ _ _ _ _ _ v = _
      unfold sX10_likely_36
      simp (disch := omega) only [nI_iI, lN_lJ, iI_0, lJ_0, iI_add, iI_sub, iI_mul, iI_neg, lJ_add, lJ_sub, lJ_mul, lJ_neg, i_l, l_i, iI_cl, iI_inb, iI_eqT, iI_eqF, iI_ltT, iI_ltF, iI_leT, iI_leF, lJ_eqT, lJ_eqF, lJ_cG, lJ_cE, lJ_cL, lJ_cF, lJ_cGE, lJ_cLE, lJ_cNL, lJ_cNG, Int.cast_ofNat_Int, c_0, c_1, Int.natCast_add, Int.add_zero, cond_true, cond_false, Bool.and_self, Bool.and_true, Bool.true_and, Option.bind_some, decide_true, uI_hit, uI_miss, uI_o, uA_o, uA_s, ↓reduceIte, eq_self, true_or, or_true, or_false, false_or, true_and, and_true, false_and, and_false, or_self, and_self, not_false_eq_true, not_true_eq_false, tn_i, k9, r]) rfl, a_run_end]
    rfl
  · intro k v hk
    have kh : d1 6 k = iI (S.1 (54 + k)) := hC1.cn.2.2.2.2.2.2.2.2.1 k (by omega)
    have kw := (hW.2.2.2.2.2.1 k (by omega) (by omega)).2.2.2.1
    generalize itr (fun k (s : Int × Int) => (s.1 + wI S.1 f k, s.2 + (if (k : Int) = c then wI S.1 f k else 0))) k (0, 0) = s
    by_cases c1 : hasP f k
    · have g := cq_has_y (d := d1) (e := e) c1
      by_cases c2 : (k : Int) = c
      · refine ⟨some (.int (iI (10 - S.1 (54 + k)))), a_run_step ?_ rfl⟩
        show sX10_likely_36 d1 e _ _ _ _ _ _ v = _
        unfold wI
        rw [if_pos c2, if_pos c1]
        unfold sX10_likely_36
        simp (disch := omega) only [nI_iI, lN_lJ, iI_0, lJ_0, iI_add, iI_sub, iI_mul, iI_neg, lJ_add, lJ_sub, lJ_mul, lJ_neg, i_l, l_i, iI_cl, iI_inb, iI_eqT, iI_eqF, iI_ltT, iI_ltF, iI_leT, iI_leF, lJ_eqT, lJ_eqF, lJ_cG, lJ_cE, lJ_cL, lJ_cF, lJ_cGE, lJ_cLE, lJ_cNL, lJ_cNG, Int.cast_ofNat_Int, c_0, c_1, Int.natCast_add, Int.add_zero, cond_true, cond_false, Bool.and_self, Bool.and_true, Bool.true_and, Option.bind_some, decide_true, uI_hit, uI_miss, uI_o, uA_o, uA_s, ↓reduceIte, eq_self, true_or, or_true, or_false, false_or, true_and, and_true, false_and, and_false, or_self, and_self, not_false_eq_true, not_true_eq_false, tn_i, Int.toNat_natCast, k9, kh, g, i_l]
      · refine ⟨some (.int (iI (10 - S.1 (54 + k)))), a_run_step ?_ rfl⟩
        show sX10_likely_36 d1 e _ _ _ _ _ _ v = _
        unfold wI
        rw [if_neg c2, if_pos c1]
        unfold sX10_likely_36
        simp (disch := omega) only [nI_iI, lN_lJ, iI_0, lJ_0, iI_add, iI_sub, iI_mul, iI_neg, lJ_add, lJ_sub, lJ_mul, lJ_neg, i_l, l_i, iI_cl, iI_inb, iI_eqT, iI_eqF, iI_ltT, iI_ltF, iI_leT, iI_leF, lJ_eqT, lJ_eqF, lJ_cG, lJ_cE, lJ_cL, lJ_cF, lJ_cGE, lJ_cLE, lJ_cNL, lJ_cNG, Int.cast_ofNat_Int, c_0, c_1, Int.natCast_add, Int.add_zero, cond_true, cond_false, Bool.and_self, Bool.and_true, Bool.true_and, Option.bind_some, decide_true, uI_hit, uI_miss, uI_o, uA_o, uA_s, ↓reduceIte, eq_self, true_or, or_true, or_false, false_or, true_and, and_true, false_and, and_false, or_self, and_self, not_false_eq_true, not_true_eq_false, tn_i, Int.toNat_natCast, k9, kh, g, i_l]
    · have g := cq_has_n (d := d1) (e := e) c1
      by_cases c2 : (k : Int) = c
      · refine ⟨some (.int (iI 0)), a_run_step ?_ rfl⟩
        show sX10_likely_36 d1 e _ _ _ _ _ _ v = _
        unfold wI
        rw [if_pos c2, if_neg c1]
        unfold sX10_likely_36
        simp (disch := omega) only [nI_iI, lN_lJ, iI_0, lJ_0, iI_add, iI_sub, iI_mul, iI_neg, lJ_add, lJ_sub, lJ_mul, lJ_neg, i_l, l_i, iI_cl, iI_inb, iI_eqT, iI_eqF, iI_ltT, iI_ltF, iI_leT, iI_leF, lJ_eqT, lJ_eqF, lJ_cG, lJ_cE, lJ_cL, lJ_cF, lJ_cGE, lJ_cLE, lJ_cNL, lJ_cNG, Int.cast_ofNat_Int, c_0, c_1, Int.natCast_add, Int.add_zero, cond_true, cond_false, Bool.and_self, Bool.and_true, Bool.true_and, Option.bind_some, decide_true, uI_hit, uI_miss, uI_o, uA_o, uA_s, ↓reduceIte, eq_self, true_or, or_true, or_false, false_or, true_and, and_true, false_and, and_false, or_self, and_self, not_false_eq_true, not_true_eq_false, tn_i, k9, g, i_l]
      · refine ⟨some (.int (iI 0)), a_run_step ?_ rfl⟩
        show sX10_likely_36 d1 e _ _ _ _ _ _ v = _
        unfold wI
        rw [if_neg c2, if_neg c1]
        unfold sX10_likely_36
        simp (disch := omega) only [nI_iI, lN_lJ, iI_0, lJ_0, iI_add, iI_sub, iI_mul, iI_neg, lJ_add, lJ_sub, lJ_mul, lJ_neg, i_l, l_i, iI_cl, iI_inb, iI_eqT, iI_eqF, iI_ltT, iI_ltF, iI_leT, iI_leF, lJ_eqT, lJ_eqF, lJ_cG, lJ_cE, lJ_cL, lJ_cF, lJ_cGE, lJ_cLE, lJ_cNL, lJ_cNG, Int.cast_ofNat_Int, c_0, c_1, Int.natCast_add, Int.add_zero, cond_true, cond_false, Bool.and_self, Bool.and_true, Bool.true_and, Option.bind_some, decide_true, uI_hit, uI_miss, uI_o, uA_o, uA_s, ↓reduceIte, eq_self, true_or, or_true, or_false, false_or, true_and, and_true, false_and, and_false, or_self, and_self, not_false_eq_true, not_true_eq_false, tn_i, k9, g, i_l]
theorem mq_likely {d : aI} {e : aJ} {S : aS} (hS : sOK S) (hM : MI d S) {c : Int} (low : Bool) (hc : 0 ≤ c ∧ c < S.1 1) (hz : whS S.1 (lawT S) ≠ iI 0) : ∃ d' e', FX11_likely d e (iI c) (iI (tv low)) = some (lJ (lowS (wI S.1 (whS S.1 (lawT S)) c).toNat (alS S.1 (whS S.1 (lawT S)) (S.1 1).toNat).toNat low), d', e') ∧ KmT d d' := by
  have hW := hS.1.1
  have w1 := hW.2.1
  obtain ⟨d1, e1, q1, q2⟩ := mq_which (e := e) hS hM
  have hpos := alS_pos hW hz
  generalize hf : whS S.1 (lawT S) = f at q1 hz hpos ⊢
  have hA : MA d1 109 S.1 := hM.1.of (q2 109 (by omega) (by omega))
  have k1 : d1 109 1 = iI (S.1 1) := hA.cell (j := 1) (by omega)
  have ha := alS_in hW (f := f) (n := (S.1 1).toNat) (by omega)
  have hw := wI_in hW (f := f) (k := c) hc
  refine ⟨d1, e1, ?_, q2⟩
  unfold FX11_likely
  rw [a_run_step (st := stX11_likely) (p := (0, [some (.ref 108), some (.int (iI c)), some (.int (iI (tv low))), none, none, none, none], d, e)) (p2 := (27, [some (.ref 108), some (.int (iI c)), some (.int (iI (tv low))), some (.int f), some (.long (lJ 0)), none, some (.int (iI (0 : Nat)))], d1, e1)) (by
    have hz2 : ¬f = 0 := hz
    show sX11_likely_0 d e _ _ = _
    unfold sX11_likely_0
    rw [q1]
    simp only [Option.bind_some]
    rw [mq_isCat_y hA hW hc]
    simp only [Option.bind_some]
    rw [if_neg (show ¬iI 1 = 0 by decide), if_neg hz2]
    rfl) rfl]
  rw [run_fold (st := stX11_likely) (fun k (s : Int) => (27, [some (.ref 108), some (.int (iI c)), some (.int (iI (tv low))), some (.int f), some (.long (lJ s)), none, some (.int (iI (k : Nat)))], d1, e1)) (fun k s => s + wI S.1 f k) (S.1 1).toNat 0 (fun _ _ => rfl) ?_]
  · have r := mq_part (d := d1) (e := e1) (u := (wI S.1 f c).toNat) (a := (alS S.1 f (S.1 1).toNat).toNat) low (by omega) (by omega)
    rw [tn_i (by omega), tn_i (by omega)] at r
    have kh : d1 109 (54 + c).toNat = iI (S.1 (54 + c)) := hA.cell (by omega)
    have kw := (hW.2.2.2.2.2.1 c (by omega) (by omega)).2.2.2.1
    rw [a_run_step (st := stX11_likely) (p2 := (100000, [some (.long (lJ (lowS (wI S.1 f c).toNat (alS S.1 f (S.1 1).toNat).toNat low)))], d1, e1)) (by
      show sX11_likely_27 d1 e1 _ _ _ (lJ (alS S.1 f (S.1 1).toNat)) _ = _
      by_cases c1 : hasP f c
      · have g := mq_has_y (d := d1) (e := e1) c1
        have wv : wI S.1 f c = 10 - S.1 (54 + c) := if_pos c1
        rw [wv] at r
        unfold sX11_likely_27
        simp (disch := omega) only [nI_iI, lN_lJ, iI_0, lJ_0, iI_add, iI_sub, iI_mul, iI_neg, lJ_add, lJ_sub, lJ_mul, lJ_neg, i_l, l_i, iI_cl, iI_inb, iI_eqT, iI_eqF, iI_ltT, iI_ltF, iI_leT, iI_leF, lJ_eqT, lJ_eqF, lJ_cG, lJ_cE, lJ_cL, lJ_cF, lJ_cGE, lJ_cLE, lJ_cNL, lJ_cNG, Int.cast_ofNat_Int, c_0, c_1, Int.natCast_add, Int.add_zero, cond_true, cond_false, Bool.and_self, Bool.and_true, Bool.true_and, Option.bind_some, decide_true, uI_hit, uI_miss, uI_o, uA_o, uA_s, ↓reduceIte, eq_self, true_or, or_true, or_false, false_or, true_and, and_true, false_and, and_false, or_self, and_self, not_false_eq_true, not_true_eq_false, tn_i, k1, kh, g, i_l, r]
        rw [wv]
      · have g := mq_has_n (d := d1) (e := e1) c1
        have wv : wI S.1 f c = 0 := if_neg c1
        rw [wv] at r
        unfold sX11_likely_27
        simp (disch := omega) only [nI_iI, lN_lJ, iI_0, lJ_0, iI_add, iI_sub, iI_mul, iI_neg, lJ_add, lJ_sub, lJ_mul, lJ_neg, i_l, l_i, iI_cl, iI_inb, iI_eqT, iI_eqF, iI_ltT, iI_ltF, iI_leT, iI_leF, lJ_eqT, lJ_eqF, lJ_cG, lJ_cE, lJ_cL, lJ_cF, lJ_cGE, lJ_cLE, lJ_cNL, lJ_cNG, Int.cast_ofNat_Int, c_0, c_1, Int.natCast_add, Int.add_zero, cond_true, cond_false, Bool.and_self, Bool.and_true, Bool.true_and, Option.bind_some, decide_true, uI_hit, uI_miss, uI_o, uA_o, uA_s, ↓reduceIte, eq_self, true_or, or_true, or_false, false_or, true_and, and_true, false_and, and_false, or_self, and_self, not_false_eq_true, not_true_eq_false, tn_i, k1, g, i_l, r]
        rw [wv]) rfl, a_run_end]
    rfl
  · intro k hk
    have kh : d1 109 (54 + (k : Int)).toNat = iI (S.1 (54 + k)) := hA.cell (by omega)
    have kw := (hW.2.2.2.2.2.1 k (by omega) (by omega)).2.2.2.1
    generalize itr (fun k (s : Int) => s + wI S.1 f k) k 0 = s
    show sX11_likely_27 d1 e1 _ _ _ _ _ = _
    unfold wI
    by_cases c1 : hasP f k
    · have g := mq_has_y (d := d1) (e := e1) c1
      rw [if_pos c1]
      unfold sX11_likely_27
      simp (disch := omega) only [nI_iI, lN_lJ, iI_0, lJ_0, iI_add, iI_sub, iI_mul, iI_neg, lJ_add, lJ_sub, lJ_mul, lJ_neg, i_l, l_i, iI_cl, iI_inb, iI_eqT, iI_eqF, iI_ltT, iI_ltF, iI_leT, iI_leF, lJ_eqT, lJ_eqF, lJ_cG, lJ_cE, lJ_cL, lJ_cF, lJ_cGE, lJ_cLE, lJ_cNL, lJ_cNG, Int.cast_ofNat_Int, c_0, c_1, Int.natCast_add, Int.add_zero, cond_true, cond_false, Bool.and_self, Bool.and_true, Bool.true_and, Option.bind_some, decide_true, uI_hit, uI_miss, uI_o, uA_o, uA_s, ↓reduceIte, eq_self, true_or, or_true, or_false, false_or, true_and, and_true, false_and, and_false, or_self, and_self, not_false_eq_true, not_true_eq_false, tn_i, k1, kh, g, i_l]
    · have g := mq_has_n (d := d1) (e := e1) c1
      rw [if_neg c1]
      unfold sX11_likely_27
      simp (disch := omega) only [nI_iI, lN_lJ, iI_0, lJ_0, iI_add, iI_sub, iI_mul, iI_neg, lJ_add, lJ_sub, lJ_mul, lJ_neg, i_l, l_i, iI_cl, iI_inb, iI_eqT, iI_eqF, iI_ltT, iI_ltF, iI_leT, iI_leF, lJ_eqT, lJ_eqF, lJ_cG, lJ_cE, lJ_cL, lJ_cF, lJ_cGE, lJ_cLE, lJ_cNL, lJ_cNG, Int.cast_ofNat_Int, c_0, c_1, Int.natCast_add, Int.add_zero, cond_true, cond_false, Bool.and_self, Bool.and_true, Bool.true_and, Option.bind_some, decide_true, uI_hit, uI_miss, uI_o, uA_o, uA_s, ↓reduceIte, eq_self, true_or, or_true, or_false, false_or, true_and, and_true, false_and, and_false, or_self, and_self, not_false_eq_true, not_true_eq_false, tn_i, k1, g, i_l]
theorem o_likely (x y : Int32) (hy : y = 0 ∨ y = 1) : Op (fun d e => FX10_likely d e x y) (fun d e => FX11_likely d e x y) := by
  obtain ⟨c, rfl, c1, c2⟩ := iI_ex x
  obtain ⟨low, rfl⟩ : ∃ low : Bool, y = iI (tv low) := by
    rcases hy with rfl | rfl
    · exact ⟨false, rfl⟩
    · exact ⟨true, rfl⟩
  refine Op.quest (fun S hS => ?_)
  have hW := hS.1.1
  have fin : ∀ {d d' : aI}, SameX d d' → Kc d d' := fun h k hk => h k (by omega) (by omega)
  have fim : ∀ {d d' : aI}, KmT d d' → Km d d' := fun h => ⟨fun k a b => h k (by omega) (by omega), fun j _ => by rw [h 108 (by omega) (by omega)]⟩
  by_cases h : (0 ≤ c ∧ c < S.1 1) ∧ whS S.1 (lawT S) ≠ iI 0
  · refine ⟨lJ (lowS (wI S.1 (whS S.1 (lawT S)) c).toNat (alS S.1 (whS S.1 (lawT S)) (S.1 1).toNat).toNat low), fun d e hC => ?_, fun d e hM => ?_⟩
    · obtain ⟨d', q1, q2⟩ := cq_likely (e := e) hS hC low h.1 h.2
      exact ⟨d', e, q1, fin q2⟩
    · obtain ⟨d', e', q1, q2⟩ := mq_likely (e := e) hS hM low h.1 h.2
      exact ⟨d', e', q1, fim q2⟩
  · refine ⟨lJ (-1), fun d e hC => ?_, fun d e hM => ?_⟩
    · obtain ⟨d1, q1, q2⟩ := cq_which (e := e) hS hC
      have hC1 := hC.ofX hS q2
      refine ⟨d1, e, ?_, fin q2⟩
      show FX10_likely d e (iI c) (iI (tv low)) = _
      unfold FX10_likely
      rw [a_run_step (st := stX10_likely) (p := (0, [some (.ref 0), some (.int (iI c)), some (.int (iI (tv low))), none, none, none, none, none, none, none], d, e)) (p2 := (100000, [some (.long (lJ (-1)))], d1, e)) (by
        show sX10_likely_0 d e _ _ = _
        unfold sX10_likely_0
        rw [q1]
        simp only [Option.bind_some]
        by_cases hc : 0 ≤ c ∧ c < S.1 1
        · have hz : whS S.1 (lawT S) = iI 0 := Classical.byContradiction (fun z => h ⟨hc, z⟩)
          have hz2 : whS S.1 (lawT S) = 0 := hz
          rw [cq_isCat_y hC1.cn hW hc]
          simp only [Option.bind_some]
          rw [if_neg (show ¬iI 1 = 0 by decide), if_pos hz2]
          rfl
        · rw [cq_isCat_n hC1.cn hW (by omega)]
          rfl) rfl, a_run_end]
      rfl
    · obtain ⟨d1, e1, q1, q2⟩ := mq_which (e := e) hS hM
      have hA : MA d1 109 S.1 := hM.1.of (q2 109 (by omega) (by omega))
      refine ⟨d1, e1, ?_, fim q2⟩
      show FX11_likely d e (iI c) (iI (tv low)) = _
      unfold FX11_likely
      rw [a_run_step (st := stX11_likely) (p := (0, [some (.ref 108), some (.int (iI c)), some (.int (iI (tv low))), none, none, none, none], d, e)) (p2 := (100000, [some (.long (lJ (-1)))], d1, e1)) (by
        show sX11_likely_0 d e _ _ = _
        unfold sX11_likely_0
        rw [q1]
        simp only [Option.bind_some]
        by_cases hc : 0 ≤ c ∧ c < S.1 1
        · have hz : whS S.1 (lawT S) = iI 0 := Classical.byContradiction (fun z => h ⟨hc, z⟩)
          have hz2 : whS S.1 (lawT S) = 0 := hz
          rw [mq_isCat_y hA hW hc]
          simp only [Option.bind_some]
          rw [if_neg (show ¬iI 1 = 0 by decide), if_pos hz2]
          rfl
        · rw [mq_isCat_n hA hW (by omega)]
          rfl) rfl, a_run_end]
      rfl
