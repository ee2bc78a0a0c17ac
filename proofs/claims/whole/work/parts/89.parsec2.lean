/-! ===== the class reads: one, products, sums ===== -/
theorem c5_mn {α : Type} {val : α → Fn} {tp : Nat → Int} {L N : Nat} {s need nsub : Int} {st : aP → Option aP} {T : Nat → Option Value → aL} {T0 : aL} {op : Int → Option (α → α → α)} {sub : Nat → Rs α} {F : aI → aJ → Option (Unit × aI × aJ)}
    (hsub : CSim val tp L N s nsub F sub) (hF : CF tp L N F) (op0 : op 0 = none) (hn : nsub ≤ need)
    (h0 : ∀ (d d1 : aI) (e : aJ), F d e = some ((), d1, e) → st (0, T0, d, e) = some (7, T 0 none, d1, e))
    (hop : ∀ (e : aJ) (d : aI) (c : Int) (g : α → α → α) (cnt : Nat) (v : Option Value) (d1 d2 d3 : aI) (r : Int32), 0 ≤ c ∧ c ≤ 325 → op c = some g → cnt < 300 → d 83 3 = iI 0 → d 83 10 = iI c → FX5_next d e = some ((), d1, e) → F d1 e = some ((), d2, e) → FX7_put d2 e (iI c) = some (r, d3, e) → ∃ v', st (7, T cnt v, d, e) = some (7, T (cnt + 1) v', d3, e))
    (hend : ∀ (e : aJ) (d : aI) (c : Int) (cnt : Nat) (v : Option Value), 0 ≤ c ∧ c ≤ 325 → op c = none → cnt ≤ 300 → d 83 3 = iI 0 → d 83 10 = iI c → st (7, T cnt v, d, e) = some (100000, [], d, e))
    (hflt : ∀ (e : aJ) (d : aI) (n : Int) (cnt : Nat) (v : Option Value), 1 ≤ n ∧ n ≤ 6 → cnt ≤ 300 → d 83 3 = iI n → st (7, T cnt v, d, e) = some (100000, [], d, e))
    (h300 : ∀ (e : aJ) (d : aI) (v : Option Value), st (7, T 300 v, d, e) = some (100000, [], d, e))
    (join : ∀ (C : Int → Int) (a b m : Int) (f g' : α) (h : α → α → α) (c : Int), op c = some h → CV s C a b need (val f) → CV s C b m nsub (val g') → C m = c → CV s C a (m + 1) need (val (h f g'))) :
    CSim val tp L N s need (fun d e => (a_run st (0, T0, d, e)).bind a_xV) (mnP op sub (KT tp L)) ∧ CF tp L N (fun d e => (a_run st (0, T0, d, e)).bind a_xV) := by
  constructor
  · intro d e i a cs
    obtain ⟨d1, s1, s2, s3⟩ := hsub d e i a cs
    cases hs : sub i with
    | inl bd =>
      rw [hs] at s2
      have s2' : FS d1 tp L N bd.1 (psT tp L bd.2) := s2
      obtain ⟨ii, uu, x1, x2, x3, x4⟩ := id s2'
      refine ⟨d1, ?_, ?_, s3⟩
      · show (a_run st (0, T0, d, e)).bind a_xV = _
        rw [a_run_step (h0 d d1 e s1) rfl, a_run_step (hflt e d1 bd.1 0 none x4 (by omega) x2) rfl, a_run_end]
        rfl
      · have e1 : mnP op sub (KT tp L) i = .inl bd := by unfold mnP; rw [hs]
        rw [e1]
        exact s2'
    | inr q =>
      rw [hs] at s2
      obtain ⟨C, b, t1, t2, t3, t4, t5, t6⟩ := s2
      have n3 := t1.1.1.1
      obtain ⟨d2, y1, y2, y3⟩ := c5_loop hsub op0 e (hop e) (hend e) (hflt e) (h300 e) join 300 0 q.1 b d1 none q.2 C i a d rfl (by omega) t1 (t2.more hn) t3 t4 t5 t6
      refine ⟨d2, ?_, ?_, s3.trans y3⟩
      · show (a_run st (0, T0, d, e)).bind a_xV = _
        rw [a_run_step (h0 d d1 e s1) rfl, y1]
        rfl
      · have e1 : mnP op sub (KT tp L) i = lpP op sub (KT tp L) 300 q.1 q.2 := by unfold mnP; rw [hs]
        rw [e1]
        exact y2
  · intro d e n p fs
    obtain ⟨d1, s1, s2, s3⟩ := hF d e n p fs
    obtain ⟨ii, uu, x1, x2, x3, x4⟩ := id s2
    refine ⟨d1, ?_, s2, s3⟩
    show (a_run st (0, T0, d, e)).bind a_xV = _
    rw [a_run_step (h0 d d1 e s1) rfl, a_run_step (hflt e d1 n 0 none x4 (by omega) x2) rfl, a_run_end]
    rfl
/-- what waits behind an opener: how deep, with how much -/
def HO (tp : Nat → Int) (L N : Nat) (s : Int) (n : Nat) (Fo : aI → aJ → Int32 → Option (Unit × aI × aJ)) (opd : Nat → Nat → Rs Fn) : Prop := ∀ k : Nat, 1 ≤ k → k ≤ 8 → 9 ≤ k + n → ∀ d e i a, CS d tp L N s i a → opnT (KT tp L i) → ∃ d', Fo d e (iI (k : Nat)) = some ((), d', e) ∧ CR (fun f => f) tp L N s (1 + 5 * (9 - (k : Int))) d d' i a (opd k i) ∧ KC d d'
theorem c5_blame2 {d : aI} {e : aJ} {tp : Nat → Int} {L N i u : Nat} {n : Int} (h : CX d tp L N i u) (h3 : d 83 3 = iI 0) (hn : 1 ≤ n ∧ n ≤ 6) : ∃ d', FX5_blame d e (iI n) = some ((), d', e) ∧ CX d' tp L N i u ∧ d' 83 3 = iI n ∧ d' 83 4 = iI (psT tp L i : Nat) ∧ KC d d' := by
  have kc : KC d (uI (uI d 83 3 (iI n)) 83 4 (iI (psT tp L i : Nat))) := (KC.put (by omega)).trans (KC.put (by omega))
  obtain ⟨a1, a2, a3, a4, a5, a6, a7, a8⟩ := h
  have n3 := a1.1
  have k1 := (a1.2.2.2.1 i a4).2
  refine ⟨_, ?_, ⟨a1.of kc, a2, a3, a4, a5, ?_, ?_, ?_⟩, ?_, uI_hit rfl, kc⟩
  · unfold FX5_blame
    simp (disch := omega) only [nI_iI, lN_lJ, iI_0, lJ_0, iI_add, iI_sub, iI_mul, iI_neg, lJ_add, lJ_sub, lJ_mul, lJ_neg, i_l, l_i, iI_cl, iI_inb, iI_eqT, iI_eqF, iI_ltT, iI_ltF, iI_leT, iI_leF, lJ_eqT, lJ_eqF, lJ_cG, lJ_cE, lJ_cL, lJ_cF, lJ_cGE, lJ_cLE, lJ_cNL, lJ_cNG, Int.cast_ofNat_Int, c_0, c_1, Int.natCast_add, Int.add_zero, cond_true, cond_false, Bool.and_self, Bool.and_true, Bool.true_and, Option.bind_some, decide_true, uI_hit, uI_miss, uI_o, uA_o, uA_s, ↓reduceIte, eq_self, true_or, or_true, or_false, false_or, true_and, and_true, false_and, and_false, or_self, and_self, not_false_eq_true, not_true_eq_false, tn_i, Int.toNat_natCast, h3, a6, k1]
  · rw [uI_miss (by omega), uI_miss (by omega)]; exact a6
  · rw [uI_miss (by omega), uI_miss (by omega)]; exact a7
  · rw [uI_o (by omega), uI_o (by omega)]; exact a8
  · rw [uI_miss (by omega), uI_hit rfl]
theorem c5_number {d : aI} {e : aJ} {tp : Nat → Int} {L N i u : Nat} {s lo hi : Int} (h : CS d tp L N s i u) (hl : 0 ≤ lo ∧ lo ≤ hi ∧ hi ≤ 9999) :
    (KT tp L i = 1 ∧ (lo ≤ VT tp L i ∧ VT tp L i ≤ hi) → ∃ d', FX5_number d e (iI lo) (iI hi) = some (iI (VT tp L i), d', e) ∧ CS d' tp L N s (i + 1) u ∧ KC d d' ∧ d' 92 = d 92 ∧ i < N) ∧
    (KT tp L i = 1 → ¬(lo ≤ VT tp L i ∧ VT tp L i ≤ hi) → ∃ d', FX5_number d e (iI lo) (iI hi) = some (iI lo, d', e) ∧ FS d' tp L N 2 (psT tp L i) ∧ KC d d') ∧
    (KT tp L i ≠ 1 → ∃ d', FX5_number d e (iI lo) (iI hi) = some (iI lo, d', e) ∧ FS d' tp L N 1 (psT tp L i) ∧ KC d d') := by
  have kr := KT_in h.1.2.1 (L := L) i
  have k10 := h.1.2.2.2.2.2.2.1
  have k9 := h.1.2.2.2.2.2.1
  have n3 := h.1.1.1
  have iN := h.1.2.2.2.1
  have vi := VT_in (tp := tp) (L := L) (t := i)
  refine ⟨fun ⟨q, v⟩ => ?_, fun q v => ?_, fun q => ?_⟩
  · have hi : i < N := (h.1.lt.1).mp (by omega)
    have v7 := h.1.1.2.2.2.2.1 i hi (kr.2.2.2 q)
    obtain ⟨d', x, y, z, w⟩ := h.next (e := e) hi
    refine ⟨d', ?_, y, z, w, hi⟩
    rw [q] at k10
    unfold FX5_number
    simp (disch := omega) only [nI_iI, lN_lJ, iI_0, lJ_0, iI_add, iI_sub, iI_mul, iI_neg, lJ_add, lJ_sub, lJ_mul, lJ_neg, i_l, l_i, iI_cl, iI_inb, iI_eqT, iI_eqF, iI_ltT, iI_ltF, iI_leT, iI_leF, lJ_eqT, lJ_eqF, lJ_cG, lJ_cE, lJ_cL, lJ_cF, lJ_cGE, lJ_cLE, lJ_cNL, lJ_cNG, Int.cast_ofNat_Int, c_0, c_1, Int.natCast_add, Int.add_zero, cond_true, cond_false, Bool.and_self, Bool.and_true, Bool.true_and, Option.bind_some, decide_true, uI_hit, uI_miss, uI_o, uA_o, uA_s, ↓reduceIte, eq_self, true_or, or_true, or_false, false_or, true_and, and_true, false_and, and_false, or_self, and_self, not_false_eq_true, not_true_eq_false, tn_i, Int.toNat_natCast, k10, k9, v7, x]
  · have hi : i < N := (h.1.lt.1).mp (by omega)
    have v7 := h.1.1.2.2.2.2.1 i hi (kr.2.2.2 q)
    obtain ⟨d', x, y, z⟩ := c5_blame (e := e) (n := 2) h.1 h.2.1 (by omega)
    refine ⟨d', ?_, y, z⟩
    rw [q] at k10
    unfold FX5_number
    by_cases l : VT tp L i < lo
    · simp (disch := omega) only [nI_iI, lN_lJ, iI_0, lJ_0, iI_add, iI_sub, iI_mul, iI_neg, lJ_add, lJ_sub, lJ_mul, lJ_neg, i_l, l_i, iI_cl, iI_inb, iI_eqT, iI_eqF, iI_ltT, iI_ltF, iI_leT, iI_leF, lJ_eqT, lJ_eqF, lJ_cG, lJ_cE, lJ_cL, lJ_cF, lJ_cGE, lJ_cLE, lJ_cNL, lJ_cNG, Int.cast_ofNat_Int, c_0, c_1, Int.natCast_add, Int.add_zero, cond_true, cond_false, Bool.and_self, Bool.and_true, Bool.true_and, Option.bind_some, decide_true, uI_hit, uI_miss, uI_o, uA_o, uA_s, ↓reduceIte, eq_self, true_or, or_true, or_false, false_or, true_and, and_true, false_and, and_false, or_self, and_self, not_false_eq_true, not_true_eq_false, tn_i, Int.toNat_natCast, k10, k9, v7, x]
    · simp (disch := omega) only [nI_iI, lN_lJ, iI_0, lJ_0, iI_add, iI_sub, iI_mul, iI_neg, lJ_add, lJ_sub, lJ_mul, lJ_neg, i_l, l_i, iI_cl, iI_inb, iI_eqT, iI_eqF, iI_ltT, iI_ltF, iI_leT, iI_leF, lJ_eqT, lJ_eqF, lJ_cG, lJ_cE, lJ_cL, lJ_cF, lJ_cGE, lJ_cLE, lJ_cNL, lJ_cNG, Int.cast_ofNat_Int, c_0, c_1, Int.natCast_add, Int.add_zero, cond_true, cond_false, Bool.and_self, Bool.and_true, Bool.true_and, Option.bind_some, decide_true, uI_hit, uI_miss, uI_o, uA_o, uA_s, ↓reduceIte, eq_self, true_or, or_true, or_false, false_or, true_and, and_true, false_and, and_false, or_self, and_self, not_false_eq_true, not_true_eq_false, tn_i, Int.toNat_natCast, k10, k9, v7, x]
  · obtain ⟨d', x, y, z⟩ := c5_blame (e := e) (n := 1) h.1 h.2.1 (by omega)
    refine ⟨d', ?_, y, z⟩
    unfold FX5_number
    simp (disch := omega) only [nI_iI, lN_lJ, iI_0, lJ_0, iI_add, iI_sub, iI_mul, iI_neg, lJ_add, lJ_sub, lJ_mul, lJ_neg, i_l, l_i, iI_cl, iI_inb, iI_eqT, iI_eqF, iI_ltT, iI_ltF, iI_leT, iI_leF, lJ_eqT, lJ_eqF, lJ_cG, lJ_cE, lJ_cL, lJ_cF, lJ_cGE, lJ_cLE, lJ_cNL, lJ_cNG, Int.cast_ofNat_Int, c_0, c_1, Int.natCast_add, Int.add_zero, cond_true, cond_false, Bool.and_self, Bool.and_true, Bool.true_and, Option.bind_some, decide_true, uI_hit, uI_miss, uI_o, uA_o, uA_s, ↓reduceIte, eq_self, true_or, or_true, or_false, false_or, true_and, and_true, false_and, and_false, or_self, and_self, not_false_eq_true, not_true_eq_false, tn_i, k10, x]
theorem c5_oneF {tp : Nat → Int} {L N : Nat} {Fo : aI → aJ → Int32 → Option (Unit × aI × aJ)} {x : Int32} : CF tp L N (fun d e => FX5_one Fo d e x) := by
  intro d e n p fs
  obtain ⟨i, u, h1, h2, h3, h4⟩ := id fs
  refine ⟨d, ?_, fs, KC.refl d⟩
  show FX5_one Fo d e x = _
  unfold FX5_one
  simp (disch := omega) only [nI_iI, lN_lJ, iI_0, lJ_0, iI_add, iI_sub, iI_mul, iI_neg, lJ_add, lJ_sub, lJ_mul, lJ_neg, i_l, l_i, iI_cl, iI_inb, iI_eqT, iI_eqF, iI_ltT, iI_ltF, iI_leT, iI_leF, lJ_eqT, lJ_eqF, lJ_cG, lJ_cE, lJ_cL, lJ_cF, lJ_cGE, lJ_cLE, lJ_cNL, lJ_cNG, Int.cast_ofNat_Int, c_0, c_1, Int.natCast_add, Int.add_zero, cond_true, cond_false, Bool.and_self, Bool.and_true, Bool.true_and, Option.bind_some, decide_true, uI_hit, uI_miss, uI_o, uA_o, uA_s, ↓reduceIte, eq_self, true_or, or_true, or_false, false_or, true_and, and_true, false_and, and_false, or_self, and_self, not_false_eq_true, not_true_eq_false, tn_i, h2]
theorem nm_cases {c : Int} (h : nmI c < 8) : (c = 308 ∧ nmI c = 0) ∨ (c = 321 ∧ nmI c = 1) ∨ (c = 310 ∧ nmI c = 2) ∨ (c = 322 ∧ nmI c = 3) ∨ (c = 323 ∧ nmI c = 4) ∨ (c = 309 ∧ nmI c = 5) ∨ (c = 324 ∧ nmI c = 6) ∨ (c = 325 ∧ nmI c = 7) := by
  unfold nmI at h ⊢
  by_cases q0 : c = 308
  · rw [if_pos q0]; exact Or.inl ⟨q0, rfl⟩
  · rw [if_neg q0] at h ⊢
    by_cases q1 : c = 321
    · rw [if_pos q1]; exact Or.inr (Or.inl ⟨q1, rfl⟩)
    · rw [if_neg q1] at h ⊢
      by_cases q2 : c = 310
      · rw [if_pos q2]; exact Or.inr (Or.inr (Or.inl ⟨q2, rfl⟩))
      · rw [if_neg q2] at h ⊢
        by_cases q3 : c = 322
        · rw [if_pos q3]; exact Or.inr (Or.inr (Or.inr (Or.inl ⟨q3, rfl⟩)))
        · rw [if_neg q3] at h ⊢
          by_cases q4 : c = 323
          · rw [if_pos q4]; exact Or.inr (Or.inr (Or.inr (Or.inr (Or.inl ⟨q4, rfl⟩))))
          · rw [if_neg q4] at h ⊢
            by_cases q5 : c = 309
            · rw [if_pos q5]; exact Or.inr (Or.inr (Or.inr (Or.inr (Or.inr (Or.inl ⟨q5, rfl⟩)))))
            · rw [if_neg q5] at h ⊢
              by_cases q6 : c = 324
              · rw [if_pos q6]; exact Or.inr (Or.inr (Or.inr (Or.inr (Or.inr (Or.inr (Or.inl ⟨q6, rfl⟩))))))
              · rw [if_neg q6] at h ⊢
                by_cases q7 : c = 325
                · rw [if_pos q7]; exact Or.inr (Or.inr (Or.inr (Or.inr (Or.inr (Or.inr (Or.inr ⟨q7, rfl⟩))))))
                · rw [if_neg q7] at h; omega
theorem nm_none {c : Int} (h : ¬nmI c < 8) : c ≠ 308 ∧ c ≠ 321 ∧ c ≠ 310 ∧ c ≠ 322 ∧ c ≠ 323 ∧ c ≠ 309 ∧ c ≠ 324 ∧ c ≠ 325 := by
  refine ⟨?_, ?_, ?_, ?_, ?_, ?_, ?_, ?_⟩ <;> (rintro rfl; exact h (by decide))
/-- a name is put, then the next token comes -/
theorem c5_nameY {d : aI} {e : aJ} {tp : Nat → Int} {L N i a : Nat} {s : Int} (h : CS d tp L N s i a) (hi : i < N) : ∃ d1 d2, FX7_put d e (iI (KT tp L i)) = some (iI (a : Nat), d1, e) ∧ FX5_next d1 e = some ((), d2, e) ∧ CS d2 tp L N s (i + 1) (a + 1) ∧ KC d d2 ∧ d2 92 a = iI (KT tp L i) ∧ (∀ j, j < a → d2 92 j = d 92 j) := by
  have lt := h.1.lt.2.1 hi
  have p3 := h.1.lt.2.2
  have ps := h.1.1.2.2.1 i hi
  have L3 := h.1.2.2.1
  have ap := h.2.2.2
  have kc : KC d (uI (uI d 92 a (iI (KT tp L i))) 88 5 (iI (a + 1 : Nat))) := (KC.put (by omega)).trans (KC.put (by omega))
  have pu := c5_put (e := e) (x := iI (KT tp L i)) h.1.2.2.2.2.2.2.2 (by omega)
  obtain ⟨⟨a1, a2, a3, a4, a5, a6, a7, a8⟩, b, c, f⟩ := h
  have cx : CX (uI (uI d 92 a (iI (KT tp L i))) 88 5 (iI (a + 1 : Nat))) tp L N i (a + 1) := ⟨a1.of kc, a2, a3, a4, by omega, by rw [uI_o (by omega), uI_o (by omega)]; exact a6, by rw [uI_o (by omega), uI_o (by omega)]; exact a7, uI_hit rfl⟩
  obtain ⟨x1, x2, x3⟩ := c5_next (e := e) cx hi
  refine ⟨_, _, pu, x1, ⟨x2, ?_, ?_, by omega⟩, kc.trans x3, ?_, fun j hj => ?_⟩
  · rw [uI_miss (by omega), uI_miss (by omega), uI_o (by omega), uI_o (by omega)]; exact b
  · exact ⟨by rw [uI_miss (by omega), uI_miss (by omega), uI_o (by omega), uI_o (by omega)]; exact c.1, by rw [uI_miss (by omega), uI_miss (by omega), uI_o (by omega), uI_o (by omega)]; exact c.2⟩
  · rw [uI_o (by omega), uI_o (by omega), uI_o (by omega), uI_hit rfl]
  · rw [uI_o (by omega), uI_o (by omega), uI_o (by omega), uI_miss (by omega)]
/-- a name that is not the law's -/
theorem c5_nameN {d : aI} {e : aJ} {tp : Nat → Int} {L N i a : Nat} {s : Int} (h : CS d tp L N s i a) (hi : i < N) : ∃ d0 d1 d2 r, FX5_blameUnless d e (iI 0) = some ((), d0, e) ∧ d0 83 10 = iI (KT tp L i) ∧ FX7_put d0 e (iI (KT tp L i)) = some (r, d1, e) ∧ FX5_next d1 e = some ((), d2, e) ∧ FS d2 tp L N 5 (psT tp L i) ∧ KC d d2 := by
  obtain ⟨d0, b1, b2, b3, b4, b5⟩ := c5_blame2 (e := e) (n := 5) h.1 h.2.1 (by omega)
  have ps := h.1.1.2.2.1 i hi
  have L3 := h.1.2.2.1
  have ap := h.2.2.2
  have kc : KC d0 (uI (uI d0 92 a (iI (KT tp L i))) 88 5 (iI (a + 1 : Nat))) := (KC.put (by omega)).trans (KC.put (by omega))
  have pu := c5_put (e := e) (x := iI (KT tp L i)) b2.2.2.2.2.2.2.2 (by omega)
  have k10 := b2.2.2.2.2.2.2.1
  obtain ⟨a1, a2, a3, a4, a5, a6, a7, a8⟩ := b2
  have cx : CX (uI (uI d0 92 a (iI (KT tp L i))) 88 5 (iI (a + 1 : Nat))) tp L N i (a + 1) := ⟨a1.of kc, a2, a3, a4, by omega, by rw [uI_o (by omega), uI_o (by omega)]; exact a6, by rw [uI_o (by omega), uI_o (by omega)]; exact a7, uI_hit rfl⟩
  obtain ⟨d2, x1, x2, x3⟩ := FS.next (e := e) cx (n := 5) (p := psT tp L i) (by rw [uI_o (by omega), uI_o (by omega)]; exact b3) (by rw [uI_o (by omega), uI_o (by omega)]; exact b4) (by omega) hi
  refine ⟨d0, _, d2, _, ?_, k10, pu, x1, x2, b5.trans (kc.trans x3)⟩
  unfold FX5_blameUnless
  simp (disch := omega) only [nI_iI, lN_lJ, iI_0, lJ_0, iI_add, iI_sub, iI_mul, iI_neg, lJ_add, lJ_sub, lJ_mul, lJ_neg, i_l, l_i, iI_cl, iI_inb, iI_eqT, iI_eqF, iI_ltT, iI_ltF, iI_leT, iI_leF, lJ_eqT, lJ_eqF, lJ_cG, lJ_cE, lJ_cL, lJ_cF, lJ_cGE, lJ_cLE, lJ_cNL, lJ_cNG, Int.cast_ofNat_Int, c_0, c_1, Int.natCast_add, Int.add_zero, cond_true, cond_false, Bool.and_self, Bool.and_true, Bool.true_and, Option.bind_some, decide_true, uI_hit, uI_miss, uI_o, uA_o, uA_s, ↓reduceIte, eq_self, true_or, or_true, or_false, false_or, true_and, and_true, false_and, and_false, or_self, and_self, not_false_eq_true, not_true_eq_false, tn_i, b1]
theorem c5_name {d : aI} {e : aJ} {tp : Nat → Int} {L N i a : Nat} {s : Int} (h : CS d tp L N s i a) (hs : s = 0 ∨ s = 1) (need : Int) (hn : 1 ≤ need) : ∃ d', FX5_name d e = some ((), d', e) ∧ CR (fun f => f) tp L N s need d d' i a (if nmI (KT tp L i) < 8 then (if nmP s (nmI (KT tp L i)) then .inr (i + 1, fun v => v.1 (nmI (KT tp L i))) else .inl (5, i)) else .inl (1, i)) ∧ KC d d' := by
  have kr := KT_in h.1.2.1 (L := L) i
  have k10 := h.1.2.2.2.2.2.2.1
  have k11 := h.2.2.1.1
  by_cases q : nmI (KT tp L i) < 8
  · rw [if_pos q]
    have nc := nm_cases q
    have k0 : KT tp L i ≠ 0 := by omega
    have hi : i < N := (h.1.lt.1).mp k0
    have lt := h.1.lt.2.1 hi
    by_cases w : nmP s (nmI (KT tp L i))
    · rw [if_pos w]
      obtain ⟨d1, d2, x1, x2, x3, x4, x5, x6⟩ := c5_nameY (e := e) h hi
      have nok : nmOK s (nmI (KT tp L i)) := w
      have nmc : KT tp L i = nmC (nmI (KT tp L i)) := by
        rcases nc with ⟨z, y⟩ | ⟨z, y⟩ | ⟨z, y⟩ | ⟨z, y⟩ | ⟨z, y⟩ | ⟨z, y⟩ | ⟨z, y⟩ | ⟨z, y⟩ <;> (rw [y, z]; rfl)
      refine ⟨d2, ?_, ⟨fun _ => KT tp L i, a + 1, x3, ?_, fun z z1 z2 => ?_, x6, by show a + 1 + psT tp L i ≤ a + psT tp L (i + 1); omega, by show i < i + 1; omega⟩, x4⟩
      · have bu : ∀ d : aI, FX5_blameUnless d e (iI 1) = some ((), d, e) := fun d => by
          unfold FX5_blameUnless
          simp (disch := omega) only [nI_iI, lN_lJ, iI_0, lJ_0, iI_add, iI_sub, iI_mul, iI_neg, lJ_add, lJ_sub, lJ_mul, lJ_neg, i_l, l_i, iI_cl, iI_inb, iI_eqT, iI_eqF, iI_ltT, iI_ltF, iI_leT, iI_leF, lJ_eqT, lJ_eqF, lJ_cG, lJ_cE, lJ_cL, lJ_cF, lJ_cGE, lJ_cLE, lJ_cNL, lJ_cNG, Int.cast_ofNat_Int, c_0, c_1, Int.natCast_add, Int.add_zero, cond_true, cond_false, Bool.and_self, Bool.and_true, Bool.true_and, Option.bind_some, decide_true, uI_hit, uI_miss, uI_o, uA_o, uA_s, ↓reduceIte, eq_self, true_or, or_true, or_false, false_or, true_and, and_true, false_and, and_false, or_self, and_self, not_false_eq_true, not_true_eq_false, tn_i]
        rcases nc with ⟨z, y⟩ | ⟨z, y⟩ | ⟨z, y⟩ | ⟨z, y⟩ | ⟨z, y⟩ | ⟨z, y⟩ | ⟨z, y⟩ | ⟨z, y⟩
        · rw [z] at k10 x1; unfold FX5_name; simp (config := {maxSteps := 4000000}) (disch := omega) only [nI_iI, lN_lJ, iI_0, lJ_0, iI_add, iI_sub, iI_mul, iI_neg, lJ_add, lJ_sub, lJ_mul, lJ_neg, i_l, l_i, iI_cl, iI_inb, iI_eqT, iI_eqF, iI_ltT, iI_ltF, iI_leT, iI_leF, lJ_eqT, lJ_eqF, lJ_cG, lJ_cE, lJ_cL, lJ_cF, lJ_cGE, lJ_cLE, lJ_cNL, lJ_cNG, Int.cast_ofNat_Int, c_0, c_1, Int.natCast_add, Int.add_zero, cond_true, cond_false, Bool.and_self, Bool.and_true, Bool.true_and, Option.bind_some, decide_true, uI_hit, uI_miss, uI_o, uA_o, uA_s, ↓reduceIte, eq_self, true_or, or_true, or_false, false_or, true_and, and_true, false_and, and_false, or_self, and_self, not_false_eq_true, not_true_eq_false, tn_i, k10, x1, x2]
        · rw [z] at k10 x1; unfold FX5_name; simp (config := {maxSteps := 4000000}) (disch := omega) only [nI_iI, lN_lJ, iI_0, lJ_0, iI_add, iI_sub, iI_mul, iI_neg, lJ_add, lJ_sub, lJ_mul, lJ_neg, i_l, l_i, iI_cl, iI_inb, iI_eqT, iI_eqF, iI_ltT, iI_ltF, iI_leT, iI_leF, lJ_eqT, lJ_eqF, lJ_cG, lJ_cE, lJ_cL, lJ_cF, lJ_cGE, lJ_cLE, lJ_cNL, lJ_cNG, Int.cast_ofNat_Int, c_0, c_1, Int.natCast_add, Int.add_zero, cond_true, cond_false, Bool.and_self, Bool.and_true, Bool.true_and, Option.bind_some, decide_true, uI_hit, uI_miss, uI_o, uA_o, uA_s, ↓reduceIte, eq_self, true_or, or_true, or_false, false_or, true_and, and_true, false_and, and_false, or_self, and_self, not_false_eq_true, not_true_eq_false, tn_i, k10, x1, x2]
        · rw [z] at k10 x1; unfold FX5_name; simp (config := {maxSteps := 4000000}) (disch := omega) only [nI_iI, lN_lJ, iI_0, lJ_0, iI_add, iI_sub, iI_mul, iI_neg, lJ_add, lJ_sub, lJ_mul, lJ_neg, i_l, l_i, iI_cl, iI_inb, iI_eqT, iI_eqF, iI_ltT, iI_ltF, iI_leT, iI_leF, lJ_eqT, lJ_eqF, lJ_cG, lJ_cE, lJ_cL, lJ_cF, lJ_cGE, lJ_cLE, lJ_cNL, lJ_cNG, Int.cast_ofNat_Int, c_0, c_1, Int.natCast_add, Int.add_zero, cond_true, cond_false, Bool.and_self, Bool.and_true, Bool.true_and, Option.bind_some, decide_true, uI_hit, uI_miss, uI_o, uA_o, uA_s, ↓reduceIte, eq_self, true_or, or_true, or_false, false_or, true_and, and_true, false_and, and_false, or_self, and_self, not_false_eq_true, not_true_eq_false, tn_i, k10, x1, x2]
        · rw [z] at k10 x1; unfold FX5_name; simp (config := {maxSteps := 4000000}) (disch := omega) only [nI_iI, lN_lJ, iI_0, lJ_0, iI_add, iI_sub, iI_mul, iI_neg, lJ_add, lJ_sub, lJ_mul, lJ_neg, i_l, l_i, iI_cl, iI_inb, iI_eqT, iI_eqF, iI_ltT, iI_ltF, iI_leT, iI_leF, lJ_eqT, lJ_eqF, lJ_cG, lJ_cE, lJ_cL, lJ_cF, lJ_cGE, lJ_cLE, lJ_cNL, lJ_cNG, Int.cast_ofNat_Int, c_0, c_1, Int.natCast_add, Int.add_zero, cond_true, cond_false, Bool.and_self, Bool.and_true, Bool.true_and, Option.bind_some, decide_true, uI_hit, uI_miss, uI_o, uA_o, uA_s, ↓reduceIte, eq_self, true_or, or_true, or_false, false_or, true_and, and_true, false_and, and_false, or_self, and_self, not_false_eq_true, not_true_eq_false, tn_i, k10, x1, x2]
        · rw [z] at k10 x1; unfold FX5_name; simp (config := {maxSteps := 4000000}) (disch := omega) only [nI_iI, lN_lJ, iI_0, lJ_0, iI_add, iI_sub, iI_mul, iI_neg, lJ_add, lJ_sub, lJ_mul, lJ_neg, i_l, l_i, iI_cl, iI_inb, iI_eqT, iI_eqF, iI_ltT, iI_ltF, iI_leT, iI_leF, lJ_eqT, lJ_eqF, lJ_cG, lJ_cE, lJ_cL, lJ_cF, lJ_cGE, lJ_cLE, lJ_cNL, lJ_cNG, Int.cast_ofNat_Int, c_0, c_1, Int.natCast_add, Int.add_zero, cond_true, cond_false, Bool.and_self, Bool.and_true, Bool.true_and, Option.bind_some, decide_true, uI_hit, uI_miss, uI_o, uA_o, uA_s, ↓reduceIte, eq_self, true_or, or_true, or_false, false_or, true_and, and_true, false_and, and_false, or_self, and_self, not_false_eq_true, not_true_eq_false, tn_i, k10, x1, x2]
        · have s0 : s = 0 := by rw [y] at w; omega
          rw [z] at k10 x1; rw [s0] at k11; unfold FX5_name; simp (config := {maxSteps := 4000000}) (disch := omega) only [nI_iI, lN_lJ, iI_0, lJ_0, iI_add, iI_sub, iI_mul, iI_neg, lJ_add, lJ_sub, lJ_mul, lJ_neg, i_l, l_i, iI_cl, iI_inb, iI_eqT, iI_eqF, iI_ltT, iI_ltF, iI_leT, iI_leF, lJ_eqT, lJ_eqF, lJ_cG, lJ_cE, lJ_cL, lJ_cF, lJ_cGE, lJ_cLE, lJ_cNL, lJ_cNG, Int.cast_ofNat_Int, c_0, c_1, Int.natCast_add, Int.add_zero, cond_true, cond_false, Bool.and_self, Bool.and_true, Bool.true_and, Option.bind_some, decide_true, uI_hit, uI_miss, uI_o, uA_o, uA_s, ↓reduceIte, eq_self, true_or, or_true, or_false, false_or, true_and, and_true, false_and, and_false, or_self, and_self, not_false_eq_true, not_true_eq_false, tn_i, k10, k11, x1, x2, bu]
        · have s0 : s = 0 := by rw [y] at w; omega
          rw [z] at k10 x1; rw [s0] at k11; unfold FX5_name; simp (config := {maxSteps := 4000000}) (disch := omega) only [nI_iI, lN_lJ, iI_0, lJ_0, iI_add, iI_sub, iI_mul, iI_neg, lJ_add, lJ_sub, lJ_mul, lJ_neg, i_l, l_i, iI_cl, iI_inb, iI_eqT, iI_eqF, iI_ltT, iI_ltF, iI_leT, iI_leF, lJ_eqT, lJ_eqF, lJ_cG, lJ_cE, lJ_cL, lJ_cF, lJ_cGE, lJ_cLE, lJ_cNL, lJ_cNG, Int.cast_ofNat_Int, c_0, c_1, Int.natCast_add, Int.add_zero, cond_true, cond_false, Bool.and_self, Bool.and_true, Bool.true_and, Option.bind_some, decide_true, uI_hit, uI_miss, uI_o, uA_o, uA_s, ↓reduceIte, eq_self, true_or, or_true, or_false, false_or, true_and, and_true, false_and, and_false, or_self, and_self, not_false_eq_true, not_true_eq_false, tn_i, k10, k11, x1, x2, bu]
        · have s1 : s = 1 := by rw [y] at w; omega
          rw [z] at k10 x1; rw [s1] at k11; unfold FX5_name; simp (config := {maxSteps := 4000000}) (disch := omega) only [nI_iI, lN_lJ, iI_0, lJ_0, iI_add, iI_sub, iI_mul, iI_neg, lJ_add, lJ_sub, lJ_mul, lJ_neg, i_l, l_i, iI_cl, iI_inb, iI_eqT, iI_eqF, iI_ltT, iI_ltF, iI_leT, iI_leF, lJ_eqT, lJ_eqF, lJ_cG, lJ_cE, lJ_cL, lJ_cF, lJ_cGE, lJ_cLE, lJ_cNL, lJ_cNG, Int.cast_ofNat_Int, c_0, c_1, Int.natCast_add, Int.add_zero, cond_true, cond_false, Bool.and_self, Bool.and_true, Bool.true_and, Option.bind_some, decide_true, uI_hit, uI_miss, uI_o, uA_o, uA_s, ↓reduceIte, eq_self, true_or, or_true, or_false, false_or, true_and, and_true, false_and, and_false, or_self, and_self, not_false_eq_true, not_true_eq_false, tn_i, k10, k11, x1, x2, bu]
      · exact (CV.name (s := s) (C := fun _ => KT tp L i) (a := a) (k := nmI (KT tp L i)) (by omega) q nok nmc).more hn
      · rw [show z = a by omega]; exact x5
    · rw [if_neg w]
      obtain ⟨d0, d1, d2, r, x0, x1, x2, x3, x4, x5⟩ := c5_nameN (e := e) h hi
      refine ⟨d2, ?_, x4, x5⟩
      rcases nc with ⟨z, y⟩ | ⟨z, y⟩ | ⟨z, y⟩ | ⟨z, y⟩ | ⟨z, y⟩ | ⟨z, y⟩ | ⟨z, y⟩ | ⟨z, y⟩
      · exact absurd (Or.inl (by omega)) w
      · exact absurd (Or.inl (by omega)) w
      · exact absurd (Or.inl (by omega)) w
      · exact absurd (Or.inl (by omega)) w
      · exact absurd (Or.inl (by omega)) w
      · have s1 : s = 1 := by
          rcases hs with hs | hs
          · exact absurd (Or.inr (Or.inl ⟨hs, Or.inl y⟩)) w
          · exact hs
        rw [z] at k10 x1 x2; rw [s1] at k11; unfold FX5_name; simp (config := {maxSteps := 4000000}) (disch := omega) only [nI_iI, lN_lJ, iI_0, lJ_0, iI_add, iI_sub, iI_mul, iI_neg, lJ_add, lJ_sub, lJ_mul, lJ_neg, i_l, l_i, iI_cl, iI_inb, iI_eqT, iI_eqF, iI_ltT, iI_ltF, iI_leT, iI_leF, lJ_eqT, lJ_eqF, lJ_cG, lJ_cE, lJ_cL, lJ_cF, lJ_cGE, lJ_cLE, lJ_cNL, lJ_cNG, Int.cast_ofNat_Int, c_0, c_1, Int.natCast_add, Int.add_zero, cond_true, cond_false, Bool.and_self, Bool.and_true, Bool.true_and, Option.bind_some, decide_true, uI_hit, uI_miss, uI_o, uA_o, uA_s, ↓reduceIte, eq_self, true_or, or_true, or_false, false_or, true_and, and_true, false_and, and_false, or_self, and_self, not_false_eq_true, not_true_eq_false, tn_i, k10, k11, x0, x1, x2, x3]
      · have s1 : s = 1 := by
          rcases hs with hs | hs
          · exact absurd (Or.inr (Or.inl ⟨hs, Or.inr y⟩)) w
          · exact hs
        rw [z] at k10 x1 x2; rw [s1] at k11; unfold FX5_name; simp (config := {maxSteps := 4000000}) (disch := omega) only [nI_iI, lN_lJ, iI_0, lJ_0, iI_add, iI_sub, iI_mul, iI_neg, lJ_add, lJ_sub, lJ_mul, lJ_neg, i_l, l_i, iI_cl, iI_inb, iI_eqT, iI_eqF, iI_ltT, iI_ltF, iI_leT, iI_leF, lJ_eqT, lJ_eqF, lJ_cG, lJ_cE, lJ_cL, lJ_cF, lJ_cGE, lJ_cLE, lJ_cNL, lJ_cNG, Int.cast_ofNat_Int, c_0, c_1, Int.natCast_add, Int.add_zero, cond_true, cond_false, Bool.and_self, Bool.and_true, Bool.true_and, Option.bind_some, decide_true, uI_hit, uI_miss, uI_o, uA_o, uA_s, ↓reduceIte, eq_self, true_or, or_true, or_false, false_or, true_and, and_true, false_and, and_false, or_self, and_self, not_false_eq_true, not_true_eq_false, tn_i, k10, k11, x0, x1, x2, x3]
      · have s0 : s = 0 := by
          rcases hs with hs | hs
          · exact hs
          · exact absurd (Or.inr (Or.inr ⟨hs, y⟩)) w
        rw [z] at k10 x1 x2; rw [s0] at k11; unfold FX5_name; simp (config := {maxSteps := 4000000}) (disch := omega) only [nI_iI, lN_lJ, iI_0, lJ_0, iI_add, iI_sub, iI_mul, iI_neg, lJ_add, lJ_sub, lJ_mul, lJ_neg, i_l, l_i, iI_cl, iI_inb, iI_eqT, iI_eqF, iI_ltT, iI_ltF, iI_leT, iI_leF, lJ_eqT, lJ_eqF, lJ_cG, lJ_cE, lJ_cL, lJ_cF, lJ_cGE, lJ_cLE, lJ_cNL, lJ_cNG, Int.cast_ofNat_Int, c_0, c_1, Int.natCast_add, Int.add_zero, cond_true, cond_false, Bool.and_self, Bool.and_true, Bool.true_and, Option.bind_some, decide_true, uI_hit, uI_miss, uI_o, uA_o, uA_s, ↓reduceIte, eq_self, true_or, or_true, or_false, false_or, true_and, and_true, false_and, and_false, or_self, and_self, not_false_eq_true, not_true_eq_false, tn_i, k10, k11, x0, x1, x2, x3]
  · rw [if_neg q]
    have nn := nm_none q
    obtain ⟨d', x, y, z⟩ := c5_blame (e := e) (n := 1) h.1 h.2.1 (by omega)
    refine ⟨d', ?_, y, z⟩
    generalize KT tp L i = c at *
    unfold FX5_name
    by_cases m : 311 ≤ c ∧ c ≤ 320
    · have m2 : c = 311 ∨ c = 312 ∨ c = 313 ∨ c = 314 ∨ c = 315 ∨ c = 316 ∨ c = 317 ∨ c = 318 ∨ c = 319 ∨ c = 320 := by omega
      rcases m2 with m | m | m | m | m | m | m | m | m | m
      · rw [m] at k10; simp (config := {maxSteps := 4000000}) (disch := omega) only [nI_iI, lN_lJ, iI_0, lJ_0, iI_add, iI_sub, iI_mul, iI_neg, lJ_add, lJ_sub, lJ_mul, lJ_neg, i_l, l_i, iI_cl, iI_inb, iI_eqT, iI_eqF, iI_ltT, iI_ltF, iI_leT, iI_leF, lJ_eqT, lJ_eqF, lJ_cG, lJ_cE, lJ_cL, lJ_cF, lJ_cGE, lJ_cLE, lJ_cNL, lJ_cNG, Int.cast_ofNat_Int, c_0, c_1, Int.natCast_add, Int.add_zero, cond_true, cond_false, Bool.and_self, Bool.and_true, Bool.true_and, Option.bind_some, decide_true, uI_hit, uI_miss, uI_o, uA_o, uA_s, ↓reduceIte, eq_self, true_or, or_true, or_false, false_or, true_and, and_true, false_and, and_false, or_self, and_self, not_false_eq_true, not_true_eq_false, tn_i, k10, x]
      · rw [m] at k10; simp (config := {maxSteps := 4000000}) (disch := omega) only [nI_iI, lN_lJ, iI_0, lJ_0, iI_add, iI_sub, iI_mul, iI_neg, lJ_add, lJ_sub, lJ_mul, lJ_neg, i_l, l_i, iI_cl, iI_inb, iI_eqT, iI_eqF, iI_ltT, iI_ltF, iI_leT, iI_leF, lJ_eqT, lJ_eqF, lJ_cG, lJ_cE, lJ_cL, lJ_cF, lJ_cGE, lJ_cLE, lJ_cNL, lJ_cNG, Int.cast_ofNat_Int, c_0, c_1, Int.natCast_add, Int.add_zero, cond_true, cond_false, Bool.and_self, Bool.and_true, Bool.true_and, Option.bind_some, decide_true, uI_hit, uI_miss, uI_o, uA_o, uA_s, ↓reduceIte, eq_self, true_or, or_true, or_false, false_or, true_and, and_true, false_and, and_false, or_self, and_self, not_false_eq_true, not_true_eq_false, tn_i, k10, x]
      · rw [m] at k10; simp (config := {maxSteps := 4000000}) (disch := omega) only [nI_iI, lN_lJ, iI_0, lJ_0, iI_add, iI_sub, iI_mul, iI_neg, lJ_add, lJ_sub, lJ_mul, lJ_neg, i_l, l_i, iI_cl, iI_inb, iI_eqT, iI_eqF, iI_ltT, iI_ltF, iI_leT, iI_leF, lJ_eqT, lJ_eqF, lJ_cG, lJ_cE, lJ_cL, lJ_cF, lJ_cGE, lJ_cLE, lJ_cNL, lJ_cNG, Int.cast_ofNat_Int, c_0, c_1, Int.natCast_add, Int.add_zero, cond_true, cond_false, Bool.and_self, Bool.and_true, Bool.true_and, Option.bind_some, decide_true, uI_hit, uI_miss, uI_o, uA_o, uA_s, ↓reduceIte, eq_self, true_or, or_true, or_false, false_or, true_and, and_true, false_and, and_false, or_self, and_self, not_false_eq_true, not_true_eq_false, tn_i, k10, x]
      · rw [m] at k10; simp (config := {maxSteps := 4000000}) (disch := omega) only [nI_iI, lN_lJ, iI_0, lJ_0, iI_add, iI_sub, iI_mul, iI_neg, lJ_add, lJ_sub, lJ_mul, lJ_neg, i_l, l_i, iI_cl, iI_inb, iI_eqT, iI_eqF, iI_ltT, iI_ltF, iI_leT, iI_leF, lJ_eqT, lJ_eqF, lJ_cG, lJ_cE, lJ_cL, lJ_cF, lJ_cGE, lJ_cLE, lJ_cNL, lJ_cNG, Int.cast_ofNat_Int, c_0, c_1, Int.natCast_add, Int.add_zero, cond_true, cond_false, Bool.and_self, Bool.and_true, Bool.true_and, Option.bind_some, decide_true, uI_hit, uI_miss, uI_o, uA_o, uA_s, ↓reduceIte, eq_self, true_or, or_true, or_false, false_or, true_and, and_true, false_and, and_false, or_self, and_self, not_false_eq_true, not_true_eq_false, tn_i, k10, x]
      · rw [m] at k10; simp (config := {maxSteps := 4000000}) (disch := omega) only [nI_iI, lN_lJ, iI_0, lJ_0, iI_add, iI_sub, iI_mul, iI_neg, lJ_add, lJ_sub, lJ_mul, lJ_neg, i_l, l_i, iI_cl, iI_inb, iI_eqT, iI_eqF, iI_ltT, iI_ltF, iI_leT, iI_leF, lJ_eqT, lJ_eqF, lJ_cG, lJ_cE, lJ_cL, lJ_cF, lJ_cGE, lJ_cLE, lJ_cNL, lJ_cNG, Int.cast_ofNat_Int, c_0, c_1, Int.natCast_add, Int.add_zero, cond_true, cond_false, Bool.and_self, Bool.and_true, Bool.true_and, Option.bind_some, decide_true, uI_hit, uI_miss, uI_o, uA_o, uA_s, ↓reduceIte, eq_self, true_or, or_true, or_false, false_or, true_and, and_true, false_and, and_false, or_self, and_self, not_false_eq_true, not_true_eq_false, tn_i, k10, x]
      · rw [m] at k10; simp (config := {maxSteps := 4000000}) (disch := omega) only [nI_iI, lN_lJ, iI_0, lJ_0, iI_add, iI_sub, iI_mul, iI_neg, lJ_add, lJ_sub, lJ_mul, lJ_neg, i_l, l_i, iI_cl, iI_inb, iI_eqT, iI_eqF, iI_ltT, iI_ltF, iI_leT, iI_leF, lJ_eqT, lJ_eqF, lJ_cG, lJ_cE, lJ_cL, lJ_cF, lJ_cGE, lJ_cLE, lJ_cNL, lJ_cNG, Int.cast_ofNat_Int, c_0, c_1, Int.natCast_add, Int.add_zero, cond_true, cond_false, Bool.and_self, Bool.and_true, Bool.true_and, Option.bind_some, decide_true, uI_hit, uI_miss, uI_o, uA_o, uA_s, ↓reduceIte, eq_self, true_or, or_true, or_false, false_or, true_and, and_true, false_and, and_false, or_self, and_self, not_false_eq_true, not_true_eq_false, tn_i, k10, x]
      · rw [m] at k10; simp (config := {maxSteps := 4000000}) (disch := omega) only [nI_iI, lN_lJ, iI_0, lJ_0, iI_add, iI_sub, iI_mul, iI_neg, lJ_add, lJ_sub, lJ_mul, lJ_neg, i_l, l_i, iI_cl, iI_inb, iI_eqT, iI_eqF, iI_ltT, iI_ltF, iI_leT, iI_leF, lJ_eqT, lJ_eqF, lJ_cG, lJ_cE, lJ_cL, lJ_cF, lJ_cGE, lJ_cLE, lJ_cNL, lJ_cNG, Int.cast_ofNat_Int, c_0, c_1, Int.natCast_add, Int.add_zero, cond_true, cond_false, Bool.and_self, Bool.and_true, Bool.true_and, Option.bind_some, decide_true, uI_hit, uI_miss, uI_o, uA_o, uA_s, ↓reduceIte, eq_self, true_or, or_true, or_false, false_or, true_and, and_true, false_and, and_false, or_self, and_self, not_false_eq_true, not_true_eq_false, tn_i, k10, x]
      · rw [m] at k10; simp (config := {maxSteps := 4000000}) (disch := omega) only [nI_iI, lN_lJ, iI_0, lJ_0, iI_add, iI_sub, iI_mul, iI_neg, lJ_add, lJ_sub, lJ_mul, lJ_neg, i_l, l_i, iI_cl, iI_inb, iI_eqT, iI_eqF, iI_ltT, iI_ltF, iI_leT, iI_leF, lJ_eqT, lJ_eqF, lJ_cG, lJ_cE, lJ_cL, lJ_cF, lJ_cGE, lJ_cLE, lJ_cNL, lJ_cNG, Int.cast_ofNat_Int, c_0, c_1, Int.natCast_add, Int.add_zero, cond_true, cond_false, Bool.and_self, Bool.and_true, Bool.true_and, Option.bind_some, decide_true, uI_hit, uI_miss, uI_o, uA_o, uA_s, ↓reduceIte, eq_self, true_or, or_true, or_false, false_or, true_and, and_true, false_and, and_false, or_self, and_self, not_false_eq_true, not_true_eq_false, tn_i, k10, x]
      · rw [m] at k10; simp (config := {maxSteps := 4000000}) (disch := omega) only [nI_iI, lN_lJ, iI_0, lJ_0, iI_add, iI_sub, iI_mul, iI_neg, lJ_add, lJ_sub, lJ_mul, lJ_neg, i_l, l_i, iI_cl, iI_inb, iI_eqT, iI_eqF, iI_ltT, iI_ltF, iI_leT, iI_leF, lJ_eqT, lJ_eqF, lJ_cG, lJ_cE, lJ_cL, lJ_cF, lJ_cGE, lJ_cLE, lJ_cNL, lJ_cNG, Int.cast_ofNat_Int, c_0, c_1, Int.natCast_add, Int.add_zero, cond_true, cond_false, Bool.and_self, Bool.and_true, Bool.true_and, Option.bind_some, decide_true, uI_hit, uI_miss, uI_o, uA_o, uA_s, ↓reduceIte, eq_self, true_or, or_true, or_false, false_or, true_and, and_true, false_and, and_false, or_self, and_self, not_false_eq_true, not_true_eq_false, tn_i, k10, x]
      · rw [m] at k10; simp (config := {maxSteps := 4000000}) (disch := omega) only [nI_iI, lN_lJ, iI_0, lJ_0, iI_add, iI_sub, iI_mul, iI_neg, lJ_add, lJ_sub, lJ_mul, lJ_neg, i_l, l_i, iI_cl, iI_inb, iI_eqT, iI_eqF, iI_ltT, iI_ltF, iI_leT, iI_leF, lJ_eqT, lJ_eqF, lJ_cG, lJ_cE, lJ_cL, lJ_cF, lJ_cGE, lJ_cLE, lJ_cNL, lJ_cNG, Int.cast_ofNat_Int, c_0, c_1, Int.natCast_add, Int.add_zero, cond_true, cond_false, Bool.and_self, Bool.and_true, Bool.true_and, Option.bind_some, decide_true, uI_hit, uI_miss, uI_o, uA_o, uA_s, ↓reduceIte, eq_self, true_or, or_true, or_false, false_or, true_and, and_true, false_and, and_false, or_self, and_self, not_false_eq_true, not_true_eq_false, tn_i, k10, x]
    · simp (config := {maxSteps := 4000000}) (disch := omega) only [nI_iI, lN_lJ, iI_0, lJ_0, iI_add, iI_sub, iI_mul, iI_neg, lJ_add, lJ_sub, lJ_mul, lJ_neg, i_l, l_i, iI_cl, iI_inb, iI_eqT, iI_eqF, iI_ltT, iI_ltF, iI_leT, iI_leF, lJ_eqT, lJ_eqF, lJ_cG, lJ_cE, lJ_cL, lJ_cF, lJ_cGE, lJ_cLE, lJ_cNL, lJ_cNG, Int.cast_ofNat_Int, c_0, c_1, Int.natCast_add, Int.add_zero, cond_true, cond_false, Bool.and_self, Bool.and_true, Bool.true_and, Option.bind_some, decide_true, uI_hit, uI_miss, uI_o, uA_o, uA_s, ↓reduceIte, eq_self, true_or, or_true, or_false, false_or, true_and, and_true, false_and, and_false, or_self, and_self, not_false_eq_true, not_true_eq_false, tn_i, k10, x]
