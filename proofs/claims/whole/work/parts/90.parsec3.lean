/-! ===== the class reads: one, products, sums, asks ===== -/
theorem c5_one {tp : Nat → Int} {L N : Nat} {s : Int} {n : Nat} {Fo : aI → aJ → Int32 → Option (Unit × aI × aJ)} {opd : Nat → Nat → Rs Fn} (ho : HO tp L N s n Fo opd) (hs : s = 0 ∨ s = 1) {k : Nat} (hk : k ≤ 8) (hkn : 8 ≤ k + n) : CSim (fun f => f) tp L N s (1 + 5 * (8 - (k : Int))) (fun d e => FX5_one Fo d e (iI (k : Nat))) (pOne (KT tp L) (VT tp L) s opd k) := by
  intro d e i a h
  have kr := KT_in h.1.2.1 (L := L) i
  have k10 := h.1.2.2.2.2.2.2.1
  have k3 := h.2.1
  show ∃ d', FX5_one Fo d e (iI (k : Nat)) = some ((), d', e) ∧ CR (fun f => f) tp L N s (1 + 5 * (8 - (k : Int))) d d' i a (pOne (KT tp L) (VT tp L) s opd k i) ∧ KC d d'
  unfold pOne
  by_cases q1 : KT tp L i = 1
  · rw [if_pos q1]
    have hi : i < N := (h.1.lt.1).mp (by omega)
    have lt := h.1.lt.2.1 hi
    have vi := VT_in (tp := tp) (L := L) (t := i)
    have ap := h.2.2.2
    obtain ⟨nu1, nu2, nu3⟩ := c5_number (e := e) (lo := 0) (hi := 9999) h (by omega)
    by_cases v : VT tp L i ≤ 9999
    · rw [if_pos v]
      obtain ⟨d1, x1, x2, x3, x4, x5⟩ := nu1 ⟨q1, by omega, v⟩
      obtain ⟨p1, p2, p3⟩ := x2.put (e := e) (x := iI (-1 - VT tp L i)) (by omega)
      refine ⟨_, ?_, ⟨fun _ => -1 - VT tp L i, a + 1, p2, ?_, fun z z1 z2 => ?_, fun z hz => ?_, by show a + 1 + psT tp L i ≤ a + psT tp L (i + 1); omega, by show i < i + 1; omega⟩, x3.trans p3⟩
      · rw [q1] at k10
        unfold FX5_one
        simp (config := {maxSteps := 4000000}) (disch := omega) only [nI_iI, lN_lJ, iI_0, lJ_0, iI_add, iI_sub, iI_mul, iI_neg, lJ_add, lJ_sub, lJ_mul, lJ_neg, i_l, l_i, iI_cl, iI_inb, iI_eqT, iI_eqF, iI_ltT, iI_ltF, iI_leT, iI_leF, lJ_eqT, lJ_eqF, lJ_cG, lJ_cE, lJ_cL, lJ_cF, lJ_cGE, lJ_cLE, lJ_cNL, lJ_cNG, Int.cast_ofNat_Int, c_0, c_1, Int.natCast_add, Int.add_zero, cond_true, cond_false, Bool.and_self, Bool.and_true, Bool.true_and, Option.bind_some, decide_true, uI_hit, uI_miss, uI_o, uA_o, uA_s, ↓reduceIte, eq_self, true_or, or_true, or_false, false_or, true_and, and_true, false_and, and_false, or_self, and_self, not_false_eq_true, not_true_eq_false, tn_i, k3, k10, x1, p1]
      · exact (CV.num (s := s) (C := fun _ => -1 - VT tp L i) (a := a) (k := VT tp L i) (by omega) (by omega) rfl).more (by omega)
      · rw [uI_o (by omega), show z = a by omega, uI_hit rfl]
      · rw [uI_o (by omega), uI_miss (by omega), x4]
    · rw [if_neg v]
      obtain ⟨d1, x1, x2, x3⟩ := nu2 q1 (fun z => v z.2)
      obtain ⟨d2, r, p1, p2, p3, p4, p5⟩ := FS.put (e := e) (x := iI (-1 - 0)) x2
      refine ⟨d2, ?_, p4, x3.trans p5⟩
      rw [q1] at k10
      unfold FX5_one
      simp (config := {maxSteps := 4000000}) (disch := omega) only [nI_iI, lN_lJ, iI_0, lJ_0, iI_add, iI_sub, iI_mul, iI_neg, lJ_add, lJ_sub, lJ_mul, lJ_neg, i_l, l_i, iI_cl, iI_inb, iI_eqT, iI_eqF, iI_ltT, iI_ltF, iI_leT, iI_leF, lJ_eqT, lJ_eqF, lJ_cG, lJ_cE, lJ_cL, lJ_cF, lJ_cGE, lJ_cLE, lJ_cNL, lJ_cNG, Int.cast_ofNat_Int, c_0, c_1, Int.natCast_add, Int.add_zero, cond_true, cond_false, Bool.and_self, Bool.and_true, Bool.true_and, Option.bind_some, decide_true, uI_hit, uI_miss, uI_o, uA_o, uA_s, ↓reduceIte, eq_self, true_or, or_true, or_false, false_or, true_and, and_true, false_and, and_false, or_self, and_self, not_false_eq_true, not_true_eq_false, tn_i, k3, k10, x1, p1]
  · rw [if_neg q1]
    by_cases q2 : opnT (KT tp L i)
    · rw [if_pos q2]
      by_cases q3 : 8 ≤ k
      · rw [if_pos q3]
        obtain ⟨d', x, y, z⟩ := c5_blame (e := e) (n := 3) h.1 h.2.1 (by omega)
        refine ⟨d', ?_, y, z⟩
        unfold FX5_one
        rcases q2 with q2 | q2 | q2 | q2 | q2
        · rw [q2] at k10; simp (config := {maxSteps := 4000000}) (disch := omega) only [nI_iI, lN_lJ, iI_0, lJ_0, iI_add, iI_sub, iI_mul, iI_neg, lJ_add, lJ_sub, lJ_mul, lJ_neg, i_l, l_i, iI_cl, iI_inb, iI_eqT, iI_eqF, iI_ltT, iI_ltF, iI_leT, iI_leF, lJ_eqT, lJ_eqF, lJ_cG, lJ_cE, lJ_cL, lJ_cF, lJ_cGE, lJ_cLE, lJ_cNL, lJ_cNG, Int.cast_ofNat_Int, c_0, c_1, Int.natCast_add, Int.add_zero, cond_true, cond_false, Bool.and_self, Bool.and_true, Bool.true_and, Option.bind_some, decide_true, uI_hit, uI_miss, uI_o, uA_o, uA_s, ↓reduceIte, eq_self, true_or, or_true, or_false, false_or, true_and, and_true, false_and, and_false, or_self, and_self, not_false_eq_true, not_true_eq_false, tn_i, k3, k10, x]
        · rw [q2] at k10; simp (config := {maxSteps := 4000000}) (disch := omega) only [nI_iI, lN_lJ, iI_0, lJ_0, iI_add, iI_sub, iI_mul, iI_neg, lJ_add, lJ_sub, lJ_mul, lJ_neg, i_l, l_i, iI_cl, iI_inb, iI_eqT, iI_eqF, iI_ltT, iI_ltF, iI_leT, iI_leF, lJ_eqT, lJ_eqF, lJ_cG, lJ_cE, lJ_cL, lJ_cF, lJ_cGE, lJ_cLE, lJ_cNL, lJ_cNG, Int.cast_ofNat_Int, c_0, c_1, Int.natCast_add, Int.add_zero, cond_true, cond_false, Bool.and_self, Bool.and_true, Bool.true_and, Option.bind_some, decide_true, uI_hit, uI_miss, uI_o, uA_o, uA_s, ↓reduceIte, eq_self, true_or, or_true, or_false, false_or, true_and, and_true, false_and, and_false, or_self, and_self, not_false_eq_true, not_true_eq_false, tn_i, k3, k10, x]
        · rw [q2] at k10; simp (config := {maxSteps := 4000000}) (disch := omega) only [nI_iI, lN_lJ, iI_0, lJ_0, iI_add, iI_sub, iI_mul, iI_neg, lJ_add, lJ_sub, lJ_mul, lJ_neg, i_l, l_i, iI_cl, iI_inb, iI_eqT, iI_eqF, iI_ltT, iI_ltF, iI_leT, iI_leF, lJ_eqT, lJ_eqF, lJ_cG, lJ_cE, lJ_cL, lJ_cF, lJ_cGE, lJ_cLE, lJ_cNL, lJ_cNG, Int.cast_ofNat_Int, c_0, c_1, Int.natCast_add, Int.add_zero, cond_true, cond_false, Bool.and_self, Bool.and_true, Bool.true_and, Option.bind_some, decide_true, uI_hit, uI_miss, uI_o, uA_o, uA_s, ↓reduceIte, eq_self, true_or, or_true, or_false, false_or, true_and, and_true, false_and, and_false, or_self, and_self, not_false_eq_true, not_true_eq_false, tn_i, k3, k10, x]
        · rw [q2] at k10; simp (config := {maxSteps := 4000000}) (disch := omega) only [nI_iI, lN_lJ, iI_0, lJ_0, iI_add, iI_sub, iI_mul, iI_neg, lJ_add, lJ_sub, lJ_mul, lJ_neg, i_l, l_i, iI_cl, iI_inb, iI_eqT, iI_eqF, iI_ltT, iI_ltF, iI_leT, iI_leF, lJ_eqT, lJ_eqF, lJ_cG, lJ_cE, lJ_cL, lJ_cF, lJ_cGE, lJ_cLE, lJ_cNL, lJ_cNG, Int.cast_ofNat_Int, c_0, c_1, Int.natCast_add, Int.add_zero, cond_true, cond_false, Bool.and_self, Bool.and_true, Bool.true_and, Option.bind_some, decide_true, uI_hit, uI_miss, uI_o, uA_o, uA_s, ↓reduceIte, eq_self, true_or, or_true, or_false, false_or, true_and, and_true, false_and, and_false, or_self, and_self, not_false_eq_true, not_true_eq_false, tn_i, k3, k10, x]
        · rw [q2] at k10; simp (config := {maxSteps := 4000000}) (disch := omega) only [nI_iI, lN_lJ, iI_0, lJ_0, iI_add, iI_sub, iI_mul, iI_neg, lJ_add, lJ_sub, lJ_mul, lJ_neg, i_l, l_i, iI_cl, iI_inb, iI_eqT, iI_eqF, iI_ltT, iI_ltF, iI_leT, iI_leF, lJ_eqT, lJ_eqF, lJ_cG, lJ_cE, lJ_cL, lJ_cF, lJ_cGE, lJ_cLE, lJ_cNL, lJ_cNG, Int.cast_ofNat_Int, c_0, c_1, Int.natCast_add, Int.add_zero, cond_true, cond_false, Bool.and_self, Bool.and_true, Bool.true_and, Option.bind_some, decide_true, uI_hit, uI_miss, uI_o, uA_o, uA_s, ↓reduceIte, eq_self, true_or, or_true, or_false, false_or, true_and, and_true, false_and, and_false, or_self, and_self, not_false_eq_true, not_true_eq_false, tn_i, k3, k10, x]
      · rw [if_neg q3]
        obtain ⟨d', x, y, z⟩ := ho (k + 1) (by omega) (by omega) (by omega) d e i a h q2
        rw [show (1 : Int) + 5 * (9 - ((k + 1 : Nat) : Int)) = 1 + 5 * (8 - (k : Int)) by omega] at y
        have x' : Fo d e (iI ((k : Int) + 1)) = some ((), d', e) := x
        refine ⟨d', ?_, y, z⟩
        unfold FX5_one
        rcases q2 with q2 | q2 | q2 | q2 | q2
        · rw [q2] at k10; simp (config := {maxSteps := 4000000}) (disch := omega) only [nI_iI, lN_lJ, iI_0, lJ_0, iI_add, iI_sub, iI_mul, iI_neg, lJ_add, lJ_sub, lJ_mul, lJ_neg, i_l, l_i, iI_cl, iI_inb, iI_eqT, iI_eqF, iI_ltT, iI_ltF, iI_leT, iI_leF, lJ_eqT, lJ_eqF, lJ_cG, lJ_cE, lJ_cL, lJ_cF, lJ_cGE, lJ_cLE, lJ_cNL, lJ_cNG, Int.cast_ofNat_Int, c_0, c_1, Int.natCast_add, Int.add_zero, cond_true, cond_false, Bool.and_self, Bool.and_true, Bool.true_and, Option.bind_some, decide_true, uI_hit, uI_miss, uI_o, uA_o, uA_s, ↓reduceIte, eq_self, true_or, or_true, or_false, false_or, true_and, and_true, false_and, and_false, or_self, and_self, not_false_eq_true, not_true_eq_false, tn_i, k3, k10, x']
        · rw [q2] at k10; simp (config := {maxSteps := 4000000}) (disch := omega) only [nI_iI, lN_lJ, iI_0, lJ_0, iI_add, iI_sub, iI_mul, iI_neg, lJ_add, lJ_sub, lJ_mul, lJ_neg, i_l, l_i, iI_cl, iI_inb, iI_eqT, iI_eqF, iI_ltT, iI_ltF, iI_leT, iI_leF, lJ_eqT, lJ_eqF, lJ_cG, lJ_cE, lJ_cL, lJ_cF, lJ_cGE, lJ_cLE, lJ_cNL, lJ_cNG, Int.cast_ofNat_Int, c_0, c_1, Int.natCast_add, Int.add_zero, cond_true, cond_false, Bool.and_self, Bool.and_true, Bool.true_and, Option.bind_some, decide_true, uI_hit, uI_miss, uI_o, uA_o, uA_s, ↓reduceIte, eq_self, true_or, or_true, or_false, false_or, true_and, and_true, false_and, and_false, or_self, and_self, not_false_eq_true, not_true_eq_false, tn_i, k3, k10, x']
        · rw [q2] at k10; simp (config := {maxSteps := 4000000}) (disch := omega) only [nI_iI, lN_lJ, iI_0, lJ_0, iI_add, iI_sub, iI_mul, iI_neg, lJ_add, lJ_sub, lJ_mul, lJ_neg, i_l, l_i, iI_cl, iI_inb, iI_eqT, iI_eqF, iI_ltT, iI_ltF, iI_leT, iI_leF, lJ_eqT, lJ_eqF, lJ_cG, lJ_cE, lJ_cL, lJ_cF, lJ_cGE, lJ_cLE, lJ_cNL, lJ_cNG, Int.cast_ofNat_Int, c_0, c_1, Int.natCast_add, Int.add_zero, cond_true, cond_false, Bool.and_self, Bool.and_true, Bool.true_and, Option.bind_some, decide_true, uI_hit, uI_miss, uI_o, uA_o, uA_s, ↓reduceIte, eq_self, true_or, or_true, or_false, false_or, true_and, and_true, false_and, and_false, or_self, and_self, not_false_eq_true, not_true_eq_false, tn_i, k3, k10, x']
        · rw [q2] at k10; simp (config := {maxSteps := 4000000}) (disch := omega) only [nI_iI, lN_lJ, iI_0, lJ_0, iI_add, iI_sub, iI_mul, iI_neg, lJ_add, lJ_sub, lJ_mul, lJ_neg, i_l, l_i, iI_cl, iI_inb, iI_eqT, iI_eqF, iI_ltT, iI_ltF, iI_leT, iI_leF, lJ_eqT, lJ_eqF, lJ_cG, lJ_cE, lJ_cL, lJ_cF, lJ_cGE, lJ_cLE, lJ_cNL, lJ_cNG, Int.cast_ofNat_Int, c_0, c_1, Int.natCast_add, Int.add_zero, cond_true, cond_false, Bool.and_self, Bool.and_true, Bool.true_and, Option.bind_some, decide_true, uI_hit, uI_miss, uI_o, uA_o, uA_s, ↓reduceIte, eq_self, true_or, or_true, or_false, false_or, true_and, and_true, false_and, and_false, or_self, and_self, not_false_eq_true, not_true_eq_false, tn_i, k3, k10, x']
        · rw [q2] at k10; simp (config := {maxSteps := 4000000}) (disch := omega) only [nI_iI, lN_lJ, iI_0, lJ_0, iI_add, iI_sub, iI_mul, iI_neg, lJ_add, lJ_sub, lJ_mul, lJ_neg, i_l, l_i, iI_cl, iI_inb, iI_eqT, iI_eqF, iI_ltT, iI_ltF, iI_leT, iI_leF, lJ_eqT, lJ_eqF, lJ_cG, lJ_cE, lJ_cL, lJ_cF, lJ_cGE, lJ_cLE, lJ_cNL, lJ_cNG, Int.cast_ofNat_Int, c_0, c_1, Int.natCast_add, Int.add_zero, cond_true, cond_false, Bool.and_self, Bool.and_true, Bool.true_and, Option.bind_some, decide_true, uI_hit, uI_miss, uI_o, uA_o, uA_s, ↓reduceIte, eq_self, true_or, or_true, or_false, false_or, true_and, and_true, false_and, and_false, or_self, and_self, not_false_eq_true, not_true_eq_false, tn_i, k3, k10, x']
    · rw [if_neg q2]
      obtain ⟨d', x, y, z⟩ := c5_name (e := e) h hs (1 + 5 * (8 - (k : Int))) (by omega)
      refine ⟨d', ?_, y, z⟩
      unfold FX5_one
      generalize KT tp L i = c at *
      simp (config := {maxSteps := 4000000}) (disch := omega) only [nI_iI, lN_lJ, iI_0, lJ_0, iI_add, iI_sub, iI_mul, iI_neg, lJ_add, lJ_sub, lJ_mul, lJ_neg, i_l, l_i, iI_cl, iI_inb, iI_eqT, iI_eqF, iI_ltT, iI_ltF, iI_leT, iI_leF, lJ_eqT, lJ_eqF, lJ_cG, lJ_cE, lJ_cL, lJ_cF, lJ_cGE, lJ_cLE, lJ_cNL, lJ_cNG, Int.cast_ofNat_Int, c_0, c_1, Int.natCast_add, Int.add_zero, cond_true, cond_false, Bool.and_self, Bool.and_true, Bool.true_and, Option.bind_some, decide_true, uI_hit, uI_miss, uI_o, uA_o, uA_s, ↓reduceIte, eq_self, true_or, or_true, or_false, false_or, true_and, and_true, false_and, and_false, or_self, and_self, not_false_eq_true, not_true_eq_false, tn_i, k3, k10, x]
theorem opT_s {c : Int} {g : Fn → Fn → Fn} (h : opT c = some g) : (c = 42 ∧ g = fun f g v => lim (arS 8 (f v) (g v))) ∨ (c = 47 ∧ g = fun f g v => lim (arS 9 (f v) (g v))) := by
  unfold opT at h
  by_cases q : c = 42
  · rw [if_pos q] at h; exact Or.inl ⟨q, (Option.some.inj h).symm⟩
  · rw [if_neg q] at h
    by_cases q2 : c = 47
    · rw [if_pos q2] at h; exact Or.inr ⟨q2, (Option.some.inj h).symm⟩
    · rw [if_neg q2] at h; cases h
theorem opT_n {c : Int} (h : opT c = none) : c ≠ 42 ∧ c ≠ 47 := by
  constructor
  · rintro rfl; exact absurd h (by unfold opT; rw [if_pos rfl]; exact Option.some_ne_none _)
  · rintro rfl; exact absurd h (by unfold opT; rw [if_neg (by omega), if_pos rfl]; exact Option.some_ne_none _)
theorem opP_s {c : Int} {g : Fn → Fn → Fn} (h : opP c = some g) : (c = 43 ∧ g = fun f g v => lim (arS 6 (f v) (g v))) ∨ (c = 45 ∧ g = fun f g v => lim (arS 7 (f v) (g v))) := by
  unfold opP at h
  by_cases q : c = 43
  · rw [if_pos q] at h; exact Or.inl ⟨q, (Option.some.inj h).symm⟩
  · rw [if_neg q] at h
    by_cases q2 : c = 45
    · rw [if_pos q2] at h; exact Or.inr ⟨q2, (Option.some.inj h).symm⟩
    · rw [if_neg q2] at h; cases h
theorem opP_n {c : Int} (h : opP c = none) : c ≠ 43 ∧ c ≠ 45 := by
  constructor
  · rintro rfl; exact absurd h (by unfold opP; rw [if_pos rfl]; exact Option.some_ne_none _)
  · rintro rfl; exact absurd h (by unfold opP; rw [if_neg (by omega), if_pos rfl]; exact Option.some_ne_none _)
theorem opA_s {c : Int} {g : Gn → Gn → Gn} (h : opA c = some g) : c = 319 ∧ g = fun f g v => f v && g v := by
  unfold opA at h
  by_cases q : c = 319
  · rw [if_pos q] at h; exact ⟨q, (Option.some.inj h).symm⟩
  · rw [if_neg q] at h; cases h
theorem opA_n {c : Int} (h : opA c = none) : c ≠ 319 := by
  rintro rfl; exact absurd h (by unfold opA; rw [if_pos rfl]; exact Option.some_ne_none _)
theorem opO_s {c : Int} {g : Gn → Gn → Gn} (h : opO c = some g) : c = 318 ∧ g = fun f g v => f v || g v := by
  unfold opO at h
  by_cases q : c = 318
  · rw [if_pos q] at h; exact ⟨q, (Option.some.inj h).symm⟩
  · rw [if_neg q] at h; cases h
theorem opO_n {c : Int} (h : opO c = none) : c ≠ 318 := by
  rintro rfl; exact absurd h (by unfold opO; rw [if_pos rfl]; exact Option.some_ne_none _)
theorem c5_prd {tp : Nat → Int} {L N : Nat} {s : Int} {n : Nat} {Fo : aI → aJ → Int32 → Option (Unit × aI × aJ)} {opd : Nat → Nat → Rs Fn} (ho : HO tp L N s n Fo opd) (hs : s = 0 ∨ s = 1) {k : Nat} (hk : k ≤ 8) (hkn : 8 ≤ k + n) : CSim (fun f => f) tp L N s (1 + 5 * (8 - (k : Int)) + 1) (fun d e => FX5_product Fo d e (iI (k : Nat))) (pPrd (KT tp L) (VT tp L) s opd k) ∧ CF tp L N (fun d e => FX5_product Fo d e (iI (k : Nat))) := by
  refine c5_mn (st := stX5_product Fo) (T := fun cnt v => [some (.ref 83), some (.int (iI (k : Nat))), some (.int (iI (cnt : Nat))), v]) (T0 := [some (.ref 83), some (.int (iI (k : Nat))), none, none]) (op := opT) (F := fun d e => FX5_one Fo d e (iI (k : Nat))) (c5_one ho hs hk hkn) c5_oneF rfl (by omega) ?_ ?_ ?_ ?_ ?_ ?_
  · intro d d1 e h
    show sX5_product_0 Fo d e _ = _
    unfold sX5_product_0
    simp (disch := omega) only [nI_iI, lN_lJ, iI_0, lJ_0, iI_add, iI_sub, iI_mul, iI_neg, lJ_add, lJ_sub, lJ_mul, lJ_neg, i_l, l_i, iI_cl, iI_inb, iI_eqT, iI_eqF, iI_ltT, iI_ltF, iI_leT, iI_leF, lJ_eqT, lJ_eqF, lJ_cG, lJ_cE, lJ_cL, lJ_cF, lJ_cGE, lJ_cLE, lJ_cNL, lJ_cNG, Int.cast_ofNat_Int, c_0, c_1, Int.natCast_add, Int.add_zero, cond_true, cond_false, Bool.and_self, Bool.and_true, Bool.true_and, Option.bind_some, decide_true, uI_hit, uI_miss, uI_o, uA_o, uA_s, ↓reduceIte, eq_self, true_or, or_true, or_false, false_or, true_and, and_true, false_and, and_false, or_self, and_self, not_false_eq_true, not_true_eq_false, tn_i, h]
  · intro e d c g cnt v d1 d2 d3 r hc ho hcnt h3 h10 hn hF hp
    refine ⟨some (.int (iI c)), ?_⟩
    show sX5_product_7 Fo d e _ _ v = _
    unfold sX5_product_7
    rcases opT_s ho with ⟨z, _⟩ | ⟨z, _⟩
    · subst z; simp (disch := omega) only [nI_iI, lN_lJ, iI_0, lJ_0, iI_add, iI_sub, iI_mul, iI_neg, lJ_add, lJ_sub, lJ_mul, lJ_neg, i_l, l_i, iI_cl, iI_inb, iI_eqT, iI_eqF, iI_ltT, iI_ltF, iI_leT, iI_leF, lJ_eqT, lJ_eqF, lJ_cG, lJ_cE, lJ_cL, lJ_cF, lJ_cGE, lJ_cLE, lJ_cNL, lJ_cNG, Int.cast_ofNat_Int, c_0, c_1, Int.natCast_add, Int.add_zero, cond_true, cond_false, Bool.and_self, Bool.and_true, Bool.true_and, Option.bind_some, decide_true, uI_hit, uI_miss, uI_o, uA_o, uA_s, ↓reduceIte, eq_self, true_or, or_true, or_false, false_or, true_and, and_true, false_and, and_false, or_self, and_self, not_false_eq_true, not_true_eq_false, tn_i, h3, h10, hn, hF, hp]
    · subst z; simp (disch := omega) only [nI_iI, lN_lJ, iI_0, lJ_0, iI_add, iI_sub, iI_mul, iI_neg, lJ_add, lJ_sub, lJ_mul, lJ_neg, i_l, l_i, iI_cl, iI_inb, iI_eqT, iI_eqF, iI_ltT, iI_ltF, iI_leT, iI_leF, lJ_eqT, lJ_eqF, lJ_cG, lJ_cE, lJ_cL, lJ_cF, lJ_cGE, lJ_cLE, lJ_cNL, lJ_cNG, Int.cast_ofNat_Int, c_0, c_1, Int.natCast_add, Int.add_zero, cond_true, cond_false, Bool.and_self, Bool.and_true, Bool.true_and, Option.bind_some, decide_true, uI_hit, uI_miss, uI_o, uA_o, uA_s, ↓reduceIte, eq_self, true_or, or_true, or_false, false_or, true_and, and_true, false_and, and_false, or_self, and_self, not_false_eq_true, not_true_eq_false, tn_i, h3, h10, hn, hF, hp]
  · intro e d c cnt v hc ho hcnt h3 h10
    have nn := opT_n ho
    show sX5_product_7 Fo d e _ _ v = _
    unfold sX5_product_7
    by_cases z : 300 ≤ cnt
    · simp (disch := omega) only [nI_iI, lN_lJ, iI_0, lJ_0, iI_add, iI_sub, iI_mul, iI_neg, lJ_add, lJ_sub, lJ_mul, lJ_neg, i_l, l_i, iI_cl, iI_inb, iI_eqT, iI_eqF, iI_ltT, iI_ltF, iI_leT, iI_leF, lJ_eqT, lJ_eqF, lJ_cG, lJ_cE, lJ_cL, lJ_cF, lJ_cGE, lJ_cLE, lJ_cNL, lJ_cNG, Int.cast_ofNat_Int, c_0, c_1, Int.natCast_add, Int.add_zero, cond_true, cond_false, Bool.and_self, Bool.and_true, Bool.true_and, Option.bind_some, decide_true, uI_hit, uI_miss, uI_o, uA_o, uA_s, ↓reduceIte, eq_self, true_or, or_true, or_false, false_or, true_and, and_true, false_and, and_false, or_self, and_self, not_false_eq_true, not_true_eq_false, tn_i]
    · simp (disch := omega) only [nI_iI, lN_lJ, iI_0, lJ_0, iI_add, iI_sub, iI_mul, iI_neg, lJ_add, lJ_sub, lJ_mul, lJ_neg, i_l, l_i, iI_cl, iI_inb, iI_eqT, iI_eqF, iI_ltT, iI_ltF, iI_leT, iI_leF, lJ_eqT, lJ_eqF, lJ_cG, lJ_cE, lJ_cL, lJ_cF, lJ_cGE, lJ_cLE, lJ_cNL, lJ_cNG, Int.cast_ofNat_Int, c_0, c_1, Int.natCast_add, Int.add_zero, cond_true, cond_false, Bool.and_self, Bool.and_true, Bool.true_and, Option.bind_some, decide_true, uI_hit, uI_miss, uI_o, uA_o, uA_s, ↓reduceIte, eq_self, true_or, or_true, or_false, false_or, true_and, and_true, false_and, and_false, or_self, and_self, not_false_eq_true, not_true_eq_false, tn_i, h3, h10]
  · intro e d n cnt v hn hcnt h3
    show sX5_product_7 Fo d e _ _ v = _
    unfold sX5_product_7
    by_cases z : 300 ≤ cnt
    · simp (disch := omega) only [nI_iI, lN_lJ, iI_0, lJ_0, iI_add, iI_sub, iI_mul, iI_neg, lJ_add, lJ_sub, lJ_mul, lJ_neg, i_l, l_i, iI_cl, iI_inb, iI_eqT, iI_eqF, iI_ltT, iI_ltF, iI_leT, iI_leF, lJ_eqT, lJ_eqF, lJ_cG, lJ_cE, lJ_cL, lJ_cF, lJ_cGE, lJ_cLE, lJ_cNL, lJ_cNG, Int.cast_ofNat_Int, c_0, c_1, Int.natCast_add, Int.add_zero, cond_true, cond_false, Bool.and_self, Bool.and_true, Bool.true_and, Option.bind_some, decide_true, uI_hit, uI_miss, uI_o, uA_o, uA_s, ↓reduceIte, eq_self, true_or, or_true, or_false, false_or, true_and, and_true, false_and, and_false, or_self, and_self, not_false_eq_true, not_true_eq_false, tn_i]
    · simp (disch := omega) only [nI_iI, lN_lJ, iI_0, lJ_0, iI_add, iI_sub, iI_mul, iI_neg, lJ_add, lJ_sub, lJ_mul, lJ_neg, i_l, l_i, iI_cl, iI_inb, iI_eqT, iI_eqF, iI_ltT, iI_ltF, iI_leT, iI_leF, lJ_eqT, lJ_eqF, lJ_cG, lJ_cE, lJ_cL, lJ_cF, lJ_cGE, lJ_cLE, lJ_cNL, lJ_cNG, Int.cast_ofNat_Int, c_0, c_1, Int.natCast_add, Int.add_zero, cond_true, cond_false, Bool.and_self, Bool.and_true, Bool.true_and, Option.bind_some, decide_true, uI_hit, uI_miss, uI_o, uA_o, uA_s, ↓reduceIte, eq_self, true_or, or_true, or_false, false_or, true_and, and_true, false_and, and_false, or_self, and_self, not_false_eq_true, not_true_eq_false, tn_i, h3]
  · intro e d v
    show sX5_product_7 Fo d e _ _ v = _
    unfold sX5_product_7
    simp (disch := omega) only [nI_iI, lN_lJ, iI_0, lJ_0, iI_add, iI_sub, iI_mul, iI_neg, lJ_add, lJ_sub, lJ_mul, lJ_neg, i_l, l_i, iI_cl, iI_inb, iI_eqT, iI_eqF, iI_ltT, iI_ltF, iI_leT, iI_leF, lJ_eqT, lJ_eqF, lJ_cG, lJ_cE, lJ_cL, lJ_cF, lJ_cGE, lJ_cLE, lJ_cNL, lJ_cNG, Int.cast_ofNat_Int, c_0, c_1, Int.natCast_add, Int.add_zero, cond_true, cond_false, Bool.and_self, Bool.and_true, Bool.true_and, Option.bind_some, decide_true, uI_hit, uI_miss, uI_o, uA_o, uA_s, ↓reduceIte, eq_self, true_or, or_true, or_false, false_or, true_and, and_true, false_and, and_false, or_self, and_self, not_false_eq_true, not_true_eq_false, tn_i]
  · intro C a b m f g' h c ho h1 h2 h3
    rcases opT_s ho with ⟨z, y⟩ | ⟨z, y⟩
    · subst z; subst y; exact CV.ar h1 h2 h3 (by omega) _ (by omega)
    · subst z; subst y; exact CV.ar h1 h2 h3 (by omega) _ (by omega)
theorem c5_sum {tp : Nat → Int} {L N : Nat} {s : Int} {n : Nat} {Fo : aI → aJ → Int32 → Option (Unit × aI × aJ)} {opd : Nat → Nat → Rs Fn} (ho : HO tp L N s n Fo opd) (hs : s = 0 ∨ s = 1) {k : Nat} (hk : k ≤ 8) (hkn : 8 ≤ k + n) : CSim (fun f => f) tp L N s (1 + 5 * (8 - (k : Int)) + 2) (fun d e => FX5_sum Fo d e (iI (k : Nat))) (pSum (KT tp L) (VT tp L) s opd k) ∧ CF tp L N (fun d e => FX5_sum Fo d e (iI (k : Nat))) := by
  obtain ⟨p1, p2⟩ := c5_prd ho hs hk hkn
  refine c5_mn (st := stX5_sum Fo) (T := fun cnt v => [some (.ref 83), some (.int (iI (k : Nat))), some (.int (iI (cnt : Nat))), v]) (T0 := [some (.ref 83), some (.int (iI (k : Nat))), none, none]) (op := opP) (F := fun d e => FX5_product Fo d e (iI (k : Nat))) p1 p2 rfl (by omega) ?_ ?_ ?_ ?_ ?_ ?_
  · intro d d1 e h
    show sX5_sum_0 Fo d e _ = _
    unfold sX5_sum_0
    simp (disch := omega) only [nI_iI, lN_lJ, iI_0, lJ_0, iI_add, iI_sub, iI_mul, iI_neg, lJ_add, lJ_sub, lJ_mul, lJ_neg, i_l, l_i, iI_cl, iI_inb, iI_eqT, iI_eqF, iI_ltT, iI_ltF, iI_leT, iI_leF, lJ_eqT, lJ_eqF, lJ_cG, lJ_cE, lJ_cL, lJ_cF, lJ_cGE, lJ_cLE, lJ_cNL, lJ_cNG, Int.cast_ofNat_Int, c_0, c_1, Int.natCast_add, Int.add_zero, cond_true, cond_false, Bool.and_self, Bool.and_true, Bool.true_and, Option.bind_some, decide_true, uI_hit, uI_miss, uI_o, uA_o, uA_s, ↓reduceIte, eq_self, true_or, or_true, or_false, false_or, true_and, and_true, false_and, and_false, or_self, and_self, not_false_eq_true, not_true_eq_false, tn_i, h]
  · intro e d c g cnt v d1 d2 d3 r hc ho hcnt h3 h10 hn hF hp
    refine ⟨some (.int (iI c)), ?_⟩
    show sX5_sum_7 Fo d e _ _ v = _
    unfold sX5_sum_7
    rcases opP_s ho with ⟨z, _⟩ | ⟨z, _⟩
    · subst z; simp (disch := omega) only [nI_iI, lN_lJ, iI_0, lJ_0, iI_add, iI_sub, iI_mul, iI_neg, lJ_add, lJ_sub, lJ_mul, lJ_neg, i_l, l_i, iI_cl, iI_inb, iI_eqT, iI_eqF, iI_ltT, iI_ltF, iI_leT, iI_leF, lJ_eqT, lJ_eqF, lJ_cG, lJ_cE, lJ_cL, lJ_cF, lJ_cGE, lJ_cLE, lJ_cNL, lJ_cNG, Int.cast_ofNat_Int, c_0, c_1, Int.natCast_add, Int.add_zero, cond_true, cond_false, Bool.and_self, Bool.and_true, Bool.true_and, Option.bind_some, decide_true, uI_hit, uI_miss, uI_o, uA_o, uA_s, ↓reduceIte, eq_self, true_or, or_true, or_false, false_or, true_and, and_true, false_and, and_false, or_self, and_self, not_false_eq_true, not_true_eq_false, tn_i, h3, h10, hn, hF, hp]
    · subst z; simp (disch := omega) only [nI_iI, lN_lJ, iI_0, lJ_0, iI_add, iI_sub, iI_mul, iI_neg, lJ_add, lJ_sub, lJ_mul, lJ_neg, i_l, l_i, iI_cl, iI_inb, iI_eqT, iI_eqF, iI_ltT, iI_ltF, iI_leT, iI_leF, lJ_eqT, lJ_eqF, lJ_cG, lJ_cE, lJ_cL, lJ_cF, lJ_cGE, lJ_cLE, lJ_cNL, lJ_cNG, Int.cast_ofNat_Int, c_0, c_1, Int.natCast_add, Int.add_zero, cond_true, cond_false, Bool.and_self, Bool.and_true, Bool.true_and, Option.bind_some, decide_true, uI_hit, uI_miss, uI_o, uA_o, uA_s, ↓reduceIte, eq_self, true_or, or_true, or_false, false_or, true_and, and_true, false_and, and_false, or_self, and_self, not_false_eq_true, not_true_eq_false, tn_i, h3, h10, hn, hF, hp]
  · intro e d c cnt v hc ho hcnt h3 h10
    have nn := opP_n ho
    show sX5_sum_7 Fo d e _ _ v = _
    unfold sX5_sum_7
    by_cases z : 300 ≤ cnt
    · simp (disch := omega) only [nI_iI, lN_lJ, iI_0, lJ_0, iI_add, iI_sub, iI_mul, iI_neg, lJ_add, lJ_sub, lJ_mul, lJ_neg, i_l, l_i, iI_cl, iI_inb, iI_eqT, iI_eqF, iI_ltT, iI_ltF, iI_leT, iI_leF, lJ_eqT, lJ_eqF, lJ_cG, lJ_cE, lJ_cL, lJ_cF, lJ_cGE, lJ_cLE, lJ_cNL, lJ_cNG, Int.cast_ofNat_Int, c_0, c_1, Int.natCast_add, Int.add_zero, cond_true, cond_false, Bool.and_self, Bool.and_true, Bool.true_and, Option.bind_some, decide_true, uI_hit, uI_miss, uI_o, uA_o, uA_s, ↓reduceIte, eq_self, true_or, or_true, or_false, false_or, true_and, and_true, false_and, and_false, or_self, and_self, not_false_eq_true, not_true_eq_false, tn_i]
    · simp (disch := omega) only [nI_iI, lN_lJ, iI_0, lJ_0, iI_add, iI_sub, iI_mul, iI_neg, lJ_add, lJ_sub, lJ_mul, lJ_neg, i_l, l_i, iI_cl, iI_inb, iI_eqT, iI_eqF, iI_ltT, iI_ltF, iI_leT, iI_leF, lJ_eqT, lJ_eqF, lJ_cG, lJ_cE, lJ_cL, lJ_cF, lJ_cGE, lJ_cLE, lJ_cNL, lJ_cNG, Int.cast_ofNat_Int, c_0, c_1, Int.natCast_add, Int.add_zero, cond_true, cond_false, Bool.and_self, Bool.and_true, Bool.true_and, Option.bind_some, decide_true, uI_hit, uI_miss, uI_o, uA_o, uA_s, ↓reduceIte, eq_self, true_or, or_true, or_false, false_or, true_and, and_true, false_and, and_false, or_self, and_self, not_false_eq_true, not_true_eq_false, tn_i, h3, h10]
  · intro e d n cnt v hn hcnt h3
    show sX5_sum_7 Fo d e _ _ v = _
    unfold sX5_sum_7
    by_cases z : 300 ≤ cnt
    · simp (disch := omega) only [nI_iI, lN_lJ, iI_0, lJ_0, iI_add, iI_sub, iI_mul, iI_neg, lJ_add, lJ_sub, lJ_mul, lJ_neg, i_l, l_i, iI_cl, iI_inb, iI_eqT, iI_eqF, iI_ltT, iI_ltF, iI_leT, iI_leF, lJ_eqT, lJ_eqF, lJ_cG, lJ_cE, lJ_cL, lJ_cF, lJ_cGE, lJ_cLE, lJ_cNL, lJ_cNG, Int.cast_ofNat_Int, c_0, c_1, Int.natCast_add, Int.add_zero, cond_true, cond_false, Bool.and_self, Bool.and_true, Bool.true_and, Option.bind_some, decide_true, uI_hit, uI_miss, uI_o, uA_o, uA_s, ↓reduceIte, eq_self, true_or, or_true, or_false, false_or, true_and, and_true, false_and, and_false, or_self, and_self, not_false_eq_true, not_true_eq_false, tn_i]
    · simp (disch := omega) only [nI_iI, lN_lJ, iI_0, lJ_0, iI_add, iI_sub, iI_mul, iI_neg, lJ_add, lJ_sub, lJ_mul, lJ_neg, i_l, l_i, iI_cl, iI_inb, iI_eqT, iI_eqF, iI_ltT, iI_ltF, iI_leT, iI_leF, lJ_eqT, lJ_eqF, lJ_cG, lJ_cE, lJ_cL, lJ_cF, lJ_cGE, lJ_cLE, lJ_cNL, lJ_cNG, Int.cast_ofNat_Int, c_0, c_1, Int.natCast_add, Int.add_zero, cond_true, cond_false, Bool.and_self, Bool.and_true, Bool.true_and, Option.bind_some, decide_true, uI_hit, uI_miss, uI_o, uA_o, uA_s, ↓reduceIte, eq_self, true_or, or_true, or_false, false_or, true_and, and_true, false_and, and_false, or_self, and_self, not_false_eq_true, not_true_eq_false, tn_i, h3]
  · intro e d v
    show sX5_sum_7 Fo d e _ _ v = _
    unfold sX5_sum_7
    simp (disch := omega) only [nI_iI, lN_lJ, iI_0, lJ_0, iI_add, iI_sub, iI_mul, iI_neg, lJ_add, lJ_sub, lJ_mul, lJ_neg, i_l, l_i, iI_cl, iI_inb, iI_eqT, iI_eqF, iI_ltT, iI_ltF, iI_leT, iI_leF, lJ_eqT, lJ_eqF, lJ_cG, lJ_cE, lJ_cL, lJ_cF, lJ_cGE, lJ_cLE, lJ_cNL, lJ_cNG, Int.cast_ofNat_Int, c_0, c_1, Int.natCast_add, Int.add_zero, cond_true, cond_false, Bool.and_self, Bool.and_true, Bool.true_and, Option.bind_some, decide_true, uI_hit, uI_miss, uI_o, uA_o, uA_s, ↓reduceIte, eq_self, true_or, or_true, or_false, false_or, true_and, and_true, false_and, and_false, or_self, and_self, not_false_eq_true, not_true_eq_false, tn_i]
  · intro C a b m f g' h c ho h1 h2 h3
    rcases opP_s ho with ⟨z, y⟩ | ⟨z, y⟩
    · subst z; subst y; exact CV.ar h1 h2 h3 (by omega) _ (by omega)
    · subst z; subst y; exact CV.ar h1 h2 h3 (by omega) _ (by omega)
theorem c5_isc {d : aI} {e : aJ} {c : Int} (h : 0 ≤ c ∧ c ≤ 325) : FX5_isComparison d e (iI c) = some (iI (if cmT c then 1 else 0), d, e) := by
  unfold FX5_isComparison
  by_cases q : cmT c
  · rw [if_pos q]
    rcases q with q | q | q | q | q | q <;> subst q <;> rfl
  · rw [if_neg q]
    have n1 : c ≠ 60 ∧ c ≠ 3 ∧ c ≠ 62 ∧ c ≠ 4 ∧ c ≠ 61 ∧ c ≠ 35 := by
      refine ⟨?_, ?_, ?_, ?_, ?_, ?_⟩ <;> (rintro rfl; exact q (by omega))
    simp (disch := omega) only [nI_iI, lN_lJ, iI_0, lJ_0, iI_add, iI_sub, iI_mul, iI_neg, lJ_add, lJ_sub, lJ_mul, lJ_neg, i_l, l_i, iI_cl, iI_inb, iI_eqT, iI_eqF, iI_ltT, iI_ltF, iI_leT, iI_leF, lJ_eqT, lJ_eqF, lJ_cG, lJ_cE, lJ_cL, lJ_cF, lJ_cGE, lJ_cLE, lJ_cNL, lJ_cNG, Int.cast_ofNat_Int, c_0, c_1, Int.natCast_add, Int.add_zero, cond_true, cond_false, Bool.and_self, Bool.and_true, Bool.true_and, Option.bind_some, decide_true, uI_hit, uI_miss, uI_o, uA_o, uA_s, ↓reduceIte, eq_self, true_or, or_true, or_false, false_or, true_and, and_true, false_and, and_false, or_self, and_self, not_false_eq_true, not_true_eq_false, tn_i]
/-- the nots behind it -/
theorem c5_nots {Fo : aI → aJ → Int32 → Option (Unit × aI × aJ)} {e : aJ} {k m x3 : Int32} {M : Nat} (hm : m = iI (M : Nat)) (hM : M ≤ 9) {tp : Nat → Int} {L N : Nat} : (∀ (r j : Nat) (d : aI) (n : Int) (p : Nat), j + r = M → FS d tp L N n p → ∃ d', a_run (stX5_ask Fo) (94, [some (.ref 83), some (.int k), some (.int m), some (.int x3), some (.int (iI (j : Nat)))], d, e) = some ([], d', e) ∧ FS d' tp L N n p ∧ KC d d') ∧
    (∀ (r j : Nat) (d : aI) (s need : Int) (i a b : Nat) (C : Int → Int) (f : Gn), j + r = M → CS d tp L N s i b → b + r ≤ psT tp L i → CV s C a b need (fun v => tv (ntB j (f v))) → (∀ z : Nat, a ≤ z → z < b → d 92 z = iI (C z)) → ∃ d' C', a_run (stX5_ask Fo) (94, [some (.ref 83), some (.int k), some (.int m), some (.int x3), some (.int (iI (j : Nat)))], d, e) = some ([], d', e) ∧ CS d' tp L N s i (b + r) ∧ CV s C' a (b + r : Nat) need (fun v => tv (ntB M (f v))) ∧ (∀ z : Nat, a ≤ z → z < b + r → d' 92 z = iI (C' z)) ∧ (∀ z : Nat, z < a → d' 92 z = d 92 z) ∧ KC d d') := by
  subst hm
  constructor
  · intro r
    induction r with
    | zero =>
      intro j d n p hj fs
      refine ⟨d, ?_, fs, KC.refl d⟩
      rw [a_run_step (st := stX5_ask Fo) (p2 := (100000, [], d, e)) (by
        show sX5_ask_94 Fo d e _ _ _ _ = _
        unfold sX5_ask_94
        simp (disch := omega) only [nI_iI, lN_lJ, iI_0, lJ_0, iI_add, iI_sub, iI_mul, iI_neg, lJ_add, lJ_sub, lJ_mul, lJ_neg, i_l, l_i, iI_cl, iI_inb, iI_eqT, iI_eqF, iI_ltT, iI_ltF, iI_leT, iI_leF, lJ_eqT, lJ_eqF, lJ_cG, lJ_cE, lJ_cL, lJ_cF, lJ_cGE, lJ_cLE, lJ_cNL, lJ_cNG, Int.cast_ofNat_Int, c_0, c_1, Int.natCast_add, Int.add_zero, cond_true, cond_false, Bool.and_self, Bool.and_true, Bool.true_and, Option.bind_some, decide_true, uI_hit, uI_miss, uI_o, uA_o, uA_s, ↓reduceIte, eq_self, true_or, or_true, or_false, false_or, true_and, and_true, false_and, and_false, or_self, and_self, not_false_eq_true, not_true_eq_false, tn_i]) rfl, a_run_end]
    | succ r ih =>
      intro j d n p hj fs
      obtain ⟨d1, rr, p1, p2, p3, p4, p5⟩ := FS.put (e := e) (x := iI 320) fs
      obtain ⟨d2, x, y, z⟩ := ih (j + 1) d1 n p (by omega) p4
      refine ⟨d2, (a_run_step (st := stX5_ask Fo) ?_ rfl).trans x, y, p5.trans z⟩
      show sX5_ask_94 Fo d e _ _ _ _ = _
      unfold sX5_ask_94
      simp (disch := omega) only [nI_iI, lN_lJ, iI_0, lJ_0, iI_add, iI_sub, iI_mul, iI_neg, lJ_add, lJ_sub, lJ_mul, lJ_neg, i_l, l_i, iI_cl, iI_inb, iI_eqT, iI_eqF, iI_ltT, iI_ltF, iI_leT, iI_leF, lJ_eqT, lJ_eqF, lJ_cG, lJ_cE, lJ_cL, lJ_cF, lJ_cGE, lJ_cLE, lJ_cNL, lJ_cNG, Int.cast_ofNat_Int, c_0, c_1, Int.natCast_add, Int.add_zero, cond_true, cond_false, Bool.and_self, Bool.and_true, Bool.true_and, Option.bind_some, decide_true, uI_hit, uI_miss, uI_o, uA_o, uA_s, ↓reduceIte, eq_self, true_or, or_true, or_false, false_or, true_and, and_true, false_and, and_false, or_self, and_self, not_false_eq_true, not_true_eq_false, tn_i, p1]
  · intro r
    induction r with
    | zero =>
      intro j d s need i a b C f hj cs hb cv h1
      have jm : j = M := by omega
      subst jm
      refine ⟨d, C, ?_, cs, cv, h1, fun _ _ => rfl, KC.refl d⟩
      rw [a_run_step (st := stX5_ask Fo) (p2 := (100000, [], d, e)) (by
        show sX5_ask_94 Fo d e _ _ _ _ = _
        unfold sX5_ask_94
        simp (disch := omega) only [nI_iI, lN_lJ, iI_0, lJ_0, iI_add, iI_sub, iI_mul, iI_neg, lJ_add, lJ_sub, lJ_mul, lJ_neg, i_l, l_i, iI_cl, iI_inb, iI_eqT, iI_eqF, iI_ltT, iI_ltF, iI_leT, iI_leF, lJ_eqT, lJ_eqF, lJ_cG, lJ_cE, lJ_cL, lJ_cF, lJ_cGE, lJ_cLE, lJ_cNL, lJ_cNG, Int.cast_ofNat_Int, c_0, c_1, Int.natCast_add, Int.add_zero, cond_true, cond_false, Bool.and_self, Bool.and_true, Bool.true_and, Option.bind_some, decide_true, uI_hit, uI_miss, uI_o, uA_o, uA_s, ↓reduceIte, eq_self, true_or, or_true, or_false, false_or, true_and, and_true, false_and, and_false, or_self, and_self, not_false_eq_true, not_true_eq_false, tn_i]) rfl, a_run_end]
    | succ r ih =>
      intro j d s need i a b C f hj cs hb cv h1
      have ab := cv.2.1
      obtain ⟨p1, p2, p3⟩ := cs.put (e := e) (x := iI 320) (by omega)
      have c1 : CV s (fun z : Int => if z < b then C z else 320) a b need (fun v => tv (ntB j (f v))) := cv.ext (fun z z1 z2 => if_pos z2)
      have c2 := CV.not (f := fun v => ntB j (f v)) c1 (show (if (b : Int) < b then C b else 320) = 320 from if_neg (by omega))
      obtain ⟨d2, C2, x1, x2, x3, x4, x5, x6⟩ := ih (j + 1) _ s need i a (b + 1) _ f (by omega) p2 (by omega) c2 (fun z z1 z2 => by
        rw [uI_o (by omega)]
        by_cases w : z = b
        · rw [w, uI_hit rfl]
          show _ = iI (if ((b : Nat) : Int) < b then C b else 320)
          rw [if_neg (by omega)]
        · rw [uI_miss w]
          show _ = iI (if (z : Int) < b then C z else 320)
          rw [if_pos (by omega)]; exact h1 z z1 (by omega))
      rw [show b + 1 + r = b + (r + 1) by omega] at x2 x3 x4
      refine ⟨d2, C2, (a_run_step (st := stX5_ask Fo) ?_ rfl).trans x1, x2, x3, x4, fun z hz => ?_, p3.trans x6⟩
      · show sX5_ask_94 Fo d e _ _ _ _ = _
        unfold sX5_ask_94
        simp (disch := omega) only [nI_iI, lN_lJ, iI_0, lJ_0, iI_add, iI_sub, iI_mul, iI_neg, lJ_add, lJ_sub, lJ_mul, lJ_neg, i_l, l_i, iI_cl, iI_inb, iI_eqT, iI_eqF, iI_ltT, iI_ltF, iI_leT, iI_leF, lJ_eqT, lJ_eqF, lJ_cG, lJ_cE, lJ_cL, lJ_cF, lJ_cGE, lJ_cLE, lJ_cNL, lJ_cNG, Int.cast_ofNat_Int, c_0, c_1, Int.natCast_add, Int.add_zero, cond_true, cond_false, Bool.and_self, Bool.and_true, Bool.true_and, Option.bind_some, decide_true, uI_hit, uI_miss, uI_o, uA_o, uA_s, ↓reduceIte, eq_self, true_or, or_true, or_false, false_or, true_and, and_true, false_and, and_false, or_self, and_self, not_false_eq_true, not_true_eq_false, tn_i, p1]
      · rw [x5 z hz, uI_o (by omega), uI_miss (by omega)]
