/-! ===== takes and goes ===== -/
def clampS (lo hi v : Int) : Int := if v < lo then lo else if hi < v then hi else v
theorem clampS_in {lo hi v : Int} (h : lo ≤ hi) : lo ≤ clampS lo hi v ∧ clampS lo hi v ≤ hi := by
  unfold clampS
  split
  · omega
  · split <;> omega
def chS (A : Int → Int) (z : Int) : Int := if 0 ≤ z ∧ z < A 1 then A (54 + z) else 0
def envT (A : Int → Int) (c h : Int) : En := (fun k => match k with
  | 0 => A 9
  | 1 => c
  | 2 => A (54 + c)
  | 3 => A (12 + 3 * c + 2)
  | 4 => A (12 + 3 * c)
  | 5 => A (30 + 2 * h)
  | 6 => A (30 + 2 * h + 1)
  | _ => if A (12 + 3 * c + 1) = -1 then 0 else 1, chS A)
def envG (A : Int → Int) (c : Int) : En := (fun k => match k with
  | 0 => A 9
  | 1 => c
  | 2 => A (54 + c)
  | 3 => A (12 + 3 * c + 2)
  | 4 => A (12 + 3 * c)
  | 5 => 0
  | 6 => 0
  | _ => if A (12 + 3 * c + 1) = -1 then 0 else 1, chS A)
theorem chS_in {A : Int → Int} (hW : WN A) (z : Int) : 0 ≤ chS A z ∧ chS A z ≤ 9 := by
  unfold chS
  split
  · rename_i h
    have := (hW.2.2.2.2.2.1 z h.1 h.2).2.2.2.1
    omega
  · omega
theorem envT_ok {A : Int → Int} (hW : WN A) {c h : Int} (hc : 0 ≤ c ∧ c < A 1) (hh : 0 ≤ h ∧ h < A 0) : EnOK (envT A c h) := by
  have w1 := hW.2.1
  have w9 := hW.2.2.1
  have wc := hW.2.2.2.2.2.1 c hc.1 hc.2
  have wh := hW.2.2.2.2.2.2.1 h hh.1 hh.2
  refine ⟨fun k => ?_, fun z => chS_in hW z⟩
  match k with
  | 0 => exact w9
  | 1 => show 0 ≤ c ∧ c ≤ 9999; omega
  | 2 => show 0 ≤ A (54 + c) ∧ A (54 + c) ≤ 9999; omega
  | 3 => exact wc.2.2.1
  | 4 => show 0 ≤ A (12 + 3 * c) ∧ A (12 + 3 * c) ≤ 9999; omega
  | 5 => show 0 ≤ A (30 + 2 * h) ∧ A (30 + 2 * h) ≤ 9999; omega
  | 6 => show 0 ≤ A (30 + 2 * h + 1) ∧ A (30 + 2 * h + 1) ≤ 9999; omega
  | k + 7 => show 0 ≤ (if A (12 + 3 * c + 1) = -1 then (0 : Int) else 1) ∧ (if A (12 + 3 * c + 1) = -1 then (0 : Int) else 1) ≤ 9999; split <;> omega
theorem envG_ok {A : Int → Int} (hW : WN A) {c : Int} (hc : 0 ≤ c ∧ c < A 1) : EnOK (envG A c) := by
  have w1 := hW.2.1
  have w9 := hW.2.2.1
  have wc := hW.2.2.2.2.2.1 c hc.1 hc.2
  refine ⟨fun k => ?_, fun z => chS_in hW z⟩
  match k with
  | 0 => exact w9
  | 1 => show 0 ≤ c ∧ c ≤ 9999; omega
  | 2 => show 0 ≤ A (54 + c) ∧ A (54 + c) ≤ 9999; omega
  | 3 => exact wc.2.2.1
  | 4 => show 0 ≤ A (12 + 3 * c) ∧ A (12 + 3 * c) ≤ 9999; omega
  | 5 => show 0 ≤ (0 : Int) ∧ (0 : Int) ≤ 9999; omega
  | 6 => show 0 ≤ (0 : Int) ∧ (0 : Int) ≤ 9999; omega
  | k + 7 => show 0 ≤ (if A (12 + 3 * c + 1) = -1 then (0 : Int) else 1) ∧ (if A (12 + 3 * c + 1) = -1 then (0 : Int) else 1) ≤ 9999; split <;> omega
def takesS (A : Int → Int) (y : Option (En → Int)) (c h : Int) : Int := match y with
  | none => A (54 + c)
  | some f => clampS 0 99 (f (envT A c h))
def goesS (A : Int → Int) (y : Option (En → Int)) (c : Int) : Int := match y with
  | none => 0
  | some f => clampS (-99) 99 (f (envG A c))
theorem takesS_in {A : Int → Int} (hW : WN A) {y : Option (En → Int)} {c h : Int} (hc : 0 ≤ c ∧ c < A 1) : 0 ≤ takesS A y c h ∧ takesS A y c h ≤ 99 := by
  unfold takesS
  cases y with
  | none => have := (hW.2.2.2.2.2.1 c hc.1 hc.2).2.2.2.1; show 0 ≤ A (54 + c) ∧ A (54 + c) ≤ 99; omega
  | some f => exact clampS_in (by omega)
theorem goesS_in {A : Int → Int} {y : Option (En → Int)} {c : Int} : -99 ≤ goesS A y c ∧ goesS A y c ≤ 99 := by
  unfold goesS
  cases y with
  | none => show -99 ≤ (0 : Int) ∧ (0 : Int) ≤ 99; omega
  | some f => exact clampS_in (by omega)
-- class
theorem cq_one3 {d : aI} {e : aJ} {A : Int → Int} (hC : CN d 1 A) (hW : WN A) {z : Int} (hz : -1000000 ≤ z ∧ z ≤ 1000000) : FX1_ofOne d e (iI 313) (iI z) = some (iI (chS A z), d, e) := by
  have hw := hW
  have hcc := hC
  obtain ⟨q8, q9, q10, q11, q12, q3, q4, q5, q6, q7, qh, qt, qb⟩ := hC
  have k8 : d 2 8 = iI (A 0) := q8
  have k9 : d 2 9 = iI (A 1) := q9
  have k10 : d 2 10 = iI (A 11) := q10
  have k11 : d 2 11 = iI (A 9) := q11
  have k12 : d 2 12 = iI (A 10) := q12
  have k3 : ∀ j : Nat, (j : Int) < A 0 → d 3 j = iI (A (42 + j)) := q3
  have k4 : ∀ j : Nat, (j : Int) < A 0 → d 4 j = iI (A (30 + 2 * j)) := q4
  have k5 : ∀ j : Nat, (j : Int) < A 0 → d 5 j = iI (A (30 + 2 * j + 1)) := q5
  have k6 : ∀ j : Nat, (j : Int) < A 1 → d 6 j = iI (A (54 + j)) := q6
  have k7 : ∀ j : Nat, (j : Int) < A 1 → d 7 j = iI (A (12 + 3 * j)) := q7
  have kh : ∀ j : Nat, (j : Int) < A 1 → d 8 j = iI (A (12 + 3 * j + 1)) := qh
  have kt : ∀ j : Nat, (j : Int) < A 1 → d 9 j = iI (A (12 + 3 * j + 2)) := qt
  have kb : ∀ j : Nat, (j : Int) < A 11 → d 10 j = iI (A (1936 + j)) := qb
  obtain ⟨w0, w1, w9, w10, w11, wc, wh, wb⟩ := hW
  unfold FX1_ofOne chS
  by_cases h : 0 ≤ z ∧ z < A 1
  · rw [if_pos h]
    have m6 := k6 z.toNat (by omega)
    rw [tn_i (by omega)] at m6
    simp (disch := omega) only [nI_iI, lN_lJ, iI_0, lJ_0, iI_add, iI_sub, iI_mul, iI_neg, lJ_add, lJ_sub, lJ_mul, lJ_neg, i_l, l_i, iI_cl, iI_inb, iI_eqT, iI_eqF, iI_ltT, iI_ltF, iI_leT, iI_leF, lJ_eqT, lJ_eqF, lJ_cG, lJ_cE, lJ_cL, lJ_cF, lJ_cGE, lJ_cLE, lJ_cNL, lJ_cNG, Int.cast_ofNat_Int, c_0, c_1, Int.natCast_add, Int.add_zero, cond_true, cond_false, Bool.and_self, Bool.and_true, Bool.true_and, Option.bind_some, decide_true, uI_hit, uI_miss, uI_o, uA_o, uA_s, ↓reduceIte, eq_self, true_or, or_true, or_false, false_or, true_and, and_true, false_and, and_false, or_self, and_self, not_false_eq_true, not_true_eq_false, tn_i, cq_isCat_y hcc hw, m6]
  · rw [if_neg h]
    simp (disch := omega) only [nI_iI, lN_lJ, iI_0, lJ_0, iI_add, iI_sub, iI_mul, iI_neg, lJ_add, lJ_sub, lJ_mul, lJ_neg, i_l, l_i, iI_cl, iI_inb, iI_eqT, iI_eqF, iI_ltT, iI_ltF, iI_leT, iI_leF, lJ_eqT, lJ_eqF, lJ_cG, lJ_cE, lJ_cL, lJ_cF, lJ_cGE, lJ_cLE, lJ_cNL, lJ_cNG, Int.cast_ofNat_Int, c_0, c_1, Int.natCast_add, Int.add_zero, cond_true, cond_false, Bool.and_self, Bool.and_true, Bool.true_and, Option.bind_some, decide_true, uI_hit, uI_miss, uI_o, uA_o, uA_s, ↓reduceIte, eq_self, true_or, or_true, or_false, false_or, true_and, and_true, false_and, and_false, or_self, and_self, not_false_eq_true, not_true_eq_false, tn_i, cq_isCat_n hcc hw]
theorem named_T {d : aI} {e : aJ} {A : Int → Int} (hC : CN d 1 A) (hW : WN A) {c h : Int} (hc : 0 ≤ c ∧ c < A 1) (hh : 0 ≤ h ∧ h < A 0) (k : Nat) (hk : k < 8) (hn : nmOK 0 k) : FX1_named d e (iI (nmC k)) (iI c) (iI h) = some (iI ((envT A c h).1 k), d, e) := by
  have hw := hW
  have hcc := hC
  obtain ⟨q8, q9, q10, q11, q12, q3, q4, q5, q6, q7, qh, qt, qb⟩ := hC
  have k8 : d 2 8 = iI (A 0) := q8
  have k9 : d 2 9 = iI (A 1) := q9
  have k10 : d 2 10 = iI (A 11) := q10
  have k11 : d 2 11 = iI (A 9) := q11
  have k12 : d 2 12 = iI (A 10) := q12
  have k3 : ∀ j : Nat, (j : Int) < A 0 → d 3 j = iI (A (42 + j)) := q3
  have k4 : ∀ j : Nat, (j : Int) < A 0 → d 4 j = iI (A (30 + 2 * j)) := q4
  have k5 : ∀ j : Nat, (j : Int) < A 0 → d 5 j = iI (A (30 + 2 * j + 1)) := q5
  have k6 : ∀ j : Nat, (j : Int) < A 1 → d 6 j = iI (A (54 + j)) := q6
  have k7 : ∀ j : Nat, (j : Int) < A 1 → d 7 j = iI (A (12 + 3 * j)) := q7
  have kh : ∀ j : Nat, (j : Int) < A 1 → d 8 j = iI (A (12 + 3 * j + 1)) := qh
  have kt : ∀ j : Nat, (j : Int) < A 1 → d 9 j = iI (A (12 + 3 * j + 2)) := qt
  have kb : ∀ j : Nat, (j : Int) < A 11 → d 10 j = iI (A (1936 + j)) := qb
  obtain ⟨w0, w1, w9, w10, w11, wc, wh, wb⟩ := hW
  have m6 := k6 c.toNat (by omega)
  have m9 := kt c.toNat (by omega)
  have m7 := k7 c.toNat (by omega)
  have m4 := k4 h.toNat (by omega)
  have m5 := k5 h.toNat (by omega)
  rw [tn_i (by omega)] at m6 m9 m7 m4 m5
  unfold nmOK at hn
  unfold FX1_named
  rcases (show k = 0 ∨ k = 1 ∨ k = 2 ∨ k = 3 ∨ k = 4 ∨ k = 5 ∨ k = 6 by omega) with rfl | rfl | rfl | rfl | rfl | rfl | rfl
  · simp only [nmC, envT]
    simp (disch := omega) only [nI_iI, lN_lJ, iI_0, lJ_0, iI_add, iI_sub, iI_mul, iI_neg, lJ_add, lJ_sub, lJ_mul, lJ_neg, i_l, l_i, iI_cl, iI_inb, iI_eqT, iI_eqF, iI_ltT, iI_ltF, iI_leT, iI_leF, lJ_eqT, lJ_eqF, lJ_cG, lJ_cE, lJ_cL, lJ_cF, lJ_cGE, lJ_cLE, lJ_cNL, lJ_cNG, Int.cast_ofNat_Int, c_0, c_1, Int.natCast_add, Int.add_zero, cond_true, cond_false, Bool.and_self, Bool.and_true, Bool.true_and, Option.bind_some, decide_true, uI_hit, uI_miss, uI_o, uA_o, uA_s, ↓reduceIte, eq_self, true_or, or_true, or_false, false_or, true_and, and_true, false_and, and_false, or_self, and_self, not_false_eq_true, not_true_eq_false, tn_i, k11]
  · simp only [nmC, envT]
    simp (disch := omega) only [nI_iI, lN_lJ, iI_0, lJ_0, iI_add, iI_sub, iI_mul, iI_neg, lJ_add, lJ_sub, lJ_mul, lJ_neg, i_l, l_i, iI_cl, iI_inb, iI_eqT, iI_eqF, iI_ltT, iI_ltF, iI_leT, iI_leF, lJ_eqT, lJ_eqF, lJ_cG, lJ_cE, lJ_cL, lJ_cF, lJ_cGE, lJ_cLE, lJ_cNL, lJ_cNG, Int.cast_ofNat_Int, c_0, c_1, Int.natCast_add, Int.add_zero, cond_true, cond_false, Bool.and_self, Bool.and_true, Bool.true_and, Option.bind_some, decide_true, uI_hit, uI_miss, uI_o, uA_o, uA_s, ↓reduceIte, eq_self, true_or, or_true, or_false, false_or, true_and, and_true, false_and, and_false, or_self, and_self, not_false_eq_true, not_true_eq_false, tn_i]
  · simp only [nmC, envT]
    simp (disch := omega) only [nI_iI, lN_lJ, iI_0, lJ_0, iI_add, iI_sub, iI_mul, iI_neg, lJ_add, lJ_sub, lJ_mul, lJ_neg, i_l, l_i, iI_cl, iI_inb, iI_eqT, iI_eqF, iI_ltT, iI_ltF, iI_leT, iI_leF, lJ_eqT, lJ_eqF, lJ_cG, lJ_cE, lJ_cL, lJ_cF, lJ_cGE, lJ_cLE, lJ_cNL, lJ_cNG, Int.cast_ofNat_Int, c_0, c_1, Int.natCast_add, Int.add_zero, cond_true, cond_false, Bool.and_self, Bool.and_true, Bool.true_and, Option.bind_some, decide_true, uI_hit, uI_miss, uI_o, uA_o, uA_s, ↓reduceIte, eq_self, true_or, or_true, or_false, false_or, true_and, and_true, false_and, and_false, or_self, and_self, not_false_eq_true, not_true_eq_false, tn_i, m6]
  · simp only [nmC, envT]
    simp (disch := omega) only [nI_iI, lN_lJ, iI_0, lJ_0, iI_add, iI_sub, iI_mul, iI_neg, lJ_add, lJ_sub, lJ_mul, lJ_neg, i_l, l_i, iI_cl, iI_inb, iI_eqT, iI_eqF, iI_ltT, iI_ltF, iI_leT, iI_leF, lJ_eqT, lJ_eqF, lJ_cG, lJ_cE, lJ_cL, lJ_cF, lJ_cGE, lJ_cLE, lJ_cNL, lJ_cNG, Int.cast_ofNat_Int, c_0, c_1, Int.natCast_add, Int.add_zero, cond_true, cond_false, Bool.and_self, Bool.and_true, Bool.true_and, Option.bind_some, decide_true, uI_hit, uI_miss, uI_o, uA_o, uA_s, ↓reduceIte, eq_self, true_or, or_true, or_false, false_or, true_and, and_true, false_and, and_false, or_self, and_self, not_false_eq_true, not_true_eq_false, tn_i, m9]
  · simp only [nmC, envT]
    simp (disch := omega) only [nI_iI, lN_lJ, iI_0, lJ_0, iI_add, iI_sub, iI_mul, iI_neg, lJ_add, lJ_sub, lJ_mul, lJ_neg, i_l, l_i, iI_cl, iI_inb, iI_eqT, iI_eqF, iI_ltT, iI_ltF, iI_leT, iI_leF, lJ_eqT, lJ_eqF, lJ_cG, lJ_cE, lJ_cL, lJ_cF, lJ_cGE, lJ_cLE, lJ_cNL, lJ_cNG, Int.cast_ofNat_Int, c_0, c_1, Int.natCast_add, Int.add_zero, cond_true, cond_false, Bool.and_self, Bool.and_true, Bool.true_and, Option.bind_some, decide_true, uI_hit, uI_miss, uI_o, uA_o, uA_s, ↓reduceIte, eq_self, true_or, or_true, or_false, false_or, true_and, and_true, false_and, and_false, or_self, and_self, not_false_eq_true, not_true_eq_false, tn_i, m7]
  · simp only [nmC, envT]
    simp (disch := omega) only [nI_iI, lN_lJ, iI_0, lJ_0, iI_add, iI_sub, iI_mul, iI_neg, lJ_add, lJ_sub, lJ_mul, lJ_neg, i_l, l_i, iI_cl, iI_inb, iI_eqT, iI_eqF, iI_ltT, iI_ltF, iI_leT, iI_leF, lJ_eqT, lJ_eqF, lJ_cG, lJ_cE, lJ_cL, lJ_cF, lJ_cGE, lJ_cLE, lJ_cNL, lJ_cNG, Int.cast_ofNat_Int, c_0, c_1, Int.natCast_add, Int.add_zero, cond_true, cond_false, Bool.and_self, Bool.and_true, Bool.true_and, Option.bind_some, decide_true, uI_hit, uI_miss, uI_o, uA_o, uA_s, ↓reduceIte, eq_self, true_or, or_true, or_false, false_or, true_and, and_true, false_and, and_false, or_self, and_self, not_false_eq_true, not_true_eq_false, tn_i, cq_isHouse_y hcc hw, m4]
  · simp only [nmC, envT]
    simp (disch := omega) only [nI_iI, lN_lJ, iI_0, lJ_0, iI_add, iI_sub, iI_mul, iI_neg, lJ_add, lJ_sub, lJ_mul, lJ_neg, i_l, l_i, iI_cl, iI_inb, iI_eqT, iI_eqF, iI_ltT, iI_ltF, iI_leT, iI_leF, lJ_eqT, lJ_eqF, lJ_cG, lJ_cE, lJ_cL, lJ_cF, lJ_cGE, lJ_cLE, lJ_cNL, lJ_cNG, Int.cast_ofNat_Int, c_0, c_1, Int.natCast_add, Int.add_zero, cond_true, cond_false, Bool.and_self, Bool.and_true, Bool.true_and, Option.bind_some, decide_true, uI_hit, uI_miss, uI_o, uA_o, uA_s, ↓reduceIte, eq_self, true_or, or_true, or_false, false_or, true_and, and_true, false_and, and_false, or_self, and_self, not_false_eq_true, not_true_eq_false, tn_i, cq_isHouse_y hcc hw, m5]
theorem envC_T {d : aI} {e : aJ} {A : Int → Int} (hC : CN d 1 A) (hW : WN A) {c h : Int} (hc : 0 ≤ c ∧ c < A 1) (hh : 0 ≤ h ∧ h < A 0) : EnvC 0 d e (iI c) (iI h) (envT A c h) := by
  intro d' hs
  have hC2 : CN d' 1 A := hC.of (fun k a b => hs k (by omega) (by omega))
  exact ⟨fun k hk hn => named_T hC2 hW hc hh k hk hn, fun z z0 z1 => cq_one3 hC2 hW ⟨z0, z1⟩⟩
theorem named_G {d : aI} {e : aJ} {A : Int → Int} (hC : CN d 1 A) (hW : WN A) {c : Int} {x : Int32} (hc : 0 ≤ c ∧ c < A 1) (k : Nat) (hk : k < 8) (hn : nmOK 1 k) : FX1_named d e (iI (nmC k)) (iI c) x = some (iI ((envG A c).1 k), d, e) := by
  have hw := hW
  have hcc := hC
  obtain ⟨q8, q9, q10, q11, q12, q3, q4, q5, q6, q7, qh, qt, qb⟩ := hC
  have k8 : d 2 8 = iI (A 0) := q8
  have k9 : d 2 9 = iI (A 1) := q9
  have k10 : d 2 10 = iI (A 11) := q10
  have k11 : d 2 11 = iI (A 9) := q11
  have k12 : d 2 12 = iI (A 10) := q12
  have k3 : ∀ j : Nat, (j : Int) < A 0 → d 3 j = iI (A (42 + j)) := q3
  have k4 : ∀ j : Nat, (j : Int) < A 0 → d 4 j = iI (A (30 + 2 * j)) := q4
  have k5 : ∀ j : Nat, (j : Int) < A 0 → d 5 j = iI (A (30 + 2 * j + 1)) := q5
  have k6 : ∀ j : Nat, (j : Int) < A 1 → d 6 j = iI (A (54 + j)) := q6
  have k7 : ∀ j : Nat, (j : Int) < A 1 → d 7 j = iI (A (12 + 3 * j)) := q7
  have kh : ∀ j : Nat, (j : Int) < A 1 → d 8 j = iI (A (12 + 3 * j + 1)) := qh
  have kt : ∀ j : Nat, (j : Int) < A 1 → d 9 j = iI (A (12 + 3 * j + 2)) := qt
  have kb : ∀ j : Nat, (j : Int) < A 11 → d 10 j = iI (A (1936 + j)) := qb
  obtain ⟨w0, w1, w9, w10, w11, wc, wh, wb⟩ := hW
  have m6 := k6 c.toNat (by omega)
  have m9 := kt c.toNat (by omega)
  have m7 := k7 c.toNat (by omega)
  have m8 := kh c.toNat (by omega)
  rw [tn_i (by omega)] at m6 m9 m7 m8
  have wcc := wc c hc.1 hc.2
  unfold nmOK at hn
  unfold FX1_named
  rcases (show k = 0 ∨ k = 1 ∨ k = 2 ∨ k = 3 ∨ k = 4 ∨ k = 7 by omega) with rfl | rfl | rfl | rfl | rfl | rfl
  · simp only [nmC, envG]
    simp (disch := omega) only [nI_iI, lN_lJ, iI_0, lJ_0, iI_add, iI_sub, iI_mul, iI_neg, lJ_add, lJ_sub, lJ_mul, lJ_neg, i_l, l_i, iI_cl, iI_inb, iI_eqT, iI_eqF, iI_ltT, iI_ltF, iI_leT, iI_leF, lJ_eqT, lJ_eqF, lJ_cG, lJ_cE, lJ_cL, lJ_cF, lJ_cGE, lJ_cLE, lJ_cNL, lJ_cNG, Int.cast_ofNat_Int, c_0, c_1, Int.natCast_add, Int.add_zero, cond_true, cond_false, Bool.and_self, Bool.and_true, Bool.true_and, Option.bind_some, decide_true, uI_hit, uI_miss, uI_o, uA_o, uA_s, ↓reduceIte, eq_self, true_or, or_true, or_false, false_or, true_and, and_true, false_and, and_false, or_self, and_self, not_false_eq_true, not_true_eq_false, tn_i, k11]
  · simp only [nmC, envG]
    simp (disch := omega) only [nI_iI, lN_lJ, iI_0, lJ_0, iI_add, iI_sub, iI_mul, iI_neg, lJ_add, lJ_sub, lJ_mul, lJ_neg, i_l, l_i, iI_cl, iI_inb, iI_eqT, iI_eqF, iI_ltT, iI_ltF, iI_leT, iI_leF, lJ_eqT, lJ_eqF, lJ_cG, lJ_cE, lJ_cL, lJ_cF, lJ_cGE, lJ_cLE, lJ_cNL, lJ_cNG, Int.cast_ofNat_Int, c_0, c_1, Int.natCast_add, Int.add_zero, cond_true, cond_false, Bool.and_self, Bool.and_true, Bool.true_and, Option.bind_some, decide_true, uI_hit, uI_miss, uI_o, uA_o, uA_s, ↓reduceIte, eq_self, true_or, or_true, or_false, false_or, true_and, and_true, false_and, and_false, or_self, and_self, not_false_eq_true, not_true_eq_false, tn_i]
  · simp only [nmC, envG]
    simp (disch := omega) only [nI_iI, lN_lJ, iI_0, lJ_0, iI_add, iI_sub, iI_mul, iI_neg, lJ_add, lJ_sub, lJ_mul, lJ_neg, i_l, l_i, iI_cl, iI_inb, iI_eqT, iI_eqF, iI_ltT, iI_ltF, iI_leT, iI_leF, lJ_eqT, lJ_eqF, lJ_cG, lJ_cE, lJ_cL, lJ_cF, lJ_cGE, lJ_cLE, lJ_cNL, lJ_cNG, Int.cast_ofNat_Int, c_0, c_1, Int.natCast_add, Int.add_zero, cond_true, cond_false, Bool.and_self, Bool.and_true, Bool.true_and, Option.bind_some, decide_true, uI_hit, uI_miss, uI_o, uA_o, uA_s, ↓reduceIte, eq_self, true_or, or_true, or_false, false_or, true_and, and_true, false_and, and_false, or_self, and_self, not_false_eq_true, not_true_eq_false, tn_i, m6]
  · simp only [nmC, envG]
    simp (disch := omega) only [nI_iI, lN_lJ, iI_0, lJ_0, iI_add, iI_sub, iI_mul, iI_neg, lJ_add, lJ_sub, lJ_mul, lJ_neg, i_l, l_i, iI_cl, iI_inb, iI_eqT, iI_eqF, iI_ltT, iI_ltF, iI_leT, iI_leF, lJ_eqT, lJ_eqF, lJ_cG, lJ_cE, lJ_cL, lJ_cF, lJ_cGE, lJ_cLE, lJ_cNL, lJ_cNG, Int.cast_ofNat_Int, c_0, c_1, Int.natCast_add, Int.add_zero, cond_true, cond_false, Bool.and_self, Bool.and_true, Bool.true_and, Option.bind_some, decide_true, uI_hit, uI_miss, uI_o, uA_o, uA_s, ↓reduceIte, eq_self, true_or, or_true, or_false, false_or, true_and, and_true, false_and, and_false, or_self, and_self, not_false_eq_true, not_true_eq_false, tn_i, m9]
  · simp only [nmC, envG]
    simp (disch := omega) only [nI_iI, lN_lJ, iI_0, lJ_0, iI_add, iI_sub, iI_mul, iI_neg, lJ_add, lJ_sub, lJ_mul, lJ_neg, i_l, l_i, iI_cl, iI_inb, iI_eqT, iI_eqF, iI_ltT, iI_ltF, iI_leT, iI_leF, lJ_eqT, lJ_eqF, lJ_cG, lJ_cE, lJ_cL, lJ_cF, lJ_cGE, lJ_cLE, lJ_cNL, lJ_cNG, Int.cast_ofNat_Int, c_0, c_1, Int.natCast_add, Int.add_zero, cond_true, cond_false, Bool.and_self, Bool.and_true, Bool.true_and, Option.bind_some, decide_true, uI_hit, uI_miss, uI_o, uA_o, uA_s, ↓reduceIte, eq_self, true_or, or_true, or_false, false_or, true_and, and_true, false_and, and_false, or_self, and_self, not_false_eq_true, not_true_eq_false, tn_i, m7]
  · simp only [nmC, envG]
    by_cases h8 : A (12 + 3 * c + 1) = -1
    · rw [if_pos h8]
      simp (disch := omega) only [nI_iI, lN_lJ, iI_0, lJ_0, iI_add, iI_sub, iI_mul, iI_neg, lJ_add, lJ_sub, lJ_mul, lJ_neg, i_l, l_i, iI_cl, iI_inb, iI_eqT, iI_eqF, iI_ltT, iI_ltF, iI_leT, iI_leF, lJ_eqT, lJ_eqF, lJ_cG, lJ_cE, lJ_cL, lJ_cF, lJ_cGE, lJ_cLE, lJ_cNL, lJ_cNG, Int.cast_ofNat_Int, c_0, c_1, Int.natCast_add, Int.add_zero, cond_true, cond_false, Bool.and_self, Bool.and_true, Bool.true_and, Option.bind_some, decide_true, uI_hit, uI_miss, uI_o, uA_o, uA_s, ↓reduceIte, eq_self, true_or, or_true, or_false, false_or, true_and, and_true, false_and, and_false, or_self, and_self, not_false_eq_true, not_true_eq_false, tn_i, m8]
    · rw [if_neg h8]
      simp (disch := omega) only [nI_iI, lN_lJ, iI_0, lJ_0, iI_add, iI_sub, iI_mul, iI_neg, lJ_add, lJ_sub, lJ_mul, lJ_neg, i_l, l_i, iI_cl, iI_inb, iI_eqT, iI_eqF, iI_ltT, iI_ltF, iI_leT, iI_leF, lJ_eqT, lJ_eqF, lJ_cG, lJ_cE, lJ_cL, lJ_cF, lJ_cGE, lJ_cLE, lJ_cNL, lJ_cNG, Int.cast_ofNat_Int, c_0, c_1, Int.natCast_add, Int.add_zero, cond_true, cond_false, Bool.and_self, Bool.and_true, Bool.true_and, Option.bind_some, decide_true, uI_hit, uI_miss, uI_o, uA_o, uA_s, ↓reduceIte, eq_self, true_or, or_true, or_false, false_or, true_and, and_true, false_and, and_false, or_self, and_self, not_false_eq_true, not_true_eq_false, tn_i, m8]
theorem envC_G {d : aI} {e : aJ} {A : Int → Int} (hC : CN d 1 A) (hW : WN A) {c : Int} {x : Int32} (hc : 0 ≤ c ∧ c < A 1) : EnvC 1 d e (iI c) x (envG A c) := by
  intro d' hs
  have hC2 : CN d' 1 A := hC.of (fun k a b => hs k (by omega) (by omega))
  exact ⟨fun k hk hn => named_G hC2 hW hc k hk hn, fun z z0 z1 => cq_one3 hC2 hW ⟨z0, z1⟩⟩
abbrev oT (o : Nat) : Prop := o = 58 ∨ o = 63 ∨ o = 68 ∨ o = 73 ∨ o = 78
theorem cq_taking {d : aI} {e : aJ} {A : Int → Int} (hC : CN d 1 A) (hW : WN A) {o : Nat} {y : Option (En → Int)} {c h : Int} (ho : oT o) (hL : CL d o 6 0 y) (hc : 0 ≤ c ∧ c < A 1) (hh : 0 ≤ h ∧ h < A 0) : ∃ d', FX1_taking d e o (iI c) (iI h) = some (iI (takesS A y c h), d', e) ∧ SameX d d' := by
  have hw := hW
  have hcc := hC
  obtain ⟨q8, q9, q10, q11, q12, q3, q4, q5, q6, q7, qh, qt, qb⟩ := hC
  have k8 : d 2 8 = iI (A 0) := q8
  have k9 : d 2 9 = iI (A 1) := q9
  have k10 : d 2 10 = iI (A 11) := q10
  have k11 : d 2 11 = iI (A 9) := q11
  have k12 : d 2 12 = iI (A 10) := q12
  have k3 : ∀ j : Nat, (j : Int) < A 0 → d 3 j = iI (A (42 + j)) := q3
  have k4 : ∀ j : Nat, (j : Int) < A 0 → d 4 j = iI (A (30 + 2 * j)) := q4
  have k5 : ∀ j : Nat, (j : Int) < A 0 → d 5 j = iI (A (30 + 2 * j + 1)) := q5
  have k6 : ∀ j : Nat, (j : Int) < A 1 → d 6 j = iI (A (54 + j)) := q6
  have k7 : ∀ j : Nat, (j : Int) < A 1 → d 7 j = iI (A (12 + 3 * j)) := q7
  have kh : ∀ j : Nat, (j : Int) < A 1 → d 8 j = iI (A (12 + 3 * j + 1)) := qh
  have kt : ∀ j : Nat, (j : Int) < A 1 → d 9 j = iI (A (12 + 3 * j + 2)) := qt
  have kb : ∀ j : Nat, (j : Int) < A 11 → d 10 j = iI (A (1936 + j)) := qb
  obtain ⟨w0, w1, w9, w10, w11, wc, wh, wb⟩ := hW
  have m6 := k6 c.toNat (by omega)
  rw [tn_i (by omega)] at m6
  unfold CL at hL
  unfold takesS
  cases y with
  | none =>
    have hl : d o 6 = iI (-1) := hL
    refine ⟨d, ?_, SameX.refl d⟩
    unfold FX1_taking FX7_hasTakes
    simp (disch := omega) only [nI_iI, lN_lJ, iI_0, lJ_0, iI_add, iI_sub, iI_mul, iI_neg, lJ_add, lJ_sub, lJ_mul, lJ_neg, i_l, l_i, iI_cl, iI_inb, iI_eqT, iI_eqF, iI_ltT, iI_ltF, iI_leT, iI_leF, lJ_eqT, lJ_eqF, lJ_cG, lJ_cE, lJ_cL, lJ_cF, lJ_cGE, lJ_cLE, lJ_cNL, lJ_cNG, Int.cast_ofNat_Int, c_0, c_1, Int.natCast_add, Int.add_zero, cond_true, cond_false, Bool.and_self, Bool.and_true, Bool.true_and, Option.bind_some, decide_true, uI_hit, uI_miss, uI_o, uA_o, uA_s, ↓reduceIte, eq_self, true_or, or_true, or_false, false_or, true_and, and_true, false_and, and_false, or_self, and_self, not_false_eq_true, not_true_eq_false, tn_i, ho, cq_isCat_y hcc hw, cq_isHouse_y hcc hw, hl, m6, decide_eq_true]
  | some f =>
    obtain ⟨C, a, b, h1, h2, h3, h4, h5⟩ := hL
    have ha := h3.1
    have hab := h3.2.1
    obtain ⟨d', r1, r2⟩ := h3.run (d := d) (e := e) (o1 := o + 4) (x5 := iI c) (x6 := iI h) (v := envT A c h) (by omega) (envT_ok hw hc hh) (envC_T hcc hw hc hh) h5 (by omega) h4
    refine ⟨d', ?_, r2⟩
    have bd := h3.2.2.2.1 _ (envT_ok hw hc hh)
    have cl : a_max (iI 0) (a_min (iI 99) (iI (f (envT A c h)))) = iI (clampS 0 99 (f (envT A c h))) := by
      unfold clampS
      generalize f (envT A c h) = v at bd
      rw [iI_min (by omega)]
      by_cases v1 : v < 0
      · rw [if_pos v1, if_neg (by omega), iI_maxL (by omega)]
      · rw [if_neg v1]
        by_cases v2 : 99 < v
        · rw [if_pos v2, if_pos (by omega), iI_maxR (by omega)]
        · rw [if_neg v2]
          split
          · rw [iI_maxR (by omega)]; congr 1; omega
          · rw [iI_maxR (by omega)]
    have h1' : d o 6 = iI a := h1
    have h2' : d o 7 = iI b := h2
    unfold FX1_taking FX7_hasTakes
    simp (disch := omega) only [nI_iI, lN_lJ, iI_0, lJ_0, iI_add, iI_sub, iI_mul, iI_neg, lJ_add, lJ_sub, lJ_mul, lJ_neg, i_l, l_i, iI_cl, iI_inb, iI_eqT, iI_eqF, iI_ltT, iI_ltF, iI_leT, iI_leF, lJ_eqT, lJ_eqF, lJ_cG, lJ_cE, lJ_cL, lJ_cF, lJ_cGE, lJ_cLE, lJ_cNL, lJ_cNG, Int.cast_ofNat_Int, c_0, c_1, Int.natCast_add, Int.add_zero, cond_true, cond_false, Bool.and_self, Bool.and_true, Bool.true_and, Option.bind_some, decide_true, uI_hit, uI_miss, uI_o, uA_o, uA_s, ↓reduceIte, eq_self, true_or, or_true, or_false, false_or, true_and, and_true, false_and, and_false, or_self, and_self, not_false_eq_true, not_true_eq_false, tn_i, ho, cq_isCat_y hcc hw, cq_isHouse_y hcc hw, h1', h2', r1, cl, decide_eq_true]
theorem cq_going {d : aI} {e : aJ} {A : Int → Int} (hC : CN d 1 A) (hW : WN A) {o : Nat} {y : Option (En → Int)} {c : Int} (ho : oT o) (hL : CL d o 8 1 y) (hc : 0 ≤ c ∧ c < A 1) : ∃ d', FX1_going d e o (iI c) = some (iI (goesS A y c), d', e) ∧ SameX d d' := by
  have hw := hW
  have hcc := hC
  obtain ⟨q8, q9, q10, q11, q12, q3, q4, q5, q6, q7, qh, qt, qb⟩ := hC
  have k8 : d 2 8 = iI (A 0) := q8
  have k9 : d 2 9 = iI (A 1) := q9
  have k10 : d 2 10 = iI (A 11) := q10
  have k11 : d 2 11 = iI (A 9) := q11
  have k12 : d 2 12 = iI (A 10) := q12
  have k3 : ∀ j : Nat, (j : Int) < A 0 → d 3 j = iI (A (42 + j)) := q3
  have k4 : ∀ j : Nat, (j : Int) < A 0 → d 4 j = iI (A (30 + 2 * j)) := q4
  have k5 : ∀ j : Nat, (j : Int) < A 0 → d 5 j = iI (A (30 + 2 * j + 1)) := q5
  have k6 : ∀ j : Nat, (j : Int) < A 1 → d 6 j = iI (A (54 + j)) := q6
  have k7 : ∀ j : Nat, (j : Int) < A 1 → d 7 j = iI (A (12 + 3 * j)) := q7
  have kh : ∀ j : Nat, (j : Int) < A 1 → d 8 j = iI (A (12 + 3 * j + 1)) := qh
  have kt : ∀ j : Nat, (j : Int) < A 1 → d 9 j = iI (A (12 + 3 * j + 2)) := qt
  have kb : ∀ j : Nat, (j : Int) < A 11 → d 10 j = iI (A (1936 + j)) := qb
  obtain ⟨w0, w1, w9, w10, w11, wc, wh, wb⟩ := hW
  unfold CL at hL
  unfold goesS
  cases y with
  | none =>
    have hl : d o 8 = iI (-1) := hL
    refine ⟨d, ?_, SameX.refl d⟩
    unfold FX1_going FX7_hasGoes
    simp (disch := omega) only [nI_iI, lN_lJ, iI_0, lJ_0, iI_add, iI_sub, iI_mul, iI_neg, lJ_add, lJ_sub, lJ_mul, lJ_neg, i_l, l_i, iI_cl, iI_inb, iI_eqT, iI_eqF, iI_ltT, iI_ltF, iI_leT, iI_leF, lJ_eqT, lJ_eqF, lJ_cG, lJ_cE, lJ_cL, lJ_cF, lJ_cGE, lJ_cLE, lJ_cNL, lJ_cNG, Int.cast_ofNat_Int, c_0, c_1, Int.natCast_add, Int.add_zero, cond_true, cond_false, Bool.and_self, Bool.and_true, Bool.true_and, Option.bind_some, decide_true, uI_hit, uI_miss, uI_o, uA_o, uA_s, ↓reduceIte, eq_self, true_or, or_true, or_false, false_or, true_and, and_true, false_and, and_false, or_self, and_self, not_false_eq_true, not_true_eq_false, tn_i, ho, cq_isCat_y hcc hw, hl, decide_eq_true]
  | some f =>
    obtain ⟨C, a, b, h1, h2, h3, h4, h5⟩ := hL
    have ha := h3.1
    have hab := h3.2.1
    obtain ⟨d', r1, r2⟩ := h3.run (d := d) (e := e) (o1 := o + 4) (x5 := iI c) (x6 := d 8 c.toNat) (v := envG A c) (by omega) (envG_ok hw hc) (envC_G hcc hw hc) h5 (by omega) h4
    refine ⟨d', ?_, r2⟩
    have bd := h3.2.2.2.1 _ (envG_ok hw hc)
    have cl : a_max (iI (-99)) (a_min (iI 99) (iI (f (envG A c)))) = iI (clampS (-99) 99 (f (envG A c))) := by
      unfold clampS
      generalize f (envG A c) = v at bd
      rw [iI_min (by omega)]
      by_cases v1 : v < -99
      · rw [if_pos v1, if_neg (by omega), iI_maxL (by omega)]
      · rw [if_neg v1]
        by_cases v2 : 99 < v
        · rw [if_pos v2, if_pos (by omega), iI_maxR (by omega)]
        · rw [if_neg v2]
          split
          · rw [iI_maxR (by omega)]; congr 1; omega
          · rw [iI_maxR (by omega)]
    have h1' : d o 8 = iI a := h1
    have h2' : d o 9 = iI b := h2
    unfold FX1_going FX7_hasGoes
    simp (disch := omega) only [nI_iI, lN_lJ, iI_0, lJ_0, iI_add, iI_sub, iI_mul, iI_neg, lJ_add, lJ_sub, lJ_mul, lJ_neg, i_l, l_i, iI_cl, iI_inb, iI_eqT, iI_eqF, iI_ltT, iI_ltF, iI_leT, iI_leF, lJ_eqT, lJ_eqF, lJ_cG, lJ_cE, lJ_cL, lJ_cF, lJ_cGE, lJ_cLE, lJ_cNL, lJ_cNG, Int.cast_ofNat_Int, c_0, c_1, Int.natCast_add, Int.add_zero, cond_true, cond_false, Bool.and_self, Bool.and_true, Bool.true_and, Option.bind_some, decide_true, uI_hit, uI_miss, uI_o, uA_o, uA_s, ↓reduceIte, eq_self, true_or, or_true, or_false, false_or, true_and, and_true, false_and, and_false, or_self, and_self, not_false_eq_true, not_true_eq_false, tn_i, ho, cq_isCat_y hcc hw, h1', h2', r1, cl, decide_eq_true]
-- reference
theorem run_walk {st : aP → Option aP} (T : Nat → aP) (n : Nat) (hp : ∀ k, Nat.beq (T k).1 100000 = false) (hs : ∀ k, k < n → st (T k) = some (T (k + 1))) : a_run st (T 0) = a_run st (T n) := by
  induction n with
  | zero => rfl
  | succ n ih => rw [ih (fun k hk => hs k (by omega)), a_run_step (hs n (by omega)) (hp n)]
theorem mq_chill {d : aI} {e : aJ} {A : Int → Int} (hA : MA d 109 A) (hW : WN A) {z : Int} (hz : -1000000 ≤ z ∧ z ≤ 1000000) : FX11_chillOf d e (lJ z) = some (lJ (chS A z), d, e) := by
  have w1 := hW.2.1
  have r1 : d 109 1 = iI (A 1) := hA.cell (j := 1) (by omega)
  unfold FX11_chillOf chS
  by_cases h : 0 ≤ z ∧ z < A 1
  · rw [if_pos h]
    have m := hA.cell (j := 54 + z) (by omega)
    have wz := (hW.2.2.2.2.2.1 z h.1 h.2).2.2.2.1
    simp (disch := omega) only [nI_iI, lN_lJ, iI_0, lJ_0, iI_add, iI_sub, iI_mul, iI_neg, lJ_add, lJ_sub, lJ_mul, lJ_neg, i_l, l_i, iI_cl, iI_inb, iI_eqT, iI_eqF, iI_ltT, iI_ltF, iI_leT, iI_leF, lJ_eqT, lJ_eqF, lJ_cG, lJ_cE, lJ_cL, lJ_cF, lJ_cGE, lJ_cLE, lJ_cNL, lJ_cNG, Int.cast_ofNat_Int, c_0, c_1, Int.natCast_add, Int.add_zero, cond_true, cond_false, Bool.and_self, Bool.and_true, Bool.true_and, Option.bind_some, decide_true, uI_hit, uI_miss, uI_o, uA_o, uA_s, ↓reduceIte, eq_self, true_or, or_true, or_false, false_or, true_and, and_true, false_and, and_false, or_self, and_self, not_false_eq_true, not_true_eq_false, tn_i, r1, m]
  · rw [if_neg h]
    by_cases h0 : z < 0
    · simp (disch := omega) only [nI_iI, lN_lJ, iI_0, lJ_0, iI_add, iI_sub, iI_mul, iI_neg, lJ_add, lJ_sub, lJ_mul, lJ_neg, i_l, l_i, iI_cl, iI_inb, iI_eqT, iI_eqF, iI_ltT, iI_ltF, iI_leT, iI_leF, lJ_eqT, lJ_eqF, lJ_cG, lJ_cE, lJ_cL, lJ_cF, lJ_cGE, lJ_cLE, lJ_cNL, lJ_cNG, Int.cast_ofNat_Int, c_0, c_1, Int.natCast_add, Int.add_zero, cond_true, cond_false, Bool.and_self, Bool.and_true, Bool.true_and, Option.bind_some, decide_true, uI_hit, uI_miss, uI_o, uA_o, uA_s, ↓reduceIte, eq_self, true_or, or_true, or_false, false_or, true_and, and_true, false_and, and_false, or_self, and_self, not_false_eq_true, not_true_eq_false, tn_i]
    · simp (disch := omega) only [nI_iI, lN_lJ, iI_0, lJ_0, iI_add, iI_sub, iI_mul, iI_neg, lJ_add, lJ_sub, lJ_mul, lJ_neg, i_l, l_i, iI_cl, iI_inb, iI_eqT, iI_eqF, iI_ltT, iI_ltF, iI_leT, iI_leF, lJ_eqT, lJ_eqF, lJ_cG, lJ_cE, lJ_cL, lJ_cF, lJ_cGE, lJ_cLE, lJ_cNL, lJ_cNG, Int.cast_ofNat_Int, c_0, c_1, Int.natCast_add, Int.add_zero, cond_true, cond_false, Bool.and_self, Bool.and_true, Bool.true_and, Option.bind_some, decide_true, uI_hit, uI_miss, uI_o, uA_o, uA_s, ↓reduceIte, eq_self, true_or, or_true, or_false, false_or, true_and, and_true, false_and, and_false, or_self, and_self, not_false_eq_true, not_true_eq_false, tn_i, r1]
theorem mq_name {d : aI} {e : aJ} {A : Int → Int} (hA : MA d 109 A) (hW : WN A) {c : Int} (hc : 0 ≤ c ∧ c < A 1) : ∃ d', FX11_name d e (iI c) = some ((), d', e) ∧ (∀ o, o ≠ 114 → d' o = d o) ∧ (∀ k, k < 5 ∨ k = 7 → d' 114 k = iI ((envG A c).1 k)) := by
  have hw := hW
  have w1 := hW.2.1
  have wcc := hW.2.2.2.2.2.1 c hc.1 hc.2
  have r9 : d 109 9 = iI (A 9) := hA.cell (j := 9) (by omega)
  have r54 := hA.cell (j := 54 + c) (by omega)
  have g1 : ∀ d' : aI, d' 109 = d 109 → FX11_get d' e (iI c) (iI 2) = some (iI (A (12 + 3 * c + 2)), d', e) := fun d' h => mq_get (hA.of h) (by omega)
  have g2 : ∀ d' : aI, d' 109 = d 109 → FX11_placeOf d' e (iI c) = some (iI (A (12 + 3 * c)), d', e) := fun d' h => mq_placeOf (hA.of h) hw hc
  have f1 : ∀ x y z : Int32, FX11_get (uI (uI (uI d 114 0 x) 114 1 y) 114 2 z) e (iI c) (iI 2) = some (iI (A (12 + 3 * c + 2)), uI (uI (uI d 114 0 x) 114 1 y) 114 2 z, e) := fun x y z => g1 _ (by rw [uI_o (by omega), uI_o (by omega), uI_o (by omega)])
  have f2 : ∀ x y z t : Int32, FX11_placeOf (uI (uI (uI (uI d 114 0 x) 114 1 y) 114 2 z) 114 3 t) e (iI c) = some (iI (A (12 + 3 * c)), uI (uI (uI (uI d 114 0 x) 114 1 y) 114 2 z) 114 3 t, e) := fun x y z t => g2 _ (by rw [uI_o (by omega), uI_o (by omega), uI_o (by omega), uI_o (by omega)])
  by_cases h8 : A (12 + 3 * c + 1) = -1
  · have g3 : ∀ d' : aI, d' 109 = d 109 → FX11_isWithout d' e (iI c) = some (iI 1, d', e) := fun d' h => mq_wo_y (hA.of h) hw (by omega)
    have f3 : ∀ x y z t s : Int32, FX11_isWithout (uI (uI (uI (uI (uI d 114 0 x) 114 1 y) 114 2 z) 114 3 t) 114 4 s) e (iI c) = some (iI 1, uI (uI (uI (uI (uI d 114 0 x) 114 1 y) 114 2 z) 114 3 t) 114 4 s, e) := fun x y z t s => g3 _ (by rw [uI_o (by omega), uI_o (by omega), uI_o (by omega), uI_o (by omega), uI_o (by omega)])
    refine ⟨uI (uI (uI (uI (uI (uI d 114 0 (iI (A 9))) 114 1 (iI c)) 114 2 (iI (A (54 + c)))) 114 3 (iI (A (12 + 3 * c + 2)))) 114 4 (iI (A (12 + 3 * c)))) 114 7 (iI 0), ?_, fun o ho => by rw [uI_o ho, uI_o ho, uI_o ho, uI_o ho, uI_o ho, uI_o ho], fun k hk => ?_⟩
    · unfold FX11_name
      simp (disch := omega) only [nI_iI, lN_lJ, iI_0, lJ_0, iI_add, iI_sub, iI_mul, iI_neg, lJ_add, lJ_sub, lJ_mul, lJ_neg, i_l, l_i, iI_cl, iI_inb, iI_eqT, iI_eqF, iI_ltT, iI_ltF, iI_leT, iI_leF, lJ_eqT, lJ_eqF, lJ_cG, lJ_cE, lJ_cL, lJ_cF, lJ_cGE, lJ_cLE, lJ_cNL, lJ_cNG, Int.cast_ofNat_Int, c_0, c_1, Int.natCast_add, Int.add_zero, cond_true, cond_false, Bool.and_self, Bool.and_true, Bool.true_and, Option.bind_some, decide_true, uI_hit, uI_miss, uI_o, uA_o, uA_s, ↓reduceIte, eq_self, true_or, or_true, or_false, false_or, true_and, and_true, false_and, and_false, or_self, and_self, not_false_eq_true, not_true_eq_false, tn_i, r9, r54, f1, f2, f3]
    · rcases (show k = 0 ∨ k = 1 ∨ k = 2 ∨ k = 3 ∨ k = 4 ∨ k = 7 by omega) with rfl | rfl | rfl | rfl | rfl | rfl
      · simp (disch := omega) only [uI_o, uI_hit, uI_miss, uA_o, uA_s, cpy_in, cpy_out, aU_hit, aU_miss, tn_i, if_pos, if_neg]; rfl
      · simp (disch := omega) only [uI_o, uI_hit, uI_miss, uA_o, uA_s, cpy_in, cpy_out, aU_hit, aU_miss, tn_i, if_pos, if_neg]; rfl
      · simp (disch := omega) only [uI_o, uI_hit, uI_miss, uA_o, uA_s, cpy_in, cpy_out, aU_hit, aU_miss, tn_i, if_pos, if_neg]; rfl
      · simp (disch := omega) only [uI_o, uI_hit, uI_miss, uA_o, uA_s, cpy_in, cpy_out, aU_hit, aU_miss, tn_i, if_pos, if_neg]; rfl
      · simp (disch := omega) only [uI_o, uI_hit, uI_miss, uA_o, uA_s, cpy_in, cpy_out, aU_hit, aU_miss, tn_i, if_pos, if_neg]; rfl
      · simp (disch := omega) only [uI_o, uI_hit, uI_miss, uA_o, uA_s, cpy_in, cpy_out, aU_hit, aU_miss, tn_i, if_pos, if_neg]
        show iI 0 = iI (if A (12 + 3 * c + 1) = -1 then 0 else 1)
        rw [if_pos h8]
  · have g3 : ∀ d' : aI, d' 109 = d 109 → FX11_isWithout d' e (iI c) = some (iI 0, d', e) := fun d' h => mq_wo_n (hA.of h) hw (by omega)
    have f3 : ∀ x y z t s : Int32, FX11_isWithout (uI (uI (uI (uI (uI d 114 0 x) 114 1 y) 114 2 z) 114 3 t) 114 4 s) e (iI c) = some (iI 0, uI (uI (uI (uI (uI d 114 0 x) 114 1 y) 114 2 z) 114 3 t) 114 4 s, e) := fun x y z t s => g3 _ (by rw [uI_o (by omega), uI_o (by omega), uI_o (by omega), uI_o (by omega), uI_o (by omega)])
    refine ⟨uI (uI (uI (uI (uI (uI d 114 0 (iI (A 9))) 114 1 (iI c)) 114 2 (iI (A (54 + c)))) 114 3 (iI (A (12 + 3 * c + 2)))) 114 4 (iI (A (12 + 3 * c)))) 114 7 (iI 1), ?_, fun o ho => by rw [uI_o ho, uI_o ho, uI_o ho, uI_o ho, uI_o ho, uI_o ho], fun k hk => ?_⟩
    · unfold FX11_name
      simp (disch := omega) only [nI_iI, lN_lJ, iI_0, lJ_0, iI_add, iI_sub, iI_mul, iI_neg, lJ_add, lJ_sub, lJ_mul, lJ_neg, i_l, l_i, iI_cl, iI_inb, iI_eqT, iI_eqF, iI_ltT, iI_ltF, iI_leT, iI_leF, lJ_eqT, lJ_eqF, lJ_cG, lJ_cE, lJ_cL, lJ_cF, lJ_cGE, lJ_cLE, lJ_cNL, lJ_cNG, Int.cast_ofNat_Int, c_0, c_1, Int.natCast_add, Int.add_zero, cond_true, cond_false, Bool.and_self, Bool.and_true, Bool.true_and, Option.bind_some, decide_true, uI_hit, uI_miss, uI_o, uA_o, uA_s, ↓reduceIte, eq_self, true_or, or_true, or_false, false_or, true_and, and_true, false_and, and_false, or_self, and_self, not_false_eq_true, not_true_eq_false, tn_i, r9, r54, f1, f2, f3]
    · rcases (show k = 0 ∨ k = 1 ∨ k = 2 ∨ k = 3 ∨ k = 4 ∨ k = 7 by omega) with rfl | rfl | rfl | rfl | rfl | rfl
      · simp (disch := omega) only [uI_o, uI_hit, uI_miss, uA_o, uA_s, cpy_in, cpy_out, aU_hit, aU_miss, tn_i, if_pos, if_neg]; rfl
      · simp (disch := omega) only [uI_o, uI_hit, uI_miss, uA_o, uA_s, cpy_in, cpy_out, aU_hit, aU_miss, tn_i, if_pos, if_neg]; rfl
      · simp (disch := omega) only [uI_o, uI_hit, uI_miss, uA_o, uA_s, cpy_in, cpy_out, aU_hit, aU_miss, tn_i, if_pos, if_neg]; rfl
      · simp (disch := omega) only [uI_o, uI_hit, uI_miss, uA_o, uA_s, cpy_in, cpy_out, aU_hit, aU_miss, tn_i, if_pos, if_neg]; rfl
      · simp (disch := omega) only [uI_o, uI_hit, uI_miss, uA_o, uA_s, cpy_in, cpy_out, aU_hit, aU_miss, tn_i, if_pos, if_neg]; rfl
      · simp (disch := omega) only [uI_o, uI_hit, uI_miss, uA_o, uA_s, cpy_in, cpy_out, aU_hit, aU_miss, tn_i, if_pos, if_neg]
        show iI 1 = iI (if A (12 + 3 * c + 1) = -1 then 0 else 1)
        rw [if_neg h8]
