/-! ===== a game of two heaps ===== -/
abbrev okS (p q x y : Int) : Prop := x ≤ p ∧ y ≤ q ∧ (x = 0 ∨ y = 0 ∨ x = y) ∧ 0 < x + y ∧ (p - x + (q - y)) % 3 = 0
def playS (p q : Int) : Int :=
  if okS p q 0 0 then 0 else if okS p q 0 1 then 1 else if okS p q 0 2 then 2 else if okS p q 1 0 then 10 else if okS p q 1 1 then 11 else if okS p q 1 2 then 12 else if okS p q 2 0 then 20 else if okS p q 2 1 then 21 else if okS p q 2 2 then 22 else -1
theorem playS_in (p q : Int) : -1 ≤ playS p q ∧ playS p q ≤ 22 := by
  unfold playS
  split
  · omega
  · split
    · omega
    · split
      · omega
      · split
        · omega
        · split
          · omega
          · split
            · omega
            · split
              · omega
              · split
                · omega
                · split <;> omega
theorem playS_no {p q : Int} (hp : 0 ≤ p) (hq : 0 ≤ q) : playS p q = -1 ↔ (p + q) % 3 = 0 := by
  constructor
  · intro h
    have key : ∀ x y : Int, (x = 0 ∨ x = 1 ∨ x = 2) → (y = 0 ∨ y = 1 ∨ y = 2) → ¬okS p q x y := by
      unfold playS at h
      intro x y hx hy
      by_cases a0 : okS p q 0 0
      · rw [if_pos a0] at h; omega
      rw [if_neg a0] at h
      by_cases a1 : okS p q 0 1
      · rw [if_pos a1] at h; omega
      rw [if_neg a1] at h
      by_cases a2 : okS p q 0 2
      · rw [if_pos a2] at h; omega
      rw [if_neg a2] at h
      by_cases a3 : okS p q 1 0
      · rw [if_pos a3] at h; omega
      rw [if_neg a3] at h
      by_cases a4 : okS p q 1 1
      · rw [if_pos a4] at h; omega
      rw [if_neg a4] at h
      by_cases a5 : okS p q 1 2
      · rw [if_pos a5] at h; omega
      rw [if_neg a5] at h
      by_cases a6 : okS p q 2 0
      · rw [if_pos a6] at h; omega
      rw [if_neg a6] at h
      by_cases a7 : okS p q 2 1
      · rw [if_pos a7] at h; omega
      rw [if_neg a7] at h
      by_cases a8 : okS p q 2 2
      · rw [if_pos a8] at h; omega
      rcases hx with rfl | rfl | rfl <;> rcases hy with rfl | rfl | rfl <;> assumption
    rcases (show (p + q) % 3 = 0 ∨ (p + q) % 3 = 1 ∨ (p + q) % 3 = 2 by omega) with g | g | g
    · exact g
    · by_cases c : 1 ≤ q
      · exact absurd (show okS p q 0 1 from ⟨by omega, by omega, by omega, by omega, by omega⟩) (key 0 1 (by omega) (by omega))
      · exact absurd (show okS p q 1 0 from ⟨by omega, by omega, by omega, by omega, by omega⟩) (key 1 0 (by omega) (by omega))
    · by_cases c : 2 ≤ q
      · exact absurd (show okS p q 0 2 from ⟨by omega, by omega, by omega, by omega, by omega⟩) (key 0 2 (by omega) (by omega))
      · by_cases c2 : 2 ≤ p
        · exact absurd (show okS p q 2 0 from ⟨by omega, by omega, by omega, by omega, by omega⟩) (key 2 0 (by omega) (by omega))
        · exact absurd (show okS p q 1 1 from ⟨by omega, by omega, by omega, by omega, by omega⟩) (key 1 1 (by omega) (by omega))
  · intro h
    have key : ∀ x y : Int, (x = 0 ∨ x = 1 ∨ x = 2) → (y = 0 ∨ y = 1 ∨ y = 2) → ¬okS p q x y := by
      intro x y hx hy z
      obtain ⟨z1, z2, z3, z4, z5⟩ := z
      omega
    unfold playS
    rw [if_neg (key 0 0 (by omega) (by omega)), if_neg (key 0 1 (by omega) (by omega)), if_neg (key 0 2 (by omega) (by omega)), if_neg (key 1 0 (by omega) (by omega)), if_neg (key 1 1 (by omega) (by omega)), if_neg (key 1 2 (by omega) (by omega)), if_neg (key 2 0 (by omega) (by omega)), if_neg (key 2 1 (by omega) (by omega)), if_neg (key 2 2 (by omega) (by omega))]
/-- nine candidates, one behind the other -/
theorem nine {ρ : Type} {p q : Int} (G : Int → Int → ρ) (Y : Int → ρ) (h1 : ∀ x y : Int, 0 ≤ x → x < 3 → 0 ≤ y → y < 3 → ¬okS p q x y → G x y = G x (y + 1)) (h2 : ∀ x : Int, 0 ≤ x → x < 3 → G x 3 = G (x + 1) 0) (h3 : G 3 0 = Y (-1)) (h4 : ∀ x y : Int, 0 ≤ x → x < 3 → 0 ≤ y → y < 3 → okS p q x y → G x y = Y (10 * x + y)) : G 0 0 = Y (playS p q) := by
  have k00 : ¬okS p q 0 0 → G 0 0 = G 0 1 := fun a => h1 0 0 (by omega) (by omega) (by omega) (by omega) a
  have k01 : ¬okS p q 0 1 → G 0 1 = G 0 2 := fun a => h1 0 1 (by omega) (by omega) (by omega) (by omega) a
  have k02 : ¬okS p q 0 2 → G 0 2 = G 0 3 := fun a => h1 0 2 (by omega) (by omega) (by omega) (by omega) a
  have r0 : G 0 3 = G 1 0 := h2 0 (by omega) (by omega)
  have k10 : ¬okS p q 1 0 → G 1 0 = G 1 1 := fun a => h1 1 0 (by omega) (by omega) (by omega) (by omega) a
  have k11 : ¬okS p q 1 1 → G 1 1 = G 1 2 := fun a => h1 1 1 (by omega) (by omega) (by omega) (by omega) a
  have k12 : ¬okS p q 1 2 → G 1 2 = G 1 3 := fun a => h1 1 2 (by omega) (by omega) (by omega) (by omega) a
  have r1 : G 1 3 = G 2 0 := h2 1 (by omega) (by omega)
  have k20 : ¬okS p q 2 0 → G 2 0 = G 2 1 := fun a => h1 2 0 (by omega) (by omega) (by omega) (by omega) a
  have k21 : ¬okS p q 2 1 → G 2 1 = G 2 2 := fun a => h1 2 1 (by omega) (by omega) (by omega) (by omega) a
  have k22 : ¬okS p q 2 2 → G 2 2 = G 2 3 := fun a => h1 2 2 (by omega) (by omega) (by omega) (by omega) a
  have r2 : G 2 3 = G 3 0 := h2 2 (by omega) (by omega)
  unfold playS
  by_cases a0 : okS p q 0 0
  · rw [if_pos a0]; exact h4 0 0 (by omega) (by omega) (by omega) (by omega) a0
  rw [if_neg a0, k00 a0]
  by_cases a1 : okS p q 0 1
  · rw [if_pos a1]; exact h4 0 1 (by omega) (by omega) (by omega) (by omega) a1
  rw [if_neg a1, k01 a1]
  by_cases a2 : okS p q 0 2
  · rw [if_pos a2]; exact h4 0 2 (by omega) (by omega) (by omega) (by omega) a2
  rw [if_neg a2, k02 a2, r0]
  by_cases a3 : okS p q 1 0
  · rw [if_pos a3]; exact h4 1 0 (by omega) (by omega) (by omega) (by omega) a3
  rw [if_neg a3, k10 a3]
  by_cases a4 : okS p q 1 1
  · rw [if_pos a4]; exact h4 1 1 (by omega) (by omega) (by omega) (by omega) a4
  rw [if_neg a4, k11 a4]
  by_cases a5 : okS p q 1 2
  · rw [if_pos a5]; exact h4 1 2 (by omega) (by omega) (by omega) (by omega) a5
  rw [if_neg a5, k12 a5, r1]
  by_cases a6 : okS p q 2 0
  · rw [if_pos a6]; exact h4 2 0 (by omega) (by omega) (by omega) (by omega) a6
  rw [if_neg a6, k20 a6]
  by_cases a7 : okS p q 2 1
  · rw [if_pos a7]; exact h4 2 1 (by omega) (by omega) (by omega) (by omega) a7
  rw [if_neg a7, k21 a7]
  by_cases a8 : okS p q 2 2
  · rw [if_pos a8]; exact h4 2 2 (by omega) (by omega) (by omega) (by omega) a8
  rw [if_neg a8, k22 a8, r2, h3]
-- class
theorem cq_isMove {d : aI} {e : aJ} {x y : Int} (h : 0 ≤ x ∧ x < 3 ∧ 0 ≤ y ∧ y < 3) : FX10_isMove d e (iI x) (iI y) = some (iI (if 0 < x + y ∧ (x = 0 ∨ y = 0 ∨ x = y) then 1 else 0), d, e) := by
  by_cases c : 0 < x + y ∧ (x = 0 ∨ y = 0 ∨ x = y)
  · rw [if_pos c]
    unfold FX10_isMove
    by_cases c1 : x = 0
    · simp (disch := omega) only [nI_iI, lN_lJ, iI_0, lJ_0, iI_add, iI_sub, iI_mul, iI_neg, lJ_add, lJ_sub, lJ_mul, lJ_neg, i_l, l_i, iI_cl, iI_inb, iI_eqT, iI_eqF, iI_ltT, iI_ltF, iI_leT, iI_leF, lJ_eqT, lJ_eqF, lJ_cG, lJ_cE, lJ_cL, lJ_cF, lJ_cGE, lJ_cLE, lJ_cNL, lJ_cNG, Int.cast_ofNat_Int, c_0, c_1, Int.natCast_add, Int.add_zero, cond_true, cond_false, Bool.and_self, Bool.and_true, Bool.true_and, Option.bind_some, decide_true, uI_hit, uI_miss, uI_o, uA_o, uA_s, ↓reduceIte, eq_self, true_or, or_true, or_false, false_or, true_and, and_true, false_and, and_false, or_self, and_self, not_false_eq_true, not_true_eq_false, tn_i]
    · by_cases c2 : y = 0
      · simp (disch := omega) only [nI_iI, lN_lJ, iI_0, lJ_0, iI_add, iI_sub, iI_mul, iI_neg, lJ_add, lJ_sub, lJ_mul, lJ_neg, i_l, l_i, iI_cl, iI_inb, iI_eqT, iI_eqF, iI_ltT, iI_ltF, iI_leT, iI_leF, lJ_eqT, lJ_eqF, lJ_cG, lJ_cE, lJ_cL, lJ_cF, lJ_cGE, lJ_cLE, lJ_cNL, lJ_cNG, Int.cast_ofNat_Int, c_0, c_1, Int.natCast_add, Int.add_zero, cond_true, cond_false, Bool.and_self, Bool.and_true, Bool.true_and, Option.bind_some, decide_true, uI_hit, uI_miss, uI_o, uA_o, uA_s, ↓reduceIte, eq_self, true_or, or_true, or_false, false_or, true_and, and_true, false_and, and_false, or_self, and_self, not_false_eq_true, not_true_eq_false, tn_i]
      · simp (disch := omega) only [nI_iI, lN_lJ, iI_0, lJ_0, iI_add, iI_sub, iI_mul, iI_neg, lJ_add, lJ_sub, lJ_mul, lJ_neg, i_l, l_i, iI_cl, iI_inb, iI_eqT, iI_eqF, iI_ltT, iI_ltF, iI_leT, iI_leF, lJ_eqT, lJ_eqF, lJ_cG, lJ_cE, lJ_cL, lJ_cF, lJ_cGE, lJ_cLE, lJ_cNL, lJ_cNG, Int.cast_ofNat_Int, c_0, c_1, Int.natCast_add, Int.add_zero, cond_true, cond_false, Bool.and_self, Bool.and_true, Bool.true_and, Option.bind_some, decide_true, uI_hit, uI_miss, uI_o, uA_o, uA_s, ↓reduceIte, eq_self, true_or, or_true, or_false, false_or, true_and, and_true, false_and, and_false, or_self, and_self, not_false_eq_true, not_true_eq_false, tn_i]
  · rw [if_neg c]
    unfold FX10_isMove
    by_cases c1 : x + y ≤ 0
    · simp (disch := omega) only [nI_iI, lN_lJ, iI_0, lJ_0, iI_add, iI_sub, iI_mul, iI_neg, lJ_add, lJ_sub, lJ_mul, lJ_neg, i_l, l_i, iI_cl, iI_inb, iI_eqT, iI_eqF, iI_ltT, iI_ltF, iI_leT, iI_leF, lJ_eqT, lJ_eqF, lJ_cG, lJ_cE, lJ_cL, lJ_cF, lJ_cGE, lJ_cLE, lJ_cNL, lJ_cNG, Int.cast_ofNat_Int, c_0, c_1, Int.natCast_add, Int.add_zero, cond_true, cond_false, Bool.and_self, Bool.and_true, Bool.true_and, Option.bind_some, decide_true, uI_hit, uI_miss, uI_o, uA_o, uA_s, ↓reduceIte, eq_self, true_or, or_true, or_false, false_or, true_and, and_true, false_and, and_false, or_self, and_self, not_false_eq_true, not_true_eq_false, tn_i]
    · simp (disch := omega) only [nI_iI, lN_lJ, iI_0, lJ_0, iI_add, iI_sub, iI_mul, iI_neg, lJ_add, lJ_sub, lJ_mul, lJ_neg, i_l, l_i, iI_cl, iI_inb, iI_eqT, iI_eqF, iI_ltT, iI_ltF, iI_leT, iI_leF, lJ_eqT, lJ_eqF, lJ_cG, lJ_cE, lJ_cL, lJ_cF, lJ_cGE, lJ_cLE, lJ_cNL, lJ_cNG, Int.cast_ofNat_Int, c_0, c_1, Int.natCast_add, Int.add_zero, cond_true, cond_false, Bool.and_self, Bool.and_true, Bool.true_and, Option.bind_some, decide_true, uI_hit, uI_miss, uI_o, uA_o, uA_s, ↓reduceIte, eq_self, true_or, or_true, or_false, false_or, true_and, and_true, false_and, and_false, or_self, and_self, not_false_eq_true, not_true_eq_false, tn_i]
theorem cq_isLost {d : aI} {e : aJ} {x y : Int} (h : 0 ≤ x ∧ x ≤ 12 ∧ 0 ≤ y ∧ y ≤ 12) : FX10_isLost d e (iI x) (iI y) = some (iI (if (x + y) % 3 = 0 then 1 else 0), d, e) := by
  by_cases c : (x + y) % 3 = 0
  · rw [if_pos c]
    unfold FX10_isLost
    simp (disch := omega) only [nI_iI, lN_lJ, iI_0, lJ_0, iI_add, iI_sub, iI_mul, iI_neg, lJ_add, lJ_sub, lJ_mul, lJ_neg, i_l, l_i, iI_cl, iI_inb, iI_eqT, iI_eqF, iI_ltT, iI_ltF, iI_leT, iI_leF, lJ_eqT, lJ_eqF, lJ_cG, lJ_cE, lJ_cL, lJ_cF, lJ_cGE, lJ_cLE, lJ_cNL, lJ_cNG, Int.cast_ofNat_Int, c_0, c_1, Int.natCast_add, Int.add_zero, cond_true, cond_false, Bool.and_self, Bool.and_true, Bool.true_and, Option.bind_some, decide_true, uI_hit, uI_miss, uI_o, uA_o, uA_s, ↓reduceIte, eq_self, true_or, or_true, or_false, false_or, true_and, and_true, false_and, and_false, or_self, and_self, not_false_eq_true, not_true_eq_false, tn_i, iI_rem, decide_eq_true]
  · rw [if_neg c]
    unfold FX10_isLost
    simp (disch := omega) only [nI_iI, lN_lJ, iI_0, lJ_0, iI_add, iI_sub, iI_mul, iI_neg, lJ_add, lJ_sub, lJ_mul, lJ_neg, i_l, l_i, iI_cl, iI_inb, iI_eqT, iI_eqF, iI_ltT, iI_ltF, iI_leT, iI_leF, lJ_eqT, lJ_eqF, lJ_cG, lJ_cE, lJ_cL, lJ_cF, lJ_cGE, lJ_cLE, lJ_cNL, lJ_cNG, Int.cast_ofNat_Int, c_0, c_1, Int.natCast_add, Int.add_zero, cond_true, cond_false, Bool.and_self, Bool.and_true, Bool.true_and, Option.bind_some, decide_true, uI_hit, uI_miss, uI_o, uA_o, uA_s, ↓reduceIte, eq_self, true_or, or_true, or_false, false_or, true_and, and_true, false_and, and_false, or_self, and_self, not_false_eq_true, not_true_eq_false, tn_i, iI_rem, decide_eq_true]
theorem cq_play {d : aI} {e : aJ} {p q : Int} (h : 0 ≤ p ∧ p ≤ 12 ∧ 0 ≤ q ∧ q ≤ 12) : FX10_play d e (iI p) (iI q) = some (iI (playS p q), d, e) := by
  unfold FX10_play
  rw [a_run_step (st := stX10_play) (p := (0, [some (.ref 0), some (.int (iI p)), some (.int (iI q)), none, none], d, e)) (p2 := (24, [some (.ref 0), some (.int (iI p)), some (.int (iI q)), some (.int (iI 0)), none], d, e)) (by
    show sX10_play_0 d e _ _ = _
    unfold sX10_play_0
    simp (disch := omega) only [nI_iI, lN_lJ, iI_0, lJ_0, iI_add, iI_sub, iI_mul, iI_neg, lJ_add, lJ_sub, lJ_mul, lJ_neg, i_l, l_i, iI_cl, iI_inb, iI_eqT, iI_eqF, iI_ltT, iI_ltF, iI_leT, iI_leF, lJ_eqT, lJ_eqF, lJ_cG, lJ_cE, lJ_cL, lJ_cF, lJ_cGE, lJ_cLE, lJ_cNL, lJ_cNG, Int.cast_ofNat_Int, c_0, c_1, Int.natCast_add, Int.add_zero, cond_true, cond_false, Bool.and_self, Bool.and_true, Bool.true_and, Option.bind_some, decide_true, uI_hit, uI_miss, uI_o, uA_o, uA_s, ↓reduceIte, eq_self, true_or, or_true, or_false, false_or, true_and, and_true, false_and, and_false, or_self, and_self, not_false_eq_true, not_true_eq_false, tn_i, cq_in_y]) rfl]
  -- the head of the outer loop
  have hd : ∀ (x : Int) (v : Option Value), 0 ≤ x → x ≤ 3 → a_run stX10_play (24, [some (.ref 0), some (.int (iI p)), some (.int (iI q)), some (.int (iI x)), v], d, e) = if x ≤ p ∧ x < 3 then a_run stX10_play (36, [some (.ref 0), some (.int (iI p)), some (.int (iI q)), some (.int (iI x)), some (.int (iI 0))], d, e) else some ([some (.int (iI (-1)))], d, e) := by
    intro x v x0 x3
    by_cases c : x ≤ p ∧ x < 3
    · rw [if_pos c]
      refine a_run_step ?_ rfl
      show sX10_play_24 d e _ _ _ v = _
      unfold sX10_play_24
      by_cases c2 : p ≤ 2
      · simp (disch := omega) only [nI_iI, lN_lJ, iI_0, lJ_0, iI_add, iI_sub, iI_mul, iI_neg, lJ_add, lJ_sub, lJ_mul, lJ_neg, i_l, l_i, iI_cl, iI_inb, iI_eqT, iI_eqF, iI_ltT, iI_ltF, iI_leT, iI_leF, lJ_eqT, lJ_eqF, lJ_cG, lJ_cE, lJ_cL, lJ_cF, lJ_cGE, lJ_cLE, lJ_cNL, lJ_cNG, Int.cast_ofNat_Int, c_0, c_1, Int.natCast_add, Int.add_zero, cond_true, cond_false, Bool.and_self, Bool.and_true, Bool.true_and, Option.bind_some, decide_true, uI_hit, uI_miss, uI_o, uA_o, uA_s, ↓reduceIte, eq_self, true_or, or_true, or_false, false_or, true_and, and_true, false_and, and_false, or_self, and_self, not_false_eq_true, not_true_eq_false, tn_i, iI_minR]
      · simp (disch := omega) only [nI_iI, lN_lJ, iI_0, lJ_0, iI_add, iI_sub, iI_mul, iI_neg, lJ_add, lJ_sub, lJ_mul, lJ_neg, i_l, l_i, iI_cl, iI_inb, iI_eqT, iI_eqF, iI_ltT, iI_ltF, iI_leT, iI_leF, lJ_eqT, lJ_eqF, lJ_cG, lJ_cE, lJ_cL, lJ_cF, lJ_cGE, lJ_cLE, lJ_cNL, lJ_cNG, Int.cast_ofNat_Int, c_0, c_1, Int.natCast_add, Int.add_zero, cond_true, cond_false, Bool.and_self, Bool.and_true, Bool.true_and, Option.bind_some, decide_true, uI_hit, uI_miss, uI_o, uA_o, uA_s, ↓reduceIte, eq_self, true_or, or_true, or_false, false_or, true_and, and_true, false_and, and_false, or_self, and_self, not_false_eq_true, not_true_eq_false, tn_i, iI_minL]
    · rw [if_neg c, a_run_step (st := stX10_play) (p2 := (100000, [some (.int (iI (-1)))], d, e)) (by
        show sX10_play_24 d e _ _ _ v = _
        unfold sX10_play_24
        by_cases c2 : p ≤ 2
        · simp (disch := omega) only [nI_iI, lN_lJ, iI_0, lJ_0, iI_add, iI_sub, iI_mul, iI_neg, lJ_add, lJ_sub, lJ_mul, lJ_neg, i_l, l_i, iI_cl, iI_inb, iI_eqT, iI_eqF, iI_ltT, iI_ltF, iI_leT, iI_leF, lJ_eqT, lJ_eqF, lJ_cG, lJ_cE, lJ_cL, lJ_cF, lJ_cGE, lJ_cLE, lJ_cNL, lJ_cNG, Int.cast_ofNat_Int, c_0, c_1, Int.natCast_add, Int.add_zero, cond_true, cond_false, Bool.and_self, Bool.and_true, Bool.true_and, Option.bind_some, decide_true, uI_hit, uI_miss, uI_o, uA_o, uA_s, ↓reduceIte, eq_self, true_or, or_true, or_false, false_or, true_and, and_true, false_and, and_false, or_self, and_self, not_false_eq_true, not_true_eq_false, tn_i, iI_minR]
        · simp (disch := omega) only [nI_iI, lN_lJ, iI_0, lJ_0, iI_add, iI_sub, iI_mul, iI_neg, lJ_add, lJ_sub, lJ_mul, lJ_neg, i_l, l_i, iI_cl, iI_inb, iI_eqT, iI_eqF, iI_ltT, iI_ltF, iI_leT, iI_leF, lJ_eqT, lJ_eqF, lJ_cG, lJ_cE, lJ_cL, lJ_cF, lJ_cGE, lJ_cLE, lJ_cNL, lJ_cNG, Int.cast_ofNat_Int, c_0, c_1, Int.natCast_add, Int.add_zero, cond_true, cond_false, Bool.and_self, Bool.and_true, Bool.true_and, Option.bind_some, decide_true, uI_hit, uI_miss, uI_o, uA_o, uA_s, ↓reduceIte, eq_self, true_or, or_true, or_false, false_or, true_and, and_true, false_and, and_false, or_self, and_self, not_false_eq_true, not_true_eq_false, tn_i, iI_minL]) rfl, a_run_end]
  have key := nine (p := p) (q := q) (fun x y => if x ≤ p ∧ x < 3 then (if y ≤ q ∧ y < 3 then a_run stX10_play (36, [some (.ref 0), some (.int (iI p)), some (.int (iI q)), some (.int (iI x)), some (.int (iI y))], d, e) else (if x + 1 ≤ p ∧ x + 1 < 3 then a_run stX10_play (36, [some (.ref 0), some (.int (iI p)), some (.int (iI q)), some (.int (iI (x + 1))), some (.int (iI 0))], d, e) else some ([some (.int (iI (-1)))], d, e))) else some ([some (.int (iI (-1)))], d, e)) (fun r => some ([some (.int (iI r))], d, e)) ?_ ?_ ?_ ?_
  · rw [hd 0 none (by omega) (by omega)]
    have key' := key
    simp only [show (0 : Int) ≤ q ∧ (0 : Int) < 3 from ⟨h.2.2.1, by omega⟩, show (0 : Int) ≤ p ∧ (0 : Int) < 3 from ⟨h.1, by omega⟩, and_self, if_true] at key'
    rw [if_pos (show (0 : Int) ≤ p ∧ (0 : Int) < 3 from ⟨h.1, by omega⟩), key']
    rfl
  · intro x y x0 x1 y0 y1 hn
    show (if x ≤ p ∧ x < 3 then _ else _) = (if x ≤ p ∧ x < 3 then _ else _)
    by_cases cx : x ≤ p ∧ x < 3
    · rw [if_pos cx, if_pos cx]
      by_cases cy : y ≤ q ∧ y < 3
      · rw [if_pos cy]
        have s1 : a_run stX10_play (36, [some (.ref 0), some (.int (iI p)), some (.int (iI q)), some (.int (iI x)), some (.int (iI y))], d, e) = a_run stX10_play (36, [some (.ref 0), some (.int (iI p)), some (.int (iI q)), some (.int (iI x)), some (.int (iI (y + 1)))], d, e) := by
          refine a_run_step ?_ rfl
          show sX10_play_36 d e _ _ _ _ = _
          unfold sX10_play_36
          have im := cq_isMove (d := d) (e := e) (x := x) (y := y) (by omega)
          by_cases c : 0 < x + y ∧ (x = 0 ∨ y = 0 ∨ x = y)
          · rw [if_pos c] at im
            have il := cq_isLost (d := d) (e := e) (x := p - x) (y := q - y) (by omega)
            rw [if_neg (fun z => hn ⟨cx.1, cy.1, c.2, c.1, z⟩)] at il
            by_cases c2 : q ≤ 2
            · simp (disch := omega) only [nI_iI, lN_lJ, iI_0, lJ_0, iI_add, iI_sub, iI_mul, iI_neg, lJ_add, lJ_sub, lJ_mul, lJ_neg, i_l, l_i, iI_cl, iI_inb, iI_eqT, iI_eqF, iI_ltT, iI_ltF, iI_leT, iI_leF, lJ_eqT, lJ_eqF, lJ_cG, lJ_cE, lJ_cL, lJ_cF, lJ_cGE, lJ_cLE, lJ_cNL, lJ_cNG, Int.cast_ofNat_Int, c_0, c_1, Int.natCast_add, Int.add_zero, cond_true, cond_false, Bool.and_self, Bool.and_true, Bool.true_and, Option.bind_some, decide_true, uI_hit, uI_miss, uI_o, uA_o, uA_s, ↓reduceIte, eq_self, true_or, or_true, or_false, false_or, true_and, and_true, false_and, and_false, or_self, and_self, not_false_eq_true, not_true_eq_false, tn_i, iI_minR, im, il]
            · simp (disch := omega) only [nI_iI, lN_lJ, iI_0, lJ_0, iI_add, iI_sub, iI_mul, iI_neg, lJ_add, lJ_sub, lJ_mul, lJ_neg, i_l, l_i, iI_cl, iI_inb, iI_eqT, iI_eqF, iI_ltT, iI_ltF, iI_leT, iI_leF, lJ_eqT, lJ_eqF, lJ_cG, lJ_cE, lJ_cL, lJ_cF, lJ_cGE, lJ_cLE, lJ_cNL, lJ_cNG, Int.cast_ofNat_Int, c_0, c_1, Int.natCast_add, Int.add_zero, cond_true, cond_false, Bool.and_self, Bool.and_true, Bool.true_and, Option.bind_some, decide_true, uI_hit, uI_miss, uI_o, uA_o, uA_s, ↓reduceIte, eq_self, true_or, or_true, or_false, false_or, true_and, and_true, false_and, and_false, or_self, and_self, not_false_eq_true, not_true_eq_false, tn_i, iI_minL, im, il]
          · rw [if_neg c] at im
            by_cases c2 : q ≤ 2
            · simp (disch := omega) only [nI_iI, lN_lJ, iI_0, lJ_0, iI_add, iI_sub, iI_mul, iI_neg, lJ_add, lJ_sub, lJ_mul, lJ_neg, i_l, l_i, iI_cl, iI_inb, iI_eqT, iI_eqF, iI_ltT, iI_ltF, iI_leT, iI_leF, lJ_eqT, lJ_eqF, lJ_cG, lJ_cE, lJ_cL, lJ_cF, lJ_cGE, lJ_cLE, lJ_cNL, lJ_cNG, Int.cast_ofNat_Int, c_0, c_1, Int.natCast_add, Int.add_zero, cond_true, cond_false, Bool.and_self, Bool.and_true, Bool.true_and, Option.bind_some, decide_true, uI_hit, uI_miss, uI_o, uA_o, uA_s, ↓reduceIte, eq_self, true_or, or_true, or_false, false_or, true_and, and_true, false_and, and_false, or_self, and_self, not_false_eq_true, not_true_eq_false, tn_i, iI_minR, im]
            · simp (disch := omega) only [nI_iI, lN_lJ, iI_0, lJ_0, iI_add, iI_sub, iI_mul, iI_neg, lJ_add, lJ_sub, lJ_mul, lJ_neg, i_l, l_i, iI_cl, iI_inb, iI_eqT, iI_eqF, iI_ltT, iI_ltF, iI_leT, iI_leF, lJ_eqT, lJ_eqF, lJ_cG, lJ_cE, lJ_cL, lJ_cF, lJ_cGE, lJ_cLE, lJ_cNL, lJ_cNG, Int.cast_ofNat_Int, c_0, c_1, Int.natCast_add, Int.add_zero, cond_true, cond_false, Bool.and_self, Bool.and_true, Bool.true_and, Option.bind_some, decide_true, uI_hit, uI_miss, uI_o, uA_o, uA_s, ↓reduceIte, eq_self, true_or, or_true, or_false, false_or, true_and, and_true, false_and, and_false, or_self, and_self, not_false_eq_true, not_true_eq_false, tn_i, iI_minL, im]
        rw [s1]
        by_cases cy2 : y + 1 ≤ q ∧ y + 1 < 3
        · rw [if_pos cy2]
        · rw [if_neg cy2, ← hd (x + 1) (some (.int (iI (y + 1)))) (by omega) (by omega)]
          refine a_run_step ?_ rfl
          show sX10_play_36 d e _ _ _ _ = _
          unfold sX10_play_36
          by_cases c2 : q ≤ 2
          · simp (disch := omega) only [nI_iI, lN_lJ, iI_0, lJ_0, iI_add, iI_sub, iI_mul, iI_neg, lJ_add, lJ_sub, lJ_mul, lJ_neg, i_l, l_i, iI_cl, iI_inb, iI_eqT, iI_eqF, iI_ltT, iI_ltF, iI_leT, iI_leF, lJ_eqT, lJ_eqF, lJ_cG, lJ_cE, lJ_cL, lJ_cF, lJ_cGE, lJ_cLE, lJ_cNL, lJ_cNG, Int.cast_ofNat_Int, c_0, c_1, Int.natCast_add, Int.add_zero, cond_true, cond_false, Bool.and_self, Bool.and_true, Bool.true_and, Option.bind_some, decide_true, uI_hit, uI_miss, uI_o, uA_o, uA_s, ↓reduceIte, eq_self, true_or, or_true, or_false, false_or, true_and, and_true, false_and, and_false, or_self, and_self, not_false_eq_true, not_true_eq_false, tn_i, iI_minR]
          · simp (disch := omega) only [nI_iI, lN_lJ, iI_0, lJ_0, iI_add, iI_sub, iI_mul, iI_neg, lJ_add, lJ_sub, lJ_mul, lJ_neg, i_l, l_i, iI_cl, iI_inb, iI_eqT, iI_eqF, iI_ltT, iI_ltF, iI_leT, iI_leF, lJ_eqT, lJ_eqF, lJ_cG, lJ_cE, lJ_cL, lJ_cF, lJ_cGE, lJ_cLE, lJ_cNL, lJ_cNG, Int.cast_ofNat_Int, c_0, c_1, Int.natCast_add, Int.add_zero, cond_true, cond_false, Bool.and_self, Bool.and_true, Bool.true_and, Option.bind_some, decide_true, uI_hit, uI_miss, uI_o, uA_o, uA_s, ↓reduceIte, eq_self, true_or, or_true, or_false, false_or, true_and, and_true, false_and, and_false, or_self, and_self, not_false_eq_true, not_true_eq_false, tn_i, iI_minL]
      · rw [if_neg cy, if_neg (show ¬(y + 1 ≤ q ∧ y + 1 < 3) by omega)]
    · rw [if_neg cx, if_neg cx]
  · intro x x0 x1
    show (if x ≤ p ∧ x < 3 then (if (3 : Int) ≤ q ∧ (3 : Int) < 3 then _ else _) else _) = (if x + 1 ≤ p ∧ x + 1 < 3 then (if (0 : Int) ≤ q ∧ (0 : Int) < 3 then _ else _) else _)
    rw [if_neg (show ¬((3 : Int) ≤ q ∧ (3 : Int) < 3) by omega), if_pos (show (0 : Int) ≤ q ∧ (0 : Int) < 3 from ⟨h.2.2.1, by omega⟩)]
    by_cases cx : x ≤ p ∧ x < 3
    · rw [if_pos cx]
    · rw [if_neg cx, if_neg (show ¬(x + 1 ≤ p ∧ x + 1 < 3) by omega)]
  · show (if (3 : Int) ≤ p ∧ (3 : Int) < 3 then _ else _) = _
    rw [if_neg (by omega)]
  · intro x y x0 x1 y0 y1 ho
    show (if x ≤ p ∧ x < 3 then (if y ≤ q ∧ y < 3 then _ else _) else _) = _
    obtain ⟨o1, o2, o3, o4, o5⟩ := ho
    rw [if_pos ⟨o1, x1⟩, if_pos ⟨o2, y1⟩]
    have im := cq_isMove (d := d) (e := e) (x := x) (y := y) (by omega)
    rw [if_pos ⟨o4, o3⟩] at im
    have il := cq_isLost (d := d) (e := e) (x := p - x) (y := q - y) (by omega)
    rw [if_pos o5] at il
    rw [a_run_step (st := stX10_play) (p2 := (100000, [some (.int (iI (10 * x + y)))], d, e)) (by
      show sX10_play_36 d e _ _ _ _ = _
      unfold sX10_play_36
      by_cases c2 : q ≤ 2
      · simp (disch := omega) only [nI_iI, lN_lJ, iI_0, lJ_0, iI_add, iI_sub, iI_mul, iI_neg, lJ_add, lJ_sub, lJ_mul, lJ_neg, i_l, l_i, iI_cl, iI_inb, iI_eqT, iI_eqF, iI_ltT, iI_ltF, iI_leT, iI_leF, lJ_eqT, lJ_eqF, lJ_cG, lJ_cE, lJ_cL, lJ_cF, lJ_cGE, lJ_cLE, lJ_cNL, lJ_cNG, Int.cast_ofNat_Int, c_0, c_1, Int.natCast_add, Int.add_zero, cond_true, cond_false, Bool.and_self, Bool.and_true, Bool.true_and, Option.bind_some, decide_true, uI_hit, uI_miss, uI_o, uA_o, uA_s, ↓reduceIte, eq_self, true_or, or_true, or_false, false_or, true_and, and_true, false_and, and_false, or_self, and_self, not_false_eq_true, not_true_eq_false, tn_i, iI_minR, im, il]
      · simp (disch := omega) only [nI_iI, lN_lJ, iI_0, lJ_0, iI_add, iI_sub, iI_mul, iI_neg, lJ_add, lJ_sub, lJ_mul, lJ_neg, i_l, l_i, iI_cl, iI_inb, iI_eqT, iI_eqF, iI_ltT, iI_ltF, iI_leT, iI_leF, lJ_eqT, lJ_eqF, lJ_cG, lJ_cE, lJ_cL, lJ_cF, lJ_cGE, lJ_cLE, lJ_cNL, lJ_cNG, Int.cast_ofNat_Int, c_0, c_1, Int.natCast_add, Int.add_zero, cond_true, cond_false, Bool.and_self, Bool.and_true, Bool.true_and, Option.bind_some, decide_true, uI_hit, uI_miss, uI_o, uA_o, uA_s, ↓reduceIte, eq_self, true_or, or_true, or_false, false_or, true_and, and_true, false_and, and_false, or_self, and_self, not_false_eq_true, not_true_eq_false, tn_i, iI_minL, im, il]) rfl, a_run_end]
-- reference
/-- the table of won ones, as far as it is wanted for p, q -/
def Wn (d : aI) (P : Int → Int → Prop) : Prop := ∀ i k : Int, 0 ≤ i → i ≤ 12 → 0 ≤ k → k ≤ 12 → P i k → d 119 (13 * i + k).toNat = iI (if (i + k) % 3 = 0 then 0 else 1)
theorem mq_playOf {d : aI} {e : aJ} {p q : Int} (h : 0 ≤ p ∧ p ≤ 12 ∧ 0 ≤ q ∧ q ≤ 12) (hW : Wn d (fun i k => i ≤ p ∧ k ≤ q ∧ ¬(i = p ∧ k = q))) : FX11_playOf d e (iI p) (iI q) = some (iI (playS p q), d, e) := by
  unfold FX11_playOf
  rw [a_run_step (st := stX11_playOf) (p := (0, [some (.ref 108), some (.int (iI p)), some (.int (iI q)), none, none], d, e)) (p2 := (2, [some (.ref 108), some (.int (iI p)), some (.int (iI q)), some (.int (iI 0)), none], d, e)) rfl rfl]
  have hd : ∀ (x : Int) (v : Option Value), 0 ≤ x → x ≤ 3 → a_run stX11_playOf (2, [some (.ref 108), some (.int (iI p)), some (.int (iI q)), some (.int (iI x)), v], d, e) = if x < 3 then a_run stX11_playOf (10, [some (.ref 108), some (.int (iI p)), some (.int (iI q)), some (.int (iI x)), some (.int (iI 0))], d, e) else some ([some (.int (iI (-1)))], d, e) := by
    intro x v x0 x3
    by_cases c : x < 3
    · rw [if_pos c]
      refine a_run_step ?_ rfl
      show sX11_playOf_2 d e _ _ _ v = _
      unfold sX11_playOf_2
      simp (disch := omega) only [nI_iI, lN_lJ, iI_0, lJ_0, iI_add, iI_sub, iI_mul, iI_neg, lJ_add, lJ_sub, lJ_mul, lJ_neg, i_l, l_i, iI_cl, iI_inb, iI_eqT, iI_eqF, iI_ltT, iI_ltF, iI_leT, iI_leF, lJ_eqT, lJ_eqF, lJ_cG, lJ_cE, lJ_cL, lJ_cF, lJ_cGE, lJ_cLE, lJ_cNL, lJ_cNG, Int.cast_ofNat_Int, c_0, c_1, Int.natCast_add, Int.add_zero, cond_true, cond_false, Bool.and_self, Bool.and_true, Bool.true_and, Option.bind_some, decide_true, uI_hit, uI_miss, uI_o, uA_o, uA_s, ↓reduceIte, eq_self, true_or, or_true, or_false, false_or, true_and, and_true, false_and, and_false, or_self, and_self, not_false_eq_true, not_true_eq_false, tn_i]
    · rw [if_neg c, a_run_step (st := stX11_playOf) (p2 := (100000, [some (.int (iI (-1)))], d, e)) (by
        show sX11_playOf_2 d e _ _ _ v = _
        unfold sX11_playOf_2
        simp (disch := omega) only [nI_iI, lN_lJ, iI_0, lJ_0, iI_add, iI_sub, iI_mul, iI_neg, lJ_add, lJ_sub, lJ_mul, lJ_neg, i_l, l_i, iI_cl, iI_inb, iI_eqT, iI_eqF, iI_ltT, iI_ltF, iI_leT, iI_leF, lJ_eqT, lJ_eqF, lJ_cG, lJ_cE, lJ_cL, lJ_cF, lJ_cGE, lJ_cLE, lJ_cNL, lJ_cNG, Int.cast_ofNat_Int, c_0, c_1, Int.natCast_add, Int.add_zero, cond_true, cond_false, Bool.and_self, Bool.and_true, Bool.true_and, Option.bind_some, decide_true, uI_hit, uI_miss, uI_o, uA_o, uA_s, ↓reduceIte, eq_self, true_or, or_true, or_false, false_or, true_and, and_true, false_and, and_false, or_self, and_self, not_false_eq_true, not_true_eq_false, tn_i]) rfl, a_run_end]
  have can : ∀ x y : Int, 0 ≤ x → x < 3 → 0 ≤ y → y < 3 → FX11_canPlay d e (iI p) (iI q) (iI x) (iI y) = some (iI (if okS p q x y then 1 else 0), d, e) := by
    intro x y x0 x1 y0 y1
    by_cases c1 : x ≤ p
    · by_cases c2 : y ≤ q
      · by_cases c4 : 0 < x + y
        · have w := hW (p - x) (q - y) (by omega) (by omega) (by omega) (by omega) ⟨by omega, by omega, by omega⟩
          rw [show 13 * (p - x) + (q - y) = 13 * (p - x) + q - y by omega] at w
          by_cases c5 : (p - x + (q - y)) % 3 = 0
          · rw [if_pos c5] at w
            by_cases c3 : x = 0 ∨ y = 0 ∨ x = y
            · rw [if_pos (show okS p q x y from ⟨c1, c2, c3, c4, c5⟩)]
              unfold FX11_canPlay
              by_cases z0 : x = 0
              · simp (disch := omega) only [nI_iI, lN_lJ, iI_0, lJ_0, iI_add, iI_sub, iI_mul, iI_neg, lJ_add, lJ_sub, lJ_mul, lJ_neg, i_l, l_i, iI_cl, iI_inb, iI_eqT, iI_eqF, iI_ltT, iI_ltF, iI_leT, iI_leF, lJ_eqT, lJ_eqF, lJ_cG, lJ_cE, lJ_cL, lJ_cF, lJ_cGE, lJ_cLE, lJ_cNL, lJ_cNG, Int.cast_ofNat_Int, c_0, c_1, Int.natCast_add, Int.add_zero, cond_true, cond_false, Bool.and_self, Bool.and_true, Bool.true_and, Option.bind_some, decide_true, uI_hit, uI_miss, uI_o, uA_o, uA_s, ↓reduceIte, eq_self, true_or, or_true, or_false, false_or, true_and, and_true, false_and, and_false, or_self, and_self, not_false_eq_true, not_true_eq_false, tn_i, w]
              · by_cases z1 : y = 0
                · simp (disch := omega) only [nI_iI, lN_lJ, iI_0, lJ_0, iI_add, iI_sub, iI_mul, iI_neg, lJ_add, lJ_sub, lJ_mul, lJ_neg, i_l, l_i, iI_cl, iI_inb, iI_eqT, iI_eqF, iI_ltT, iI_ltF, iI_leT, iI_leF, lJ_eqT, lJ_eqF, lJ_cG, lJ_cE, lJ_cL, lJ_cF, lJ_cGE, lJ_cLE, lJ_cNL, lJ_cNG, Int.cast_ofNat_Int, c_0, c_1, Int.natCast_add, Int.add_zero, cond_true, cond_false, Bool.and_self, Bool.and_true, Bool.true_and, Option.bind_some, decide_true, uI_hit, uI_miss, uI_o, uA_o, uA_s, ↓reduceIte, eq_self, true_or, or_true, or_false, false_or, true_and, and_true, false_and, and_false, or_self, and_self, not_false_eq_true, not_true_eq_false, tn_i, w]
                · simp (disch := omega) only [nI_iI, lN_lJ, iI_0, lJ_0, iI_add, iI_sub, iI_mul, iI_neg, lJ_add, lJ_sub, lJ_mul, lJ_neg, i_l, l_i, iI_cl, iI_inb, iI_eqT, iI_eqF, iI_ltT, iI_ltF, iI_leT, iI_leF, lJ_eqT, lJ_eqF, lJ_cG, lJ_cE, lJ_cL, lJ_cF, lJ_cGE, lJ_cLE, lJ_cNL, lJ_cNG, Int.cast_ofNat_Int, c_0, c_1, Int.natCast_add, Int.add_zero, cond_true, cond_false, Bool.and_self, Bool.and_true, Bool.true_and, Option.bind_some, decide_true, uI_hit, uI_miss, uI_o, uA_o, uA_s, ↓reduceIte, eq_self, true_or, or_true, or_false, false_or, true_and, and_true, false_and, and_false, or_self, and_self, not_false_eq_true, not_true_eq_false, tn_i, w]
            · rw [if_neg (show ¬okS p q x y from fun z => c3 z.2.2.1)]
              unfold FX11_canPlay
              simp (disch := omega) only [nI_iI, lN_lJ, iI_0, lJ_0, iI_add, iI_sub, iI_mul, iI_neg, lJ_add, lJ_sub, lJ_mul, lJ_neg, i_l, l_i, iI_cl, iI_inb, iI_eqT, iI_eqF, iI_ltT, iI_ltF, iI_leT, iI_leF, lJ_eqT, lJ_eqF, lJ_cG, lJ_cE, lJ_cL, lJ_cF, lJ_cGE, lJ_cLE, lJ_cNL, lJ_cNG, Int.cast_ofNat_Int, c_0, c_1, Int.natCast_add, Int.add_zero, cond_true, cond_false, Bool.and_self, Bool.and_true, Bool.true_and, Option.bind_some, decide_true, uI_hit, uI_miss, uI_o, uA_o, uA_s, ↓reduceIte, eq_self, true_or, or_true, or_false, false_or, true_and, and_true, false_and, and_false, or_self, and_self, not_false_eq_true, not_true_eq_false, tn_i]
          · rw [if_neg c5] at w
            rw [if_neg (show ¬okS p q x y from fun z => c5 z.2.2.2.2)]
            unfold FX11_canPlay
            by_cases z0 : x = 0
            · simp (disch := omega) only [nI_iI, lN_lJ, iI_0, lJ_0, iI_add, iI_sub, iI_mul, iI_neg, lJ_add, lJ_sub, lJ_mul, lJ_neg, i_l, l_i, iI_cl, iI_inb, iI_eqT, iI_eqF, iI_ltT, iI_ltF, iI_leT, iI_leF, lJ_eqT, lJ_eqF, lJ_cG, lJ_cE, lJ_cL, lJ_cF, lJ_cGE, lJ_cLE, lJ_cNL, lJ_cNG, Int.cast_ofNat_Int, c_0, c_1, Int.natCast_add, Int.add_zero, cond_true, cond_false, Bool.and_self, Bool.and_true, Bool.true_and, Option.bind_some, decide_true, uI_hit, uI_miss, uI_o, uA_o, uA_s, ↓reduceIte, eq_self, true_or, or_true, or_false, false_or, true_and, and_true, false_and, and_false, or_self, and_self, not_false_eq_true, not_true_eq_false, tn_i, w]
            · by_cases z1 : y = 0
              · simp (disch := omega) only [nI_iI, lN_lJ, iI_0, lJ_0, iI_add, iI_sub, iI_mul, iI_neg, lJ_add, lJ_sub, lJ_mul, lJ_neg, i_l, l_i, iI_cl, iI_inb, iI_eqT, iI_eqF, iI_ltT, iI_ltF, iI_leT, iI_leF, lJ_eqT, lJ_eqF, lJ_cG, lJ_cE, lJ_cL, lJ_cF, lJ_cGE, lJ_cLE, lJ_cNL, lJ_cNG, Int.cast_ofNat_Int, c_0, c_1, Int.natCast_add, Int.add_zero, cond_true, cond_false, Bool.and_self, Bool.and_true, Bool.true_and, Option.bind_some, decide_true, uI_hit, uI_miss, uI_o, uA_o, uA_s, ↓reduceIte, eq_self, true_or, or_true, or_false, false_or, true_and, and_true, false_and, and_false, or_self, and_self, not_false_eq_true, not_true_eq_false, tn_i, w]
              · by_cases z2 : x = y
                · simp (disch := omega) only [nI_iI, lN_lJ, iI_0, lJ_0, iI_add, iI_sub, iI_mul, iI_neg, lJ_add, lJ_sub, lJ_mul, lJ_neg, i_l, l_i, iI_cl, iI_inb, iI_eqT, iI_eqF, iI_ltT, iI_ltF, iI_leT, iI_leF, lJ_eqT, lJ_eqF, lJ_cG, lJ_cE, lJ_cL, lJ_cF, lJ_cGE, lJ_cLE, lJ_cNL, lJ_cNG, Int.cast_ofNat_Int, c_0, c_1, Int.natCast_add, Int.add_zero, cond_true, cond_false, Bool.and_self, Bool.and_true, Bool.true_and, Option.bind_some, decide_true, uI_hit, uI_miss, uI_o, uA_o, uA_s, ↓reduceIte, eq_self, true_or, or_true, or_false, false_or, true_and, and_true, false_and, and_false, or_self, and_self, not_false_eq_true, not_true_eq_false, tn_i, w]
                · simp (disch := omega) only [nI_iI, lN_lJ, iI_0, lJ_0, iI_add, iI_sub, iI_mul, iI_neg, lJ_add, lJ_sub, lJ_mul, lJ_neg, i_l, l_i, iI_cl, iI_inb, iI_eqT, iI_eqF, iI_ltT, iI_ltF, iI_leT, iI_leF, lJ_eqT, lJ_eqF, lJ_cG, lJ_cE, lJ_cL, lJ_cF, lJ_cGE, lJ_cLE, lJ_cNL, lJ_cNG, Int.cast_ofNat_Int, c_0, c_1, Int.natCast_add, Int.add_zero, cond_true, cond_false, Bool.and_self, Bool.and_true, Bool.true_and, Option.bind_some, decide_true, uI_hit, uI_miss, uI_o, uA_o, uA_s, ↓reduceIte, eq_self, true_or, or_true, or_false, false_or, true_and, and_true, false_and, and_false, or_self, and_self, not_false_eq_true, not_true_eq_false, tn_i, w]
        · rw [if_neg (show ¬okS p q x y from fun z => c4 z.2.2.2.1)]
          unfold FX11_canPlay
          simp (disch := omega) only [nI_iI, lN_lJ, iI_0, lJ_0, iI_add, iI_sub, iI_mul, iI_neg, lJ_add, lJ_sub, lJ_mul, lJ_neg, i_l, l_i, iI_cl, iI_inb, iI_eqT, iI_eqF, iI_ltT, iI_ltF, iI_leT, iI_leF, lJ_eqT, lJ_eqF, lJ_cG, lJ_cE, lJ_cL, lJ_cF, lJ_cGE, lJ_cLE, lJ_cNL, lJ_cNG, Int.cast_ofNat_Int, c_0, c_1, Int.natCast_add, Int.add_zero, cond_true, cond_false, Bool.and_self, Bool.and_true, Bool.true_and, Option.bind_some, decide_true, uI_hit, uI_miss, uI_o, uA_o, uA_s, ↓reduceIte, eq_self, true_or, or_true, or_false, false_or, true_and, and_true, false_and, and_false, or_self, and_self, not_false_eq_true, not_true_eq_false, tn_i]
      · rw [if_neg (show ¬okS p q x y from fun z => c2 z.2.1)]
        unfold FX11_canPlay
        simp (disch := omega) only [nI_iI, lN_lJ, iI_0, lJ_0, iI_add, iI_sub, iI_mul, iI_neg, lJ_add, lJ_sub, lJ_mul, lJ_neg, i_l, l_i, iI_cl, iI_inb, iI_eqT, iI_eqF, iI_ltT, iI_ltF, iI_leT, iI_leF, lJ_eqT, lJ_eqF, lJ_cG, lJ_cE, lJ_cL, lJ_cF, lJ_cGE, lJ_cLE, lJ_cNL, lJ_cNG, Int.cast_ofNat_Int, c_0, c_1, Int.natCast_add, Int.add_zero, cond_true, cond_false, Bool.and_self, Bool.and_true, Bool.true_and, Option.bind_some, decide_true, uI_hit, uI_miss, uI_o, uA_o, uA_s, ↓reduceIte, eq_self, true_or, or_true, or_false, false_or, true_and, and_true, false_and, and_false, or_self, and_self, not_false_eq_true, not_true_eq_false, tn_i]
    · rw [if_neg (show ¬okS p q x y from fun z => c1 z.1)]
      unfold FX11_canPlay
      simp (disch := omega) only [nI_iI, lN_lJ, iI_0, lJ_0, iI_add, iI_sub, iI_mul, iI_neg, lJ_add, lJ_sub, lJ_mul, lJ_neg, i_l, l_i, iI_cl, iI_inb, iI_eqT, iI_eqF, iI_ltT, iI_ltF, iI_leT, iI_leF, lJ_eqT, lJ_eqF, lJ_cG, lJ_cE, lJ_cL, lJ_cF, lJ_cGE, lJ_cLE, lJ_cNL, lJ_cNG, Int.cast_ofNat_Int, c_0, c_1, Int.natCast_add, Int.add_zero, cond_true, cond_false, Bool.and_self, Bool.and_true, Bool.true_and, Option.bind_some, decide_true, uI_hit, uI_miss, uI_o, uA_o, uA_s, ↓reduceIte, eq_self, true_or, or_true, or_false, false_or, true_and, and_true, false_and, and_false, or_self, and_self, not_false_eq_true, not_true_eq_false, tn_i]
  have key := nine (p := p) (q := q) (fun x y => if x < 3 then a_run stX11_playOf (10, [some (.ref 108), some (.int (iI p)), some (.int (iI q)), some (.int (iI x)), some (.int (iI y))], d, e) else some ([some (.int (iI (-1)))], d, e)) (fun r => some ([some (.int (iI r))], d, e)) ?_ ?_ ?_ ?_
  · rw [hd 0 none (by omega) (by omega), key]
    rfl
  · intro x y x0 x1 y0 y1 hn
    show (if x < 3 then _ else _) = (if x < 3 then _ else _)
    rw [if_pos x1, if_pos x1]
    have c := can x y x0 x1 y0 y1
    rw [if_neg hn] at c
    refine a_run_step ?_ rfl
    show sX11_playOf_10 d e _ _ _ _ = _
    unfold sX11_playOf_10
    simp (disch := omega) only [nI_iI, lN_lJ, iI_0, lJ_0, iI_add, iI_sub, iI_mul, iI_neg, lJ_add, lJ_sub, lJ_mul, lJ_neg, i_l, l_i, iI_cl, iI_inb, iI_eqT, iI_eqF, iI_ltT, iI_ltF, iI_leT, iI_leF, lJ_eqT, lJ_eqF, lJ_cG, lJ_cE, lJ_cL, lJ_cF, lJ_cGE, lJ_cLE, lJ_cNL, lJ_cNG, Int.cast_ofNat_Int, c_0, c_1, Int.natCast_add, Int.add_zero, cond_true, cond_false, Bool.and_self, Bool.and_true, Bool.true_and, Option.bind_some, decide_true, uI_hit, uI_miss, uI_o, uA_o, uA_s, ↓reduceIte, eq_self, true_or, or_true, or_false, false_or, true_and, and_true, false_and, and_false, or_self, and_self, not_false_eq_true, not_true_eq_false, tn_i, c]
  · intro x x0 x1
    show (if x < 3 then _ else _) = (if x + 1 < 3 then _ else _)
    rw [if_pos x1, ← hd (x + 1) (some (.int (iI 3))) (by omega) (by omega)]
    refine a_run_step ?_ rfl
    show sX11_playOf_10 d e _ _ _ _ = _
    unfold sX11_playOf_10
    simp (disch := omega) only [nI_iI, lN_lJ, iI_0, lJ_0, iI_add, iI_sub, iI_mul, iI_neg, lJ_add, lJ_sub, lJ_mul, lJ_neg, i_l, l_i, iI_cl, iI_inb, iI_eqT, iI_eqF, iI_ltT, iI_ltF, iI_leT, iI_leF, lJ_eqT, lJ_eqF, lJ_cG, lJ_cE, lJ_cL, lJ_cF, lJ_cGE, lJ_cLE, lJ_cNL, lJ_cNG, Int.cast_ofNat_Int, c_0, c_1, Int.natCast_add, Int.add_zero, cond_true, cond_false, Bool.and_self, Bool.and_true, Bool.true_and, Option.bind_some, decide_true, uI_hit, uI_miss, uI_o, uA_o, uA_s, ↓reduceIte, eq_self, true_or, or_true, or_false, false_or, true_and, and_true, false_and, and_false, or_self, and_self, not_false_eq_true, not_true_eq_false, tn_i]
  · show (if (3 : Int) < 3 then _ else _) = _
    rw [if_neg (by omega)]
  · intro x y x0 x1 y0 y1 ho
    show (if x < 3 then _ else _) = _
    have c := can x y x0 x1 y0 y1
    rw [if_pos ho] at c
    rw [if_pos x1, a_run_step (st := stX11_playOf) (p2 := (100000, [some (.int (iI (10 * x + y)))], d, e)) (by
      show sX11_playOf_10 d e _ _ _ _ = _
      unfold sX11_playOf_10
      simp (disch := omega) only [nI_iI, lN_lJ, iI_0, lJ_0, iI_add, iI_sub, iI_mul, iI_neg, lJ_add, lJ_sub, lJ_mul, lJ_neg, i_l, l_i, iI_cl, iI_inb, iI_eqT, iI_eqF, iI_ltT, iI_ltF, iI_leT, iI_leF, lJ_eqT, lJ_eqF, lJ_cG, lJ_cE, lJ_cL, lJ_cF, lJ_cGE, lJ_cLE, lJ_cNL, lJ_cNG, Int.cast_ofNat_Int, c_0, c_1, Int.natCast_add, Int.add_zero, cond_true, cond_false, Bool.and_self, Bool.and_true, Bool.true_and, Option.bind_some, decide_true, uI_hit, uI_miss, uI_o, uA_o, uA_s, ↓reduceIte, eq_self, true_or, or_true, or_false, false_or, true_and, and_true, false_and, and_false, or_self, and_self, not_false_eq_true, not_true_eq_false, tn_i, c]) rfl, a_run_end]
theorem mq_layGame {d : aI} {e : aJ} {p q : Int} (h : 0 ≤ p ∧ p ≤ 12 ∧ 0 ≤ q ∧ q ≤ 12) : ∃ d', FX11_layGame d e (iI p) (iI q) = some (iI (playS p q), d', e) ∧ (∀ o, o ≠ 119 → d' o = d o) := by
  -- a row
  have row : ∀ (n : Nat) (d0 : aI) (x : Int), 0 ≤ x → x ≤ p → (n : Int) ≤ q + 1 → Wn d0 (fun i k => i < x ∧ k ≤ q) → ∃ d', Wn d' (fun i k => (i < x ∧ k ≤ q) ∨ (i = x ∧ k < n)) ∧ (∀ o, o ≠ 119 → d' o = d0 o) ∧ a_run stX11_layGame (10, [some (.ref 108), some (.int (iI p)), some (.int (iI q)), some (.int (iI x)), some (.int (iI 0))], d0, e) = a_run stX11_layGame (10, [some (.ref 108), some (.int (iI p)), some (.int (iI q)), some (.int (iI x)), some (.int (iI n))], d', e) := by
    intro n
    induction n with
    | zero =>
      intro d0 x x0 xp hn hw
      exact ⟨d0, fun i k i0 i1 k0 k1 hh => hw i k i0 i1 k0 k1 (by omega), fun _ _ => rfl, rfl⟩
    | succ n ih =>
      intro d0 x x0 xp hn hw
      obtain ⟨d1, w1, f1, t1⟩ := ih d0 x x0 xp (by omega) hw
      have po := mq_playOf (d := d1) (e := e) (p := x) (q := n) (by omega) (fun i k i0 i1 k0 k1 hh => w1 i k i0 i1 k0 k1 (by omega))
      have pi := playS_in x n
      have pn := playS_no (p := x) (q := n) x0 (by omega)
      refine ⟨uI d1 119 (13 * x + n).toNat (iI (if (x + n) % 3 = 0 then 0 else 1)), fun i k i0 i1 k0 k1 hh => ?_, fun o ho => by rw [uI_o ho]; exact f1 o ho, t1.trans (a_run_step ?_ rfl)⟩
      · by_cases c : i = x ∧ k = n
        · rw [uI_hit (by omega), c.1, c.2]
        · rw [uI_miss (by omega)]
          exact w1 i k i0 i1 k0 k1 (by omega)
      · show sX11_layGame_10 d1 e _ _ _ _ = _
        unfold sX11_layGame_10
        by_cases c : (x + n) % 3 = 0
        · rw [if_pos c]
          have pe := pn.mpr c
          rw [pe] at po
          simp (disch := omega) only [nI_iI, lN_lJ, iI_0, lJ_0, iI_add, iI_sub, iI_mul, iI_neg, lJ_add, lJ_sub, lJ_mul, lJ_neg, i_l, l_i, iI_cl, iI_inb, iI_eqT, iI_eqF, iI_ltT, iI_ltF, iI_leT, iI_leF, lJ_eqT, lJ_eqF, lJ_cG, lJ_cE, lJ_cL, lJ_cF, lJ_cGE, lJ_cLE, lJ_cNL, lJ_cNG, Int.cast_ofNat_Int, c_0, c_1, Int.natCast_add, Int.add_zero, cond_true, cond_false, Bool.and_self, Bool.and_true, Bool.true_and, Option.bind_some, decide_true, uI_hit, uI_miss, uI_o, uA_o, uA_s, ↓reduceIte, eq_self, true_or, or_true, or_false, false_or, true_and, and_true, false_and, and_false, or_self, and_self, not_false_eq_true, not_true_eq_false, tn_i, po, nar_0]
        · rw [if_neg c]
          have pe : playS x n ≠ -1 := fun z => c (pn.mp z)
          simp (disch := omega) only [nI_iI, lN_lJ, iI_0, lJ_0, iI_add, iI_sub, iI_mul, iI_neg, lJ_add, lJ_sub, lJ_mul, lJ_neg, i_l, l_i, iI_cl, iI_inb, iI_eqT, iI_eqF, iI_ltT, iI_ltF, iI_leT, iI_leF, lJ_eqT, lJ_eqF, lJ_cG, lJ_cE, lJ_cL, lJ_cF, lJ_cGE, lJ_cLE, lJ_cNL, lJ_cNG, Int.cast_ofNat_Int, c_0, c_1, Int.natCast_add, Int.add_zero, cond_true, cond_false, Bool.and_self, Bool.and_true, Bool.true_and, Option.bind_some, decide_true, uI_hit, uI_miss, uI_o, uA_o, uA_s, ↓reduceIte, eq_self, true_or, or_true, or_false, false_or, true_and, and_true, false_and, and_false, or_self, and_self, not_false_eq_true, not_true_eq_false, tn_i, po, nar_1]
  -- all rows
  have rows : ∀ n : Nat, (n : Int) ≤ p + 1 → ∃ d' v, Wn d' (fun i k => i < n ∧ k ≤ q) ∧ (∀ o, o ≠ 119 → d' o = d o) ∧ a_run stX11_layGame (2, [some (.ref 108), some (.int (iI p)), some (.int (iI q)), some (.int (iI 0)), none], d, e) = a_run stX11_layGame (2, [some (.ref 108), some (.int (iI p)), some (.int (iI q)), some (.int (iI n)), v], d', e) := by
    intro n
    induction n with
    | zero => intro _; exact ⟨d, none, fun i k i0 i1 k0 k1 hh => by omega, fun _ _ => rfl, rfl⟩
    | succ n ih =>
      intro hn
      obtain ⟨d1, v, w1, f1, t1⟩ := ih (by omega)
      obtain ⟨d2, w2, f2, t2⟩ := row (q + 1).toNat d1 n (by omega) (by omega) (by omega) w1
      refine ⟨d2, some (.int (iI (q + 1))), fun i k i0 i1 k0 k1 hh => w2 i k i0 i1 k0 k1 (by omega), fun o ho => by rw [f2 o ho, f1 o ho], t1.trans ?_⟩
      rw [a_run_step (st := stX11_layGame) (p2 := (10, [some (.ref 108), some (.int (iI p)), some (.int (iI q)), some (.int (iI n)), some (.int (iI 0))], d1, e)) (by
        show sX11_layGame_2 d1 e _ _ _ v = _
        unfold sX11_layGame_2
        simp (disch := omega) only [nI_iI, lN_lJ, iI_0, lJ_0, iI_add, iI_sub, iI_mul, iI_neg, lJ_add, lJ_sub, lJ_mul, lJ_neg, i_l, l_i, iI_cl, iI_inb, iI_eqT, iI_eqF, iI_ltT, iI_ltF, iI_leT, iI_leF, lJ_eqT, lJ_eqF, lJ_cG, lJ_cE, lJ_cL, lJ_cF, lJ_cGE, lJ_cLE, lJ_cNL, lJ_cNG, Int.cast_ofNat_Int, c_0, c_1, Int.natCast_add, Int.add_zero, cond_true, cond_false, Bool.and_self, Bool.and_true, Bool.true_and, Option.bind_some, decide_true, uI_hit, uI_miss, uI_o, uA_o, uA_s, ↓reduceIte, eq_self, true_or, or_true, or_false, false_or, true_and, and_true, false_and, and_false, or_self, and_self, not_false_eq_true, not_true_eq_false, tn_i]) rfl, t2, tn_i (by omega)]
      refine a_run_step ?_ rfl
      show sX11_layGame_10 d2 e _ _ _ _ = _
      unfold sX11_layGame_10
      simp (disch := omega) only [nI_iI, lN_lJ, iI_0, lJ_0, iI_add, iI_sub, iI_mul, iI_neg, lJ_add, lJ_sub, lJ_mul, lJ_neg, i_l, l_i, iI_cl, iI_inb, iI_eqT, iI_eqF, iI_ltT, iI_ltF, iI_leT, iI_leF, lJ_eqT, lJ_eqF, lJ_cG, lJ_cE, lJ_cL, lJ_cF, lJ_cGE, lJ_cLE, lJ_cNL, lJ_cNG, Int.cast_ofNat_Int, c_0, c_1, Int.natCast_add, Int.add_zero, cond_true, cond_false, Bool.and_self, Bool.and_true, Bool.true_and, Option.bind_some, decide_true, uI_hit, uI_miss, uI_o, uA_o, uA_s, ↓reduceIte, eq_self, true_or, or_true, or_false, false_or, true_and, and_true, false_and, and_false, or_self, and_self, not_false_eq_true, not_true_eq_false, tn_i]
  obtain ⟨d1, v, w1, f1, t1⟩ := rows (p + 1).toNat (by omega)
  rw [tn_i (by omega)] at t1
  have po := mq_playOf (d := d1) (e := e) h (fun i k i0 i1 k0 k1 hh => w1 i k i0 i1 k0 k1 (by omega))
  refine ⟨d1, ?_, f1⟩
  unfold FX11_layGame
  rw [a_run_step (st := stX11_layGame) (p := (0, [some (.ref 108), some (.int (iI p)), some (.int (iI q)), none, none], d, e)) (p2 := (2, [some (.ref 108), some (.int (iI p)), some (.int (iI q)), some (.int (iI 0)), none], d, e)) rfl rfl, t1, a_run_step (st := stX11_layGame) (p2 := (100000, [some (.int (iI (playS p q)))], d1, e)) (by
    show sX11_layGame_2 d1 e _ _ _ v = _
    unfold sX11_layGame_2
    simp (disch := omega) only [nI_iI, lN_lJ, iI_0, lJ_0, iI_add, iI_sub, iI_mul, iI_neg, lJ_add, lJ_sub, lJ_mul, lJ_neg, i_l, l_i, iI_cl, iI_inb, iI_eqT, iI_eqF, iI_ltT, iI_ltF, iI_leT, iI_leF, lJ_eqT, lJ_eqF, lJ_cG, lJ_cE, lJ_cL, lJ_cF, lJ_cGE, lJ_cLE, lJ_cNL, lJ_cNG, Int.cast_ofNat_Int, c_0, c_1, Int.natCast_add, Int.add_zero, cond_true, cond_false, Bool.and_self, Bool.and_true, Bool.true_and, Option.bind_some, decide_true, uI_hit, uI_miss, uI_o, uA_o, uA_s, ↓reduceIte, eq_self, true_or, or_true, or_false, false_or, true_and, and_true, false_and, and_false, or_self, and_self, not_false_eq_true, not_true_eq_false, tn_i, po]) rfl, a_run_end]
  rfl
theorem mq_isHeap {d : aI} {e : aJ} {p : Int} (h : -2147483648 ≤ p ∧ p < 2147483648) : FX11_isHeap d e (iI p) = some (iI (if 0 ≤ p ∧ p ≤ 12 then 1 else 0), d, e) := by
  by_cases c : 0 ≤ p ∧ p ≤ 12
  · rw [if_pos c]
    unfold FX11_isHeap
    simp (disch := omega) only [nI_iI, lN_lJ, iI_0, lJ_0, iI_add, iI_sub, iI_mul, iI_neg, lJ_add, lJ_sub, lJ_mul, lJ_neg, i_l, l_i, iI_cl, iI_inb, iI_eqT, iI_eqF, iI_ltT, iI_ltF, iI_leT, iI_leF, lJ_eqT, lJ_eqF, lJ_cG, lJ_cE, lJ_cL, lJ_cF, lJ_cGE, lJ_cLE, lJ_cNL, lJ_cNG, Int.cast_ofNat_Int, c_0, c_1, Int.natCast_add, Int.add_zero, cond_true, cond_false, Bool.and_self, Bool.and_true, Bool.true_and, Option.bind_some, decide_true, uI_hit, uI_miss, uI_o, uA_o, uA_s, ↓reduceIte, eq_self, true_or, or_true, or_false, false_or, true_and, and_true, false_and, and_false, or_self, and_self, not_false_eq_true, not_true_eq_false, tn_i, mq_in_y, decide_eq_true, iI_one]
  · rw [if_neg c]
    unfold FX11_isHeap
    simp (disch := omega) only [nI_iI, lN_lJ, iI_0, lJ_0, iI_add, iI_sub, iI_mul, iI_neg, lJ_add, lJ_sub, lJ_mul, lJ_neg, i_l, l_i, iI_cl, iI_inb, iI_eqT, iI_eqF, iI_ltT, iI_ltF, iI_leT, iI_leF, lJ_eqT, lJ_eqF, lJ_cG, lJ_cE, lJ_cL, lJ_cF, lJ_cGE, lJ_cLE, lJ_cNL, lJ_cNG, Int.cast_ofNat_Int, c_0, c_1, Int.natCast_add, Int.add_zero, cond_true, cond_false, Bool.and_self, Bool.and_true, Bool.true_and, Option.bind_some, decide_true, uI_hit, uI_miss, uI_o, uA_o, uA_s, ↓reduceIte, eq_self, true_or, or_true, or_false, false_or, true_and, and_true, false_and, and_false, or_self, and_self, not_false_eq_true, not_true_eq_false, tn_i, mq_in_n, decide_eq_true, iI_one]
theorem o_game (x y : Int32) : Op (fun d e => FX10_game d e x y) (fun d e => FX11_game d e x y) := by
  obtain ⟨p, rfl, p1, p2⟩ := iI_ex x
  obtain ⟨q, rfl, q1, q2⟩ := iI_ex y
  by_cases hp : 0 ≤ p ∧ p ≤ 12
  · by_cases hq : 0 ≤ q ∧ q ≤ 12
    · refine Op.quest (fun S hS => ⟨iI (if (p + q) % 3 = 0 then 0 else 1), fun d e hC => ⟨d, e, ?_, Kc.refl d⟩, fun d e hM => ?_⟩)
      · have il := cq_isLost (d := d) (e := e) (x := p) (y := q) (by omega)
        show FX10_game d e (iI p) (iI q) = _
        unfold FX10_game
        by_cases c : (p + q) % 3 = 0
        · rw [if_pos c] at il ⊢
          simp (disch := omega) only [nI_iI, lN_lJ, iI_0, lJ_0, iI_add, iI_sub, iI_mul, iI_neg, lJ_add, lJ_sub, lJ_mul, lJ_neg, i_l, l_i, iI_cl, iI_inb, iI_eqT, iI_eqF, iI_ltT, iI_ltF, iI_leT, iI_leF, lJ_eqT, lJ_eqF, lJ_cG, lJ_cE, lJ_cL, lJ_cF, lJ_cGE, lJ_cLE, lJ_cNL, lJ_cNG, Int.cast_ofNat_Int, c_0, c_1, Int.natCast_add, Int.add_zero, cond_true, cond_false, Bool.and_self, Bool.and_true, Bool.true_and, Option.bind_some, decide_true, uI_hit, uI_miss, uI_o, uA_o, uA_s, ↓reduceIte, eq_self, true_or, or_true, or_false, false_or, true_and, and_true, false_and, and_false, or_self, and_self, not_false_eq_true, not_true_eq_false, tn_i, cq_in_y, il]
        · rw [if_neg c] at il ⊢
          simp (disch := omega) only [nI_iI, lN_lJ, iI_0, lJ_0, iI_add, iI_sub, iI_mul, iI_neg, lJ_add, lJ_sub, lJ_mul, lJ_neg, i_l, l_i, iI_cl, iI_inb, iI_eqT, iI_eqF, iI_ltT, iI_ltF, iI_leT, iI_leF, lJ_eqT, lJ_eqF, lJ_cG, lJ_cE, lJ_cL, lJ_cF, lJ_cGE, lJ_cLE, lJ_cNL, lJ_cNG, Int.cast_ofNat_Int, c_0, c_1, Int.natCast_add, Int.add_zero, cond_true, cond_false, Bool.and_self, Bool.and_true, Bool.true_and, Option.bind_some, decide_true, uI_hit, uI_miss, uI_o, uA_o, uA_s, ↓reduceIte, eq_self, true_or, or_true, or_false, false_or, true_and, and_true, false_and, and_false, or_self, and_self, not_false_eq_true, not_true_eq_false, tn_i, cq_in_y, il]
      · obtain ⟨d', r1, r2⟩ := mq_layGame (d := d) (e := e) (p := p) (q := q) (by omega)
        have hp' := mq_isHeap (d := d) (e := e) (p := p) (by omega)
        have hq' := mq_isHeap (d := d) (e := e) (p := q) (by omega)
        rw [if_pos hp] at hp'
        rw [if_pos hq] at hq'
        have pi := playS_in p q
        have pn := playS_no (p := p) (q := q) hp.1 hq.1
        refine ⟨d', e, ?_, ⟨fun k a b => r2 k (by omega), fun j hj => by rw [r2 108 (by omega)]⟩⟩
        show FX11_game d e (iI p) (iI q) = _
        unfold FX11_game
        by_cases c : (p + q) % 3 = 0
        · rw [if_pos c]
          have pe := pn.mpr c
          rw [pe] at r1
          simp (disch := omega) only [nI_iI, lN_lJ, iI_0, lJ_0, iI_add, iI_sub, iI_mul, iI_neg, lJ_add, lJ_sub, lJ_mul, lJ_neg, i_l, l_i, iI_cl, iI_inb, iI_eqT, iI_eqF, iI_ltT, iI_ltF, iI_leT, iI_leF, lJ_eqT, lJ_eqF, lJ_cG, lJ_cE, lJ_cL, lJ_cF, lJ_cGE, lJ_cLE, lJ_cNL, lJ_cNG, Int.cast_ofNat_Int, c_0, c_1, Int.natCast_add, Int.add_zero, cond_true, cond_false, Bool.and_self, Bool.and_true, Bool.true_and, Option.bind_some, decide_true, uI_hit, uI_miss, uI_o, uA_o, uA_s, ↓reduceIte, eq_self, true_or, or_true, or_false, false_or, true_and, and_true, false_and, and_false, or_self, and_self, not_false_eq_true, not_true_eq_false, tn_i, hp', hq', r1]
        · rw [if_neg c]
          have pe : playS p q ≠ -1 := fun z => c (pn.mp z)
          simp (disch := omega) only [nI_iI, lN_lJ, iI_0, lJ_0, iI_add, iI_sub, iI_mul, iI_neg, lJ_add, lJ_sub, lJ_mul, lJ_neg, i_l, l_i, iI_cl, iI_inb, iI_eqT, iI_eqF, iI_ltT, iI_ltF, iI_leT, iI_leF, lJ_eqT, lJ_eqF, lJ_cG, lJ_cE, lJ_cL, lJ_cF, lJ_cGE, lJ_cLE, lJ_cNL, lJ_cNG, Int.cast_ofNat_Int, c_0, c_1, Int.natCast_add, Int.add_zero, cond_true, cond_false, Bool.and_self, Bool.and_true, Bool.true_and, Option.bind_some, decide_true, uI_hit, uI_miss, uI_o, uA_o, uA_s, ↓reduceIte, eq_self, true_or, or_true, or_false, false_or, true_and, and_true, false_and, and_false, or_self, and_self, not_false_eq_true, not_true_eq_false, tn_i, hp', hq', r1]
    · refine Op.pure (fun S hS => ⟨iI (-1), fun d e hC => ?_, fun d e hM => ?_⟩)
      · show FX10_game d e (iI p) (iI q) = _
        unfold FX10_game
        simp (disch := omega) only [nI_iI, lN_lJ, iI_0, lJ_0, iI_add, iI_sub, iI_mul, iI_neg, lJ_add, lJ_sub, lJ_mul, lJ_neg, i_l, l_i, iI_cl, iI_inb, iI_eqT, iI_eqF, iI_ltT, iI_ltF, iI_leT, iI_leF, lJ_eqT, lJ_eqF, lJ_cG, lJ_cE, lJ_cL, lJ_cF, lJ_cGE, lJ_cLE, lJ_cNL, lJ_cNG, Int.cast_ofNat_Int, c_0, c_1, Int.natCast_add, Int.add_zero, cond_true, cond_false, Bool.and_self, Bool.and_true, Bool.true_and, Option.bind_some, decide_true, uI_hit, uI_miss, uI_o, uA_o, uA_s, ↓reduceIte, eq_self, true_or, or_true, or_false, false_or, true_and, and_true, false_and, and_false, or_self, and_self, not_false_eq_true, not_true_eq_false, tn_i, cq_in_y, cq_in_n]
      · have hp' := mq_isHeap (d := d) (e := e) (p := p) (by omega)
        have hq' := mq_isHeap (d := d) (e := e) (p := q) (by omega)
        rw [if_pos hp] at hp'
        rw [if_neg hq] at hq'
        show FX11_game d e (iI p) (iI q) = _
        unfold FX11_game
        simp (disch := omega) only [nI_iI, lN_lJ, iI_0, lJ_0, iI_add, iI_sub, iI_mul, iI_neg, lJ_add, lJ_sub, lJ_mul, lJ_neg, i_l, l_i, iI_cl, iI_inb, iI_eqT, iI_eqF, iI_ltT, iI_ltF, iI_leT, iI_leF, lJ_eqT, lJ_eqF, lJ_cG, lJ_cE, lJ_cL, lJ_cF, lJ_cGE, lJ_cLE, lJ_cNL, lJ_cNG, Int.cast_ofNat_Int, c_0, c_1, Int.natCast_add, Int.add_zero, cond_true, cond_false, Bool.and_self, Bool.and_true, Bool.true_and, Option.bind_some, decide_true, uI_hit, uI_miss, uI_o, uA_o, uA_s, ↓reduceIte, eq_self, true_or, or_true, or_false, false_or, true_and, and_true, false_and, and_false, or_self, and_self, not_false_eq_true, not_true_eq_false, tn_i, hp', hq']
  · refine Op.pure (fun S hS => ⟨iI (-1), fun d e hC => ?_, fun d e hM => ?_⟩)
    · show FX10_game d e (iI p) (iI q) = _
      unfold FX10_game
      simp (disch := omega) only [nI_iI, lN_lJ, iI_0, lJ_0, iI_add, iI_sub, iI_mul, iI_neg, lJ_add, lJ_sub, lJ_mul, lJ_neg, i_l, l_i, iI_cl, iI_inb, iI_eqT, iI_eqF, iI_ltT, iI_ltF, iI_leT, iI_leF, lJ_eqT, lJ_eqF, lJ_cG, lJ_cE, lJ_cL, lJ_cF, lJ_cGE, lJ_cLE, lJ_cNL, lJ_cNG, Int.cast_ofNat_Int, c_0, c_1, Int.natCast_add, Int.add_zero, cond_true, cond_false, Bool.and_self, Bool.and_true, Bool.true_and, Option.bind_some, decide_true, uI_hit, uI_miss, uI_o, uA_o, uA_s, ↓reduceIte, eq_self, true_or, or_true, or_false, false_or, true_and, and_true, false_and, and_false, or_self, and_self, not_false_eq_true, not_true_eq_false, tn_i, cq_in_n]
    · have hp' := mq_isHeap (d := d) (e := e) (p := p) (by omega)
      rw [if_neg hp] at hp'
      show FX11_game d e (iI p) (iI q) = _
      unfold FX11_game
      simp (disch := omega) only [nI_iI, lN_lJ, iI_0, lJ_0, iI_add, iI_sub, iI_mul, iI_neg, lJ_add, lJ_sub, lJ_mul, lJ_neg, i_l, l_i, iI_cl, iI_inb, iI_eqT, iI_eqF, iI_ltT, iI_ltF, iI_leT, iI_leF, lJ_eqT, lJ_eqF, lJ_cG, lJ_cE, lJ_cL, lJ_cF, lJ_cGE, lJ_cLE, lJ_cNL, lJ_cNG, Int.cast_ofNat_Int, c_0, c_1, Int.natCast_add, Int.add_zero, cond_true, cond_false, Bool.and_self, Bool.and_true, Bool.true_and, Option.bind_some, decide_true, uI_hit, uI_miss, uI_o, uA_o, uA_s, ↓reduceIte, eq_self, true_or, or_true, or_false, false_or, true_and, and_true, false_and, and_false, or_self, and_self, not_false_eq_true, not_true_eq_false, tn_i, hp']
theorem o_play (x y : Int32) : Op (fun d e => FX10_play d e x y) (fun d e => FX11_play d e x y) := by
  obtain ⟨p, rfl, p1, p2⟩ := iI_ex x
  obtain ⟨q, rfl, q1, q2⟩ := iI_ex y
  by_cases hp : 0 ≤ p ∧ p ≤ 12
  · by_cases hq : 0 ≤ q ∧ q ≤ 12
    · refine Op.quest (fun S hS => ⟨iI (playS p q), fun d e hC => ⟨d, e, cq_play (by omega), Kc.refl d⟩, fun d e hM => ?_⟩)
      obtain ⟨d', r1, r2⟩ := mq_layGame (d := d) (e := e) (p := p) (q := q) (by omega)
      have hp' := mq_isHeap (d := d) (e := e) (p := p) (by omega)
      have hq' := mq_isHeap (d := d) (e := e) (p := q) (by omega)
      rw [if_pos hp] at hp'
      rw [if_pos hq] at hq'
      refine ⟨d', e, ?_, ⟨fun k a b => r2 k (by omega), fun j hj => by rw [r2 108 (by omega)]⟩⟩
      show FX11_play d e (iI p) (iI q) = _
      unfold FX11_play
      simp (disch := omega) only [nI_iI, lN_lJ, iI_0, lJ_0, iI_add, iI_sub, iI_mul, iI_neg, lJ_add, lJ_sub, lJ_mul, lJ_neg, i_l, l_i, iI_cl, iI_inb, iI_eqT, iI_eqF, iI_ltT, iI_ltF, iI_leT, iI_leF, lJ_eqT, lJ_eqF, lJ_cG, lJ_cE, lJ_cL, lJ_cF, lJ_cGE, lJ_cLE, lJ_cNL, lJ_cNG, Int.cast_ofNat_Int, c_0, c_1, Int.natCast_add, Int.add_zero, cond_true, cond_false, Bool.and_self, Bool.and_true, Bool.true_and, Option.bind_some, decide_true, uI_hit, uI_miss, uI_o, uA_o, uA_s, ↓reduceIte, eq_self, true_or, or_true, or_false, false_or, true_and, and_true, false_and, and_false, or_self, and_self, not_false_eq_true, not_true_eq_false, tn_i, hp', hq', r1]
    · refine Op.pure (fun S hS => ⟨iI (-1), fun d e hC => ?_, fun d e hM => ?_⟩)
      · show FX10_play d e (iI p) (iI q) = _
        unfold FX10_play
        rw [a_run_step (st := stX10_play) (p := (0, [some (.ref 0), some (.int (iI p)), some (.int (iI q)), none, none], d, e)) (p2 := (100000, [some (.int (iI (-1)))], d, e)) (by
          show sX10_play_0 d e _ _ = _
          unfold sX10_play_0
          simp (disch := omega) only [nI_iI, lN_lJ, iI_0, lJ_0, iI_add, iI_sub, iI_mul, iI_neg, lJ_add, lJ_sub, lJ_mul, lJ_neg, i_l, l_i, iI_cl, iI_inb, iI_eqT, iI_eqF, iI_ltT, iI_ltF, iI_leT, iI_leF, lJ_eqT, lJ_eqF, lJ_cG, lJ_cE, lJ_cL, lJ_cF, lJ_cGE, lJ_cLE, lJ_cNL, lJ_cNG, Int.cast_ofNat_Int, c_0, c_1, Int.natCast_add, Int.add_zero, cond_true, cond_false, Bool.and_self, Bool.and_true, Bool.true_and, Option.bind_some, decide_true, uI_hit, uI_miss, uI_o, uA_o, uA_s, ↓reduceIte, eq_self, true_or, or_true, or_false, false_or, true_and, and_true, false_and, and_false, or_self, and_self, not_false_eq_true, not_true_eq_false, tn_i, cq_in_y, cq_in_n]) rfl, a_run_end]
        rfl
      · have hp' := mq_isHeap (d := d) (e := e) (p := p) (by omega)
        have hq' := mq_isHeap (d := d) (e := e) (p := q) (by omega)
        rw [if_pos hp] at hp'
        rw [if_neg hq] at hq'
        show FX11_play d e (iI p) (iI q) = _
        unfold FX11_play
        simp (disch := omega) only [nI_iI, lN_lJ, iI_0, lJ_0, iI_add, iI_sub, iI_mul, iI_neg, lJ_add, lJ_sub, lJ_mul, lJ_neg, i_l, l_i, iI_cl, iI_inb, iI_eqT, iI_eqF, iI_ltT, iI_ltF, iI_leT, iI_leF, lJ_eqT, lJ_eqF, lJ_cG, lJ_cE, lJ_cL, lJ_cF, lJ_cGE, lJ_cLE, lJ_cNL, lJ_cNG, Int.cast_ofNat_Int, c_0, c_1, Int.natCast_add, Int.add_zero, cond_true, cond_false, Bool.and_self, Bool.and_true, Bool.true_and, Option.bind_some, decide_true, uI_hit, uI_miss, uI_o, uA_o, uA_s, ↓reduceIte, eq_self, true_or, or_true, or_false, false_or, true_and, and_true, false_and, and_false, or_self, and_self, not_false_eq_true, not_true_eq_false, tn_i, hp', hq']
  · refine Op.pure (fun S hS => ⟨iI (-1), fun d e hC => ?_, fun d e hM => ?_⟩)
    · show FX10_play d e (iI p) (iI q) = _
      unfold FX10_play
      rw [a_run_step (st := stX10_play) (p := (0, [some (.ref 0), some (.int (iI p)), some (.int (iI q)), none, none], d, e)) (p2 := (100000, [some (.int (iI (-1)))], d, e)) (by
        show sX10_play_0 d e _ _ = _
        unfold sX10_play_0
        simp (disch := omega) only [nI_iI, lN_lJ, iI_0, lJ_0, iI_add, iI_sub, iI_mul, iI_neg, lJ_add, lJ_sub, lJ_mul, lJ_neg, i_l, l_i, iI_cl, iI_inb, iI_eqT, iI_eqF, iI_ltT, iI_ltF, iI_leT, iI_leF, lJ_eqT, lJ_eqF, lJ_cG, lJ_cE, lJ_cL, lJ_cF, lJ_cGE, lJ_cLE, lJ_cNL, lJ_cNG, Int.cast_ofNat_Int, c_0, c_1, Int.natCast_add, Int.add_zero, cond_true, cond_false, Bool.and_self, Bool.and_true, Bool.true_and, Option.bind_some, decide_true, uI_hit, uI_miss, uI_o, uA_o, uA_s, ↓reduceIte, eq_self, true_or, or_true, or_false, false_or, true_and, and_true, false_and, and_false, or_self, and_self, not_false_eq_true, not_true_eq_false, tn_i, cq_in_n]) rfl, a_run_end]
      rfl
    · have hp' := mq_isHeap (d := d) (e := e) (p := p) (by omega)
      rw [if_neg hp] at hp'
      show FX11_play d e (iI p) (iI q) = _
      unfold FX11_play
      simp (disch := omega) only [nI_iI, lN_lJ, iI_0, lJ_0, iI_add, iI_sub, iI_mul, iI_neg, lJ_add, lJ_sub, lJ_mul, lJ_neg, i_l, l_i, iI_cl, iI_inb, iI_eqT, iI_eqF, iI_ltT, iI_ltF, iI_leT, iI_leF, lJ_eqT, lJ_eqF, lJ_cG, lJ_cE, lJ_cL, lJ_cF, lJ_cGE, lJ_cLE, lJ_cNL, lJ_cNG, Int.cast_ofNat_Int, c_0, c_1, Int.natCast_add, Int.add_zero, cond_true, cond_false, Bool.and_self, Bool.and_true, Bool.true_and, Option.bind_some, decide_true, uI_hit, uI_miss, uI_o, uA_o, uA_s, ↓reduceIte, eq_self, true_or, or_true, or_false, false_or, true_and, and_true, false_and, and_false, or_self, and_self, not_false_eq_true, not_true_eq_false, tn_i, hp']
