/-! ===== the reference reads: words, its pile ===== -/
def W2 (x y : Int32) : Int64 := a_jshl (Int32.toInt64 x) (nI 8) ||| Int32.toInt64 y
def W3 (x y z : Int32) : Int64 := a_jshl (W2 x y) (nI 8) ||| Int32.toInt64 z
def W4 (x y z u : Int32) : Int64 := a_jshl (W3 x y z) (nI 8) ||| Int32.toInt64 u
def W5 (x y z u v : Int32) : Int64 := a_jshl (W4 x y z u) (nI 8) ||| Int32.toInt64 v
def W6 (x y z u v w : Int32) : Int64 := a_jshl (W5 x y z u v) (nI 8) ||| Int32.toInt64 w
theorem wz_0 : W5 (iI 116) (iI 97) (iI 107) (iI 101) (iI 115) = lJ (wzT 0 : Nat) := by decide +kernel
theorem mw_0 {d : aI} {e : aJ} : FX11_w5 d e (iI 116) (iI 97) (iI 107) (iI 101) (iI 115) = some (lJ (wzT 0 : Nat), d, e) := by
  show some (W5 (iI 116) (iI 97) (iI 107) (iI 101) (iI 115), d, e) = _
  rw [wz_0]
theorem wz_1 : W4 (iI 103) (iI 111) (iI 101) (iI 115) = lJ (wzT 1 : Nat) := by decide +kernel
theorem mw_1 {d : aI} {e : aJ} : FX11_w4 d e (iI 103) (iI 111) (iI 101) (iI 115) = some (lJ (wzT 1 : Nat), d, e) := by
  show some (W4 (iI 103) (iI 111) (iI 101) (iI 115), d, e) = _
  rw [wz_1]
theorem wz_2 : W5 (iI 104) (iI 111) (iI 117) (iI 115) (iI 101) = lJ (wzT 2 : Nat) := by decide +kernel
theorem mw_2 {d : aI} {e : aJ} : FX11_w5 d e (iI 104) (iI 111) (iI 117) (iI 115) (iI 101) = some (lJ (wzT 2 : Nat), d, e) := by
  show some (W5 (iI 104) (iI 111) (iI 117) (iI 115) (iI 101), d, e) = _
  rw [wz_2]
theorem wz_3 : W3 (iI 99) (iI 97) (iI 116) = lJ (wzT 3 : Nat) := by decide +kernel
theorem mw_3 {d : aI} {e : aJ} : FX11_w3 d e (iI 99) (iI 97) (iI 116) = some (lJ (wzT 3 : Nat), d, e) := by
  show some (W3 (iI 99) (iI 97) (iI 116), d, e) = _
  rw [wz_3]
theorem wz_4 : W3 (iI 108) (iI 101) (iI 116) = lJ (wzT 4 : Nat) := by decide +kernel
theorem mw_4 {d : aI} {e : aJ} : FX11_w3 d e (iI 108) (iI 101) (iI 116) = some (lJ (wzT 4 : Nat), d, e) := by
  show some (W3 (iI 108) (iI 101) (iI 116), d, e) = _
  rw [wz_4]
theorem wz_5 : W3 (iI 111) (iI 117) (iI 116) = lJ (wzT 5 : Nat) := by decide +kernel
theorem mw_5 {d : aI} {e : aJ} : FX11_w3 d e (iI 111) (iI 117) (iI 116) = some (lJ (wzT 5 : Nat), d, e) := by
  show some (W3 (iI 111) (iI 117) (iI 116), d, e) = _
  rw [wz_5]
theorem wz_6 : W2 (iI 117) (iI 112) = lJ (wzT 6 : Nat) := by decide +kernel
theorem mw_6 {d : aI} {e : aJ} : FX11_w2 d e (iI 117) (iI 112) = some (lJ (wzT 6 : Nat), d, e) := by
  show some (W2 (iI 117) (iI 112), d, e) = _
  rw [wz_6]
theorem wz_7 : W4 (iI 100) (iI 111) (iI 119) (iI 110) = lJ (wzT 7 : Nat) := by decide +kernel
theorem mw_7 {d : aI} {e : aJ} : FX11_w4 d e (iI 100) (iI 111) (iI 119) (iI 110) = some (lJ (wzT 7 : Nat), d, e) := by
  show some (W4 (iI 100) (iI 111) (iI 119) (iI 110), d, e) = _
  rw [wz_7]
theorem wz_8 : W4 (iI 104) (iI 111) (iI 117) (iI 114) = lJ (wzT 8 : Nat) := by decide +kernel
theorem mw_8 {d : aI} {e : aJ} : FX11_w4 d e (iI 104) (iI 111) (iI 117) (iI 114) = some (lJ (wzT 8 : Nat), d, e) := by
  show some (W4 (iI 104) (iI 111) (iI 117) (iI 114), d, e) = _
  rw [wz_8]
theorem wz_9 : W5 (iI 100) (iI 114) (iI 101) (iI 97) (iI 109) = lJ (wzT 9 : Nat) := by decide +kernel
theorem mw_9 {d : aI} {e : aJ} : FX11_w5 d e (iI 100) (iI 114) (iI 101) (iI 97) (iI 109) = some (lJ (wzT 9 : Nat), d, e) := by
  show some (W5 (iI 100) (iI 114) (iI 101) (iI 97) (iI 109), d, e) = _
  rw [wz_9]
theorem wz_10 : W4 (iI 99) (iI 111) (iI 108) (iI 100) = lJ (wzT 10 : Nat) := by decide +kernel
theorem mw_10 {d : aI} {e : aJ} : FX11_w4 d e (iI 99) (iI 111) (iI 108) (iI 100) = some (lJ (wzT 10 : Nat), d, e) := by
  show some (W4 (iI 99) (iI 111) (iI 108) (iI 100), d, e) = _
  rw [wz_10]
theorem wz_11 : W2 (iI 116) (iI 111) = lJ (wzT 11 : Nat) := by decide +kernel
theorem mw_11 {d : aI} {e : aJ} : FX11_w2 d e (iI 116) (iI 111) = some (lJ (wzT 11 : Nat), d, e) := by
  show some (W2 (iI 116) (iI 111), d, e) = _
  rw [wz_11]
theorem wz_12 : W4 (iI 116) (iI 117) (iI 114) (iI 110) = lJ (wzT 12 : Nat) := by decide +kernel
theorem mw_12 {d : aI} {e : aJ} : FX11_w4 d e (iI 116) (iI 117) (iI 114) (iI 110) = some (lJ (wzT 12 : Nat), d, e) := by
  show some (W4 (iI 116) (iI 117) (iI 114) (iI 110), d, e) = _
  rw [wz_12]
theorem wz_13 : W5 (iI 99) (iI 104) (iI 105) (iI 108) (iI 108) = lJ (wzT 13 : Nat) := by decide +kernel
theorem mw_13 {d : aI} {e : aJ} : FX11_w5 d e (iI 99) (iI 104) (iI 105) (iI 108) (iI 108) = some (lJ (wzT 13 : Nat), d, e) := by
  show some (W5 (iI 99) (iI 104) (iI 105) (iI 108) (iI 108), d, e) = _
  rw [wz_13]
theorem wz_14 : W2 (iI 105) (iI 102) = lJ (wzT 14 : Nat) := by decide +kernel
theorem mw_14 {d : aI} {e : aJ} : FX11_w2 d e (iI 105) (iI 102) = some (lJ (wzT 14 : Nat), d, e) := by
  show some (W2 (iI 105) (iI 102), d, e) = _
  rw [wz_14]
theorem wz_15 : W4 (iI 116) (iI 104) (iI 101) (iI 110) = lJ (wzT 15 : Nat) := by decide +kernel
theorem mw_15 {d : aI} {e : aJ} : FX11_w4 d e (iI 116) (iI 104) (iI 101) (iI 110) = some (lJ (wzT 15 : Nat), d, e) := by
  show some (W4 (iI 116) (iI 104) (iI 101) (iI 110), d, e) = _
  rw [wz_15]
theorem wz_16 : W4 (iI 101) (iI 108) (iI 115) (iI 101) = lJ (wzT 16 : Nat) := by decide +kernel
theorem mw_16 {d : aI} {e : aJ} : FX11_w4 d e (iI 101) (iI 108) (iI 115) (iI 101) = some (lJ (wzT 16 : Nat), d, e) := by
  show some (W4 (iI 101) (iI 108) (iI 115) (iI 101), d, e) = _
  rw [wz_16]
theorem wz_17 : W3 (iI 101) (iI 110) (iI 100) = lJ (wzT 17 : Nat) := by decide +kernel
theorem mw_17 {d : aI} {e : aJ} : FX11_w3 d e (iI 101) (iI 110) (iI 100) = some (lJ (wzT 17 : Nat), d, e) := by
  show some (W3 (iI 101) (iI 110) (iI 100), d, e) = _
  rw [wz_17]
theorem wz_18 : W2 (iI 111) (iI 114) = lJ (wzT 18 : Nat) := by decide +kernel
theorem mw_18 {d : aI} {e : aJ} : FX11_w2 d e (iI 111) (iI 114) = some (lJ (wzT 18 : Nat), d, e) := by
  show some (W2 (iI 111) (iI 114), d, e) = _
  rw [wz_18]
theorem wz_19 : W3 (iI 97) (iI 110) (iI 100) = lJ (wzT 19 : Nat) := by decide +kernel
theorem mw_19 {d : aI} {e : aJ} : FX11_w3 d e (iI 97) (iI 110) (iI 100) = some (lJ (wzT 19 : Nat), d, e) := by
  show some (W3 (iI 97) (iI 110) (iI 100), d, e) = _
  rw [wz_19]
theorem wz_20 : W3 (iI 110) (iI 111) (iI 116) = lJ (wzT 20 : Nat) := by decide +kernel
theorem mw_20 {d : aI} {e : aJ} : FX11_w3 d e (iI 110) (iI 111) (iI 116) = some (lJ (wzT 20 : Nat), d, e) := by
  show some (W3 (iI 110) (iI 111) (iI 116), d, e) = _
  rw [wz_20]
theorem wz_21 : W3 (iI 119) (iI 104) (iI 111) = lJ (wzT 21 : Nat) := by decide +kernel
theorem mw_21 {d : aI} {e : aJ} : FX11_w3 d e (iI 119) (iI 104) (iI 111) = some (lJ (wzT 21 : Nat), d, e) := by
  show some (W3 (iI 119) (iI 104) (iI 111), d, e) = _
  rw [wz_21]
theorem wz_22 : W5 (iI 116) (iI 97) (iI 107) (iI 101) (iI 110) = lJ (wzT 22 : Nat) := by decide +kernel
theorem mw_22 {d : aI} {e : aJ} : FX11_w5 d e (iI 116) (iI 97) (iI 107) (iI 101) (iI 110) = some (lJ (wzT 22 : Nat), d, e) := by
  show some (W5 (iI 116) (iI 97) (iI 107) (iI 101) (iI 110), d, e) = _
  rw [wz_22]
theorem wz_23 : W5 (iI 112) (iI 108) (iI 97) (iI 99) (iI 101) = lJ (wzT 23 : Nat) := by decide +kernel
theorem mw_23 {d : aI} {e : aJ} : FX11_w5 d e (iI 112) (iI 108) (iI 97) (iI 99) (iI 101) = some (lJ (wzT 23 : Nat), d, e) := by
  show some (W5 (iI 112) (iI 108) (iI 97) (iI 99) (iI 101), d, e) = _
  rw [wz_23]
theorem wz_24 : W4 (iI 99) (iI 97) (iI 109) (iI 101) = lJ (wzT 24 : Nat) := by decide +kernel
theorem mw_24 {d : aI} {e : aJ} : FX11_w4 d e (iI 99) (iI 97) (iI 109) (iI 101) = some (lJ (wzT 24 : Nat), d, e) := by
  show some (W4 (iI 99) (iI 97) (iI 109) (iI 101), d, e) = _
  rw [wz_24]
theorem wz_25 : W6 (iI 105) (iI 110) (iI 115) (iI 105) (iI 100) (iI 101) = lJ (wzT 25 : Nat) := by decide +kernel
theorem mw_25 {d : aI} {e : aJ} : FX11_w6 d e (iI 105) (iI 110) (iI 115) (iI 105) (iI 100) (iI 101) = some (lJ (wzT 25 : Nat), d, e) := by
  show some (W6 (iI 105) (iI 110) (iI 115) (iI 105) (iI 100) (iI 101), d, e) = _
  rw [wz_25]
theorem rk_kt {tp : Nat → Int} (h : ∀ j, 0 ≤ tp j ∧ tp j ≤ 255) {L t : Nat} : (KT tp L t = 0 ↔ RKT tp L t = 0) ∧ (KT tp L t = 1 ↔ RKT tp L t = 1) ∧ (KT tp L t = 3 ↔ RKT tp L t = 4) ∧ (KT tp L t = 4 ↔ RKT tp L t = 5) ∧ (∀ c, sgT c → (KT tp L t = c ↔ RKT tp L t = c)) ∧ (300 ≤ KT tp L t → RKT tp L t = 2) ∧ (0 ≤ RKT tp L t ∧ RKT tp L t ≤ 62) := by
  unfold KT RKT
  by_cases q : psT tp L t < L
  · rw [if_pos q, if_pos q]
    have g := h (psT tp L t)
    have tk := tkT_in h (L := L) (i := psT tp L t)
    generalize psT tp L t = p at *
    unfold tkT at tk ⊢
    unfold rkT
    by_cases q1 : ltT (tp p)
    · rw [if_pos q1] at tk ⊢
      rw [if_pos q1]
      have fl := fnd_le (p := fun w => wmT tp p (rnE ltT tp L p - p) w) 26
      have wk : wkT tp p (rnE ltT tp L p - p) = 2 ∨ 300 ≤ wkT tp p (rnE ltT tp L p - p) := by
        unfold wkT
        by_cases f : fnd (fun w => wmT tp p (rnE ltT tp L p - p) w) 26 = -1
        · rw [if_pos f]; exact Or.inl rfl
        · rw [if_neg f]; omega
      exact ⟨by omega, by omega, by omega, by omega, fun c hc => by omega, fun _ => rfl, by omega⟩
    · rw [if_neg q1] at tk ⊢
      rw [if_neg q1]
      by_cases q2 : fgT (tp p)
      · rw [if_pos q2, if_pos q2]
        exact ⟨by omega, by omega, by omega, by omega, fun c hc => by omega, fun z => by omega, by omega⟩
      · rw [if_neg q2, if_neg q2]
        by_cases q3 : dbT tp L p
        · rw [if_pos q3, if_pos q3]
          by_cases q6 : tp p = 60
          · rw [if_pos q6, if_pos q6]
            exact ⟨by omega, by omega, by omega, by omega, fun c hc => by omega, fun z => by omega, by omega⟩
          · rw [if_neg q6, if_neg q6]
            exact ⟨by omega, by omega, by omega, by omega, fun c hc => by omega, fun z => by omega, by omega⟩
        · rw [if_neg q3, if_neg q3]
          by_cases q4 : sgT (tp p)
          · rw [if_pos q4, if_pos (Or.inl q4)]
            exact ⟨by omega, by omega, by omega, by omega, fun c hc => by omega, fun z => by omega, by omega⟩
          · rw [if_neg q4]
            by_cases q5 : tp p = 58
            · rw [if_pos (Or.inr q5)]
              exact ⟨by omega, by omega, by omega, by omega, fun c hc => by omega, fun z => by omega, by omega⟩
            · rw [if_neg (fun z => by rcases z with z | z; exact q4 z; exact q5 z)]
              exact ⟨by omega, by omega, by omega, by omega, fun c hc => by omega, fun z => by omega, by omega⟩
  · rw [if_neg q, if_neg q]
    exact ⟨by omega, by omega, by omega, by omega, fun c hc => by omega, fun z => by omega, by omega⟩
/-- a word at hand -/
theorem RT.word {d : aI} {e : aJ} {tp : Nat → Int} {L t w : Nat} (h : RT d e tp L t) (h5 : ∀ j, 0 ≤ tp j ∧ tp j ≤ 255) (h2 : RKT tp L t = 2) (hw : w < 26) : (lg_cmp (e 108 11) (lJ (wzT w : Nat)) = iI 0) ↔ KT tp L t = 300 + (w : Int) := by
  have e11 := h.2.2.2.2 h2
  have pl : psT tp L t < L := Classical.byContradiction (fun z => by unfold RKT at h2; rw [if_neg z] at h2; omega)
  have rk : rkT tp L (psT tp L t) = 2 := by unfold RKT at h2; rw [if_pos pl] at h2; exact h2
  have q1 : ltT (tp (psT tp L t)) := Classical.byContradiction (fun z => by
    unfold rkT at rk
    rw [if_neg z] at rk
    by_cases q2 : fgT (tp (psT tp L t))
    · rw [if_pos q2] at rk; omega
    · rw [if_neg q2] at rk
      by_cases q3 : dbT tp L (psT tp L t)
      · rw [if_pos q3] at rk
        by_cases q6 : tp (psT tp L t) = 60
        · rw [if_pos q6] at rk; omega
        · rw [if_neg q6] at rk; omega
      · rw [if_neg q3] at rk
        by_cases q4 : sg2T (tp (psT tp L t))
        · rw [if_pos q4] at rk; omega
        · rw [if_neg q4] at rk; omega)
  have kt : KT tp L t = wkT tp (psT tp L t) (rnE ltT tp L (psT tp L t) - psT tp L t) := by unfold KT tkT; rw [if_pos pl, if_pos q1]
  obtain ⟨r1, r2, r3, r4⟩ := rnE_in (p := ltT) (tp := tp) (L := L) (i := psT tp L t) (by omega)
  have r5 : psT tp L t + 1 ≤ rnE ltT tp L (psT tp L t) := by
    rw [rnE_s pl, if_pos q1]
    exact (rnE_in (p := ltT) (tp := tp) (L := L) (i := psT tp L t + 1) (by omega)).1
  have wz := wk_wz h5 (i := psT tp L t) (l := rnE ltT tp L (psT tp L t) - psT tp L t) (w := w) (by omega) (fun j hj => r3 _ (by omega) (by omega)) hw
  rw [kt, e11, ← wz]
  have l1 := wdT_lt h5 (psT tp L t) (rnE ltT tp L (psT tp L t) - psT tp L t)
  have l2 := wz_lt w hw
  generalize wdT tp (psT tp L t) (rnE ltT tp L (psT tp L t) - psT tp L t) = A at *
  generalize wzT w = B at *
  by_cases z : A = B
  · rw [z]
    exact ⟨fun _ => rfl, fun _ => lJ_cE (by omega)⟩
  · rw [lJ_cF (by omega)]
    exact ⟨fun f => f.elim, fun y => absurd y z⟩
theorem m_isw {d : aI} {e : aJ} {tp : Nat → Int} {L t w : Nat} (h : RT d e tp L t) (h5 : ∀ j, 0 ≤ tp j ∧ tp j ≤ 255) (hw : w < 26) : FX11_isWord d e (lJ (wzT w : Nat)) = some (iI (if KT tp L t = 300 + (w : Int) then 1 else 0), d, e) := by
  have h9 := h.2.2.1
  have rk := rk_kt h5 (L := L) (t := t)
  unfold FX11_isWord
  by_cases q : RKT tp L t = 2
  · have hc := h.word h5 q hw
    rw [q] at h9
    by_cases z : KT tp L t = 300 + (w : Int)
    · rw [if_pos z]
      have c := eq_true (hc.mpr z)
      simp (disch := omega) only [nI_iI, lN_lJ, iI_0, lJ_0, iI_add, iI_sub, iI_mul, iI_neg, lJ_add, lJ_sub, lJ_mul, lJ_neg, i_l, l_i, iI_cl, iI_inb, iI_eqT, iI_eqF, iI_ltT, iI_ltF, iI_leT, iI_leF, lJ_eqT, lJ_eqF, lJ_cG, lJ_cE, lJ_cL, lJ_cF, lJ_cGE, lJ_cLE, lJ_cNL, lJ_cNG, Int.cast_ofNat_Int, c_0, c_1, Int.natCast_add, Int.add_zero, cond_true, cond_false, Bool.and_self, Bool.and_true, Bool.true_and, Option.bind_some, decide_true, uI_hit, uI_miss, uI_o, uA_o, uA_s, ↓reduceIte, eq_self, true_or, or_true, or_false, false_or, true_and, and_true, false_and, and_false, or_self, and_self, not_false_eq_true, not_true_eq_false, tn_i, h9, c]
    · rw [if_neg z]
      have c := eq_false (fun y => z (hc.mp y))
      simp (disch := omega) only [nI_iI, lN_lJ, iI_0, lJ_0, iI_add, iI_sub, iI_mul, iI_neg, lJ_add, lJ_sub, lJ_mul, lJ_neg, i_l, l_i, iI_cl, iI_inb, iI_eqT, iI_eqF, iI_ltT, iI_ltF, iI_leT, iI_leF, lJ_eqT, lJ_eqF, lJ_cG, lJ_cE, lJ_cL, lJ_cF, lJ_cGE, lJ_cLE, lJ_cNL, lJ_cNG, Int.cast_ofNat_Int, c_0, c_1, Int.natCast_add, Int.add_zero, cond_true, cond_false, Bool.and_self, Bool.and_true, Bool.true_and, Option.bind_some, decide_true, uI_hit, uI_miss, uI_o, uA_o, uA_s, ↓reduceIte, eq_self, true_or, or_true, or_false, false_or, true_and, and_true, false_and, and_false, or_self, and_self, not_false_eq_true, not_true_eq_false, tn_i, h9, c]
  · rw [if_neg (fun z : KT tp L t = 300 + (w : Int) => q (rk.2.2.2.2.2.1 (by omega)))]
    generalize RKT tp L t = r at *
    simp (disch := omega) only [nI_iI, lN_lJ, iI_0, lJ_0, iI_add, iI_sub, iI_mul, iI_neg, lJ_add, lJ_sub, lJ_mul, lJ_neg, i_l, l_i, iI_cl, iI_inb, iI_eqT, iI_eqF, iI_ltT, iI_ltF, iI_leT, iI_leF, lJ_eqT, lJ_eqF, lJ_cG, lJ_cE, lJ_cL, lJ_cF, lJ_cGE, lJ_cLE, lJ_cNL, lJ_cNG, Int.cast_ofNat_Int, c_0, c_1, Int.natCast_add, Int.add_zero, cond_true, cond_false, Bool.and_self, Bool.and_true, Bool.true_and, Option.bind_some, decide_true, uI_hit, uI_miss, uI_o, uA_o, uA_s, ↓reduceIte, eq_self, true_or, or_true, or_false, false_or, true_and, and_true, false_and, and_false, or_self, and_self, not_false_eq_true, not_true_eq_false, tn_i, h9]
theorem m_name {d : aI} {e : aJ} {tp : Nat → Int} {L t : Nat} (h : RT d e tp L t) (h5 : ∀ j, 0 ≤ tp j ∧ tp j ≤ 255) : FX11_nameOf d e = some (iI (if nmI (KT tp L t) < 8 then (nmI (KT tp L t) : Int) else -1), d, e) := by
  have h9 := h.2.2.1
  have rk := rk_kt h5 (L := L) (t := t)
  unfold FX11_nameOf
  by_cases q : RKT tp L t = 2
  · rw [q] at h9
    have cE : ∀ w : Nat, w < 26 → (lg_cmp (e 108 11) (lJ (wzT w : Nat)) = iI 0) = (KT tp L t = 300 + (w : Int)) := fun w hw => propext (h.word h5 q hw)
    by_cases n8 : nmI (KT tp L t) < 8
    · rw [if_pos n8]
      rcases nm_cases n8 with ⟨z, y⟩ | ⟨z, y⟩ | ⟨z, y⟩ | ⟨z, y⟩ | ⟨z, y⟩ | ⟨z, y⟩ | ⟨z, y⟩ | ⟨z, y⟩
      · rw [y]
        have c8 : (lg_cmp (e 108 11) (lJ (wzT 8 : Nat)) = iI 0) = True := by rw [cE 8 (by omega)]; exact eq_true (by omega)
        have c21 : (lg_cmp (e 108 11) (lJ (wzT 21 : Nat)) = iI 0) = False := by rw [cE 21 (by omega)]; exact eq_false (by omega)
        have c10 : (lg_cmp (e 108 11) (lJ (wzT 10 : Nat)) = iI 0) = False := by rw [cE 10 (by omega)]; exact eq_false (by omega)
        have c22 : (lg_cmp (e 108 11) (lJ (wzT 22 : Nat)) = iI 0) = False := by rw [cE 22 (by omega)]; exact eq_false (by omega)
        have c23 : (lg_cmp (e 108 11) (lJ (wzT 23 : Nat)) = iI 0) = False := by rw [cE 23 (by omega)]; exact eq_false (by omega)
        have c9 : (lg_cmp (e 108 11) (lJ (wzT 9 : Nat)) = iI 0) = False := by rw [cE 9 (by omega)]; exact eq_false (by omega)
        have c24 : (lg_cmp (e 108 11) (lJ (wzT 24 : Nat)) = iI 0) = False := by rw [cE 24 (by omega)]; exact eq_false (by omega)
        have c25 : (lg_cmp (e 108 11) (lJ (wzT 25 : Nat)) = iI 0) = False := by rw [cE 25 (by omega)]; exact eq_false (by omega)
        simp (config := {maxSteps := 4000000}) (disch := omega) only [nI_iI, lN_lJ, iI_0, lJ_0, iI_add, iI_sub, iI_mul, iI_neg, lJ_add, lJ_sub, lJ_mul, lJ_neg, i_l, l_i, iI_cl, iI_inb, iI_eqT, iI_eqF, iI_ltT, iI_ltF, iI_leT, iI_leF, lJ_eqT, lJ_eqF, lJ_cG, lJ_cE, lJ_cL, lJ_cF, lJ_cGE, lJ_cLE, lJ_cNL, lJ_cNG, Int.cast_ofNat_Int, c_0, c_1, Int.natCast_add, Int.add_zero, cond_true, cond_false, Bool.and_self, Bool.and_true, Bool.true_and, Option.bind_some, decide_true, uI_hit, uI_miss, uI_o, uA_o, uA_s, ↓reduceIte, eq_self, true_or, or_true, or_false, false_or, true_and, and_true, false_and, and_false, or_self, and_self, not_false_eq_true, not_true_eq_false, tn_i, h9, mw_8, mw_21, mw_10, mw_22, mw_23, mw_9, mw_24, mw_25, c8, c21, c10, c22, c23, c9, c24, c25]
      · rw [y]
        have c8 : (lg_cmp (e 108 11) (lJ (wzT 8 : Nat)) = iI 0) = False := by rw [cE 8 (by omega)]; exact eq_false (by omega)
        have c21 : (lg_cmp (e 108 11) (lJ (wzT 21 : Nat)) = iI 0) = True := by rw [cE 21 (by omega)]; exact eq_true (by omega)
        have c10 : (lg_cmp (e 108 11) (lJ (wzT 10 : Nat)) = iI 0) = False := by rw [cE 10 (by omega)]; exact eq_false (by omega)
        have c22 : (lg_cmp (e 108 11) (lJ (wzT 22 : Nat)) = iI 0) = False := by rw [cE 22 (by omega)]; exact eq_false (by omega)
        have c23 : (lg_cmp (e 108 11) (lJ (wzT 23 : Nat)) = iI 0) = False := by rw [cE 23 (by omega)]; exact eq_false (by omega)
        have c9 : (lg_cmp (e 108 11) (lJ (wzT 9 : Nat)) = iI 0) = False := by rw [cE 9 (by omega)]; exact eq_false (by omega)
        have c24 : (lg_cmp (e 108 11) (lJ (wzT 24 : Nat)) = iI 0) = False := by rw [cE 24 (by omega)]; exact eq_false (by omega)
        have c25 : (lg_cmp (e 108 11) (lJ (wzT 25 : Nat)) = iI 0) = False := by rw [cE 25 (by omega)]; exact eq_false (by omega)
        simp (config := {maxSteps := 4000000}) (disch := omega) only [nI_iI, lN_lJ, iI_0, lJ_0, iI_add, iI_sub, iI_mul, iI_neg, lJ_add, lJ_sub, lJ_mul, lJ_neg, i_l, l_i, iI_cl, iI_inb, iI_eqT, iI_eqF, iI_ltT, iI_ltF, iI_leT, iI_leF, lJ_eqT, lJ_eqF, lJ_cG, lJ_cE, lJ_cL, lJ_cF, lJ_cGE, lJ_cLE, lJ_cNL, lJ_cNG, Int.cast_ofNat_Int, c_0, c_1, Int.natCast_add, Int.add_zero, cond_true, cond_false, Bool.and_self, Bool.and_true, Bool.true_and, Option.bind_some, decide_true, uI_hit, uI_miss, uI_o, uA_o, uA_s, ↓reduceIte, eq_self, true_or, or_true, or_false, false_or, true_and, and_true, false_and, and_false, or_self, and_self, not_false_eq_true, not_true_eq_false, tn_i, h9, mw_8, mw_21, mw_10, mw_22, mw_23, mw_9, mw_24, mw_25, c8, c21, c10, c22, c23, c9, c24, c25]
      · rw [y]
        have c8 : (lg_cmp (e 108 11) (lJ (wzT 8 : Nat)) = iI 0) = False := by rw [cE 8 (by omega)]; exact eq_false (by omega)
        have c21 : (lg_cmp (e 108 11) (lJ (wzT 21 : Nat)) = iI 0) = False := by rw [cE 21 (by omega)]; exact eq_false (by omega)
        have c10 : (lg_cmp (e 108 11) (lJ (wzT 10 : Nat)) = iI 0) = True := by rw [cE 10 (by omega)]; exact eq_true (by omega)
        have c22 : (lg_cmp (e 108 11) (lJ (wzT 22 : Nat)) = iI 0) = False := by rw [cE 22 (by omega)]; exact eq_false (by omega)
        have c23 : (lg_cmp (e 108 11) (lJ (wzT 23 : Nat)) = iI 0) = False := by rw [cE 23 (by omega)]; exact eq_false (by omega)
        have c9 : (lg_cmp (e 108 11) (lJ (wzT 9 : Nat)) = iI 0) = False := by rw [cE 9 (by omega)]; exact eq_false (by omega)
        have c24 : (lg_cmp (e 108 11) (lJ (wzT 24 : Nat)) = iI 0) = False := by rw [cE 24 (by omega)]; exact eq_false (by omega)
        have c25 : (lg_cmp (e 108 11) (lJ (wzT 25 : Nat)) = iI 0) = False := by rw [cE 25 (by omega)]; exact eq_false (by omega)
        simp (config := {maxSteps := 4000000}) (disch := omega) only [nI_iI, lN_lJ, iI_0, lJ_0, iI_add, iI_sub, iI_mul, iI_neg, lJ_add, lJ_sub, lJ_mul, lJ_neg, i_l, l_i, iI_cl, iI_inb, iI_eqT, iI_eqF, iI_ltT, iI_ltF, iI_leT, iI_leF, lJ_eqT, lJ_eqF, lJ_cG, lJ_cE, lJ_cL, lJ_cF, lJ_cGE, lJ_cLE, lJ_cNL, lJ_cNG, Int.cast_ofNat_Int, c_0, c_1, Int.natCast_add, Int.add_zero, cond_true, cond_false, Bool.and_self, Bool.and_true, Bool.true_and, Option.bind_some, decide_true, uI_hit, uI_miss, uI_o, uA_o, uA_s, ↓reduceIte, eq_self, true_or, or_true, or_false, false_or, true_and, and_true, false_and, and_false, or_self, and_self, not_false_eq_true, not_true_eq_false, tn_i, h9, mw_8, mw_21, mw_10, mw_22, mw_23, mw_9, mw_24, mw_25, c8, c21, c10, c22, c23, c9, c24, c25]
      · rw [y]
        have c8 : (lg_cmp (e 108 11) (lJ (wzT 8 : Nat)) = iI 0) = False := by rw [cE 8 (by omega)]; exact eq_false (by omega)
        have c21 : (lg_cmp (e 108 11) (lJ (wzT 21 : Nat)) = iI 0) = False := by rw [cE 21 (by omega)]; exact eq_false (by omega)
        have c10 : (lg_cmp (e 108 11) (lJ (wzT 10 : Nat)) = iI 0) = False := by rw [cE 10 (by omega)]; exact eq_false (by omega)
        have c22 : (lg_cmp (e 108 11) (lJ (wzT 22 : Nat)) = iI 0) = True := by rw [cE 22 (by omega)]; exact eq_true (by omega)
        have c23 : (lg_cmp (e 108 11) (lJ (wzT 23 : Nat)) = iI 0) = False := by rw [cE 23 (by omega)]; exact eq_false (by omega)
        have c9 : (lg_cmp (e 108 11) (lJ (wzT 9 : Nat)) = iI 0) = False := by rw [cE 9 (by omega)]; exact eq_false (by omega)
        have c24 : (lg_cmp (e 108 11) (lJ (wzT 24 : Nat)) = iI 0) = False := by rw [cE 24 (by omega)]; exact eq_false (by omega)
        have c25 : (lg_cmp (e 108 11) (lJ (wzT 25 : Nat)) = iI 0) = False := by rw [cE 25 (by omega)]; exact eq_false (by omega)
        simp (config := {maxSteps := 4000000}) (disch := omega) only [nI_iI, lN_lJ, iI_0, lJ_0, iI_add, iI_sub, iI_mul, iI_neg, lJ_add, lJ_sub, lJ_mul, lJ_neg, i_l, l_i, iI_cl, iI_inb, iI_eqT, iI_eqF, iI_ltT, iI_ltF, iI_leT, iI_leF, lJ_eqT, lJ_eqF, lJ_cG, lJ_cE, lJ_cL, lJ_cF, lJ_cGE, lJ_cLE, lJ_cNL, lJ_cNG, Int.cast_ofNat_Int, c_0, c_1, Int.natCast_add, Int.add_zero, cond_true, cond_false, Bool.and_self, Bool.and_true, Bool.true_and, Option.bind_some, decide_true, uI_hit, uI_miss, uI_o, uA_o, uA_s, ↓reduceIte, eq_self, true_or, or_true, or_false, false_or, true_and, and_true, false_and, and_false, or_self, and_self, not_false_eq_true, not_true_eq_false, tn_i, h9, mw_8, mw_21, mw_10, mw_22, mw_23, mw_9, mw_24, mw_25, c8, c21, c10, c22, c23, c9, c24, c25]
      · rw [y]
        have c8 : (lg_cmp (e 108 11) (lJ (wzT 8 : Nat)) = iI 0) = False := by rw [cE 8 (by omega)]; exact eq_false (by omega)
        have c21 : (lg_cmp (e 108 11) (lJ (wzT 21 : Nat)) = iI 0) = False := by rw [cE 21 (by omega)]; exact eq_false (by omega)
        have c10 : (lg_cmp (e 108 11) (lJ (wzT 10 : Nat)) = iI 0) = False := by rw [cE 10 (by omega)]; exact eq_false (by omega)
        have c22 : (lg_cmp (e 108 11) (lJ (wzT 22 : Nat)) = iI 0) = False := by rw [cE 22 (by omega)]; exact eq_false (by omega)
        have c23 : (lg_cmp (e 108 11) (lJ (wzT 23 : Nat)) = iI 0) = True := by rw [cE 23 (by omega)]; exact eq_true (by omega)
        have c9 : (lg_cmp (e 108 11) (lJ (wzT 9 : Nat)) = iI 0) = False := by rw [cE 9 (by omega)]; exact eq_false (by omega)
        have c24 : (lg_cmp (e 108 11) (lJ (wzT 24 : Nat)) = iI 0) = False := by rw [cE 24 (by omega)]; exact eq_false (by omega)
        have c25 : (lg_cmp (e 108 11) (lJ (wzT 25 : Nat)) = iI 0) = False := by rw [cE 25 (by omega)]; exact eq_false (by omega)
        simp (config := {maxSteps := 4000000}) (disch := omega) only [nI_iI, lN_lJ, iI_0, lJ_0, iI_add, iI_sub, iI_mul, iI_neg, lJ_add, lJ_sub, lJ_mul, lJ_neg, i_l, l_i, iI_cl, iI_inb, iI_eqT, iI_eqF, iI_ltT, iI_ltF, iI_leT, iI_leF, lJ_eqT, lJ_eqF, lJ_cG, lJ_cE, lJ_cL, lJ_cF, lJ_cGE, lJ_cLE, lJ_cNL, lJ_cNG, Int.cast_ofNat_Int, c_0, c_1, Int.natCast_add, Int.add_zero, cond_true, cond_false, Bool.and_self, Bool.and_true, Bool.true_and, Option.bind_some, decide_true, uI_hit, uI_miss, uI_o, uA_o, uA_s, ↓reduceIte, eq_self, true_or, or_true, or_false, false_or, true_and, and_true, false_and, and_false, or_self, and_self, not_false_eq_true, not_true_eq_false, tn_i, h9, mw_8, mw_21, mw_10, mw_22, mw_23, mw_9, mw_24, mw_25, c8, c21, c10, c22, c23, c9, c24, c25]
      · rw [y]
        have c8 : (lg_cmp (e 108 11) (lJ (wzT 8 : Nat)) = iI 0) = False := by rw [cE 8 (by omega)]; exact eq_false (by omega)
        have c21 : (lg_cmp (e 108 11) (lJ (wzT 21 : Nat)) = iI 0) = False := by rw [cE 21 (by omega)]; exact eq_false (by omega)
        have c10 : (lg_cmp (e 108 11) (lJ (wzT 10 : Nat)) = iI 0) = False := by rw [cE 10 (by omega)]; exact eq_false (by omega)
        have c22 : (lg_cmp (e 108 11) (lJ (wzT 22 : Nat)) = iI 0) = False := by rw [cE 22 (by omega)]; exact eq_false (by omega)
        have c23 : (lg_cmp (e 108 11) (lJ (wzT 23 : Nat)) = iI 0) = False := by rw [cE 23 (by omega)]; exact eq_false (by omega)
        have c9 : (lg_cmp (e 108 11) (lJ (wzT 9 : Nat)) = iI 0) = True := by rw [cE 9 (by omega)]; exact eq_true (by omega)
        have c24 : (lg_cmp (e 108 11) (lJ (wzT 24 : Nat)) = iI 0) = False := by rw [cE 24 (by omega)]; exact eq_false (by omega)
        have c25 : (lg_cmp (e 108 11) (lJ (wzT 25 : Nat)) = iI 0) = False := by rw [cE 25 (by omega)]; exact eq_false (by omega)
        simp (config := {maxSteps := 4000000}) (disch := omega) only [nI_iI, lN_lJ, iI_0, lJ_0, iI_add, iI_sub, iI_mul, iI_neg, lJ_add, lJ_sub, lJ_mul, lJ_neg, i_l, l_i, iI_cl, iI_inb, iI_eqT, iI_eqF, iI_ltT, iI_ltF, iI_leT, iI_leF, lJ_eqT, lJ_eqF, lJ_cG, lJ_cE, lJ_cL, lJ_cF, lJ_cGE, lJ_cLE, lJ_cNL, lJ_cNG, Int.cast_ofNat_Int, c_0, c_1, Int.natCast_add, Int.add_zero, cond_true, cond_false, Bool.and_self, Bool.and_true, Bool.true_and, Option.bind_some, decide_true, uI_hit, uI_miss, uI_o, uA_o, uA_s, ↓reduceIte, eq_self, true_or, or_true, or_false, false_or, true_and, and_true, false_and, and_false, or_self, and_self, not_false_eq_true, not_true_eq_false, tn_i, h9, mw_8, mw_21, mw_10, mw_22, mw_23, mw_9, mw_24, mw_25, c8, c21, c10, c22, c23, c9, c24, c25]
      · rw [y]
        have c8 : (lg_cmp (e 108 11) (lJ (wzT 8 : Nat)) = iI 0) = False := by rw [cE 8 (by omega)]; exact eq_false (by omega)
        have c21 : (lg_cmp (e 108 11) (lJ (wzT 21 : Nat)) = iI 0) = False := by rw [cE 21 (by omega)]; exact eq_false (by omega)
        have c10 : (lg_cmp (e 108 11) (lJ (wzT 10 : Nat)) = iI 0) = False := by rw [cE 10 (by omega)]; exact eq_false (by omega)
        have c22 : (lg_cmp (e 108 11) (lJ (wzT 22 : Nat)) = iI 0) = False := by rw [cE 22 (by omega)]; exact eq_false (by omega)
        have c23 : (lg_cmp (e 108 11) (lJ (wzT 23 : Nat)) = iI 0) = False := by rw [cE 23 (by omega)]; exact eq_false (by omega)
        have c9 : (lg_cmp (e 108 11) (lJ (wzT 9 : Nat)) = iI 0) = False := by rw [cE 9 (by omega)]; exact eq_false (by omega)
        have c24 : (lg_cmp (e 108 11) (lJ (wzT 24 : Nat)) = iI 0) = True := by rw [cE 24 (by omega)]; exact eq_true (by omega)
        have c25 : (lg_cmp (e 108 11) (lJ (wzT 25 : Nat)) = iI 0) = False := by rw [cE 25 (by omega)]; exact eq_false (by omega)
        simp (config := {maxSteps := 4000000}) (disch := omega) only [nI_iI, lN_lJ, iI_0, lJ_0, iI_add, iI_sub, iI_mul, iI_neg, lJ_add, lJ_sub, lJ_mul, lJ_neg, i_l, l_i, iI_cl, iI_inb, iI_eqT, iI_eqF, iI_ltT, iI_ltF, iI_leT, iI_leF, lJ_eqT, lJ_eqF, lJ_cG, lJ_cE, lJ_cL, lJ_cF, lJ_cGE, lJ_cLE, lJ_cNL, lJ_cNG, Int.cast_ofNat_Int, c_0, c_1, Int.natCast_add, Int.add_zero, cond_true, cond_false, Bool.and_self, Bool.and_true, Bool.true_and, Option.bind_some, decide_true, uI_hit, uI_miss, uI_o, uA_o, uA_s, ↓reduceIte, eq_self, true_or, or_true, or_false, false_or, true_and, and_true, false_and, and_false, or_self, and_self, not_false_eq_true, not_true_eq_false, tn_i, h9, mw_8, mw_21, mw_10, mw_22, mw_23, mw_9, mw_24, mw_25, c8, c21, c10, c22, c23, c9, c24, c25]
      · rw [y]
        have c8 : (lg_cmp (e 108 11) (lJ (wzT 8 : Nat)) = iI 0) = False := by rw [cE 8 (by omega)]; exact eq_false (by omega)
        have c21 : (lg_cmp (e 108 11) (lJ (wzT 21 : Nat)) = iI 0) = False := by rw [cE 21 (by omega)]; exact eq_false (by omega)
        have c10 : (lg_cmp (e 108 11) (lJ (wzT 10 : Nat)) = iI 0) = False := by rw [cE 10 (by omega)]; exact eq_false (by omega)
        have c22 : (lg_cmp (e 108 11) (lJ (wzT 22 : Nat)) = iI 0) = False := by rw [cE 22 (by omega)]; exact eq_false (by omega)
        have c23 : (lg_cmp (e 108 11) (lJ (wzT 23 : Nat)) = iI 0) = False := by rw [cE 23 (by omega)]; exact eq_false (by omega)
        have c9 : (lg_cmp (e 108 11) (lJ (wzT 9 : Nat)) = iI 0) = False := by rw [cE 9 (by omega)]; exact eq_false (by omega)
        have c24 : (lg_cmp (e 108 11) (lJ (wzT 24 : Nat)) = iI 0) = False := by rw [cE 24 (by omega)]; exact eq_false (by omega)
        have c25 : (lg_cmp (e 108 11) (lJ (wzT 25 : Nat)) = iI 0) = True := by rw [cE 25 (by omega)]; exact eq_true (by omega)
        simp (config := {maxSteps := 4000000}) (disch := omega) only [nI_iI, lN_lJ, iI_0, lJ_0, iI_add, iI_sub, iI_mul, iI_neg, lJ_add, lJ_sub, lJ_mul, lJ_neg, i_l, l_i, iI_cl, iI_inb, iI_eqT, iI_eqF, iI_ltT, iI_ltF, iI_leT, iI_leF, lJ_eqT, lJ_eqF, lJ_cG, lJ_cE, lJ_cL, lJ_cF, lJ_cGE, lJ_cLE, lJ_cNL, lJ_cNG, Int.cast_ofNat_Int, c_0, c_1, Int.natCast_add, Int.add_zero, cond_true, cond_false, Bool.and_self, Bool.and_true, Bool.true_and, Option.bind_some, decide_true, uI_hit, uI_miss, uI_o, uA_o, uA_s, ↓reduceIte, eq_self, true_or, or_true, or_false, false_or, true_and, and_true, false_and, and_false, or_self, and_self, not_false_eq_true, not_true_eq_false, tn_i, h9, mw_8, mw_21, mw_10, mw_22, mw_23, mw_9, mw_24, mw_25, c8, c21, c10, c22, c23, c9, c24, c25]
    · rw [if_neg n8]
      have nn := nm_none n8
      have c8 : (lg_cmp (e 108 11) (lJ (wzT 8 : Nat)) = iI 0) = False := by rw [cE 8 (by omega)]; exact eq_false (by omega)
      have c21 : (lg_cmp (e 108 11) (lJ (wzT 21 : Nat)) = iI 0) = False := by rw [cE 21 (by omega)]; exact eq_false (by omega)
      have c10 : (lg_cmp (e 108 11) (lJ (wzT 10 : Nat)) = iI 0) = False := by rw [cE 10 (by omega)]; exact eq_false (by omega)
      have c22 : (lg_cmp (e 108 11) (lJ (wzT 22 : Nat)) = iI 0) = False := by rw [cE 22 (by omega)]; exact eq_false (by omega)
      have c23 : (lg_cmp (e 108 11) (lJ (wzT 23 : Nat)) = iI 0) = False := by rw [cE 23 (by omega)]; exact eq_false (by omega)
      have c9 : (lg_cmp (e 108 11) (lJ (wzT 9 : Nat)) = iI 0) = False := by rw [cE 9 (by omega)]; exact eq_false (by omega)
      have c24 : (lg_cmp (e 108 11) (lJ (wzT 24 : Nat)) = iI 0) = False := by rw [cE 24 (by omega)]; exact eq_false (by omega)
      have c25 : (lg_cmp (e 108 11) (lJ (wzT 25 : Nat)) = iI 0) = False := by rw [cE 25 (by omega)]; exact eq_false (by omega)
      simp (config := {maxSteps := 4000000}) (disch := omega) only [nI_iI, lN_lJ, iI_0, lJ_0, iI_add, iI_sub, iI_mul, iI_neg, lJ_add, lJ_sub, lJ_mul, lJ_neg, i_l, l_i, iI_cl, iI_inb, iI_eqT, iI_eqF, iI_ltT, iI_ltF, iI_leT, iI_leF, lJ_eqT, lJ_eqF, lJ_cG, lJ_cE, lJ_cL, lJ_cF, lJ_cGE, lJ_cLE, lJ_cNL, lJ_cNG, Int.cast_ofNat_Int, c_0, c_1, Int.natCast_add, Int.add_zero, cond_true, cond_false, Bool.and_self, Bool.and_true, Bool.true_and, Option.bind_some, decide_true, uI_hit, uI_miss, uI_o, uA_o, uA_s, ↓reduceIte, eq_self, true_or, or_true, or_false, false_or, true_and, and_true, false_and, and_false, or_self, and_self, not_false_eq_true, not_true_eq_false, tn_i, h9, mw_8, mw_21, mw_10, mw_22, mw_23, mw_9, mw_24, mw_25, c8, c21, c10, c22, c23, c9, c24, c25]
  · have n8 : ¬nmI (KT tp L t) < 8 := fun z => q (rk.2.2.2.2.2.1 (by have y := nm_cases z; omega))
    rw [if_neg n8]
    generalize RKT tp L t = r at *
    simp (disch := omega) only [nI_iI, lN_lJ, iI_0, lJ_0, iI_add, iI_sub, iI_mul, iI_neg, lJ_add, lJ_sub, lJ_mul, lJ_neg, i_l, l_i, iI_cl, iI_inb, iI_eqT, iI_eqF, iI_ltT, iI_ltF, iI_leT, iI_leF, lJ_eqT, lJ_eqF, lJ_cG, lJ_cE, lJ_cL, lJ_cF, lJ_cGE, lJ_cLE, lJ_cNL, lJ_cNG, Int.cast_ofNat_Int, c_0, c_1, Int.natCast_add, Int.add_zero, cond_true, cond_false, Bool.and_self, Bool.and_true, Bool.true_and, Option.bind_some, decide_true, uI_hit, uI_miss, uI_o, uA_o, uA_s, ↓reduceIte, eq_self, true_or, or_true, or_false, false_or, true_and, and_true, false_and, and_false, or_self, and_self, not_false_eq_true, not_true_eq_false, tn_i, h9]
theorem m_isOf {d : aI} {e : aJ} {s : Int} {k : Nat} (h : d 108 14 = iI s) (hs : s = 0 ∨ s = 1) (hk : k < 8) : FX11_isOf d e (iI (k : Nat)) = some (iI (if nmP s k then 1 else 0), d, e) := by
  unfold FX11_isOf
  by_cases q : nmP s k
  · rw [if_pos q]
    rcases q with q | ⟨q1, q2⟩ | ⟨q1, q2⟩
    · simp (disch := omega) only [nI_iI, lN_lJ, iI_0, lJ_0, iI_add, iI_sub, iI_mul, iI_neg, lJ_add, lJ_sub, lJ_mul, lJ_neg, i_l, l_i, iI_cl, iI_inb, iI_eqT, iI_eqF, iI_ltT, iI_ltF, iI_leT, iI_leF, lJ_eqT, lJ_eqF, lJ_cG, lJ_cE, lJ_cL, lJ_cF, lJ_cGE, lJ_cLE, lJ_cNL, lJ_cNG, Int.cast_ofNat_Int, c_0, c_1, Int.natCast_add, Int.add_zero, cond_true, cond_false, Bool.and_self, Bool.and_true, Bool.true_and, Option.bind_some, decide_true, uI_hit, uI_miss, uI_o, uA_o, uA_s, ↓reduceIte, eq_self, true_or, or_true, or_false, false_or, true_and, and_true, false_and, and_false, or_self, and_self, not_false_eq_true, not_true_eq_false, tn_i]
    · rw [q1] at h
      simp (disch := omega) only [nI_iI, lN_lJ, iI_0, lJ_0, iI_add, iI_sub, iI_mul, iI_neg, lJ_add, lJ_sub, lJ_mul, lJ_neg, i_l, l_i, iI_cl, iI_inb, iI_eqT, iI_eqF, iI_ltT, iI_ltF, iI_leT, iI_leF, lJ_eqT, lJ_eqF, lJ_cG, lJ_cE, lJ_cL, lJ_cF, lJ_cGE, lJ_cLE, lJ_cNL, lJ_cNG, Int.cast_ofNat_Int, c_0, c_1, Int.natCast_add, Int.add_zero, cond_true, cond_false, Bool.and_self, Bool.and_true, Bool.true_and, Option.bind_some, decide_true, uI_hit, uI_miss, uI_o, uA_o, uA_s, ↓reduceIte, eq_self, true_or, or_true, or_false, false_or, true_and, and_true, false_and, and_false, or_self, and_self, not_false_eq_true, not_true_eq_false, tn_i, h]
    · rw [q1] at h
      simp (disch := omega) only [nI_iI, lN_lJ, iI_0, lJ_0, iI_add, iI_sub, iI_mul, iI_neg, lJ_add, lJ_sub, lJ_mul, lJ_neg, i_l, l_i, iI_cl, iI_inb, iI_eqT, iI_eqF, iI_ltT, iI_ltF, iI_leT, iI_leF, lJ_eqT, lJ_eqF, lJ_cG, lJ_cE, lJ_cL, lJ_cF, lJ_cGE, lJ_cLE, lJ_cNL, lJ_cNG, Int.cast_ofNat_Int, c_0, c_1, Int.natCast_add, Int.add_zero, cond_true, cond_false, Bool.and_self, Bool.and_true, Bool.true_and, Option.bind_some, decide_true, uI_hit, uI_miss, uI_o, uA_o, uA_s, ↓reduceIte, eq_self, true_or, or_true, or_false, false_or, true_and, and_true, false_and, and_false, or_self, and_self, not_false_eq_true, not_true_eq_false, tn_i, h]
  · rw [if_neg q]
    have n1 : ¬k < 5 := fun z => q (Or.inl z)
    have n2 : s = 0 → ¬(k = 5 ∨ k = 6) := fun a z => q (Or.inr (Or.inl ⟨a, z⟩))
    have n3 : s = 1 → ¬k = 7 := fun a z => q (Or.inr (Or.inr ⟨a, z⟩))
    by_cases k7 : 7 ≤ k
    · have s0 : s = 0 := by
        rcases hs with hs | hs
        · exact hs
        · exact absurd (show k = 7 by omega) (n3 hs)
      rw [s0] at h
      simp (disch := omega) only [nI_iI, lN_lJ, iI_0, lJ_0, iI_add, iI_sub, iI_mul, iI_neg, lJ_add, lJ_sub, lJ_mul, lJ_neg, i_l, l_i, iI_cl, iI_inb, iI_eqT, iI_eqF, iI_ltT, iI_ltF, iI_leT, iI_leF, lJ_eqT, lJ_eqF, lJ_cG, lJ_cE, lJ_cL, lJ_cF, lJ_cGE, lJ_cLE, lJ_cNL, lJ_cNG, Int.cast_ofNat_Int, c_0, c_1, Int.natCast_add, Int.add_zero, cond_true, cond_false, Bool.and_self, Bool.and_true, Bool.true_and, Option.bind_some, decide_true, uI_hit, uI_miss, uI_o, uA_o, uA_s, ↓reduceIte, eq_self, true_or, or_true, or_false, false_or, true_and, and_true, false_and, and_false, or_self, and_self, not_false_eq_true, not_true_eq_false, tn_i, h]
    · have s1 : s = 1 := by
        rcases hs with hs | hs
        · exact absurd (show k = 5 ∨ k = 6 by omega) (n2 hs)
        · exact hs
      rw [s1] at h
      simp (disch := omega) only [nI_iI, lN_lJ, iI_0, lJ_0, iI_add, iI_sub, iI_mul, iI_neg, lJ_add, lJ_sub, lJ_mul, lJ_neg, i_l, l_i, iI_cl, iI_inb, iI_eqT, iI_eqF, iI_ltT, iI_ltF, iI_leT, iI_leF, lJ_eqT, lJ_eqF, lJ_cG, lJ_cE, lJ_cL, lJ_cF, lJ_cGE, lJ_cLE, lJ_cNL, lJ_cNG, Int.cast_ofNat_Int, c_0, c_1, Int.natCast_add, Int.add_zero, cond_true, cond_false, Bool.and_self, Bool.and_true, Bool.true_and, Option.bind_some, decide_true, uI_hit, uI_miss, uI_o, uA_o, uA_s, ↓reduceIte, eq_self, true_or, or_true, or_false, false_or, true_and, and_true, false_and, and_false, or_self, and_self, not_false_eq_true, not_true_eq_false, tn_i, h]
def rkO (o : Int) : Int := if o < 40 then (if o = 22 then 1 else if o = 21 then 2 else if o = 20 then 3 else if o < 10 then (if o = 5 then 7 else if o = 2 then 7 else if o = 4 then 7 else if o < 8 then 5 else 6) else 4) else 0
theorem m_rank {d : aI} {e : aJ} {o : Int} (h : 0 ≤ o ∧ o ≤ 44) : FX11_rank d e (iI o) = some (iI (rkO o), d, e) := by
  unfold FX11_rank rkO
  by_cases q1 : o < 40
  · rw [if_pos q1]
    by_cases q2 : o = 22
    · subst q2; rfl
    · rw [if_neg q2]
      by_cases q3 : o = 21
      · subst q3; rfl
      · rw [if_neg q3]
        by_cases q4 : o = 20
        · subst q4; rfl
        · rw [if_neg q4]
          by_cases q5 : o < 10
          · rw [if_pos q5]
            by_cases q6 : o = 5
            · subst q6; rfl
            · rw [if_neg q6]
              by_cases q7 : o = 2
              · subst q7; rfl
              · rw [if_neg q7]
                by_cases q8 : o = 4
                · subst q8; rfl
                · rw [if_neg q8]
                  by_cases q9 : o < 8
                  · rw [if_pos q9]; simp (disch := omega) only [nI_iI, lN_lJ, iI_0, lJ_0, iI_add, iI_sub, iI_mul, iI_neg, lJ_add, lJ_sub, lJ_mul, lJ_neg, i_l, l_i, iI_cl, iI_inb, iI_eqT, iI_eqF, iI_ltT, iI_ltF, iI_leT, iI_leF, lJ_eqT, lJ_eqF, lJ_cG, lJ_cE, lJ_cL, lJ_cF, lJ_cGE, lJ_cLE, lJ_cNL, lJ_cNG, Int.cast_ofNat_Int, c_0, c_1, Int.natCast_add, Int.add_zero, cond_true, cond_false, Bool.and_self, Bool.and_true, Bool.true_and, Option.bind_some, decide_true, uI_hit, uI_miss, uI_o, uA_o, uA_s, ↓reduceIte, eq_self, true_or, or_true, or_false, false_or, true_and, and_true, false_and, and_false, or_self, and_self, not_false_eq_true, not_true_eq_false, tn_i]
                  · rw [if_neg q9]; simp (disch := omega) only [nI_iI, lN_lJ, iI_0, lJ_0, iI_add, iI_sub, iI_mul, iI_neg, lJ_add, lJ_sub, lJ_mul, lJ_neg, i_l, l_i, iI_cl, iI_inb, iI_eqT, iI_eqF, iI_ltT, iI_ltF, iI_leT, iI_leF, lJ_eqT, lJ_eqF, lJ_cG, lJ_cE, lJ_cL, lJ_cF, lJ_cGE, lJ_cLE, lJ_cNL, lJ_cNG, Int.cast_ofNat_Int, c_0, c_1, Int.natCast_add, Int.add_zero, cond_true, cond_false, Bool.and_self, Bool.and_true, Bool.true_and, Option.bind_some, decide_true, uI_hit, uI_miss, uI_o, uA_o, uA_s, ↓reduceIte, eq_self, true_or, or_true, or_false, false_or, true_and, and_true, false_and, and_false, or_self, and_self, not_false_eq_true, not_true_eq_false, tn_i]
          · rw [if_neg q5]; simp (disch := omega) only [nI_iI, lN_lJ, iI_0, lJ_0, iI_add, iI_sub, iI_mul, iI_neg, lJ_add, lJ_sub, lJ_mul, lJ_neg, i_l, l_i, iI_cl, iI_inb, iI_eqT, iI_eqF, iI_ltT, iI_ltF, iI_leT, iI_leF, lJ_eqT, lJ_eqF, lJ_cG, lJ_cE, lJ_cL, lJ_cF, lJ_cGE, lJ_cLE, lJ_cNL, lJ_cNG, Int.cast_ofNat_Int, c_0, c_1, Int.natCast_add, Int.add_zero, cond_true, cond_false, Bool.and_self, Bool.and_true, Bool.true_and, Option.bind_some, decide_true, uI_hit, uI_miss, uI_o, uA_o, uA_s, ↓reduceIte, eq_self, true_or, or_true, or_false, false_or, true_and, and_true, false_and, and_false, or_self, and_self, not_false_eq_true, not_true_eq_false, tn_i]
  · rw [if_neg q1]; simp (disch := omega) only [nI_iI, lN_lJ, iI_0, lJ_0, iI_add, iI_sub, iI_mul, iI_neg, lJ_add, lJ_sub, lJ_mul, lJ_neg, i_l, l_i, iI_cl, iI_inb, iI_eqT, iI_eqF, iI_ltT, iI_ltF, iI_leT, iI_leF, lJ_eqT, lJ_eqF, lJ_cG, lJ_cE, lJ_cL, lJ_cF, lJ_cGE, lJ_cLE, lJ_cNL, lJ_cNG, Int.cast_ofNat_Int, c_0, c_1, Int.natCast_add, Int.add_zero, cond_true, cond_false, Bool.and_self, Bool.and_true, Bool.true_and, Option.bind_some, decide_true, uI_hit, uI_miss, uI_o, uA_o, uA_s, ↓reduceIte, eq_self, true_or, or_true, or_false, false_or, true_and, and_true, false_and, and_false, or_self, and_self, not_false_eq_true, not_true_eq_false, tn_i]
theorem rkO_in (o : Int) : 0 ≤ rkO o ∧ rkO o ≤ 7 := by
  unfold rkO
  repeat' split
  all_goals omega
