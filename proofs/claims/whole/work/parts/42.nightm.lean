/-! ===== what is done in a night: reference ===== -/
def Kr (d d' : aI) : Prop := (∀ k, k < 113 ∨ k = 117 → k ≠ 108 → k ≠ 109 → d' k = d k) ∧ ∀ j, j = 4 ∨ j = 5 ∨ j = 6 ∨ j = 23 → d' 108 j = d 108 j
theorem Kr.refl (d : aI) : Kr d d := ⟨fun _ _ _ _ => rfl, fun _ _ => rfl⟩
theorem Kr.trans {d d1 d2 : aI} (h : Kr d d1) (h2 : Kr d1 d2) : Kr d d2 := ⟨fun k a b c => (h2.1 k a b c).trans (h.1 k a b c), fun j a => (h2.2 j a).trans (h.2 j a)⟩
theorem Kr.put {d d1 : aI} {j : Nat} {x : Int32} (h : Kr d d1) : Kr d (uI d1 109 j x) := ⟨fun k a b c => by rw [uI_o c]; exact h.1 k a b c, fun i a => by rw [uI_o (by omega)]; exact h.2 i a⟩
theorem Kr.only {d d' : aI} (h : ∀ k, k ≠ 109 → d' k = d k) : Kr d d' := ⟨fun k _ _ c => h k c, fun j _ => by rw [h 108 (by omega)]⟩
theorem Kr.fm {d d' : aI} (h : Kr d d') : Fm d d' := fun k a => h.1 k (by omega) (by omega) (by omega)
theorem Km.kr {d d' : aI} (h : Km d d') : Kr d d' := ⟨fun k a b _ => h.1 k a b, h.2⟩
/-- cells copied one by one -/
def cpS (A : Int → Int) (dst src n : Int) : Int → Int := fun j => if dst ≤ j ∧ j < dst + n then A (src + (j - dst)) else A j
theorem cpS_out {A : Int → Int} {dst src n j : Int} (h : j < dst ∨ dst + n ≤ j) : cpS A dst src n j = A j := by
  unfold cpS
  rw [if_neg (by omega)]
theorem cpS_in {A : Int → Int} {dst src n j : Int} (h : dst ≤ j ∧ j < dst + n) : cpS A dst src n j = A (src + (j - dst)) := by
  unfold cpS
  rw [if_pos h]
theorem run_cp {st : aP → Option aP} {d : aI} {A : Int → Int} {dst src : Int} (T : Nat → aI → aP) (n : Nat) (hA : MA d 109 A) (hr : 0 ≤ dst ∧ dst + n ≤ 1961 ∧ 0 ≤ src ∧ src + n ≤ 1961 ∧ (dst ≤ src ∨ src + n ≤ dst)) (hp : ∀ k d', Nat.beq (T k d').1 100000 = false)
    (hs : ∀ (k : Nat) (d' : aI), k < n → MA d' 109 (cpS A dst src k) → (∀ o, o ≠ 109 → d' o = d o) → st (T k d') = some (T (k + 1) (uI d' 109 (dst + k).toNat (d' 109 (src + k).toNat)))) : ∃ d', MA d' 109 (cpS A dst src n) ∧ (∀ o, o ≠ 109 → d' o = d o) ∧ a_run st (T 0 d) = a_run st (T n d') := by
  have key : ∀ m : Nat, m ≤ n → ∃ d', MA d' 109 (cpS A dst src m) ∧ (∀ o, o ≠ 109 → d' o = d o) ∧ a_run st (T 0 d) = a_run st (T m d') := by
    intro m
    induction m with
    | zero => intro _; exact ⟨d, hA.ext (fun j _ _ => by unfold cpS; rw [if_neg (by omega)]), fun _ _ => rfl, rfl⟩
    | succ m ih =>
      intro hm
      obtain ⟨d1, a1, b1, c1⟩ := ih (by omega)
      have h1 := hs m d1 (by omega) a1 b1
      refine ⟨_, ?_, fun o ho => ?_, c1.trans (a_run_step h1 (hp _ _))⟩
      · have e1 : d1 109 (src + m).toNat = iI (A (src + m)) := by
          rw [a1 (src + m).toNat (by omega), tn_i (by omega)]
          unfold cpS
          rw [if_neg (by omega)]
        rw [e1]
        refine (a1.put (k := (dst + m).toNat) (k' := dst + m) (v := A (src + m)) (by omega)).ext (fun j j0 j1 => ?_)
        by_cases h2 : j = dst + m
        · rw [aU_hit h2, cpS_in (by omega), h2, show dst + (m : Int) - dst = m by omega]
        · rw [aU_miss h2]
          by_cases h3 : dst ≤ j ∧ j < dst + m
          · rw [cpS_in h3, cpS_in (by omega)]
          · rw [cpS_out (by omega), cpS_out (by omega)]
      · rw [uI_o ho]
        exact b1 o ho
  exact key n (Nat.le_refl _)
theorem mq_lay {d : aI} {e : aJ} {c w v : Int} (h : 0 ≤ c ∧ c < 1000 ∧ 0 ≤ w ∧ w ≤ 2 ∧ 12 + 3 * c + w < 1961) : FX11_lay d e (iI c) (iI w) (iI v) = some ((), uI d 109 (12 + 3 * c + w).toNat (iI v), e) := by
  unfold FX11_lay
  simp (disch := omega) only [nI_iI, lN_lJ, iI_0, lJ_0, iI_add, iI_sub, iI_mul, iI_neg, lJ_add, lJ_sub, lJ_mul, lJ_neg, i_l, l_i, iI_cl, iI_inb, iI_eqT, iI_eqF, iI_ltT, iI_ltF, iI_leT, iI_leF, lJ_eqT, lJ_eqF, lJ_cG, lJ_cE, lJ_cL, lJ_cF, lJ_cGE, lJ_cLE, lJ_cNL, lJ_cNG, Int.cast_ofNat_Int, c_0, c_1, Int.natCast_add, Int.add_zero, cond_true, cond_false, Bool.and_self, Bool.and_true, Bool.true_and, Option.bind_some, decide_true, uI_hit, uI_miss, uI_o, uA_o, uA_s, ↓reduceIte, eq_self, true_or, or_true, or_false, false_or, true_and, and_true, false_and, and_false, or_self, and_self, not_false_eq_true, not_true_eq_false, tn_i]
theorem mq_layOf {d : aI} {e : aJ} {c w v : Int} (h : 0 ≤ c ∧ c < 900 ∧ 0 ≤ w ∧ w ≤ 2 ∧ 30 + 2 * c + w < 1961) : FX11_layOf d e (iI c) (iI w) (iI v) = some ((), uI d 109 (30 + 2 * c + w).toNat (iI v), e) := by
  unfold FX11_layOf
  simp (disch := omega) only [nI_iI, lN_lJ, iI_0, lJ_0, iI_add, iI_sub, iI_mul, iI_neg, lJ_add, lJ_sub, lJ_mul, lJ_neg, i_l, l_i, iI_cl, iI_inb, iI_eqT, iI_eqF, iI_ltT, iI_ltF, iI_leT, iI_leF, lJ_eqT, lJ_eqF, lJ_cG, lJ_cE, lJ_cL, lJ_cF, lJ_cGE, lJ_cLE, lJ_cNL, lJ_cNG, Int.cast_ofNat_Int, c_0, c_1, Int.natCast_add, Int.add_zero, cond_true, cond_false, Bool.and_self, Bool.and_true, Bool.true_and, Option.bind_some, decide_true, uI_hit, uI_miss, uI_o, uA_o, uA_s, ↓reduceIte, eq_self, true_or, or_true, or_false, false_or, true_and, and_true, false_and, and_false, or_self, and_self, not_false_eq_true, not_true_eq_false, tn_i]
theorem mq_held {d : aI} {e : aJ} {v lo hi : Int} (h : -1000000000 ≤ lo ∧ lo ≤ hi ∧ hi ≤ 1000000000 ∧ -9000000000000000000 ≤ v ∧ v < 9000000000000000000) : FX11_held d e (lJ v) (iI lo) (iI hi) = some (iI (if v < lo then lo else if hi < v then hi else v), d, e) := by
  by_cases h1 : v < lo
  · rw [if_pos h1]
    unfold FX11_held
    simp (disch := omega) only [nI_iI, lN_lJ, iI_0, lJ_0, iI_add, iI_sub, iI_mul, iI_neg, lJ_add, lJ_sub, lJ_mul, lJ_neg, i_l, l_i, iI_cl, iI_inb, iI_eqT, iI_eqF, iI_ltT, iI_ltF, iI_leT, iI_leF, lJ_eqT, lJ_eqF, lJ_cG, lJ_cE, lJ_cL, lJ_cF, lJ_cGE, lJ_cLE, lJ_cNL, lJ_cNG, Int.cast_ofNat_Int, c_0, c_1, Int.natCast_add, Int.add_zero, cond_true, cond_false, Bool.and_self, Bool.and_true, Bool.true_and, Option.bind_some, decide_true, uI_hit, uI_miss, uI_o, uA_o, uA_s, ↓reduceIte, eq_self, true_or, or_true, or_false, false_or, true_and, and_true, false_and, and_false, or_self, and_self, not_false_eq_true, not_true_eq_false, tn_i]
  · rw [if_neg h1]
    by_cases h2 : hi < v
    · rw [if_pos h2]
      unfold FX11_held
      simp (disch := omega) only [nI_iI, lN_lJ, iI_0, lJ_0, iI_add, iI_sub, iI_mul, iI_neg, lJ_add, lJ_sub, lJ_mul, lJ_neg, i_l, l_i, iI_cl, iI_inb, iI_eqT, iI_eqF, iI_ltT, iI_ltF, iI_leT, iI_leF, lJ_eqT, lJ_eqF, lJ_cG, lJ_cE, lJ_cL, lJ_cF, lJ_cGE, lJ_cLE, lJ_cNL, lJ_cNG, Int.cast_ofNat_Int, c_0, c_1, Int.natCast_add, Int.add_zero, cond_true, cond_false, Bool.and_self, Bool.and_true, Bool.true_and, Option.bind_some, decide_true, uI_hit, uI_miss, uI_o, uA_o, uA_s, ↓reduceIte, eq_self, true_or, or_true, or_false, false_or, true_and, and_true, false_and, and_false, or_self, and_self, not_false_eq_true, not_true_eq_false, tn_i]
    · rw [if_neg h2]
      unfold FX11_held
      simp (disch := omega) only [nI_iI, lN_lJ, iI_0, lJ_0, iI_add, iI_sub, iI_mul, iI_neg, lJ_add, lJ_sub, lJ_mul, lJ_neg, i_l, l_i, iI_cl, iI_inb, iI_eqT, iI_eqF, iI_ltT, iI_ltF, iI_leT, iI_leF, lJ_eqT, lJ_eqF, lJ_cG, lJ_cE, lJ_cL, lJ_cF, lJ_cGE, lJ_cLE, lJ_cNL, lJ_cNG, Int.cast_ofNat_Int, c_0, c_1, Int.natCast_add, Int.add_zero, cond_true, cond_false, Bool.and_self, Bool.and_true, Bool.true_and, Option.bind_some, decide_true, uI_hit, uI_miss, uI_o, uA_o, uA_s, ↓reduceIte, eq_self, true_or, or_true, or_false, false_or, true_and, and_true, false_and, and_false, or_self, and_self, not_false_eq_true, not_true_eq_false, tn_i]
theorem mq_write {d : aI} {e : aJ} {A : Int → Int} (hA : MA d 109 A) (hW : WN A) {c h w : Int} (hr2 : 0 ≤ c ∧ c < 6 ∧ 0 ≤ h ∧ h < 6 ∧ 0 ≤ w ∧ w < 3) (hi : d 108 23 = iI 1) : ∃ d', FX11_write d e (iI c) (iI h) (iI w) = some ((), d', e) ∧ MA d' 109 (noteS A c h w) ∧ (∀ o, o ≠ 109 → d' o = d o) := by
  have hr : ∀ j : Nat, j < 1961 → d 109 j = iI (A j) := hA
  have r0 : d 109 0 = iI (A 0) := hr 0 (by omega)
  have r1 : d 109 1 = iI (A 1) := hr 1 (by omega)
  obtain ⟨w0, w1, w9, w10, w11, wc, wh, wb⟩ := hW
  have r11 : d 109 11 = iI (A 11) := hr 11 (by omega)
  have r9 : d 109 9 = iI (A 9) := hr 9 (by omega)
  have hl : ((A 9 * 6 + c) * 6 + h) * 3 + w = lineS A c h w := rfl
  unfold FX11_write
  by_cases h1 : A 11 = 25
  · have r11' : d 109 11 = iI 25 := by rw [r11, h1]
    rw [a_run_step (st := stX11_write) (p := (0, [some (.ref 108), some (.int (iI c)), some (.int (iI h)), some (.int (iI w)), none], d, e)) (p2 := (23, [some (.ref 108), some (.int (iI c)), some (.int (iI h)), some (.int (iI w)), some (.int (iI (1 + (0 : Nat))))], d, e)) (by
      show sX11_write_0 d e _ _ _ = _
      unfold sX11_write_0
      simp (disch := omega) only [nI_iI, lN_lJ, iI_0, lJ_0, iI_add, iI_sub, iI_mul, iI_neg, lJ_add, lJ_sub, lJ_mul, lJ_neg, i_l, l_i, iI_cl, iI_inb, iI_eqT, iI_eqF, iI_ltT, iI_ltF, iI_leT, iI_leF, lJ_eqT, lJ_eqF, lJ_cG, lJ_cE, lJ_cL, lJ_cF, lJ_cGE, lJ_cLE, lJ_cNL, lJ_cNG, Int.cast_ofNat_Int, c_0, c_1, Int.natCast_add, Int.add_zero, cond_true, cond_false, Bool.and_self, Bool.and_true, Bool.true_and, Option.bind_some, decide_true, uI_hit, uI_miss, uI_o, uA_o, uA_s, ↓reduceIte, eq_self, true_or, or_true, or_false, false_or, true_and, and_true, false_and, and_false, or_self, and_self, not_false_eq_true, not_true_eq_false, tn_i, hi, r11']) rfl]
    obtain ⟨d1, a1, b1, c1⟩ := run_cp (st := stX11_write) (d := d) (A := A) (dst := 1936) (src := 1937) (fun k d' => (23, [some (.ref 108), some (.int (iI c)), some (.int (iI h)), some (.int (iI w)), some (.int (iI (1 + (k : Nat))))], d', e)) 24 hA (by omega) (fun _ _ => rfl) (fun k d' hk ha hb => by
      show sX11_write_23 d' e _ _ _ _ = _
      unfold sX11_write_23
      rw [show (1936 : Int) + (k : Int) = 1936 + (1 + k) - 1 by omega, show (1937 : Int) + (k : Int) = 1936 + (1 + k) by omega]
      simp (disch := omega) only [nI_iI, lN_lJ, iI_0, lJ_0, iI_add, iI_sub, iI_mul, iI_neg, lJ_add, lJ_sub, lJ_mul, lJ_neg, i_l, l_i, iI_cl, iI_inb, iI_eqT, iI_eqF, iI_ltT, iI_ltF, iI_leT, iI_leF, lJ_eqT, lJ_eqF, lJ_cG, lJ_cE, lJ_cL, lJ_cF, lJ_cGE, lJ_cLE, lJ_cNL, lJ_cNG, Int.cast_ofNat_Int, c_0, c_1, Int.natCast_add, Int.add_zero, cond_true, cond_false, Bool.and_self, Bool.and_true, Bool.true_and, Option.bind_some, decide_true, uI_hit, uI_miss, uI_o, uA_o, uA_s, ↓reduceIte, eq_self, true_or, or_true, or_false, false_or, true_and, and_true, false_and, and_false, or_self, and_self, not_false_eq_true, not_true_eq_false, tn_i, Int.add_assoc])
    rw [c1]
    have s11 : d1 109 11 = iI 25 := by
      rw [a1 11 (by omega)]
      unfold cpS
      rw [if_neg (by omega)]
      exact congrArg iI h1
    have s9 : d1 109 9 = iI (A 9) := by
      rw [a1 9 (by omega)]
      unfold cpS
      rw [if_neg (by omega)]
      rfl
    rw [a_run_step (st := stX11_write) (p2 := (100000, [], uI (uI (uI d1 109 11 (iI (25 - 1))) 109 (1936 + (25 - 1) : Int).toNat (iI (lineS A c h w))) 109 11 (iI (25 - 1 + 1)), e)) (by
      show sX11_write_23 d1 e _ _ _ _ = _
      unfold sX11_write_23
      simp (disch := omega) only [nI_iI, lN_lJ, iI_0, lJ_0, iI_add, iI_sub, iI_mul, iI_neg, lJ_add, lJ_sub, lJ_mul, lJ_neg, i_l, l_i, iI_cl, iI_inb, iI_eqT, iI_eqF, iI_ltT, iI_ltF, iI_leT, iI_leF, lJ_eqT, lJ_eqF, lJ_cG, lJ_cE, lJ_cL, lJ_cF, lJ_cGE, lJ_cLE, lJ_cNL, lJ_cNG, Int.cast_ofNat_Int, c_0, c_1, Int.natCast_add, Int.add_zero, cond_true, cond_false, Bool.and_self, Bool.and_true, Bool.true_and, Option.bind_some, decide_true, uI_hit, uI_miss, uI_o, uA_o, uA_s, ↓reduceIte, eq_self, true_or, or_true, or_false, false_or, true_and, and_true, false_and, and_false, or_self, and_self, not_false_eq_true, not_true_eq_false, tn_i, s11, s9, hl]) rfl, a_run_end]
    refine ⟨_, rfl, ?_, fun o ho => by rw [uI_o ho, uI_o ho, uI_o ho]; exact b1 o ho⟩
    refine (((a1.put (k := 11) (k' := 11) rfl).put (k := (1936 + (25 - 1) : Int).toNat) (k' := 1960) rfl).put (k := 11) (k' := 11) rfl).ext (fun j j0 j1 => ?_)
    unfold noteS
    rw [if_pos h1]
    by_cases h2 : j = 11
    · subst h2
      rw [if_neg (by omega), if_neg (by omega), aU_hit rfl]
      exact h1
    · by_cases h3 : j = 1960
      · rw [if_neg (by omega), if_pos h3, aU_miss h2, aU_hit h3]
      · rw [aU_miss h2, aU_miss h3, aU_miss h2, if_neg h3]
        unfold cpS
        by_cases h4 : 1936 ≤ j ∧ j < 1960
        · rw [if_pos h4, if_pos (by omega), show (1937 : Int) + (j - 1936) = j + 1 by omega]
        · rw [if_neg h4, if_neg (by omega)]
  · rw [a_run_step (st := stX11_write) (p := (0, [some (.ref 108), some (.int (iI c)), some (.int (iI h)), some (.int (iI w)), none], d, e)) (p2 := (100000, [], uI (uI d 109 (1936 + A 11).toNat (iI (lineS A c h w))) 109 11 (iI (A 11 + 1)), e)) (by
      show sX11_write_0 d e _ _ _ = _
      unfold sX11_write_0
      simp (disch := omega) only [nI_iI, lN_lJ, iI_0, lJ_0, iI_add, iI_sub, iI_mul, iI_neg, lJ_add, lJ_sub, lJ_mul, lJ_neg, i_l, l_i, iI_cl, iI_inb, iI_eqT, iI_eqF, iI_ltT, iI_ltF, iI_leT, iI_leF, lJ_eqT, lJ_eqF, lJ_cG, lJ_cE, lJ_cL, lJ_cF, lJ_cGE, lJ_cLE, lJ_cNL, lJ_cNG, Int.cast_ofNat_Int, c_0, c_1, Int.natCast_add, Int.add_zero, cond_true, cond_false, Bool.and_self, Bool.and_true, Bool.true_and, Option.bind_some, decide_true, uI_hit, uI_miss, uI_o, uA_o, uA_s, ↓reduceIte, eq_self, true_or, or_true, or_false, false_or, true_and, and_true, false_and, and_false, or_self, and_self, not_false_eq_true, not_true_eq_false, tn_i, hi, r11, r9, hl]) rfl, a_run_end]
    refine ⟨_, rfl, ?_, fun o ho => by rw [uI_o ho, uI_o ho]⟩
    refine ((hA.put (k := (1936 + A 11).toNat) (k' := 1936 + A 11) (by omega)).put (k := 11) (k' := 11) rfl).ext (fun j j0 j1 => ?_)
    unfold noteS
    rw [if_neg h1]
    by_cases h2 : j = 11
    · rw [if_neg (by omega), if_pos h2, aU_hit h2]
    · by_cases h3 : j = 1936 + A 11
      · rw [if_pos h3, aU_miss h2, aU_hit h3]
      · rw [if_neg h3, if_neg h2, aU_miss h2, aU_miss h3]
theorem mq_write0 {d : aI} {e : aJ} {c h w : Int32} (hi : d 108 23 = iI 0) : FX11_write d e c h w = some ((), d, e) := by
  unfold FX11_write
  rw [a_run_step (st := stX11_write) (p := (0, [some (.ref 108), some (.int c), some (.int h), some (.int w), none], d, e)) (p2 := (100000, [], d, e)) (by
    show sX11_write_0 d e _ _ _ = _
    unfold sX11_write_0
    simp (disch := omega) only [nI_iI, lN_lJ, iI_0, lJ_0, iI_add, iI_sub, iI_mul, iI_neg, lJ_add, lJ_sub, lJ_mul, lJ_neg, i_l, l_i, iI_cl, iI_inb, iI_eqT, iI_eqF, iI_ltT, iI_ltF, iI_leT, iI_leF, lJ_eqT, lJ_eqF, lJ_cG, lJ_cE, lJ_cL, lJ_cF, lJ_cGE, lJ_cLE, lJ_cNL, lJ_cNG, Int.cast_ofNat_Int, c_0, c_1, Int.natCast_add, Int.add_zero, cond_true, cond_false, Bool.and_self, Bool.and_true, Bool.true_and, Option.bind_some, decide_true, uI_hit, uI_miss, uI_o, uA_o, uA_s, ↓reduceIte, eq_self, true_or, or_true, or_false, false_or, true_and, and_true, false_and, and_false, or_self, and_self, not_false_eq_true, not_true_eq_false, tn_i, hi]) rfl, a_run_end]
  rfl
theorem mq_letNow {d : aI} {e : aJ} {A : Int → Int} (hA : MA d 109 A) (hW : WN A) {c h : Int} (hc : 0 ≤ c ∧ c < A 1) (hh : 0 ≤ h ∧ h < A 0) (hp : A (12 + 3 * c) = A (42 + h)) (hi : d 108 23 = iI 1) : ∃ d', FX11_letNow d e (iI c) (iI h) = some ((), d', e) ∧ MA d' 109 (enterS A c h) ∧ (∀ o, o ≠ 109 → d' o = d o) := by
  have hw := hW
  have hr : ∀ j : Nat, j < 1961 → d 109 j = iI (A j) := hA
  have r0 : d 109 0 = iI (A 0) := hr 0 (by omega)
  have r1 : d 109 1 = iI (A 1) := hr 1 (by omega)
  obtain ⟨w0, w1, w9, w10, w11, wc, wh, wb⟩ := hW
  have wcc := wc c hc.1 hc.2
  have whh := wh h hh.1 hh.2
  have a1 : MA (uI d 109 (12 + 3 * c + 1).toNat (iI h)) 109 (aU A (12 + 3 * c + 1) h) := hA.put (by omega)
  have hheld : ∀ d' : aI, FX11_held d' e (lJ (A (30 + 2 * h + 1) + 1)) (iI 0) (iI 999) = some (iI (if A (30 + 2 * h + 1) < 999 then A (30 + 2 * h + 1) + 1 else 999), d', e) := by
    intro d'
    rw [mq_held (by omega)]
    congr 3
    by_cases h3 : A (30 + 2 * h + 1) < 999
    · rw [if_neg (by omega), if_neg (by omega), if_pos h3]
    · rw [if_neg (by omega), if_neg h3]
      split <;> omega
  have a2 := a1.put (k := (30 + 2 * h + 1).toNat) (k' := 30 + 2 * h + 1) (v := if A (30 + 2 * h + 1) < 999 then A (30 + 2 * h + 1) + 1 else 999) (by omega)
  have kw : WN (aU (aU A (12 + 3 * c + 1) h) (30 + 2 * h + 1) (if A (30 + 2 * h + 1) < 999 then A (30 + 2 * h + 1) + 1 else 999)) := by
    have s1 : WN (aU A (12 + 3 * c + 1) h) := hw.cat hc (fun j a b x => aU_miss b) (by rw [aU_miss (by omega)]; exact wcc.1) (by rw [aU_hit rfl]; omega) (by rw [aU_miss (by omega)]; exact wcc.2.2.1) (fun _ => by rw [aU_hit rfl, aU_miss (by omega)]; exact hp.symm)
    refine s1.hous (h := h) (by rw [aU_miss (by omega)]; exact hh) (fun j a b => aU_miss b) (by rw [aU_miss (by omega), aU_miss (by omega)]; exact whh.1) (by rw [aU_hit rfl]; split <;> omega)
  obtain ⟨d', r1, r2, r3⟩ := mq_write (e := e) a2 kw (c := c) (h := h) (w := 0) (by omega) (by rw [uI_o (by omega), uI_o (by omega)]; exact hi)
  refine ⟨d', ?_, r2, fun o ho => by rw [r3 o ho, uI_o ho, uI_o ho]⟩
  have e1 : aU A (12 + 3 * c + 1) h (30 + 2 * h + 1) = A (30 + 2 * h + 1) := aU_miss (by omega)
  have g1 := mq_getOf (e := e) a1 (c := h) (w := 1) (by omega)
  rw [e1] at g1
  unfold FX11_letNow
  simp (disch := omega) only [nI_iI, Int.cast_ofNat_Int, c_0, c_1, mq_lay, mq_layOf, g1, iI_add, i_l, hheld, r1, Option.bind_some]
def outW (b : Bool) (A : Int → Int) (c w : Int) : Int → Int := if b then outS A c w else aU (aU A (12 + 3 * c) (A (42 + A (12 + 3 * c + 1)))) (12 + 3 * c + 1) (-1)
theorem mq_outNow {d : aI} {e : aJ} {A : Int → Int} (hA : MA d 109 A) (hW : WN A) {c w : Int} {b : Bool} (hc : 0 ≤ c ∧ c < A 1) (hi2 : 0 ≤ A (12 + 3 * c + 1)) (hw2 : 0 ≤ w ∧ w < 3) (hi : d 108 23 = iI (tv b)) : ∃ d', FX11_outNow d e (iI c) (iI w) = some ((), d', e) ∧ MA d' 109 (outW b A c w) ∧ (∀ o, o ≠ 109 → d' o = d o) := by
  have hw := hW
  have hr : ∀ j : Nat, j < 1961 → d 109 j = iI (A j) := hA
  have r0 : d 109 0 = iI (A 0) := hr 0 (by omega)
  have r1 : d 109 1 = iI (A 1) := hr 1 (by omega)
  obtain ⟨w0, w1, w9, w10, w11, wc, wh, wb⟩ := hW
  have wcc := wc c hc.1 hc.2
  have whh := wh _ hi2 wcc.2.1.2
  have r2 : d 109 (42 + A (12 + 3 * c + 1)).toNat = iI (A (42 + A (12 + 3 * c + 1))) := by
    have := hA (42 + A (12 + 3 * c + 1)).toNat (by omega)
    rw [tn_i (by omega)] at this
    exact this
  have a1 := hA.put (k := (12 + 3 * c + 0).toNat) (k' := 12 + 3 * c) (v := A (42 + A (12 + 3 * c + 1))) (by omega)
  have a2 := a1.put (k := (12 + 3 * c + 1).toNat) (k' := 12 + 3 * c + 1) (v := -1) (by omega)
  have kw : WN (aU (aU A (12 + 3 * c) (A (42 + A (12 + 3 * c + 1)))) (12 + 3 * c + 1) (-1)) := by
    refine hw.cat hc (fun j a b x => by rw [aU_miss b, aU_miss a]) (by rw [aU_miss (by omega), aU_hit rfl]; exact whh.2.2.1) (by rw [aU_hit rfl]; omega) (by rw [aU_miss (by omega), aU_miss (by omega)]; exact wcc.2.2.1) (fun q => by rw [aU_hit rfl] at q; omega)
  unfold FX11_outNow
  cases b
  · have hi' : uI (uI d 109 (12 + 3 * c + 0).toNat (iI (A (42 + A (12 + 3 * c + 1))))) 109 (12 + 3 * c + 1).toNat (iI (-1)) 108 23 = iI 0 := by rw [uI_o (by omega), uI_o (by omega)]; exact hi
    refine ⟨_, ?_, a2, fun o ho => by rw [uI_o ho, uI_o ho]⟩
    simp (disch := omega) only [nI_iI, Int.cast_ofNat_Int, c_0, c_1, iI_neg, iI_add, iI_inb, iI_cl, cond_true, mq_lay, mq_get hA, r2, mq_write0 hi', Option.bind_some]
  · obtain ⟨d', q1, q2, q3⟩ := mq_write (e := e) a2 kw (c := c) (h := A (12 + 3 * c + 1)) (w := w) (by omega) (by rw [uI_o (by omega), uI_o (by omega)]; exact hi)
    refine ⟨d', ?_, q2, fun o ho => by rw [q3 o ho, uI_o ho, uI_o ho]⟩
    simp (disch := omega) only [nI_iI, Int.cast_ofNat_Int, c_0, c_1, iI_neg, iI_add, iI_inb, iI_cl, cond_true, mq_lay, mq_get hA, r2, q1, Option.bind_some]
theorem mq_goNow {d : aI} {e : aJ} {A : Int → Int} (hA : MA d 109 A) (hW : WN A) {c : Int} (hc : 0 ≤ c ∧ c < A 1) (up : Bool) : ∃ d', FX11_goNow d e (iI c) (iI (tv up)) = some ((), d', e) ∧ MA d' 109 (moveS A c up) ∧ (∀ o, o ≠ 109 → d' o = d o) := by
  have hr : ∀ j : Nat, j < 1961 → d 109 j = iI (A j) := hA
  have r0 : d 109 0 = iI (A 0) := hr 0 (by omega)
  have r1 : d 109 1 = iI (A 1) := hr 1 (by omega)
  obtain ⟨w0, w1, w9, w10, w11, wc, wh, wb⟩ := hW
  have wcc := wc c hc.1 hc.2
  have a1 := hA.put (k := (12 + 3 * c + 0).toNat) (k' := 12 + 3 * c) (v := (A (12 + 3 * c) + (if up then 1 else 9)) % 10) (by omega)
  have g := mq_get (e := e) hA (c := c) (w := 0) (by omega)
  rw [show 12 + 3 * c + 0 = 12 + 3 * c by omega] at g
  refine ⟨_, ?_, a1, fun o ho => by rw [uI_o ho]⟩
  unfold FX11_goNow
  cases up
  · simp only [show tv false = 0 from rfl, Bool.false_eq_true, if_false]
    simp (disch := omega) only [nI_iI, lN_lJ, iI_0, lJ_0, iI_add, iI_sub, iI_mul, iI_neg, lJ_add, lJ_sub, lJ_mul, lJ_neg, i_l, l_i, iI_cl, iI_inb, iI_eqT, iI_eqF, iI_ltT, iI_ltF, iI_leT, iI_leF, lJ_eqT, lJ_eqF, lJ_cG, lJ_cE, lJ_cL, lJ_cF, lJ_cGE, lJ_cLE, lJ_cNL, lJ_cNG, Int.cast_ofNat_Int, c_0, c_1, Int.natCast_add, Int.add_zero, cond_true, cond_false, Bool.and_self, Bool.and_true, Bool.true_and, Option.bind_some, decide_true, uI_hit, uI_miss, uI_o, uA_o, uA_s, ↓reduceIte, eq_self, true_or, or_true, or_false, false_or, true_and, and_true, false_and, and_false, or_self, and_self, not_false_eq_true, not_true_eq_false, tn_i, g, iI_rem, mq_lay]
  · simp only [show tv true = 1 from rfl, if_true]
    simp (disch := omega) only [nI_iI, lN_lJ, iI_0, lJ_0, iI_add, iI_sub, iI_mul, iI_neg, lJ_add, lJ_sub, lJ_mul, lJ_neg, i_l, l_i, iI_cl, iI_inb, iI_eqT, iI_eqF, iI_ltT, iI_ltF, iI_leT, iI_leF, lJ_eqT, lJ_eqF, lJ_cG, lJ_cE, lJ_cL, lJ_cF, lJ_cGE, lJ_cLE, lJ_cNL, lJ_cNG, Int.cast_ofNat_Int, c_0, c_1, Int.natCast_add, Int.add_zero, cond_true, cond_false, Bool.and_self, Bool.and_true, Bool.true_and, Option.bind_some, decide_true, uI_hit, uI_miss, uI_o, uA_o, uA_s, ↓reduceIte, eq_self, true_or, or_true, or_false, false_or, true_and, and_true, false_and, and_false, or_self, and_self, not_false_eq_true, not_true_eq_false, tn_i, g, iI_rem, mq_lay]
theorem mq_anew {d : aI} {e : aJ} {A : Int → Int} (hA : MA d 109 A) (hW : WN A) : ∃ d', FX11_anew d e = some ((), d', e) ∧ MA d' 109 (anewS A) ∧ (∀ o, o ≠ 109 → d' o = d o) := by
  have hr : ∀ j : Nat, j < 1961 → d 109 j = iI (A j) := hA
  have r0 : d 109 0 = iI (A 0) := hr 0 (by omega)
  have r1 : d 109 1 = iI (A 1) := hr 1 (by omega)
  obtain ⟨w0, w1, w9, w10, w11, wc, wh, wb⟩ := hW
  have r10 : d 109 10 = iI (A 10) := hr 10 (by omega)
  have a1 := hA.put (k := 10) (k' := 10) (v := (A 10 * 647 + 509) % 30931) rfl
  refine ⟨_, ?_, a1, fun o ho => by rw [uI_o ho]⟩
  unfold FX11_anew
  simp (disch := omega) only [nI_iI, lN_lJ, iI_0, lJ_0, iI_add, iI_sub, iI_mul, iI_neg, lJ_add, lJ_sub, lJ_mul, lJ_neg, i_l, l_i, iI_cl, iI_inb, iI_eqT, iI_eqF, iI_ltT, iI_ltF, iI_leT, iI_leF, lJ_eqT, lJ_eqF, lJ_cG, lJ_cE, lJ_cL, lJ_cF, lJ_cGE, lJ_cLE, lJ_cNL, lJ_cNG, Int.cast_ofNat_Int, c_0, c_1, Int.natCast_add, Int.add_zero, cond_true, cond_false, Bool.and_self, Bool.and_true, Bool.true_and, Option.bind_some, decide_true, uI_hit, uI_miss, uI_o, uA_o, uA_s, ↓reduceIte, eq_self, true_or, or_true, or_false, false_or, true_and, and_true, false_and, and_false, or_self, and_self, not_false_eq_true, not_true_eq_false, tn_i, r10, lJ_rem]
theorem mq_drawnBy {d : aI} {e : aJ} {A : Int → Int} (hA : MA d 109 A) (hW : WN A) : ∃ d', FX11_drawnBy d e (iI 3) = some (iI (A 10 % 3), d', e) ∧ MA d' 109 (anewS A) ∧ (∀ o, o ≠ 109 → d' o = d o) := by
  obtain ⟨d', q1, q2, q3⟩ := mq_anew (e := e) hA hW
  have hr : ∀ j : Nat, j < 1961 → d 109 j = iI (A j) := hA
  have r0 : d 109 0 = iI (A 0) := hr 0 (by omega)
  have r1 : d 109 1 = iI (A 1) := hr 1 (by omega)
  obtain ⟨w0, w1, w9, w10, w11, wc, wh, wb⟩ := hW
  have r10 : d 109 10 = iI (A 10) := hr 10 (by omega)
  refine ⟨d', ?_, q2, q3⟩
  unfold FX11_drawnBy
  simp (disch := omega) only [nI_iI, lN_lJ, iI_0, lJ_0, iI_add, iI_sub, iI_mul, iI_neg, lJ_add, lJ_sub, lJ_mul, lJ_neg, i_l, l_i, iI_cl, iI_inb, iI_eqT, iI_eqF, iI_ltT, iI_ltF, iI_leT, iI_leF, lJ_eqT, lJ_eqF, lJ_cG, lJ_cE, lJ_cL, lJ_cF, lJ_cGE, lJ_cLE, lJ_cNL, lJ_cNG, Int.cast_ofNat_Int, c_0, c_1, Int.natCast_add, Int.add_zero, cond_true, cond_false, Bool.and_self, Bool.and_true, Bool.true_and, Option.bind_some, decide_true, uI_hit, uI_miss, uI_o, uA_o, uA_s, ↓reduceIte, eq_self, true_or, or_true, or_false, false_or, true_and, and_true, false_and, and_false, or_self, and_self, not_false_eq_true, not_true_eq_false, tn_i, r10, iI_rem, q1]
