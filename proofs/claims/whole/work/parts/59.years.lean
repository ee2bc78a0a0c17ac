/-! ===== years ===== -/
def drC (B : Int → Int) (x : Int) : Int := if B 1 = 0 then -1 else x / 6 % B 1
def drH (B : Int → Int) (x : Int) : Int := if B 0 = 0 then -1 else x % B 0
def leaveS (B : Int → Int) (h : Int) : Int → Int := if (0 ≤ h ∧ h < B 0) ∧ gst B h ≠ -1 then outS B (gst B h) 1 else B
def walkS (B : Int → Int) (c : Int) (up : Bool) : Int → Int := if (0 ≤ c ∧ c < B 1) ∧ B (12 + 3 * c + 1) = -1 then moveS B c up else B
def letS (B : Int → Int) (c h : Int) : Int → Int := if canLetS B c h then enterS B c h else B
def hourS (y0 y1 : Option (En → Int)) (B : Int → Int) : Int → Int := if B 9 < 9999 then passA true y0 y1 B else B
def drawnS (y0 y1 : Option (En → Int)) (B : Int → Int) (x : Int) : Int → Int :=
  if x % 6 = 0 ∨ x % 6 = 1 then letS B (drC B x) (drH B x) else if x % 6 = 2 then leaveS B (drH B x) else if x % 6 = 3 then walkS B (drC B x) (decide (x / 6 % 2 = 0)) else hourS y0 y1 B
/-- what it leaves -/
def Rst (A B : Int → Int) : Prop := ∀ j : Int, ((0 ≤ j ∧ j < 9) ∨ (42 ≤ j ∧ j < 1936)) → B j = A j
theorem letS_ok {B : Int → Int} (hW : WN B) {c h : Int} : WN (letS B c h) ∧ Rst B (letS B c h) := by
  unfold letS
  have w0 := hW.1
  have w1 := hW.2.1
  have w11 := hW.2.2.2.2.1
  split
  · rename_i q
    exact ⟨enterS_wn hW q.1 q.2.1 q.2.2.2.2, fun j hj => enterS_o (by omega)⟩
  · exact ⟨hW, fun j hj => rfl⟩
theorem leaveS_ok {B : Int → Int} (hW : WN B) {h : Int} : WN (leaveS B h) ∧ Rst B (leaveS B h) := by
  unfold leaveS
  have w0 := hW.1
  have w1 := hW.2.1
  have w11 := hW.2.2.2.2.1
  split
  · rename_i q
    obtain ⟨g0, g1, g2⟩ := gst_at hW q.2
    exact ⟨outS_wn hW ⟨g0, g1⟩ (by omega) (by omega), fun j hj => outS_o (by omega)⟩
  · exact ⟨hW, fun j hj => rfl⟩
theorem walkS_ok {B : Int → Int} (hW : WN B) {c : Int} {up : Bool} : WN (walkS B c up) ∧ Rst B (walkS B c up) := by
  unfold walkS
  have w1 := hW.2.1
  split
  · rename_i q
    exact ⟨moveS_wn hW q.1 q.2, fun j hj => moveS_o (by omega)⟩
  · exact ⟨hW, fun j hj => rfl⟩
theorem hourS_ok {y0 y1 : Option (En → Int)} {B : Int → Int} (hW : WN B) : WN (hourS y0 y1 B) ∧ Rst B (hourS y0 y1 B) := by
  unfold hourS
  split
  · rename_i q
    have p := passA_ok (wr := true) (y0 := y0) (y1 := y1) hW q
    exact ⟨p.1, fun j hj => p.2.1 j (by omega) (by omega) (by omega) (by omega)⟩
  · exact ⟨hW, fun j hj => rfl⟩
theorem drawnS_ok {y0 y1 : Option (En → Int)} {B : Int → Int} {x : Int} (hW : WN B) : WN (drawnS y0 y1 B x) ∧ Rst B (drawnS y0 y1 B x) := by
  unfold drawnS
  split
  · exact letS_ok hW
  · split
    · exact leaveS_ok hW
    · split
      · exact walkS_ok hW
      · exact hourS_ok hW
-- class
theorem cd_let {d : aI} {e : aJ} {B : Int → Int} (hC : CN d 1 B) (hW : WN B) {c h : Int} (hr : -2147483648 ≤ c ∧ c < 2147483648 ∧ -2147483648 ≤ h ∧ h < 2147483648) : ∃ d' r, FX10_enter d e (iI c) (iI h) (iI 0) = some (r, d', e) ∧ CN d' 1 (letS B c h) ∧ Kx d d' := by
  unfold letS
  by_cases q : canLetS B c h
  · rw [if_pos q]
    have g := (cq_canEnter (e := e) hC hW hr).1 q
    obtain ⟨d', r1, r2, r3⟩ := cq_enter (e := e) hC hW q.1 q.2.1 q.2.2.2.2
    refine ⟨d', iI 1, ?_, r2, r3.kx⟩
    unfold FX10_enter FX10_keepIf
    simp (disch := omega) only [nI_iI, lN_lJ, iI_0, lJ_0, iI_add, iI_sub, iI_mul, iI_neg, lJ_add, lJ_sub, lJ_mul, lJ_neg, i_l, l_i, iI_cl, iI_inb, iI_eqT, iI_eqF, iI_ltT, iI_ltF, iI_leT, iI_leF, lJ_eqT, lJ_eqF, lJ_cG, lJ_cE, lJ_cL, lJ_cF, lJ_cGE, lJ_cLE, lJ_cNL, lJ_cNG, Int.cast_ofNat_Int, c_0, c_1, Int.natCast_add, Int.add_zero, cond_true, cond_false, Bool.and_self, Bool.and_true, Bool.true_and, Option.bind_some, decide_true, uI_hit, uI_miss, uI_o, uA_o, uA_s, ↓reduceIte, eq_self, true_or, or_true, or_false, false_or, true_and, and_true, false_and, and_false, or_self, and_self, not_false_eq_true, not_true_eq_false, tn_i, g, r1]
  · rw [if_neg q]
    have g := (cq_canEnter (e := e) hC hW hr).2 q
    refine ⟨d, iI 0, ?_, hC, Kx.refl d⟩
    unfold FX10_enter
    simp (disch := omega) only [nI_iI, lN_lJ, iI_0, lJ_0, iI_add, iI_sub, iI_mul, iI_neg, lJ_add, lJ_sub, lJ_mul, lJ_neg, i_l, l_i, iI_cl, iI_inb, iI_eqT, iI_eqF, iI_ltT, iI_ltF, iI_leT, iI_leF, lJ_eqT, lJ_eqF, lJ_cG, lJ_cE, lJ_cL, lJ_cF, lJ_cGE, lJ_cLE, lJ_cNL, lJ_cNG, Int.cast_ofNat_Int, c_0, c_1, Int.natCast_add, Int.add_zero, cond_true, cond_false, Bool.and_self, Bool.and_true, Bool.true_and, Option.bind_some, decide_true, uI_hit, uI_miss, uI_o, uA_o, uA_s, ↓reduceIte, eq_self, true_or, or_true, or_false, false_or, true_and, and_true, false_and, and_false, or_self, and_self, not_false_eq_true, not_true_eq_false, tn_i, g]
theorem cd_leave {d : aI} {e : aJ} {B : Int → Int} (hC : CN d 1 B) (hW : WN B) {h : Int} (hr : -2147483648 ≤ h ∧ h < 2147483648) : ∃ d' r, FX10_leave d e (iI h) (iI 0) = some (r, d', e) ∧ CN d' 1 (leaveS B h) ∧ Kx d d' := by
  have w1 := hW.2.1
  unfold leaveS
  by_cases q : 0 ≤ h ∧ h < B 0
  · have g := cq_guest (e := e) hC hW q
    by_cases q2 : gst B h = -1
    · rw [if_neg (fun z => z.2 q2)]
      rw [q2] at g
      refine ⟨d, iI (-1), ?_, hC, Kx.refl d⟩
      unfold FX10_leave
      simp (disch := omega) only [nI_iI, lN_lJ, iI_0, lJ_0, iI_add, iI_sub, iI_mul, iI_neg, lJ_add, lJ_sub, lJ_mul, lJ_neg, i_l, l_i, iI_cl, iI_inb, iI_eqT, iI_eqF, iI_ltT, iI_ltF, iI_leT, iI_leF, lJ_eqT, lJ_eqF, lJ_cG, lJ_cE, lJ_cL, lJ_cF, lJ_cGE, lJ_cLE, lJ_cNL, lJ_cNG, Int.cast_ofNat_Int, c_0, c_1, Int.natCast_add, Int.add_zero, cond_true, cond_false, Bool.and_self, Bool.and_true, Bool.true_and, Option.bind_some, decide_true, uI_hit, uI_miss, uI_o, uA_o, uA_s, ↓reduceIte, eq_self, true_or, or_true, or_false, false_or, true_and, and_true, false_and, and_false, or_self, and_self, not_false_eq_true, not_true_eq_false, tn_i, g]
    · rw [if_pos ⟨q, q2⟩]
      obtain ⟨g0, g1, g2⟩ := gst_at hW q2
      obtain ⟨d', r1, r2, r3⟩ := cq_leave (e := e) hC hW (c := gst B h) ⟨g0, g1⟩ (by omega) (w := 1) (by omega)
      rw [g2] at r1
      refine ⟨d', iI (gst B h), ?_, r2, r3.kx⟩
      unfold FX10_leave FX10_keepIf
      simp (disch := omega) only [nI_iI, lN_lJ, iI_0, lJ_0, iI_add, iI_sub, iI_mul, iI_neg, lJ_add, lJ_sub, lJ_mul, lJ_neg, i_l, l_i, iI_cl, iI_inb, iI_eqT, iI_eqF, iI_ltT, iI_ltF, iI_leT, iI_leF, lJ_eqT, lJ_eqF, lJ_cG, lJ_cE, lJ_cL, lJ_cF, lJ_cGE, lJ_cLE, lJ_cNL, lJ_cNG, Int.cast_ofNat_Int, c_0, c_1, Int.natCast_add, Int.add_zero, cond_true, cond_false, Bool.and_self, Bool.and_true, Bool.true_and, Option.bind_some, decide_true, uI_hit, uI_miss, uI_o, uA_o, uA_s, ↓reduceIte, eq_self, true_or, or_true, or_false, false_or, true_and, and_true, false_and, and_false, or_self, and_self, not_false_eq_true, not_true_eq_false, tn_i, g, r1]
  · rw [if_neg (fun z => q z.1)]
    have g := cq_guest_n (e := e) hC hW (h := h) (by omega)
    refine ⟨d, iI (-1), ?_, hC, Kx.refl d⟩
    unfold FX10_leave
    simp (disch := omega) only [nI_iI, lN_lJ, iI_0, lJ_0, iI_add, iI_sub, iI_mul, iI_neg, lJ_add, lJ_sub, lJ_mul, lJ_neg, i_l, l_i, iI_cl, iI_inb, iI_eqT, iI_eqF, iI_ltT, iI_ltF, iI_leT, iI_leF, lJ_eqT, lJ_eqF, lJ_cG, lJ_cE, lJ_cL, lJ_cF, lJ_cGE, lJ_cLE, lJ_cNL, lJ_cNG, Int.cast_ofNat_Int, c_0, c_1, Int.natCast_add, Int.add_zero, cond_true, cond_false, Bool.and_self, Bool.and_true, Bool.true_and, Option.bind_some, decide_true, uI_hit, uI_miss, uI_o, uA_o, uA_s, ↓reduceIte, eq_self, true_or, or_true, or_false, false_or, true_and, and_true, false_and, and_false, or_self, and_self, not_false_eq_true, not_true_eq_false, tn_i, g]
theorem cd_walk {d : aI} {e : aJ} {B : Int → Int} (hC : CN d 1 B) (hW : WN B) {c : Int} {up : Bool} (hr : -2147483648 ≤ c ∧ c < 2147483648) : ∃ d' r, FX10_walk d e (iI c) (iI (tv up)) (iI 0) = some (r, d', e) ∧ CN d' 1 (walkS B c up) ∧ Kx d d' := by
  have w0 := hW.1
  have w1 := hW.2.1
  unfold walkS
  by_cases q : 0 ≤ c ∧ c < B 1
  · have wc := hW.2.2.2.2.2.1 c q.1 q.2
    have m8 := hC.2.2.2.2.2.2.2.2.2.2.1 c.toNat (by omega)
    rw [tn_i (by omega)] at m8
    have m8' : d 8 c.toNat = iI (B (12 + 3 * c + 1)) := m8
    by_cases q2 : B (12 + 3 * c + 1) = -1
    · rw [if_pos ⟨q, q2⟩]
      rw [q2] at m8'
      obtain ⟨d', r1, r2, r3⟩ := cq_move (e := e) hC hW q up
      refine ⟨d', iI 1, ?_, r2, r3.kx⟩
      unfold FX10_walk FX10_keepIf
      cases up
      · have r1' : FX2_move d e (iI c) (iI (-1)) = some ((), d', e) := r1
        simp only [show tv false = 0 from rfl]
        simp (disch := omega) only [nI_iI, lN_lJ, iI_0, lJ_0, iI_add, iI_sub, iI_mul, iI_neg, lJ_add, lJ_sub, lJ_mul, lJ_neg, i_l, l_i, iI_cl, iI_inb, iI_eqT, iI_eqF, iI_ltT, iI_ltF, iI_leT, iI_leF, lJ_eqT, lJ_eqF, lJ_cG, lJ_cE, lJ_cL, lJ_cF, lJ_cGE, lJ_cLE, lJ_cNL, lJ_cNG, Int.cast_ofNat_Int, c_0, c_1, Int.natCast_add, Int.add_zero, cond_true, cond_false, Bool.and_self, Bool.and_true, Bool.true_and, Option.bind_some, decide_true, uI_hit, uI_miss, uI_o, uA_o, uA_s, ↓reduceIte, eq_self, true_or, or_true, or_false, false_or, true_and, and_true, false_and, and_false, or_self, and_self, not_false_eq_true, not_true_eq_false, tn_i, cq_isCat_y hC hW, m8', r1']
      · have r1' : FX2_move d e (iI c) (iI 1) = some ((), d', e) := r1
        simp only [show tv true = 1 from rfl]
        simp (disch := omega) only [nI_iI, lN_lJ, iI_0, lJ_0, iI_add, iI_sub, iI_mul, iI_neg, lJ_add, lJ_sub, lJ_mul, lJ_neg, i_l, l_i, iI_cl, iI_inb, iI_eqT, iI_eqF, iI_ltT, iI_ltF, iI_leT, iI_leF, lJ_eqT, lJ_eqF, lJ_cG, lJ_cE, lJ_cL, lJ_cF, lJ_cGE, lJ_cLE, lJ_cNL, lJ_cNG, Int.cast_ofNat_Int, c_0, c_1, Int.natCast_add, Int.add_zero, cond_true, cond_false, Bool.and_self, Bool.and_true, Bool.true_and, Option.bind_some, decide_true, uI_hit, uI_miss, uI_o, uA_o, uA_s, ↓reduceIte, eq_self, true_or, or_true, or_false, false_or, true_and, and_true, false_and, and_false, or_self, and_self, not_false_eq_true, not_true_eq_false, tn_i, cq_isCat_y hC hW, m8', r1']
    · rw [if_neg (fun z => q2 z.2)]
      refine ⟨d, iI 0, ?_, hC, Kx.refl d⟩
      unfold FX10_walk
      simp (disch := omega) only [nI_iI, lN_lJ, iI_0, lJ_0, iI_add, iI_sub, iI_mul, iI_neg, lJ_add, lJ_sub, lJ_mul, lJ_neg, i_l, l_i, iI_cl, iI_inb, iI_eqT, iI_eqF, iI_ltT, iI_ltF, iI_leT, iI_leF, lJ_eqT, lJ_eqF, lJ_cG, lJ_cE, lJ_cL, lJ_cF, lJ_cGE, lJ_cLE, lJ_cNL, lJ_cNG, Int.cast_ofNat_Int, c_0, c_1, Int.natCast_add, Int.add_zero, cond_true, cond_false, Bool.and_self, Bool.and_true, Bool.true_and, Option.bind_some, decide_true, uI_hit, uI_miss, uI_o, uA_o, uA_s, ↓reduceIte, eq_self, true_or, or_true, or_false, false_or, true_and, and_true, false_and, and_false, or_self, and_self, not_false_eq_true, not_true_eq_false, tn_i, cq_isCat_y hC hW, m8']
  · rw [if_neg (fun z => q z.1)]
    refine ⟨d, iI 0, ?_, hC, Kx.refl d⟩
    unfold FX10_walk
    simp (disch := omega) only [nI_iI, lN_lJ, iI_0, lJ_0, iI_add, iI_sub, iI_mul, iI_neg, lJ_add, lJ_sub, lJ_mul, lJ_neg, i_l, l_i, iI_cl, iI_inb, iI_eqT, iI_eqF, iI_ltT, iI_ltF, iI_leT, iI_leF, lJ_eqT, lJ_eqF, lJ_cG, lJ_cE, lJ_cL, lJ_cF, lJ_cGE, lJ_cLE, lJ_cNL, lJ_cNG, Int.cast_ofNat_Int, c_0, c_1, Int.natCast_add, Int.add_zero, cond_true, cond_false, Bool.and_self, Bool.and_true, Bool.true_and, Option.bind_some, decide_true, uI_hit, uI_miss, uI_o, uA_o, uA_s, ↓reduceIte, eq_self, true_or, or_true, or_false, false_or, true_and, and_true, false_and, and_false, or_self, and_self, not_false_eq_true, not_true_eq_false, tn_i, cq_isCat_n hC hW]
theorem cd_hour {d : aI} {e : aJ} {B : Int → Int} {y0 y1 : Option (En → Int)} (hC : CN d 1 B) (hW : WN B) (hR : RU d B y0 y1) : ∃ d' r, FX10_pass d e (iI 0) = some (r, d', e) ∧ CN d' 1 (hourS y0 y1 B) ∧ Kx d d' := by
  have w9 := hW.2.2.1
  unfold hourS
  by_cases q : B 9 < 9999
  · rw [if_pos q]
    obtain ⟨d', r1, r2, r3⟩ := cq_pass0 (e := e) hC hW hR q
    exact ⟨d', _, r1, r2, r3⟩
  · rw [if_neg q]
    exact ⟨d, _, cq_pass_n hC (by omega), hC, Kx.refl d⟩
theorem cq_drawn {d : aI} {e : aJ} {B : Int → Int} {y0 y1 : Option (En → Int)} (hC : CN d 1 B) (hW : WN B) (hR : RU d B y0 y1) {x : Int} (hx : 0 ≤ x ∧ x < 30931) : ∃ d', FX10_drawn d e (iI x) = some ((), d', e) ∧ CN d' 1 (drawnS y0 y1 B x) ∧ Kx d d' := by
  have w0 := hW.1
  have w1 := hW.2.1
  have k8 : d 2 8 = iI (B 0) := hC.1
  have k9 : d 2 9 = iI (B 1) := hC.2.1
  have m0 : 0 < B 0 → 0 ≤ x % B 0 ∧ x % B 0 < B 0 := fun q => ⟨Int.emod_nonneg _ (by omega), Int.emod_lt_of_pos _ q⟩
  have m1 : 0 < B 1 → 0 ≤ x / 6 % B 1 ∧ x / 6 % B 1 < B 1 := fun q => ⟨Int.emod_nonneg _ (by omega), Int.emod_lt_of_pos _ q⟩
  unfold drawnS
  have hcR : -1 ≤ drC B x ∧ drC B x ≤ 6 := by
    unfold drC
    split
    · omega
    · have := m1 (by omega); omega
  have hhR : -1 ≤ drH B x ∧ drH B x ≤ 6 := by
    unfold drH
    split
    · omega
    · have := m0 (by omega); omega
  by_cases q0 : x % 6 = 0 ∨ x % 6 = 1
  · rw [if_pos q0]
    obtain ⟨d', r, r1, r2, r3⟩ := cd_let (e := e) hC hW (c := drC B x) (h := drH B x) (by omega)
    refine ⟨d', ?_, r2, r3⟩
    unfold drC drH at r1
    unfold FX10_drawn
    by_cases z1 : B 1 = 0
    · rw [if_pos z1] at r1
      rw [z1] at k9
      by_cases z0 : B 0 = 0
      · rw [if_pos z0] at r1
        rw [z0] at k8
        rcases q0 with q0 | q0
        · simp (disch := omega) only [nI_iI, lN_lJ, iI_0, lJ_0, iI_add, iI_sub, iI_mul, iI_neg, lJ_add, lJ_sub, lJ_mul, lJ_neg, i_l, l_i, iI_cl, iI_inb, iI_eqT, iI_eqF, iI_ltT, iI_ltF, iI_leT, iI_leF, lJ_eqT, lJ_eqF, lJ_cG, lJ_cE, lJ_cL, lJ_cF, lJ_cGE, lJ_cLE, lJ_cNL, lJ_cNG, Int.cast_ofNat_Int, c_0, c_1, Int.natCast_add, Int.add_zero, cond_true, cond_false, Bool.and_self, Bool.and_true, Bool.true_and, Option.bind_some, decide_true, uI_hit, uI_miss, uI_o, uA_o, uA_s, ↓reduceIte, eq_self, true_or, or_true, or_false, false_or, true_and, and_true, false_and, and_false, or_self, and_self, not_false_eq_true, not_true_eq_false, tn_i, k8, k9, iI_rem, iI_div, r1, decide_eq_true]
        · simp (disch := omega) only [nI_iI, lN_lJ, iI_0, lJ_0, iI_add, iI_sub, iI_mul, iI_neg, lJ_add, lJ_sub, lJ_mul, lJ_neg, i_l, l_i, iI_cl, iI_inb, iI_eqT, iI_eqF, iI_ltT, iI_ltF, iI_leT, iI_leF, lJ_eqT, lJ_eqF, lJ_cG, lJ_cE, lJ_cL, lJ_cF, lJ_cGE, lJ_cLE, lJ_cNL, lJ_cNG, Int.cast_ofNat_Int, c_0, c_1, Int.natCast_add, Int.add_zero, cond_true, cond_false, Bool.and_self, Bool.and_true, Bool.true_and, Option.bind_some, decide_true, uI_hit, uI_miss, uI_o, uA_o, uA_s, ↓reduceIte, eq_self, true_or, or_true, or_false, false_or, true_and, and_true, false_and, and_false, or_self, and_self, not_false_eq_true, not_true_eq_false, tn_i, k8, k9, iI_rem, iI_div, r1, decide_eq_true]
      · rw [if_neg z0] at r1
        have mm := m0 (by omega)
        rcases q0 with q0 | q0
        · simp (disch := omega) only [nI_iI, lN_lJ, iI_0, lJ_0, iI_add, iI_sub, iI_mul, iI_neg, lJ_add, lJ_sub, lJ_mul, lJ_neg, i_l, l_i, iI_cl, iI_inb, iI_eqT, iI_eqF, iI_ltT, iI_ltF, iI_leT, iI_leF, lJ_eqT, lJ_eqF, lJ_cG, lJ_cE, lJ_cL, lJ_cF, lJ_cGE, lJ_cLE, lJ_cNL, lJ_cNG, Int.cast_ofNat_Int, c_0, c_1, Int.natCast_add, Int.add_zero, cond_true, cond_false, Bool.and_self, Bool.and_true, Bool.true_and, Option.bind_some, decide_true, uI_hit, uI_miss, uI_o, uA_o, uA_s, ↓reduceIte, eq_self, true_or, or_true, or_false, false_or, true_and, and_true, false_and, and_false, or_self, and_self, not_false_eq_true, not_true_eq_false, tn_i, k8, k9, iI_rem, iI_div, r1, decide_eq_true]
        · simp (disch := omega) only [nI_iI, lN_lJ, iI_0, lJ_0, iI_add, iI_sub, iI_mul, iI_neg, lJ_add, lJ_sub, lJ_mul, lJ_neg, i_l, l_i, iI_cl, iI_inb, iI_eqT, iI_eqF, iI_ltT, iI_ltF, iI_leT, iI_leF, lJ_eqT, lJ_eqF, lJ_cG, lJ_cE, lJ_cL, lJ_cF, lJ_cGE, lJ_cLE, lJ_cNL, lJ_cNG, Int.cast_ofNat_Int, c_0, c_1, Int.natCast_add, Int.add_zero, cond_true, cond_false, Bool.and_self, Bool.and_true, Bool.true_and, Option.bind_some, decide_true, uI_hit, uI_miss, uI_o, uA_o, uA_s, ↓reduceIte, eq_self, true_or, or_true, or_false, false_or, true_and, and_true, false_and, and_false, or_self, and_self, not_false_eq_true, not_true_eq_false, tn_i, k8, k9, iI_rem, iI_div, r1, decide_eq_true]
    · rw [if_neg z1] at r1
      have mm1 := m1 (by omega)
      by_cases z0 : B 0 = 0
      · rw [if_pos z0] at r1
        rw [z0] at k8
        rcases q0 with q0 | q0
        · simp (disch := omega) only [nI_iI, lN_lJ, iI_0, lJ_0, iI_add, iI_sub, iI_mul, iI_neg, lJ_add, lJ_sub, lJ_mul, lJ_neg, i_l, l_i, iI_cl, iI_inb, iI_eqT, iI_eqF, iI_ltT, iI_ltF, iI_leT, iI_leF, lJ_eqT, lJ_eqF, lJ_cG, lJ_cE, lJ_cL, lJ_cF, lJ_cGE, lJ_cLE, lJ_cNL, lJ_cNG, Int.cast_ofNat_Int, c_0, c_1, Int.natCast_add, Int.add_zero, cond_true, cond_false, Bool.and_self, Bool.and_true, Bool.true_and, Option.bind_some, decide_true, uI_hit, uI_miss, uI_o, uA_o, uA_s, ↓reduceIte, eq_self, true_or, or_true, or_false, false_or, true_and, and_true, false_and, and_false, or_self, and_self, not_false_eq_true, not_true_eq_false, tn_i, k8, k9, iI_rem, iI_div, r1, decide_eq_true]
        · simp (disch := omega) only [nI_iI, lN_lJ, iI_0, lJ_0, iI_add, iI_sub, iI_mul, iI_neg, lJ_add, lJ_sub, lJ_mul, lJ_neg, i_l, l_i, iI_cl, iI_inb, iI_eqT, iI_eqF, iI_ltT, iI_ltF, iI_leT, iI_leF, lJ_eqT, lJ_eqF, lJ_cG, lJ_cE, lJ_cL, lJ_cF, lJ_cGE, lJ_cLE, lJ_cNL, lJ_cNG, Int.cast_ofNat_Int, c_0, c_1, Int.natCast_add, Int.add_zero, cond_true, cond_false, Bool.and_self, Bool.and_true, Bool.true_and, Option.bind_some, decide_true, uI_hit, uI_miss, uI_o, uA_o, uA_s, ↓reduceIte, eq_self, true_or, or_true, or_false, false_or, true_and, and_true, false_and, and_false, or_self, and_self, not_false_eq_true, not_true_eq_false, tn_i, k8, k9, iI_rem, iI_div, r1, decide_eq_true]
      · rw [if_neg z0] at r1
        have mm := m0 (by omega)
        rcases q0 with q0 | q0
        · simp (disch := omega) only [nI_iI, lN_lJ, iI_0, lJ_0, iI_add, iI_sub, iI_mul, iI_neg, lJ_add, lJ_sub, lJ_mul, lJ_neg, i_l, l_i, iI_cl, iI_inb, iI_eqT, iI_eqF, iI_ltT, iI_ltF, iI_leT, iI_leF, lJ_eqT, lJ_eqF, lJ_cG, lJ_cE, lJ_cL, lJ_cF, lJ_cGE, lJ_cLE, lJ_cNL, lJ_cNG, Int.cast_ofNat_Int, c_0, c_1, Int.natCast_add, Int.add_zero, cond_true, cond_false, Bool.and_self, Bool.and_true, Bool.true_and, Option.bind_some, decide_true, uI_hit, uI_miss, uI_o, uA_o, uA_s, ↓reduceIte, eq_self, true_or, or_true, or_false, false_or, true_and, and_true, false_and, and_false, or_self, and_self, not_false_eq_true, not_true_eq_false, tn_i, k8, k9, iI_rem, iI_div, r1, decide_eq_true]
        · simp (disch := omega) only [nI_iI, lN_lJ, iI_0, lJ_0, iI_add, iI_sub, iI_mul, iI_neg, lJ_add, lJ_sub, lJ_mul, lJ_neg, i_l, l_i, iI_cl, iI_inb, iI_eqT, iI_eqF, iI_ltT, iI_ltF, iI_leT, iI_leF, lJ_eqT, lJ_eqF, lJ_cG, lJ_cE, lJ_cL, lJ_cF, lJ_cGE, lJ_cLE, lJ_cNL, lJ_cNG, Int.cast_ofNat_Int, c_0, c_1, Int.natCast_add, Int.add_zero, cond_true, cond_false, Bool.and_self, Bool.and_true, Bool.true_and, Option.bind_some, decide_true, uI_hit, uI_miss, uI_o, uA_o, uA_s, ↓reduceIte, eq_self, true_or, or_true, or_false, false_or, true_and, and_true, false_and, and_false, or_self, and_self, not_false_eq_true, not_true_eq_false, tn_i, k8, k9, iI_rem, iI_div, r1, decide_eq_true]
  · rw [if_neg q0]
    by_cases q2 : x % 6 = 2
    · rw [if_pos q2]
      obtain ⟨d', r, r1, r2, r3⟩ := cd_leave (e := e) hC hW (h := drH B x) (by omega)
      refine ⟨d', ?_, r2, r3⟩
      unfold drH at r1
      unfold FX10_drawn
      by_cases z0 : B 0 = 0
      · rw [if_pos z0] at r1
        rw [z0] at k8
        by_cases z1 : B 1 = 0
        · rw [z1] at k9
          simp (disch := omega) only [nI_iI, lN_lJ, iI_0, lJ_0, iI_add, iI_sub, iI_mul, iI_neg, lJ_add, lJ_sub, lJ_mul, lJ_neg, i_l, l_i, iI_cl, iI_inb, iI_eqT, iI_eqF, iI_ltT, iI_ltF, iI_leT, iI_leF, lJ_eqT, lJ_eqF, lJ_cG, lJ_cE, lJ_cL, lJ_cF, lJ_cGE, lJ_cLE, lJ_cNL, lJ_cNG, Int.cast_ofNat_Int, c_0, c_1, Int.natCast_add, Int.add_zero, cond_true, cond_false, Bool.and_self, Bool.and_true, Bool.true_and, Option.bind_some, decide_true, uI_hit, uI_miss, uI_o, uA_o, uA_s, ↓reduceIte, eq_self, true_or, or_true, or_false, false_or, true_and, and_true, false_and, and_false, or_self, and_self, not_false_eq_true, not_true_eq_false, tn_i, k8, k9, iI_rem, iI_div, r1, decide_eq_true]
        · simp (disch := omega) only [nI_iI, lN_lJ, iI_0, lJ_0, iI_add, iI_sub, iI_mul, iI_neg, lJ_add, lJ_sub, lJ_mul, lJ_neg, i_l, l_i, iI_cl, iI_inb, iI_eqT, iI_eqF, iI_ltT, iI_ltF, iI_leT, iI_leF, lJ_eqT, lJ_eqF, lJ_cG, lJ_cE, lJ_cL, lJ_cF, lJ_cGE, lJ_cLE, lJ_cNL, lJ_cNG, Int.cast_ofNat_Int, c_0, c_1, Int.natCast_add, Int.add_zero, cond_true, cond_false, Bool.and_self, Bool.and_true, Bool.true_and, Option.bind_some, decide_true, uI_hit, uI_miss, uI_o, uA_o, uA_s, ↓reduceIte, eq_self, true_or, or_true, or_false, false_or, true_and, and_true, false_and, and_false, or_self, and_self, not_false_eq_true, not_true_eq_false, tn_i, k8, k9, iI_rem, iI_div, r1, decide_eq_true]
      · rw [if_neg z0] at r1
        have mm := m0 (by omega)
        by_cases z1 : B 1 = 0
        · rw [z1] at k9
          simp (disch := omega) only [nI_iI, lN_lJ, iI_0, lJ_0, iI_add, iI_sub, iI_mul, iI_neg, lJ_add, lJ_sub, lJ_mul, lJ_neg, i_l, l_i, iI_cl, iI_inb, iI_eqT, iI_eqF, iI_ltT, iI_ltF, iI_leT, iI_leF, lJ_eqT, lJ_eqF, lJ_cG, lJ_cE, lJ_cL, lJ_cF, lJ_cGE, lJ_cLE, lJ_cNL, lJ_cNG, Int.cast_ofNat_Int, c_0, c_1, Int.natCast_add, Int.add_zero, cond_true, cond_false, Bool.and_self, Bool.and_true, Bool.true_and, Option.bind_some, decide_true, uI_hit, uI_miss, uI_o, uA_o, uA_s, ↓reduceIte, eq_self, true_or, or_true, or_false, false_or, true_and, and_true, false_and, and_false, or_self, and_self, not_false_eq_true, not_true_eq_false, tn_i, k8, k9, iI_rem, iI_div, r1, decide_eq_true]
        · simp (disch := omega) only [nI_iI, lN_lJ, iI_0, lJ_0, iI_add, iI_sub, iI_mul, iI_neg, lJ_add, lJ_sub, lJ_mul, lJ_neg, i_l, l_i, iI_cl, iI_inb, iI_eqT, iI_eqF, iI_ltT, iI_ltF, iI_leT, iI_leF, lJ_eqT, lJ_eqF, lJ_cG, lJ_cE, lJ_cL, lJ_cF, lJ_cGE, lJ_cLE, lJ_cNL, lJ_cNG, Int.cast_ofNat_Int, c_0, c_1, Int.natCast_add, Int.add_zero, cond_true, cond_false, Bool.and_self, Bool.and_true, Bool.true_and, Option.bind_some, decide_true, uI_hit, uI_miss, uI_o, uA_o, uA_s, ↓reduceIte, eq_self, true_or, or_true, or_false, false_or, true_and, and_true, false_and, and_false, or_self, and_self, not_false_eq_true, not_true_eq_false, tn_i, k8, k9, iI_rem, iI_div, r1, decide_eq_true]
    · rw [if_neg q2]
      by_cases q3 : x % 6 = 3
      · rw [if_pos q3]
        obtain ⟨d', r, r1, r2, r3⟩ := cd_walk (e := e) hC hW (c := drC B x) (up := decide (x / 6 % 2 = 0)) (by omega)
        refine ⟨d', ?_, r2, r3⟩
        unfold drC at r1
        unfold FX10_drawn
        by_cases u : x / 6 % 2 = 0
        · rw [decide_eq_true u] at r1
          simp only [show tv true = 1 from rfl] at r1
          by_cases z1 : B 1 = 0
          · rw [if_pos z1] at r1
            rw [z1] at k9
            by_cases z0 : B 0 = 0
            · rw [z0] at k8
              simp (disch := omega) only [nI_iI, lN_lJ, iI_0, lJ_0, iI_add, iI_sub, iI_mul, iI_neg, lJ_add, lJ_sub, lJ_mul, lJ_neg, i_l, l_i, iI_cl, iI_inb, iI_eqT, iI_eqF, iI_ltT, iI_ltF, iI_leT, iI_leF, lJ_eqT, lJ_eqF, lJ_cG, lJ_cE, lJ_cL, lJ_cF, lJ_cGE, lJ_cLE, lJ_cNL, lJ_cNG, Int.cast_ofNat_Int, c_0, c_1, Int.natCast_add, Int.add_zero, cond_true, cond_false, Bool.and_self, Bool.and_true, Bool.true_and, Option.bind_some, decide_true, uI_hit, uI_miss, uI_o, uA_o, uA_s, ↓reduceIte, eq_self, true_or, or_true, or_false, false_or, true_and, and_true, false_and, and_false, or_self, and_self, not_false_eq_true, not_true_eq_false, tn_i, k8, k9, iI_rem, iI_div, r1, decide_eq_true]
            · simp (disch := omega) only [nI_iI, lN_lJ, iI_0, lJ_0, iI_add, iI_sub, iI_mul, iI_neg, lJ_add, lJ_sub, lJ_mul, lJ_neg, i_l, l_i, iI_cl, iI_inb, iI_eqT, iI_eqF, iI_ltT, iI_ltF, iI_leT, iI_leF, lJ_eqT, lJ_eqF, lJ_cG, lJ_cE, lJ_cL, lJ_cF, lJ_cGE, lJ_cLE, lJ_cNL, lJ_cNG, Int.cast_ofNat_Int, c_0, c_1, Int.natCast_add, Int.add_zero, cond_true, cond_false, Bool.and_self, Bool.and_true, Bool.true_and, Option.bind_some, decide_true, uI_hit, uI_miss, uI_o, uA_o, uA_s, ↓reduceIte, eq_self, true_or, or_true, or_false, false_or, true_and, and_true, false_and, and_false, or_self, and_self, not_false_eq_true, not_true_eq_false, tn_i, k8, k9, iI_rem, iI_div, r1, decide_eq_true]
          · rw [if_neg z1] at r1
            have mm1 := m1 (by omega)
            by_cases z0 : B 0 = 0
            · rw [z0] at k8
              simp (disch := omega) only [nI_iI, lN_lJ, iI_0, lJ_0, iI_add, iI_sub, iI_mul, iI_neg, lJ_add, lJ_sub, lJ_mul, lJ_neg, i_l, l_i, iI_cl, iI_inb, iI_eqT, iI_eqF, iI_ltT, iI_ltF, iI_leT, iI_leF, lJ_eqT, lJ_eqF, lJ_cG, lJ_cE, lJ_cL, lJ_cF, lJ_cGE, lJ_cLE, lJ_cNL, lJ_cNG, Int.cast_ofNat_Int, c_0, c_1, Int.natCast_add, Int.add_zero, cond_true, cond_false, Bool.and_self, Bool.and_true, Bool.true_and, Option.bind_some, decide_true, uI_hit, uI_miss, uI_o, uA_o, uA_s, ↓reduceIte, eq_self, true_or, or_true, or_false, false_or, true_and, and_true, false_and, and_false, or_self, and_self, not_false_eq_true, not_true_eq_false, tn_i, k8, k9, iI_rem, iI_div, r1, decide_eq_true]
            · simp (disch := omega) only [nI_iI, lN_lJ, iI_0, lJ_0, iI_add, iI_sub, iI_mul, iI_neg, lJ_add, lJ_sub, lJ_mul, lJ_neg, i_l, l_i, iI_cl, iI_inb, iI_eqT, iI_eqF, iI_ltT, iI_ltF, iI_leT, iI_leF, lJ_eqT, lJ_eqF, lJ_cG, lJ_cE, lJ_cL, lJ_cF, lJ_cGE, lJ_cLE, lJ_cNL, lJ_cNG, Int.cast_ofNat_Int, c_0, c_1, Int.natCast_add, Int.add_zero, cond_true, cond_false, Bool.and_self, Bool.and_true, Bool.true_and, Option.bind_some, decide_true, uI_hit, uI_miss, uI_o, uA_o, uA_s, ↓reduceIte, eq_self, true_or, or_true, or_false, false_or, true_and, and_true, false_and, and_false, or_self, and_self, not_false_eq_true, not_true_eq_false, tn_i, k8, k9, iI_rem, iI_div, r1, decide_eq_true]
        · rw [decide_eq_false u] at r1
          simp only [show tv false = 0 from rfl] at r1
          by_cases z1 : B 1 = 0
          · rw [if_pos z1] at r1
            rw [z1] at k9
            by_cases z0 : B 0 = 0
            · rw [z0] at k8
              simp (disch := omega) only [nI_iI, lN_lJ, iI_0, lJ_0, iI_add, iI_sub, iI_mul, iI_neg, lJ_add, lJ_sub, lJ_mul, lJ_neg, i_l, l_i, iI_cl, iI_inb, iI_eqT, iI_eqF, iI_ltT, iI_ltF, iI_leT, iI_leF, lJ_eqT, lJ_eqF, lJ_cG, lJ_cE, lJ_cL, lJ_cF, lJ_cGE, lJ_cLE, lJ_cNL, lJ_cNG, Int.cast_ofNat_Int, c_0, c_1, Int.natCast_add, Int.add_zero, cond_true, cond_false, Bool.and_self, Bool.and_true, Bool.true_and, Option.bind_some, decide_true, uI_hit, uI_miss, uI_o, uA_o, uA_s, ↓reduceIte, eq_self, true_or, or_true, or_false, false_or, true_and, and_true, false_and, and_false, or_self, and_self, not_false_eq_true, not_true_eq_false, tn_i, k8, k9, iI_rem, iI_div, r1, decide_eq_true]
            · simp (disch := omega) only [nI_iI, lN_lJ, iI_0, lJ_0, iI_add, iI_sub, iI_mul, iI_neg, lJ_add, lJ_sub, lJ_mul, lJ_neg, i_l, l_i, iI_cl, iI_inb, iI_eqT, iI_eqF, iI_ltT, iI_ltF, iI_leT, iI_leF, lJ_eqT, lJ_eqF, lJ_cG, lJ_cE, lJ_cL, lJ_cF, lJ_cGE, lJ_cLE, lJ_cNL, lJ_cNG, Int.cast_ofNat_Int, c_0, c_1, Int.natCast_add, Int.add_zero, cond_true, cond_false, Bool.and_self, Bool.and_true, Bool.true_and, Option.bind_some, decide_true, uI_hit, uI_miss, uI_o, uA_o, uA_s, ↓reduceIte, eq_self, true_or, or_true, or_false, false_or, true_and, and_true, false_and, and_false, or_self, and_self, not_false_eq_true, not_true_eq_false, tn_i, k8, k9, iI_rem, iI_div, r1, decide_eq_true]
          · rw [if_neg z1] at r1
            have mm1 := m1 (by omega)
            by_cases z0 : B 0 = 0
            · rw [z0] at k8
              simp (disch := omega) only [nI_iI, lN_lJ, iI_0, lJ_0, iI_add, iI_sub, iI_mul, iI_neg, lJ_add, lJ_sub, lJ_mul, lJ_neg, i_l, l_i, iI_cl, iI_inb, iI_eqT, iI_eqF, iI_ltT, iI_ltF, iI_leT, iI_leF, lJ_eqT, lJ_eqF, lJ_cG, lJ_cE, lJ_cL, lJ_cF, lJ_cGE, lJ_cLE, lJ_cNL, lJ_cNG, Int.cast_ofNat_Int, c_0, c_1, Int.natCast_add, Int.add_zero, cond_true, cond_false, Bool.and_self, Bool.and_true, Bool.true_and, Option.bind_some, decide_true, uI_hit, uI_miss, uI_o, uA_o, uA_s, ↓reduceIte, eq_self, true_or, or_true, or_false, false_or, true_and, and_true, false_and, and_false, or_self, and_self, not_false_eq_true, not_true_eq_false, tn_i, k8, k9, iI_rem, iI_div, r1, decide_eq_true]
            · simp (disch := omega) only [nI_iI, lN_lJ, iI_0, lJ_0, iI_add, iI_sub, iI_mul, iI_neg, lJ_add, lJ_sub, lJ_mul, lJ_neg, i_l, l_i, iI_cl, iI_inb, iI_eqT, iI_eqF, iI_ltT, iI_ltF, iI_leT, iI_leF, lJ_eqT, lJ_eqF, lJ_cG, lJ_cE, lJ_cL, lJ_cF, lJ_cGE, lJ_cLE, lJ_cNL, lJ_cNG, Int.cast_ofNat_Int, c_0, c_1, Int.natCast_add, Int.add_zero, cond_true, cond_false, Bool.and_self, Bool.and_true, Bool.true_and, Option.bind_some, decide_true, uI_hit, uI_miss, uI_o, uA_o, uA_s, ↓reduceIte, eq_self, true_or, or_true, or_false, false_or, true_and, and_true, false_and, and_false, or_self, and_self, not_false_eq_true, not_true_eq_false, tn_i, k8, k9, iI_rem, iI_div, r1, decide_eq_true]
      · rw [if_neg q3]
        obtain ⟨d', r, r1, r2, r3⟩ := cd_hour (e := e) hC hW hR
        refine ⟨d', ?_, r2, r3⟩
        unfold FX10_drawn
        by_cases z1 : B 1 = 0
        · rw [z1] at k9
          by_cases z0 : B 0 = 0
          · rw [z0] at k8
            simp (disch := omega) only [nI_iI, lN_lJ, iI_0, lJ_0, iI_add, iI_sub, iI_mul, iI_neg, lJ_add, lJ_sub, lJ_mul, lJ_neg, i_l, l_i, iI_cl, iI_inb, iI_eqT, iI_eqF, iI_ltT, iI_ltF, iI_leT, iI_leF, lJ_eqT, lJ_eqF, lJ_cG, lJ_cE, lJ_cL, lJ_cF, lJ_cGE, lJ_cLE, lJ_cNL, lJ_cNG, Int.cast_ofNat_Int, c_0, c_1, Int.natCast_add, Int.add_zero, cond_true, cond_false, Bool.and_self, Bool.and_true, Bool.true_and, Option.bind_some, decide_true, uI_hit, uI_miss, uI_o, uA_o, uA_s, ↓reduceIte, eq_self, true_or, or_true, or_false, false_or, true_and, and_true, false_and, and_false, or_self, and_self, not_false_eq_true, not_true_eq_false, tn_i, k8, k9, iI_rem, iI_div, r1, decide_eq_true]
          · simp (disch := omega) only [nI_iI, lN_lJ, iI_0, lJ_0, iI_add, iI_sub, iI_mul, iI_neg, lJ_add, lJ_sub, lJ_mul, lJ_neg, i_l, l_i, iI_cl, iI_inb, iI_eqT, iI_eqF, iI_ltT, iI_ltF, iI_leT, iI_leF, lJ_eqT, lJ_eqF, lJ_cG, lJ_cE, lJ_cL, lJ_cF, lJ_cGE, lJ_cLE, lJ_cNL, lJ_cNG, Int.cast_ofNat_Int, c_0, c_1, Int.natCast_add, Int.add_zero, cond_true, cond_false, Bool.and_self, Bool.and_true, Bool.true_and, Option.bind_some, decide_true, uI_hit, uI_miss, uI_o, uA_o, uA_s, ↓reduceIte, eq_self, true_or, or_true, or_false, false_or, true_and, and_true, false_and, and_false, or_self, and_self, not_false_eq_true, not_true_eq_false, tn_i, k8, k9, iI_rem, iI_div, r1, decide_eq_true]
        · by_cases z0 : B 0 = 0
          · rw [z0] at k8
            simp (disch := omega) only [nI_iI, lN_lJ, iI_0, lJ_0, iI_add, iI_sub, iI_mul, iI_neg, lJ_add, lJ_sub, lJ_mul, lJ_neg, i_l, l_i, iI_cl, iI_inb, iI_eqT, iI_eqF, iI_ltT, iI_ltF, iI_leT, iI_leF, lJ_eqT, lJ_eqF, lJ_cG, lJ_cE, lJ_cL, lJ_cF, lJ_cGE, lJ_cLE, lJ_cNL, lJ_cNG, Int.cast_ofNat_Int, c_0, c_1, Int.natCast_add, Int.add_zero, cond_true, cond_false, Bool.and_self, Bool.and_true, Bool.true_and, Option.bind_some, decide_true, uI_hit, uI_miss, uI_o, uA_o, uA_s, ↓reduceIte, eq_self, true_or, or_true, or_false, false_or, true_and, and_true, false_and, and_false, or_self, and_self, not_false_eq_true, not_true_eq_false, tn_i, k8, k9, iI_rem, iI_div, r1, decide_eq_true]
          · simp (disch := omega) only [nI_iI, lN_lJ, iI_0, lJ_0, iI_add, iI_sub, iI_mul, iI_neg, lJ_add, lJ_sub, lJ_mul, lJ_neg, i_l, l_i, iI_cl, iI_inb, iI_eqT, iI_eqF, iI_ltT, iI_ltF, iI_leT, iI_leF, lJ_eqT, lJ_eqF, lJ_cG, lJ_cE, lJ_cL, lJ_cF, lJ_cGE, lJ_cLE, lJ_cNL, lJ_cNG, Int.cast_ofNat_Int, c_0, c_1, Int.natCast_add, Int.add_zero, cond_true, cond_false, Bool.and_self, Bool.and_true, Bool.true_and, Option.bind_some, decide_true, uI_hit, uI_miss, uI_o, uA_o, uA_s, ↓reduceIte, eq_self, true_or, or_true, or_false, false_or, true_and, and_true, false_and, and_false, or_self, and_self, not_false_eq_true, not_true_eq_false, tn_i, k8, k9, iI_rem, iI_div, r1, decide_eq_true]
