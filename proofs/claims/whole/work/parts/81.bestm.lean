/-! ===== pairs: the reference, and the three ===== -/
theorem mq_digitBy {d : aI} {e : aJ} {x h : Nat} (hx : x < 117649) (hh : h < 6) : FX11_digitBy d e (iI (x : Nat)) (iI (h : Nat)) = some (iI (dgM x h : Nat), d, e) := by
  have key := run_invR (st := stX11_digitBy) (fun t p => ∃ z : Nat, z = x / 7 ^ t ∧ p = (4, [some (.int (iI (x : Nat))), some (.int (iI (h : Nat))), some (.int (iI (z : Nat))), some (.int (iI (5 - t)))], d, e)) (5 - h) (p0 := (4, [some (.int (iI (x : Nat))), some (.int (iI (h : Nat))), some (.int (iI (x : Nat))), some (.int (iI (5 - (0 : Nat))))], d, e)) ⟨x, by rw [Nat.pow_zero, Nat.div_one], rfl⟩ ?_
  · obtain ⟨p, ⟨z, hz, rfl⟩, t1⟩ := key
    have zl : z < 117649 := by rw [hz]; exact Nat.lt_of_le_of_lt (Nat.div_le_self _ _) hx
    have e1 : dgM x h = z % 7 := by unfold dgM; rw [hz]
    have e2 : ((z % 7 : Nat) : Int) = (z : Int) % 7 := by omega
    rw [e1, e2]
    unfold FX11_digitBy
    rw [a_run_step (st := stX11_digitBy) (p := (0, [some (.int (iI (x : Nat))), some (.int (iI (h : Nat))), none, none], d, e)) (p2 := (4, [some (.int (iI (x : Nat))), some (.int (iI (h : Nat))), some (.int (iI (x : Nat))), some (.int (iI (5 - (0 : Nat))))], d, e)) rfl rfl, t1, a_run_step (st := stX11_digitBy) (p2 := (100000, [some (.int (iI ((z : Int) % 7)))], d, e)) (by
      show sX11_digitBy_4 d e _ _ _ _ = _
      unfold sX11_digitBy_4
      simp (disch := omega) only [nI_iI, lN_lJ, iI_0, lJ_0, iI_add, iI_sub, iI_mul, iI_neg, lJ_add, lJ_sub, lJ_mul, lJ_neg, i_l, l_i, iI_cl, iI_inb, iI_eqT, iI_eqF, iI_ltT, iI_ltF, iI_leT, iI_leF, lJ_eqT, lJ_eqF, lJ_cG, lJ_cE, lJ_cL, lJ_cF, lJ_cGE, lJ_cLE, lJ_cNL, lJ_cNG, Int.cast_ofNat_Int, c_0, c_1, Int.natCast_add, Int.add_zero, cond_true, cond_false, Bool.and_self, Bool.and_true, Bool.true_and, Option.bind_some, decide_true, uI_hit, uI_miss, uI_o, uA_o, uA_s, ↓reduceIte, eq_self, true_or, or_true, or_false, false_or, true_and, and_true, false_and, and_false, or_self, and_self, not_false_eq_true, not_true_eq_false, tn_i, iI_rem, decide_eq_true]) rfl, a_run_end]
    rfl
  · rintro t p ht ⟨z, hz, rfl⟩
    have zl : z < 117649 := by rw [hz]; exact Nat.lt_of_le_of_lt (Nat.div_le_self _ _) hx
    refine ⟨(4, [some (.int (iI (x : Nat))), some (.int (iI (h : Nat))), some (.int (iI ((z / 7 : Nat) : Int))), some (.int (iI (5 - (t + 1 : Nat))))], d, e), a_run_step ?_ rfl, z / 7, by rw [hz, Nat.pow_succ, Nat.div_div_eq_div_mul], rfl⟩
    have e2 : ((z / 7 : Nat) : Int) = (z : Int) / 7 := by omega
    rw [e2, show (5 : Int) - (t + 1 : Nat) = 5 - (t : Nat) + -1 from by omega]
    show sX11_digitBy_4 d e _ _ _ _ = _
    unfold sX11_digitBy_4
    simp (disch := omega) only [nI_iI, lN_lJ, iI_0, lJ_0, iI_add, iI_sub, iI_mul, iI_neg, lJ_add, lJ_sub, lJ_mul, lJ_neg, i_l, l_i, iI_cl, iI_inb, iI_eqT, iI_eqF, iI_ltT, iI_ltF, iI_leT, iI_leF, lJ_eqT, lJ_eqF, lJ_cG, lJ_cE, lJ_cL, lJ_cF, lJ_cGE, lJ_cLE, lJ_cNL, lJ_cNG, Int.cast_ofNat_Int, c_0, c_1, Int.natCast_add, Int.add_zero, cond_true, cond_false, Bool.and_self, Bool.and_true, Bool.true_and, Option.bind_some, decide_true, uI_hit, uI_miss, uI_o, uA_o, uA_s, ↓reduceIte, eq_self, true_or, or_true, or_false, false_or, true_and, and_true, false_and, and_false, or_self, and_self, not_false_eq_true, not_true_eq_false, tn_i, iI_div, decide_eq_true]
def usM (x : Nat) : Nat → Int32
  | 0 => iI 0
  | h + 1 => if dgM x h = 0 then usM x h else usM x h ||| a_shl (iI 1) (iI ((dgM x h - 1 : Nat) : Int))
theorem usM_s {x h : Nat} : usM x (h + 1) = if dgM x h = 0 then usM x h else usM x h ||| a_shl (iI 1) (iI ((dgM x h - 1 : Nat) : Int)) := rfl
theorem usM_b {x : Nat} (h : Nat) : BM (usM x h) (fun c => ∃ j, j < h ∧ dgM x j = c + 1) := by
  induction h with
  | zero => exact BM.zero (fun k z => by obtain ⟨j, j1, _⟩ := z; omega)
  | succ h ih =>
    have l := dgM_lt (x := x) (h := h)
    rw [usM_s]
    by_cases q : dgM x h = 0
    · rw [if_pos q]
      refine ih.cg (fun i hi => ⟨fun w => ?_, fun w => ?_⟩)
      · obtain ⟨j, j1, j2⟩ := w; exact ⟨j, by omega, j2⟩
      · obtain ⟨j, j1, j2⟩ := w
        by_cases w2 : j = h
        · rw [w2] at j2; omega
        · exact ⟨j, by omega, j2⟩
    · rw [if_neg q]
      refine (ih.or (i := dgM x h - 1) (by omega)).cg (fun i hi => ⟨fun w => ?_, fun w => ?_⟩)
      · rcases w with ⟨j, j1, j2⟩ | w
        · exact ⟨j, by omega, j2⟩
        · exact ⟨h, by omega, by omega⟩
      · obtain ⟨j, j1, j2⟩ := w
        by_cases w2 : j = h
        · rw [w2] at j2; exact Or.inr (by omega)
        · exact Or.inl ⟨j, by omega, j2⟩
def Kq (d d' : aI) : Prop := ∀ o j, (o ≠ 108 ∨ (j ≠ 26 ∧ j ≠ 27 ∧ j ≠ 28)) → d' o j = d o j
theorem Kq.refl (d : aI) : Kq d d := fun _ _ _ => rfl
theorem Kq.trans {d d1 d2 : aI} (h : Kq d d1) (h2 : Kq d1 d2) : Kq d d2 := fun o j a => (h2 o j a).trans (h o j a)
theorem Kq.obj {d d' : aI} (h : Kq d d') {o : Nat} (ho : o ≠ 108) : d' o = d o := by funext j; exact h o j (Or.inl ho)
theorem Kq.km {d d' : aI} (h : Kq d d') : Km d d' := ⟨fun k _ b => h.obj b, fun j a => h 108 j (by omega)⟩
theorem Kq.put {d : aI} {j : Nat} {v : Int32} (hj : j = 26 ∨ j = 27 ∨ j = 28) : Kq d (uI d 108 j v) := fun o i a => by
  by_cases q : o = 108
  · rw [q, uI_miss (by omega)]
  · rw [uI_o q]
/-- the cells so far -/
def QC (d : aI) (A : Int → Int) (x h : Nat) : Prop := d 108 26 = iI (pcM x h : Nat) ∧ d 108 27 = iI (msM false A x h : Nat) ∧ d 108 28 = iI (msM true A x h : Nat)
theorem mq_farN {d : aI} {e : aJ} {A : Int → Int} (hA : MA d 109 A) (hW : WN A) {c h : Nat} (hc : (c : Int) < A 1) (hh : (h : Int) < A 0) : FX11_farOf d e (iI (c : Nat)) (iI (h : Nat)) = some (iI (frN A c h : Nat), d, e) := by
  have fi := farS_in hW (c := c) (h := h) ⟨by omega, hc, by omega, hh⟩
  unfold frN
  rw [Int.toNat_of_nonneg fi.1]
  exact mq_farOf hA hW ⟨by omega, hc, by omega, hh⟩
theorem mq_isM1 {d : aI} {e : aJ} {A : Int → Int} (hA : MA d 109 A) (hW : WN A) {x h : Nat} (hx : x < 117649) (hh : h < 6) (ok : okM A x h) (qc : QC d A x h) (v4 : Option Value) : ∃ d' v', stX11_isMatch (19, [some (.ref 108), some (.int (iI (x : Nat))), some (.int (usM x h)), some (.int (iI (h : Nat))), v4], d, e) = some (19, [some (.ref 108), some (.int (iI (x : Nat))), some (.int (usM x (h + 1))), some (.int (iI (h + 1 : Nat))), v'], d', e) ∧ QC d' A x (h + 1) ∧ Kq d d' := by
  have w0 := hW.1
  have w1 := hW.2.1
  have dg := mq_digitBy (d := d) (e := e) hx hh
  have l7 := dgM_lt (x := x) (h := h)
  have mlf := msM_le (w := false) (A := A) frN_5 (x := x) h
  have mlt := (msM_le (w := true) (A := A) frN_5 (x := x) h).1
  obtain ⟨c26, c27, c28⟩ := qc
  by_cases z : dgM x h = 0
  · rw [z] at dg
    refine ⟨d, some (.int (iI (-1))), ?_, ?_, Kq.refl d⟩
    · rw [usM_s, if_pos z]
      show sX11_isMatch_19 d e _ _ _ v4 = _
      unfold sX11_isMatch_19
      simp (disch := omega) only [nI_iI, lN_lJ, iI_0, lJ_0, iI_add, iI_sub, iI_mul, iI_neg, lJ_add, lJ_sub, lJ_mul, lJ_neg, i_l, l_i, iI_cl, iI_inb, iI_eqT, iI_eqF, iI_ltT, iI_ltF, iI_leT, iI_leF, lJ_eqT, lJ_eqF, lJ_cG, lJ_cE, lJ_cL, lJ_cF, lJ_cGE, lJ_cLE, lJ_cNL, lJ_cNG, Int.cast_ofNat_Int, c_0, c_1, Int.natCast_add, Int.add_zero, cond_true, cond_false, Bool.and_self, Bool.and_true, Bool.true_and, Option.bind_some, decide_true, uI_hit, uI_miss, uI_o, uA_o, uA_s, ↓reduceIte, eq_self, true_or, or_true, or_false, false_or, true_and, and_true, false_and, and_false, or_self, and_self, not_false_eq_true, not_true_eq_false, tn_i, dg, (show (0 : Int) - 1 = -1 from rfl)]
    · unfold QC
      rw [pcM_s, msM_s, msM_s, if_pos z, if_pos z, if_pos z]
      exact ⟨c26, c27, c28⟩
  · rcases ok with ok | ⟨⟨⟨o1, o2⟩, ⟨o3, o4⟩⟩, o5⟩
    · exact absurd ok z
    obtain ⟨C, hC⟩ : ∃ C, dgM x h = C + 1 := ⟨dgM x h - 1, by omega⟩
    rw [hC, Nat.add_sub_cancel] at o3 o4
    rw [hC] at dg
    have dg2 : FX11_digitBy d e (iI (x : Nat)) (iI (h : Nat)) = some (iI ((C : Int) + 1), d, e) := dg
    have nu : ¬hasP (usM x h) (C : Nat) := fun q => by
      obtain ⟨j, j1, j2⟩ := ((usM_b (x := x) h).has (k := C) (by omega)).mp q
      exact o5 j j1 (by rw [hC]; exact j2)
    have hy := mq_isHouse_y (d := d) (e := e) hA hW (x := h) ⟨by omega, o1⟩
    have cy := mq_isCat_y (d := d) (e := e) hA hW (x := C) ⟨by omega, o3⟩
    have wy := mq_wo_y (d := d) (e := e) hA hW (c := C) ⟨by omega, o3, o4⟩
    have ci := mq_catIn (d := d) (e := e) hA hW (h := h) (by omega)
    rw [o2] at ci
    have A1 : MA (uI d 108 26 (iI ((pcM x h : Int) + 1))) 109 A := hA.of (uI_o (by omega))
    have f1 := mq_farN (e := e) A1 hW o3 o1
    have A2 : ∀ v, MA (uI (uI d 108 26 (iI ((pcM x h : Int) + 1))) 108 27 v) 109 A := fun v => A1.of (uI_o (by omega))
    have f2 := fun v => mq_farN (e := e) (A2 v) hW o3 o1
    have e3 : usM x (h + 1) = usM x h ||| a_shl (iI 1) (iI (C : Nat)) := by rw [usM_s, if_neg z, hC, Nat.add_sub_cancel]
    have p1 : pcM x (h + 1) = pcM x h + 1 := by rw [pcM_s, if_neg z]
    have p2 : msM false A x (h + 1) = msM false A x h + frN A C h := by rw [msM_s, if_neg z, cbM_f, hC, Nat.add_sub_cancel]
    have p3 : msM true A x (h + 1) = if msM true A x h < frN A C h then frN A C h else msM true A x h := by rw [msM_s, if_neg z, cbM_t, hC, Nat.add_sub_cancel]
    have f5 : frN A C h ≤ 5 := frN_5 C h
    rw [e3]
    generalize hF : frN A C h = F at *
    generalize hP : pcM x h = P at *
    generalize hM : msM false A x h = M at *
    generalize hT : msM true A x h = T at *
    refine ⟨uI (uI (uI d 108 26 (iI ((P : Int) + 1))) 108 27 (iI ((M : Int) + (F : Int)))) 108 28 (iI ((if T < F then F else T : Nat) : Int)), some (.int (iI (C : Nat))), ?_, ⟨?_, ?_, ?_⟩, (Kq.put (by omega)).trans ((Kq.put (by omega)).trans (Kq.put (by omega)))⟩
    · have f2' := f2 (iI ((M : Int) + (F : Int)))
      by_cases q : T < F
      · rw [if_pos q]
        show sX11_isMatch_19 d e _ _ _ v4 = _
        unfold sX11_isMatch_19
        simp (config := {maxSteps := 4000000}) (disch := omega) only [nI_iI, lN_lJ, iI_0, lJ_0, iI_add, iI_sub, iI_mul, iI_neg, lJ_add, lJ_sub, lJ_mul, lJ_neg, i_l, l_i, iI_cl, iI_inb, iI_eqT, iI_eqF, iI_ltT, iI_ltF, iI_leT, iI_leF, lJ_eqT, lJ_eqF, lJ_cG, lJ_cE, lJ_cL, lJ_cF, lJ_cGE, lJ_cLE, lJ_cNL, lJ_cNG, Int.cast_ofNat_Int, c_0, c_1, Int.natCast_add, Int.add_zero, cond_true, cond_false, Bool.and_self, Bool.and_true, Bool.true_and, Option.bind_some, decide_true, uI_hit, uI_miss, uI_o, uA_o, uA_s, ↓reduceIte, eq_self, true_or, or_true, or_false, false_or, true_and, and_true, false_and, and_false, or_self, and_self, not_false_eq_true, not_true_eq_false, tn_i, dg2, Int.add_sub_cancel, hy, cy, mq_has_n nu, wy, ci, c26, c27, c28, f1, f2']
      · rw [if_neg q]
        show sX11_isMatch_19 d e _ _ _ v4 = _
        unfold sX11_isMatch_19
        simp (config := {maxSteps := 4000000}) (disch := omega) only [nI_iI, lN_lJ, iI_0, lJ_0, iI_add, iI_sub, iI_mul, iI_neg, lJ_add, lJ_sub, lJ_mul, lJ_neg, i_l, l_i, iI_cl, iI_inb, iI_eqT, iI_eqF, iI_ltT, iI_ltF, iI_leT, iI_leF, lJ_eqT, lJ_eqF, lJ_cG, lJ_cE, lJ_cL, lJ_cF, lJ_cGE, lJ_cLE, lJ_cNL, lJ_cNG, Int.cast_ofNat_Int, c_0, c_1, Int.natCast_add, Int.add_zero, cond_true, cond_false, Bool.and_self, Bool.and_true, Bool.true_and, Option.bind_some, decide_true, uI_hit, uI_miss, uI_o, uA_o, uA_s, ↓reduceIte, eq_self, true_or, or_true, or_false, false_or, true_and, and_true, false_and, and_false, or_self, and_self, not_false_eq_true, not_true_eq_false, tn_i, dg2, Int.add_sub_cancel, hy, cy, mq_has_n nu, wy, ci, c26, c27, c28, f1, f2']
    · rw [uI_miss (by omega), uI_miss (by omega), uI_hit rfl, p1]
      rfl
    · rw [uI_miss (by omega), uI_hit rfl, p2]
      rfl
    · rw [uI_hit rfl, p3]
theorem mq_isM0 {d : aI} {e : aJ} {A : Int → Int} (hA : MA d 109 A) (hW : WN A) {x h : Nat} (hx : x < 117649) (hh : h < 6) (ok : ¬okM A x h) (v4 : Option Value) : stX11_isMatch (19, [some (.ref 108), some (.int (iI (x : Nat))), some (.int (usM x h)), some (.int (iI (h : Nat))), v4], d, e) = some (100000, [some (.int (iI 0))], d, e) := by
  have w0 := hW.1
  have w1 := hW.2.1
  have dg := mq_digitBy (d := d) (e := e) hx hh
  have l7 := dgM_lt (x := x) (h := h)
  have z : dgM x h ≠ 0 := fun q => ok (Or.inl q)
  obtain ⟨C, hC⟩ : ∃ C, dgM x h = C + 1 := ⟨dgM x h - 1, by omega⟩
  rw [hC] at dg
  have dg2 : FX11_digitBy d e (iI (x : Nat)) (iI (h : Nat)) = some (iI ((C : Int) + 1), d, e) := dg
  show sX11_isMatch_19 d e _ _ _ v4 = _
  unfold sX11_isMatch_19
  by_cases o1 : (h : Int) < A 0
  · have hy := mq_isHouse_y (d := d) (e := e) hA hW (x := h) ⟨by omega, o1⟩
    by_cases o3 : (C : Int) < A 1
    · have cy := mq_isCat_y (d := d) (e := e) hA hW (x := C) ⟨by omega, o3⟩
      by_cases nu : hasP (usM x h) (C : Nat)
      · simp (config := {maxSteps := 4000000}) (disch := omega) only [nI_iI, lN_lJ, iI_0, lJ_0, iI_add, iI_sub, iI_mul, iI_neg, lJ_add, lJ_sub, lJ_mul, lJ_neg, i_l, l_i, iI_cl, iI_inb, iI_eqT, iI_eqF, iI_ltT, iI_ltF, iI_leT, iI_leF, lJ_eqT, lJ_eqF, lJ_cG, lJ_cE, lJ_cL, lJ_cF, lJ_cGE, lJ_cLE, lJ_cNL, lJ_cNG, Int.cast_ofNat_Int, c_0, c_1, Int.natCast_add, Int.add_zero, cond_true, cond_false, Bool.and_self, Bool.and_true, Bool.true_and, Option.bind_some, decide_true, uI_hit, uI_miss, uI_o, uA_o, uA_s, ↓reduceIte, eq_self, true_or, or_true, or_false, false_or, true_and, and_true, false_and, and_false, or_self, and_self, not_false_eq_true, not_true_eq_false, tn_i, dg2, Int.add_sub_cancel, hy, cy, mq_has_y nu]
      · by_cases o4 : A (12 + 3 * C + 1) = -1
        · have wy := mq_wo_y (d := d) (e := e) hA hW (c := C) ⟨by omega, o3, o4⟩
          have ci := mq_catIn (d := d) (e := e) hA hW (h := h) (by omega)
          have gi := gst_in hW (h : Int)
          have o2 : gst A h ≠ -1 := fun q => ok (Or.inr ⟨⟨⟨o1, q⟩, by rw [hC, Nat.add_sub_cancel]; exact ⟨o3, o4⟩⟩, fun j hj w => nu (((usM_b (x := x) h).has (k := C) (by omega)).mpr ⟨j, hj, by rw [w, hC]⟩)⟩)
          simp (config := {maxSteps := 4000000}) (disch := omega) only [nI_iI, lN_lJ, iI_0, lJ_0, iI_add, iI_sub, iI_mul, iI_neg, lJ_add, lJ_sub, lJ_mul, lJ_neg, i_l, l_i, iI_cl, iI_inb, iI_eqT, iI_eqF, iI_ltT, iI_ltF, iI_leT, iI_leF, lJ_eqT, lJ_eqF, lJ_cG, lJ_cE, lJ_cL, lJ_cF, lJ_cGE, lJ_cLE, lJ_cNL, lJ_cNG, Int.cast_ofNat_Int, c_0, c_1, Int.natCast_add, Int.add_zero, cond_true, cond_false, Bool.and_self, Bool.and_true, Bool.true_and, Option.bind_some, decide_true, uI_hit, uI_miss, uI_o, uA_o, uA_s, ↓reduceIte, eq_self, true_or, or_true, or_false, false_or, true_and, and_true, false_and, and_false, or_self, and_self, not_false_eq_true, not_true_eq_false, tn_i, dg2, Int.add_sub_cancel, hy, cy, mq_has_n nu, wy, ci]
        · have wn := mq_wo_n (d := d) (e := e) hA hW (c := C) ⟨by omega, o3, o4⟩
          simp (config := {maxSteps := 4000000}) (disch := omega) only [nI_iI, lN_lJ, iI_0, lJ_0, iI_add, iI_sub, iI_mul, iI_neg, lJ_add, lJ_sub, lJ_mul, lJ_neg, i_l, l_i, iI_cl, iI_inb, iI_eqT, iI_eqF, iI_ltT, iI_ltF, iI_leT, iI_leF, lJ_eqT, lJ_eqF, lJ_cG, lJ_cE, lJ_cL, lJ_cF, lJ_cGE, lJ_cLE, lJ_cNL, lJ_cNG, Int.cast_ofNat_Int, c_0, c_1, Int.natCast_add, Int.add_zero, cond_true, cond_false, Bool.and_self, Bool.and_true, Bool.true_and, Option.bind_some, decide_true, uI_hit, uI_miss, uI_o, uA_o, uA_s, ↓reduceIte, eq_self, true_or, or_true, or_false, false_or, true_and, and_true, false_and, and_false, or_self, and_self, not_false_eq_true, not_true_eq_false, tn_i, dg2, Int.add_sub_cancel, hy, cy, mq_has_n nu, wn]
    · have cn := mq_isCat_n (d := d) (e := e) hA hW (x := C) (by omega)
      simp (config := {maxSteps := 4000000}) (disch := omega) only [nI_iI, lN_lJ, iI_0, lJ_0, iI_add, iI_sub, iI_mul, iI_neg, lJ_add, lJ_sub, lJ_mul, lJ_neg, i_l, l_i, iI_cl, iI_inb, iI_eqT, iI_eqF, iI_ltT, iI_ltF, iI_leT, iI_leF, lJ_eqT, lJ_eqF, lJ_cG, lJ_cE, lJ_cL, lJ_cF, lJ_cGE, lJ_cLE, lJ_cNL, lJ_cNG, Int.cast_ofNat_Int, c_0, c_1, Int.natCast_add, Int.add_zero, cond_true, cond_false, Bool.and_self, Bool.and_true, Bool.true_and, Option.bind_some, decide_true, uI_hit, uI_miss, uI_o, uA_o, uA_s, ↓reduceIte, eq_self, true_or, or_true, or_false, false_or, true_and, and_true, false_and, and_false, or_self, and_self, not_false_eq_true, not_true_eq_false, tn_i, dg2, Int.add_sub_cancel, hy, cn]
  · have hn := mq_isHouse_n (d := d) (e := e) hA hW (x := h) (by omega)
    simp (config := {maxSteps := 4000000}) (disch := omega) only [nI_iI, lN_lJ, iI_0, lJ_0, iI_add, iI_sub, iI_mul, iI_neg, lJ_add, lJ_sub, lJ_mul, lJ_neg, i_l, l_i, iI_cl, iI_inb, iI_eqT, iI_eqF, iI_ltT, iI_ltF, iI_leT, iI_leF, lJ_eqT, lJ_eqF, lJ_cG, lJ_cE, lJ_cL, lJ_cF, lJ_cGE, lJ_cLE, lJ_cNL, lJ_cNG, Int.cast_ofNat_Int, c_0, c_1, Int.natCast_add, Int.add_zero, cond_true, cond_false, Bool.and_self, Bool.and_true, Bool.true_and, Option.bind_some, decide_true, uI_hit, uI_miss, uI_o, uA_o, uA_s, ↓reduceIte, eq_self, true_or, or_true, or_false, false_or, true_and, and_true, false_and, and_false, or_self, and_self, not_false_eq_true, not_true_eq_false, tn_i, dg2, Int.add_sub_cancel, hn]
theorem mq_isMatch {d : aI} {e : aJ} {A : Int → Int} (hA : MA d 109 A) (hW : WN A) {x : Nat} (hx : x < 117649) : ∃ d', FX11_isMatch d e (iI (x : Nat)) = some (iI (if goM A 0 x then 1 else 0), d', e) ∧ Kq d d' ∧ ((∀ j, j < 6 → okM A x j) → QC d' A x 6) := by
  have st0 : stX11_isMatch (0, [some (.ref 108), some (.int (iI (x : Nat))), none, none, none], d, e) = some (19, [some (.ref 108), some (.int (iI (x : Nat))), some (.int (usM x 0)), some (.int (iI (0 : Nat))), none], uI (uI (uI d 108 26 (iI 0)) 108 27 (iI 0)) 108 28 (iI 0), e) := rfl
  have k0 : Kq d (uI (uI (uI d 108 26 (iI 0)) 108 27 (iI 0)) 108 28 (iI 0)) := (Kq.put (by omega)).trans ((Kq.put (by omega)).trans (Kq.put (by omega)))
  have q0 : QC (uI (uI (uI d 108 26 (iI 0)) 108 27 (iI 0)) 108 28 (iI 0)) A x 0 := by
    refine ⟨?_, ?_, ?_⟩
    · rw [uI_miss (by omega), uI_miss (by omega), uI_hit rfl]; rfl
    · rw [uI_miss (by omega), uI_hit rfl]; rfl
    · rw [uI_hit rfl]; rfl
  have run : ∀ k, k ≤ 6 → (∀ j, j < k → okM A x j) → ∃ p, (∃ d' v4, p = (19, [some (.ref 108), some (.int (iI (x : Nat))), some (.int (usM x k)), some (.int (iI (k : Nat))), v4], d', e) ∧ QC d' A x k ∧ Kq d d') ∧ a_run stX11_isMatch (0, [some (.ref 108), some (.int (iI (x : Nat))), none, none, none], d, e) = a_run stX11_isMatch p := by
    intro k
    induction k with
    | zero => intro _ _; exact ⟨_, ⟨_, none, rfl, q0, k0⟩, a_run_step st0 rfl⟩
    | succ k ih =>
      intro hk ok
      obtain ⟨p, ⟨d1, v4, rfl, q1, k1⟩, t⟩ := ih (by omega) (fun j hj => ok j (by omega))
      obtain ⟨d2, v', s, q2, k2⟩ := mq_isM1 (e := e) (hA.of (k1.obj (o := 109) (by omega))) hW hx (show k < 6 by omega) (ok k (by omega)) q1 v4
      exact ⟨_, ⟨d2, v', rfl, q2, k1.trans k2⟩, t.trans (a_run_step s rfl)⟩
  unfold FX11_isMatch
  by_cases all : ∀ j, j < 6 → okM A x j
  · rw [if_pos ⟨all, Nat.zero_le _⟩]
    obtain ⟨p, ⟨d1, v4, rfl, q1, k1⟩, t⟩ := run 6 (by omega) all
    refine ⟨d1, ?_, k1, fun _ => q1⟩
    rw [t, a_run_step (st := stX11_isMatch) (p2 := (100000, [some (.int (iI 1))], d1, e)) (by
      show sX11_isMatch_19 d1 e _ _ _ v4 = _
      unfold sX11_isMatch_19
      simp (disch := omega) only [nI_iI, lN_lJ, iI_0, lJ_0, iI_add, iI_sub, iI_mul, iI_neg, lJ_add, lJ_sub, lJ_mul, lJ_neg, i_l, l_i, iI_cl, iI_inb, iI_eqT, iI_eqF, iI_ltT, iI_ltF, iI_leT, iI_leF, lJ_eqT, lJ_eqF, lJ_cG, lJ_cE, lJ_cL, lJ_cF, lJ_cGE, lJ_cLE, lJ_cNL, lJ_cNG, Int.cast_ofNat_Int, c_0, c_1, Int.natCast_add, Int.add_zero, cond_true, cond_false, Bool.and_self, Bool.and_true, Bool.true_and, Option.bind_some, decide_true, uI_hit, uI_miss, uI_o, uA_o, uA_s, ↓reduceIte, eq_self, true_or, or_true, or_false, false_or, true_and, and_true, false_and, and_false, or_self, and_self, not_false_eq_true, not_true_eq_false, tn_i]) rfl, a_run_end]
    rfl
  · rw [if_neg (fun z => all z.1)]
    have ex : ∃ j, j < 6 ∧ ¬okM A x j := Classical.byContradiction (fun z => all (fun j hj => Classical.byContradiction (fun y => z ⟨j, hj, y⟩)))
    obtain ⟨k, ⟨h1, h2⟩, h3⟩ := least_ex (P := fun j => j < 6 ∧ ¬okM A x j) ex
    obtain ⟨p, ⟨d1, v4, rfl, q1, k1⟩, t⟩ := run k (by omega) (fun j hj => Classical.byContradiction (fun y => h3 j hj ⟨by omega, y⟩))
    refine ⟨d1, ?_, k1, fun z => absurd z all⟩
    rw [t, a_run_step (mq_isM0 (e := e) (hA.of (k1.obj (o := 109) (by omega))) hW hx h1 h2 v4) rfl, a_run_end]
    rfl
def moM (A : Int → Int) : Nat := if (csM A).1 ≤ (hsM A 6).1 then (csM A).1 else (hsM A 6).1
theorem moM_ok (A : Int → Int) : moM A ≤ (csM A).1 ∧ moM A ≤ (hsM A 6).1 ∧ ((csM A).1 ≤ moM A ∨ (hsM A 6).1 ≤ moM A) := by
  unfold moM
  split <;> omega
theorem or_0 (x : Int32) : (x ||| iI 0) = x := Int32.toBitVec_inj.mp BitVec.or_zero
theorem free_n {A : Int → Int} (h0 : 0 ≤ A 0 ∧ A 0 ≤ 6) : ∃ m, m < 64 ∧ itr (freeF A) (A 0).toNat (iI 0) = iI (m : Nat) ∧ bcN m = (hsM A 6).1 := by
  have key : ∀ k, k ≤ (A 0).toNat → ∃ m, m < 2 ^ k ∧ itr (freeF A) k (iI 0) = iI (m : Nat) ∧ bcN m = (hsM A k).1 := by
    intro k
    induction k with
    | zero => intro _; exact ⟨0, by decide, rfl, rfl⟩
    | succ k ih =>
      intro hk
      obtain ⟨m, m1, m2, m3⟩ := ih (by omega)
      have e : itr (freeF A) (k + 1) (iI 0) = freeF A k (itr (freeF A) k (iI 0)) := rfl
      have p2 : 2 ^ (k + 1) = 2 ^ k * 2 := Nat.pow_succ ..
      rw [e, m2]
      unfold freeF
      by_cases q : gst A k = -1
      · have f : frP A k := ⟨by omega, q⟩
        have p64 : 2 ^ k ≤ 2 ^ 6 := Nat.pow_le_pow_right (by omega) (by omega)
        have bt := bt_add1 k (by omega) m (by omega) (by rw [Nat.div_eq_of_lt m1]; omega)
        refine ⟨m + 2 ^ k, by omega, ?_, ?_⟩
        · rw [if_pos q]
          exact or_b k (by omega) m m1
        · rw [bt.2, m3]
          show _ = (gaS (frP A) (k + 1)).1
          rw [gaS_s, if_pos f]; rfl
      · have f : ¬frP A k := fun z => q z.2
        refine ⟨m, by omega, ?_, ?_⟩
        · rw [if_neg q]
          exact or_0 _
        · rw [hsM_n f]; exact m3
  obtain ⟨m, m1, m2, m3⟩ := key (A 0).toNat (Nat.le_refl _)
  have p64 : 2 ^ (A 0).toNat ≤ 2 ^ 6 := Nat.pow_le_pow_right (by omega) (by omega)
  exact ⟨m, by omega, m2, by rw [m3, hsM_e h0]⟩
theorem mq_mostPairs {d : aI} {e : aJ} {A : Int → Int} (hA : MA d 109 A) (hW : WN A) : FX11_mostPairs d e = some (iI (moM A : Nat), d, e) := by
  have w0 := hW.1
  have w1 := hW.2.1
  have r1 : d 109 1 = iI (A 1) := hA.cell (j := 1) (by omega)
  obtain ⟨m, m1, m2, m3⟩ := free_n (A := A) w0
  have fr := mq_free (e := e) hA hW
  rw [m2] at fr
  have bi := mq_bits (d := d) (e := e) m m1
  rw [m3] at bi
  have hs6 : (hsM A 6).1 ≤ 6 := (gaS_ok (P := frP A) 6).1
  have cs7 := csM_n A
  have lp := run_invR (st := stX11_mostPairs) (fun k p => p = (4, [some (.ref 108), some (.int (iI ((gaS (ouP A) k).1 : Nat))), some (.int (iI (k : Nat)))], d, e)) (A 1).toNat (p0 := (4, [some (.ref 108), some (.int (iI ((gaS (ouP A) 0).1 : Nat))), some (.int (iI (0 : Nat)))], d, e)) rfl ?_
  rotate_left
  · rintro k p hk rfl
    refine ⟨_, a_run_step (p2 := (4, [some (.ref 108), some (.int (iI ((gaS (ouP A) (k + 1)).1 : Nat))), some (.int (iI (k + 1 : Nat)))], d, e)) ?_ rfl, rfl⟩
    have ok := (gaS_ok (P := ouP A) k).1
    by_cases q : A (12 + 3 * k + 1) = -1
    · have po : ouP A k := ⟨by omega, q⟩
      have e1 : (gaS (ouP A) (k + 1)).1 = (gaS (ouP A) k).1 + 1 := by rw [gaS_s, if_pos po]
      have wy := mq_wo_y (d := d) (e := e) hA hW (c := k) ⟨by omega, by omega, q⟩
      rw [e1]
      show sX11_mostPairs_4 d e _ _ = _
      unfold sX11_mostPairs_4
      simp (disch := omega) only [nI_iI, lN_lJ, iI_0, lJ_0, iI_add, iI_sub, iI_mul, iI_neg, lJ_add, lJ_sub, lJ_mul, lJ_neg, i_l, l_i, iI_cl, iI_inb, iI_eqT, iI_eqF, iI_ltT, iI_ltF, iI_leT, iI_leF, lJ_eqT, lJ_eqF, lJ_cG, lJ_cE, lJ_cL, lJ_cF, lJ_cGE, lJ_cLE, lJ_cNL, lJ_cNG, Int.cast_ofNat_Int, c_0, c_1, Int.natCast_add, Int.add_zero, cond_true, cond_false, Bool.and_self, Bool.and_true, Bool.true_and, Option.bind_some, decide_true, uI_hit, uI_miss, uI_o, uA_o, uA_s, ↓reduceIte, eq_self, true_or, or_true, or_false, false_or, true_and, and_true, false_and, and_false, or_self, and_self, not_false_eq_true, not_true_eq_false, tn_i, r1, wy]
    · have po : ¬ouP A k := fun z => q z.2
      have e1 : (gaS (ouP A) (k + 1)).1 = (gaS (ouP A) k).1 := by rw [gaS_s, if_neg po]
      have wn := mq_wo_n (d := d) (e := e) hA hW (c := k) ⟨by omega, by omega, q⟩
      rw [e1]
      show sX11_mostPairs_4 d e _ _ = _
      unfold sX11_mostPairs_4
      simp (disch := omega) only [nI_iI, lN_lJ, iI_0, lJ_0, iI_add, iI_sub, iI_mul, iI_neg, lJ_add, lJ_sub, lJ_mul, lJ_neg, i_l, l_i, iI_cl, iI_inb, iI_eqT, iI_eqF, iI_ltT, iI_ltF, iI_leT, iI_leF, lJ_eqT, lJ_eqF, lJ_cG, lJ_cE, lJ_cL, lJ_cF, lJ_cGE, lJ_cLE, lJ_cNL, lJ_cNG, Int.cast_ofNat_Int, c_0, c_1, Int.natCast_add, Int.add_zero, cond_true, cond_false, Bool.and_self, Bool.and_true, Bool.true_and, Option.bind_some, decide_true, uI_hit, uI_miss, uI_o, uA_o, uA_s, ↓reduceIte, eq_self, true_or, or_true, or_false, false_or, true_and, and_true, false_and, and_false, or_self, and_self, not_false_eq_true, not_true_eq_false, tn_i, r1, wn]
  obtain ⟨p, rfl, t1⟩ := lp
  rw [csM_e w1] at t1
  unfold FX11_mostPairs
  rw [a_run_step (st := stX11_mostPairs) (p := (0, [some (.ref 108), none, none], d, e)) (p2 := (4, [some (.ref 108), some (.int (iI ((gaS (ouP A) 0).1 : Nat))), some (.int (iI (0 : Nat)))], d, e)) rfl rfl, t1, a_run_step (st := stX11_mostPairs) (p2 := (100000, [some (.int (iI (moM A : Nat)))], d, e)) (by
    show sX11_mostPairs_4 d e _ _ = _
    unfold sX11_mostPairs_4 moM
    by_cases q : (csM A).1 ≤ (hsM A 6).1
    · rw [if_pos q]
      by_cases q2 : (csM A).1 = (hsM A 6).1
      · rw [← q2] at bi
        simp (disch := omega) only [nI_iI, lN_lJ, iI_0, lJ_0, iI_add, iI_sub, iI_mul, iI_neg, lJ_add, lJ_sub, lJ_mul, lJ_neg, i_l, l_i, iI_cl, iI_inb, iI_eqT, iI_eqF, iI_ltT, iI_ltF, iI_leT, iI_leF, lJ_eqT, lJ_eqF, lJ_cG, lJ_cE, lJ_cL, lJ_cF, lJ_cGE, lJ_cLE, lJ_cNL, lJ_cNG, Int.cast_ofNat_Int, c_0, c_1, Int.natCast_add, Int.add_zero, cond_true, cond_false, Bool.and_self, Bool.and_true, Bool.true_and, Option.bind_some, decide_true, uI_hit, uI_miss, uI_o, uA_o, uA_s, ↓reduceIte, eq_self, true_or, or_true, or_false, false_or, true_and, and_true, false_and, and_false, or_self, and_self, not_false_eq_true, not_true_eq_false, tn_i, r1, fr, bi]
      · simp (disch := omega) only [nI_iI, lN_lJ, iI_0, lJ_0, iI_add, iI_sub, iI_mul, iI_neg, lJ_add, lJ_sub, lJ_mul, lJ_neg, i_l, l_i, iI_cl, iI_inb, iI_eqT, iI_eqF, iI_ltT, iI_ltF, iI_leT, iI_leF, lJ_eqT, lJ_eqF, lJ_cG, lJ_cE, lJ_cL, lJ_cF, lJ_cGE, lJ_cLE, lJ_cNL, lJ_cNG, Int.cast_ofNat_Int, c_0, c_1, Int.natCast_add, Int.add_zero, cond_true, cond_false, Bool.and_self, Bool.and_true, Bool.true_and, Option.bind_some, decide_true, uI_hit, uI_miss, uI_o, uA_o, uA_s, ↓reduceIte, eq_self, true_or, or_true, or_false, false_or, true_and, and_true, false_and, and_false, or_self, and_self, not_false_eq_true, not_true_eq_false, tn_i, r1, fr, bi]
    · rw [if_neg q]
      simp (disch := omega) only [nI_iI, lN_lJ, iI_0, lJ_0, iI_add, iI_sub, iI_mul, iI_neg, lJ_add, lJ_sub, lJ_mul, lJ_neg, i_l, l_i, iI_cl, iI_inb, iI_eqT, iI_eqF, iI_ltT, iI_ltF, iI_leT, iI_leF, lJ_eqT, lJ_eqF, lJ_cG, lJ_cE, lJ_cL, lJ_cF, lJ_cGE, lJ_cLE, lJ_cNL, lJ_cNG, Int.cast_ofNat_Int, c_0, c_1, Int.natCast_add, Int.add_zero, cond_true, cond_false, Bool.and_self, Bool.and_true, Bool.true_and, Option.bind_some, decide_true, uI_hit, uI_miss, uI_o, uA_o, uA_s, ↓reduceIte, eq_self, true_or, or_true, or_false, false_or, true_and, and_true, false_and, and_false, or_self, and_self, not_false_eq_true, not_true_eq_false, tn_i, r1, fr, bi]) rfl, a_run_end]
  rfl
theorem mq_bestMatch {d : aI} {e : aJ} {A : Int → Int} (w : Bool) (hA : MA d 109 A) (hW : WN A) : ∃ d', FX11_bestMatch d e (iI (tv w)) = some (iI (bmS w A (moM A) 117649).1, d', e) ∧ Kq d d' := by
  have mp := mq_mostPairs (e := e) hA hW
  have m6 : moM A ≤ 6 := by have := (moM_ok A).1; have := csM_n A; omega
  have st0 : stX11_bestMatch (0, [some (.ref 108), some (.int (iI (tv w))), none, none, none, none], d, e) = some (15, [some (.ref 108), some (.int (iI (tv w))), some (.int (iI (moM A : Nat))), some (.int (iI (bmS w A (moM A) 0).1)), some (.int (iI ((bmS w A (moM A) 0).2 : Nat))), some (.int (iI (0 : Nat)))], d, e) := by
    show sX11_bestMatch_0 d e _ = some (15, [some (.ref 108), some (.int (iI (tv w))), some (.int (iI (moM A : Nat))), some (.int (iI (-1))), some (.int (iI 1000000)), some (.int (iI (0 : Nat)))], d, e)
    unfold sX11_bestMatch_0
    simp (disch := omega) only [nI_iI, lN_lJ, iI_0, lJ_0, iI_add, iI_sub, iI_mul, iI_neg, lJ_add, lJ_sub, lJ_mul, lJ_neg, i_l, l_i, iI_cl, iI_inb, iI_eqT, iI_eqF, iI_ltT, iI_ltF, iI_leT, iI_leF, lJ_eqT, lJ_eqF, lJ_cG, lJ_cE, lJ_cL, lJ_cF, lJ_cGE, lJ_cLE, lJ_cNL, lJ_cNG, Int.cast_ofNat_Int, c_0, c_1, Int.natCast_add, Int.add_zero, cond_true, cond_false, Bool.and_self, Bool.and_true, Bool.true_and, Option.bind_some, decide_true, uI_hit, uI_miss, uI_o, uA_o, uA_s, ↓reduceIte, eq_self, true_or, or_true, or_false, false_or, true_and, and_true, false_and, and_false, or_self, and_self, not_false_eq_true, not_true_eq_false, tn_i, mp]
  have lp := run_invR (st := stX11_bestMatch) (fun k p => ∃ d', p = (15, [some (.ref 108), some (.int (iI (tv w))), some (.int (iI (moM A : Nat))), some (.int (iI (bmS w A (moM A) k).1)), some (.int (iI ((bmS w A (moM A) k).2 : Nat))), some (.int (iI (k : Nat)))], d', e) ∧ Kq d d') 117649 (p0 := (15, [some (.ref 108), some (.int (iI (tv w))), some (.int (iI (moM A : Nat))), some (.int (iI (bmS w A (moM A) 0).1)), some (.int (iI ((bmS w A (moM A) 0).2 : Nat))), some (.int (iI (0 : Nat)))], d, e)) ⟨d, rfl, Kq.refl d⟩ ?_
  rotate_left
  · rintro k p hk ⟨d', rfl, g⟩
    obtain ⟨d2, q1, q2, q3⟩ := mq_isMatch (e := e) (hA.of (g.obj (o := 109) (by omega))) hW hk
    have ml := msM_le (w := w) (A := A) frN_5 (x := k) 6
    have b2 : (bmS w A (moM A) k).2 ≤ 1000000 := by
      have b := bmS_ok (w := w) (A := A) (most := moM A) k
      rcases b.2 with b | ⟨b, _, _, b3, _⟩
      · rw [b]; exact Nat.le_refl _
      · rw [b3]
        have := (msM_le (w := w) (A := A) frN_5 (x := b) 6).1
        show msM w A b 6 ≤ 1000000
        omega
    refine ⟨_, a_run_step (p2 := (15, [some (.ref 108), some (.int (iI (tv w))), some (.int (iI (moM A : Nat))), some (.int (iI (bmS w A (moM A) (k + 1)).1)), some (.int (iI ((bmS w A (moM A) (k + 1)).2 : Nat))), some (.int (iI (k + 1 : Nat)))], d2, e)) ?_ rfl, d2, rfl, g.trans q2⟩
    rw [bmS_s]
    generalize bmS w A (moM A) k = s at b2
    by_cases all : ∀ j, j < 6 → okM A k j
    · rw [if_pos ⟨all, Nat.zero_le _⟩] at q1
      obtain ⟨c26, c27, c28⟩ := q3 all
      by_cases mo : moM A ≤ pcM k 6
      · have cell : ∀ v, (tv w = 0 ∧ v = d2 108 27) ∨ (tv w = 1 ∧ v = d2 108 28) → v = iI (msM w A k 6 : Nat) := by
          intro v hv
          cases w with
          | false =>
            rcases hv with ⟨_, h⟩ | ⟨h, _⟩
            · rw [h]; exact c27
            · exact absurd h (by decide)
          | true =>
            rcases hv with ⟨h, _⟩ | ⟨_, h⟩
            · exact absurd h (by decide)
            · rw [h]; exact c28
        by_cases le : msM w A k 6 < s.2
        · rw [if_pos ⟨⟨all, mo⟩, le⟩]
          cases w with
          | false =>
            show sX11_bestMatch_15 d' e (iI 0) _ _ _ _ = some (15, [some (.ref 108), some (.int (iI 0)), some (.int (iI (moM A : Nat))), some (.int (iI (k : Nat))), some (.int (iI (msM false A k 6 : Nat))), some (.int (iI (k + 1 : Nat)))], d2, e)
            unfold sX11_bestMatch_15
            simp (disch := omega) only [nI_iI, lN_lJ, iI_0, lJ_0, iI_add, iI_sub, iI_mul, iI_neg, lJ_add, lJ_sub, lJ_mul, lJ_neg, i_l, l_i, iI_cl, iI_inb, iI_eqT, iI_eqF, iI_ltT, iI_ltF, iI_leT, iI_leF, lJ_eqT, lJ_eqF, lJ_cG, lJ_cE, lJ_cL, lJ_cF, lJ_cGE, lJ_cLE, lJ_cNL, lJ_cNG, Int.cast_ofNat_Int, c_0, c_1, Int.natCast_add, Int.add_zero, cond_true, cond_false, Bool.and_self, Bool.and_true, Bool.true_and, Option.bind_some, decide_true, uI_hit, uI_miss, uI_o, uA_o, uA_s, ↓reduceIte, eq_self, true_or, or_true, or_false, false_or, true_and, and_true, false_and, and_false, or_self, and_self, not_false_eq_true, not_true_eq_false, tn_i, q1, c26, c27]
          | true =>
            show sX11_bestMatch_15 d' e (iI 1) _ _ _ _ = some (15, [some (.ref 108), some (.int (iI 1)), some (.int (iI (moM A : Nat))), some (.int (iI (k : Nat))), some (.int (iI (msM true A k 6 : Nat))), some (.int (iI (k + 1 : Nat)))], d2, e)
            unfold sX11_bestMatch_15
            simp (disch := omega) only [nI_iI, lN_lJ, iI_0, lJ_0, iI_add, iI_sub, iI_mul, iI_neg, lJ_add, lJ_sub, lJ_mul, lJ_neg, i_l, l_i, iI_cl, iI_inb, iI_eqT, iI_eqF, iI_ltT, iI_ltF, iI_leT, iI_leF, lJ_eqT, lJ_eqF, lJ_cG, lJ_cE, lJ_cL, lJ_cF, lJ_cGE, lJ_cLE, lJ_cNL, lJ_cNG, Int.cast_ofNat_Int, c_0, c_1, Int.natCast_add, Int.add_zero, cond_true, cond_false, Bool.and_self, Bool.and_true, Bool.true_and, Option.bind_some, decide_true, uI_hit, uI_miss, uI_o, uA_o, uA_s, ↓reduceIte, eq_self, true_or, or_true, or_false, false_or, true_and, and_true, false_and, and_false, or_self, and_self, not_false_eq_true, not_true_eq_false, tn_i, q1, c26, c28]
        · rw [if_neg (fun z => le z.2)]
          cases w with
          | false =>
            show sX11_bestMatch_15 d' e (iI 0) _ _ _ _ = some (15, [some (.ref 108), some (.int (iI 0)), some (.int (iI (moM A : Nat))), some (.int (iI s.1)), some (.int (iI (s.2 : Nat))), some (.int (iI (k + 1 : Nat)))], d2, e)
            unfold sX11_bestMatch_15
            simp (disch := omega) only [nI_iI, lN_lJ, iI_0, lJ_0, iI_add, iI_sub, iI_mul, iI_neg, lJ_add, lJ_sub, lJ_mul, lJ_neg, i_l, l_i, iI_cl, iI_inb, iI_eqT, iI_eqF, iI_ltT, iI_ltF, iI_leT, iI_leF, lJ_eqT, lJ_eqF, lJ_cG, lJ_cE, lJ_cL, lJ_cF, lJ_cGE, lJ_cLE, lJ_cNL, lJ_cNG, Int.cast_ofNat_Int, c_0, c_1, Int.natCast_add, Int.add_zero, cond_true, cond_false, Bool.and_self, Bool.and_true, Bool.true_and, Option.bind_some, decide_true, uI_hit, uI_miss, uI_o, uA_o, uA_s, ↓reduceIte, eq_self, true_or, or_true, or_false, false_or, true_and, and_true, false_and, and_false, or_self, and_self, not_false_eq_true, not_true_eq_false, tn_i, q1, c26, c27]
          | true =>
            show sX11_bestMatch_15 d' e (iI 1) _ _ _ _ = some (15, [some (.ref 108), some (.int (iI 1)), some (.int (iI (moM A : Nat))), some (.int (iI s.1)), some (.int (iI (s.2 : Nat))), some (.int (iI (k + 1 : Nat)))], d2, e)
            unfold sX11_bestMatch_15
            simp (disch := omega) only [nI_iI, lN_lJ, iI_0, lJ_0, iI_add, iI_sub, iI_mul, iI_neg, lJ_add, lJ_sub, lJ_mul, lJ_neg, i_l, l_i, iI_cl, iI_inb, iI_eqT, iI_eqF, iI_ltT, iI_ltF, iI_leT, iI_leF, lJ_eqT, lJ_eqF, lJ_cG, lJ_cE, lJ_cL, lJ_cF, lJ_cGE, lJ_cLE, lJ_cNL, lJ_cNG, Int.cast_ofNat_Int, c_0, c_1, Int.natCast_add, Int.add_zero, cond_true, cond_false, Bool.and_self, Bool.and_true, Bool.true_and, Option.bind_some, decide_true, uI_hit, uI_miss, uI_o, uA_o, uA_s, ↓reduceIte, eq_self, true_or, or_true, or_false, false_or, true_and, and_true, false_and, and_false, or_self, and_self, not_false_eq_true, not_true_eq_false, tn_i, q1, c26, c28]
      · rw [if_neg (fun z => mo z.1.2)]
        show sX11_bestMatch_15 d' e _ _ _ _ _ = _
        unfold sX11_bestMatch_15
        simp (disch := omega) only [nI_iI, lN_lJ, iI_0, lJ_0, iI_add, iI_sub, iI_mul, iI_neg, lJ_add, lJ_sub, lJ_mul, lJ_neg, i_l, l_i, iI_cl, iI_inb, iI_eqT, iI_eqF, iI_ltT, iI_ltF, iI_leT, iI_leF, lJ_eqT, lJ_eqF, lJ_cG, lJ_cE, lJ_cL, lJ_cF, lJ_cGE, lJ_cLE, lJ_cNL, lJ_cNG, Int.cast_ofNat_Int, c_0, c_1, Int.natCast_add, Int.add_zero, cond_true, cond_false, Bool.and_self, Bool.and_true, Bool.true_and, Option.bind_some, decide_true, uI_hit, uI_miss, uI_o, uA_o, uA_s, ↓reduceIte, eq_self, true_or, or_true, or_false, false_or, true_and, and_true, false_and, and_false, or_self, and_self, not_false_eq_true, not_true_eq_false, tn_i, q1, c26]
    · rw [if_neg (fun z => all z.1)] at q1
      rw [if_neg (fun z => all z.1.1)]
      show sX11_bestMatch_15 d' e _ _ _ _ _ = _
      unfold sX11_bestMatch_15
      simp (disch := omega) only [nI_iI, lN_lJ, iI_0, lJ_0, iI_add, iI_sub, iI_mul, iI_neg, lJ_add, lJ_sub, lJ_mul, lJ_neg, i_l, l_i, iI_cl, iI_inb, iI_eqT, iI_eqF, iI_ltT, iI_ltF, iI_leT, iI_leF, lJ_eqT, lJ_eqF, lJ_cG, lJ_cE, lJ_cL, lJ_cF, lJ_cGE, lJ_cLE, lJ_cNL, lJ_cNG, Int.cast_ofNat_Int, c_0, c_1, Int.natCast_add, Int.add_zero, cond_true, cond_false, Bool.and_self, Bool.and_true, Bool.true_and, Option.bind_some, decide_true, uI_hit, uI_miss, uI_o, uA_o, uA_s, ↓reduceIte, eq_self, true_or, or_true, or_false, false_or, true_and, and_true, false_and, and_false, or_self, and_self, not_false_eq_true, not_true_eq_false, tn_i, q1]
  obtain ⟨p, ⟨d2, rfl, g⟩, t1⟩ := lp
  refine ⟨d2, ?_, g⟩
  unfold FX11_bestMatch
  rw [a_run_step st0 rfl, t1, a_run_step (st := stX11_bestMatch) (p2 := (100000, [some (.int (iI (bmS w A (moM A) 117649).1))], d2, e)) (by
    generalize bmS w A (moM A) 117649 = s
    show sX11_bestMatch_15 d2 e _ _ _ _ _ = _
    unfold sX11_bestMatch_15
    simp (disch := omega) only [nI_iI, lN_lJ, iI_0, lJ_0, iI_add, iI_sub, iI_mul, iI_neg, lJ_add, lJ_sub, lJ_mul, lJ_neg, i_l, l_i, iI_cl, iI_inb, iI_eqT, iI_eqF, iI_ltT, iI_ltF, iI_leT, iI_leF, lJ_eqT, lJ_eqF, lJ_cG, lJ_cE, lJ_cL, lJ_cF, lJ_cGE, lJ_cLE, lJ_cNL, lJ_cNG, Int.cast_ofNat_Int, c_0, c_1, Int.natCast_add, Int.add_zero, cond_true, cond_false, Bool.and_self, Bool.and_true, Bool.true_and, Option.bind_some, decide_true, uI_hit, uI_miss, uI_o, uA_o, uA_s, ↓reduceIte, eq_self, true_or, or_true, or_false, false_or, true_and, and_true, false_and, and_false, or_self, and_self, not_false_eq_true, not_true_eq_false, tn_i]) rfl, a_run_end]
  rfl
theorem Kp.kc {d d' : aI} (h : Kp d d') : Kc d d' := fun k a => h k (by omega)
theorem cq_bestPairs {d : aI} {e : aJ} {S : aS} (hS : sOK S) (hC : CI d S) (w : Bool) {i : Int} (hi : i = 0 ∨ i = 1) : ∃ d', FX10_bestPairs d e (iI i) (iI (tv w)) = some (iI (if i = 0 then (moM S.1 : Nat) else (tbM w S.1 (moM S.1) (hsM S.1 6).1 0 : Nat)), d', e) ∧ Kc d d' := by
  obtain ⟨d', q1, q2, q3, q4⟩ := cq_settle (e := e) (w := w) hC.cn hS.1.1 (most := moM S.1) rfl
  have r6 := q2.2.2
  have ce := cq_cell (d := d') (e := e) (h := 0) (g := 0) (by omega)
  have ce2 : FX4_cell d' e (iI 0) (iI 0) = some (iI 0, d', e) := ce
  have tb := q3 0 (by omega) (by omega) 0 (Nat.pow_pos (by omega)) (Nat.le_refl _)
  have tb2 : d' 96 0 = iI (tbM w S.1 (moM S.1) (hsM S.1 6).1 0 : Nat) := tb
  have z0 : (0 : Int).toNat = 0 := rfl
  refine ⟨d', ?_, q4.kc⟩
  generalize (tbM w S.1 (moM S.1) (hsM S.1 6).1 0) = T at *
  rcases hi with rfl | rfl
  · rw [if_pos rfl]
    unfold FX10_bestPairs
    simp (disch := omega) only [nI_iI, lN_lJ, iI_0, lJ_0, iI_add, iI_sub, iI_mul, iI_neg, lJ_add, lJ_sub, lJ_mul, lJ_neg, i_l, l_i, iI_cl, iI_inb, iI_eqT, iI_eqF, iI_ltT, iI_ltF, iI_leT, iI_leF, lJ_eqT, lJ_eqF, lJ_cG, lJ_cE, lJ_cL, lJ_cF, lJ_cGE, lJ_cLE, lJ_cNL, lJ_cNG, Int.cast_ofNat_Int, c_0, c_1, Int.natCast_add, Int.add_zero, cond_true, cond_false, Bool.and_self, Bool.and_true, Bool.true_and, Option.bind_some, decide_true, uI_hit, uI_miss, uI_o, uA_o, uA_s, ↓reduceIte, eq_self, true_or, or_true, or_false, false_or, true_and, and_true, false_and, and_false, or_self, and_self, not_false_eq_true, not_true_eq_false, tn_i, cq_in_y, q1, r6]
  · rw [if_neg (by omega)]
    unfold FX10_bestPairs FX4_leastSteps
    simp (disch := omega) only [nI_iI, lN_lJ, iI_0, lJ_0, iI_add, iI_sub, iI_mul, iI_neg, lJ_add, lJ_sub, lJ_mul, lJ_neg, i_l, l_i, iI_cl, iI_inb, iI_eqT, iI_eqF, iI_ltT, iI_ltF, iI_leT, iI_leF, lJ_eqT, lJ_eqF, lJ_cG, lJ_cE, lJ_cL, lJ_cF, lJ_cGE, lJ_cLE, lJ_cNL, lJ_cNG, Int.cast_ofNat_Int, c_0, c_1, Int.natCast_add, Int.add_zero, cond_true, cond_false, Bool.and_self, Bool.and_true, Bool.true_and, Option.bind_some, decide_true, uI_hit, uI_miss, uI_o, uA_o, uA_s, ↓reduceIte, eq_self, true_or, or_true, or_false, false_or, true_and, and_true, false_and, and_false, or_self, and_self, not_false_eq_true, not_true_eq_false, tn_i, cq_in_y, q1, ce2, z0, tb2]
theorem o_match (x : Int32) : Op (fun d e => FX10_match d e x) (fun d e => FX11_match d e x) := by
  obtain ⟨i, rfl, i1, i2⟩ := iI_ex x
  refine Op.quest (fun S hS => ?_)
  have hW := hS.1.1
  by_cases hi : i = 0 ∨ i = 1
  · obtain ⟨b, b1, b2, b3, b4, b5, _, _⟩ := bmS_tb (w := false) (moM_ok S.1) frN_5
    refine ⟨iI (if i = 0 then (moM S.1 : Nat) else (tbM false S.1 (moM S.1) (hsM S.1 6).1 0 : Nat)), fun d e hC => ?_, fun d e hM => ?_⟩
    · obtain ⟨d', q, k⟩ := cq_bestPairs (e := e) hS hC false hi
      have q2 : FX10_bestPairs d e (iI i) (iI 0) = _ := q
      refine ⟨d', e, ?_, k⟩
      generalize iI (if i = 0 then (moM S.1 : Nat) else (tbM false S.1 (moM S.1) (hsM S.1 6).1 0 : Nat)) = r at *
      show FX10_match d e (iI i) = _
      unfold FX10_match
      simp (disch := omega) only [nI_iI, lN_lJ, iI_0, lJ_0, iI_add, iI_sub, iI_mul, iI_neg, lJ_add, lJ_sub, lJ_mul, lJ_neg, i_l, l_i, iI_cl, iI_inb, iI_eqT, iI_eqF, iI_ltT, iI_ltF, iI_leT, iI_leF, lJ_eqT, lJ_eqF, lJ_cG, lJ_cE, lJ_cL, lJ_cF, lJ_cGE, lJ_cLE, lJ_cNL, lJ_cNG, Int.cast_ofNat_Int, c_0, c_1, Int.natCast_add, Int.add_zero, cond_true, cond_false, Bool.and_self, Bool.and_true, Bool.true_and, Option.bind_some, decide_true, uI_hit, uI_miss, uI_o, uA_o, uA_s, ↓reduceIte, eq_self, true_or, or_true, or_false, false_or, true_and, and_true, false_and, and_false, or_self, and_self, not_false_eq_true, not_true_eq_false, tn_i, q2]
    · obtain ⟨d1, q1, k1⟩ := mq_bestMatch (e := e) false hM.1 hW
      rw [b4] at q1
      have q1' : FX11_bestMatch d e (iI 0) = some (iI (b : Nat), d1, e) := q1
      obtain ⟨d2, q2, k2, k3⟩ := mq_isMatch (e := e) (hM.1.of (k1.obj (o := 109) (by omega))) hW b1
      rw [if_pos ⟨b2.1, Nat.zero_le _⟩] at q2
      obtain ⟨c26, c27, c28⟩ := k3 b2.1
      rw [b3] at c26
      rw [b5] at c27
      refine ⟨d2, e, ?_, (k1.trans k2).km⟩
      show FX11_match d e (iI i) = _
      generalize (tbM false S.1 (moM S.1) (hsM S.1 6).1 0) = T at *
      rcases hi with rfl | rfl
      · rw [if_pos rfl]
        unfold FX11_match
        simp (disch := omega) only [nI_iI, lN_lJ, iI_0, lJ_0, iI_add, iI_sub, iI_mul, iI_neg, lJ_add, lJ_sub, lJ_mul, lJ_neg, i_l, l_i, iI_cl, iI_inb, iI_eqT, iI_eqF, iI_ltT, iI_ltF, iI_leT, iI_leF, lJ_eqT, lJ_eqF, lJ_cG, lJ_cE, lJ_cL, lJ_cF, lJ_cGE, lJ_cLE, lJ_cNL, lJ_cNG, Int.cast_ofNat_Int, c_0, c_1, Int.natCast_add, Int.add_zero, cond_true, cond_false, Bool.and_self, Bool.and_true, Bool.true_and, Option.bind_some, decide_true, uI_hit, uI_miss, uI_o, uA_o, uA_s, ↓reduceIte, eq_self, true_or, or_true, or_false, false_or, true_and, and_true, false_and, and_false, or_self, and_self, not_false_eq_true, not_true_eq_false, tn_i, mq_in_y, q1', q2, c26]
      · rw [if_neg (by omega)]
        unfold FX11_match
        simp (disch := omega) only [nI_iI, lN_lJ, iI_0, lJ_0, iI_add, iI_sub, iI_mul, iI_neg, lJ_add, lJ_sub, lJ_mul, lJ_neg, i_l, l_i, iI_cl, iI_inb, iI_eqT, iI_eqF, iI_ltT, iI_ltF, iI_leT, iI_leF, lJ_eqT, lJ_eqF, lJ_cG, lJ_cE, lJ_cL, lJ_cF, lJ_cGE, lJ_cLE, lJ_cNL, lJ_cNG, Int.cast_ofNat_Int, c_0, c_1, Int.natCast_add, Int.add_zero, cond_true, cond_false, Bool.and_self, Bool.and_true, Bool.true_and, Option.bind_some, decide_true, uI_hit, uI_miss, uI_o, uA_o, uA_s, ↓reduceIte, eq_self, true_or, or_true, or_false, false_or, true_and, and_true, false_and, and_false, or_self, and_self, not_false_eq_true, not_true_eq_false, tn_i, mq_in_y, q1', q2, c27]
  · refine ⟨iI (-1), fun d e hC => ⟨d, e, ?_, Kc.refl d⟩, fun d e hM => ⟨d, e, ?_, Km.refl d⟩⟩
    · show FX10_match d e (iI i) = _
      unfold FX10_match FX10_bestPairs
      simp (disch := omega) only [nI_iI, lN_lJ, iI_0, lJ_0, iI_add, iI_sub, iI_mul, iI_neg, lJ_add, lJ_sub, lJ_mul, lJ_neg, i_l, l_i, iI_cl, iI_inb, iI_eqT, iI_eqF, iI_ltT, iI_ltF, iI_leT, iI_leF, lJ_eqT, lJ_eqF, lJ_cG, lJ_cE, lJ_cL, lJ_cF, lJ_cGE, lJ_cLE, lJ_cNL, lJ_cNG, Int.cast_ofNat_Int, c_0, c_1, Int.natCast_add, Int.add_zero, cond_true, cond_false, Bool.and_self, Bool.and_true, Bool.true_and, Option.bind_some, decide_true, uI_hit, uI_miss, uI_o, uA_o, uA_s, ↓reduceIte, eq_self, true_or, or_true, or_false, false_or, true_and, and_true, false_and, and_false, or_self, and_self, not_false_eq_true, not_true_eq_false, tn_i, cq_in_n]
    · show FX11_match d e (iI i) = _
      unfold FX11_match
      simp (disch := omega) only [nI_iI, lN_lJ, iI_0, lJ_0, iI_add, iI_sub, iI_mul, iI_neg, lJ_add, lJ_sub, lJ_mul, lJ_neg, i_l, l_i, iI_cl, iI_inb, iI_eqT, iI_eqF, iI_ltT, iI_ltF, iI_leT, iI_leF, lJ_eqT, lJ_eqF, lJ_cG, lJ_cE, lJ_cL, lJ_cF, lJ_cGE, lJ_cLE, lJ_cNL, lJ_cNG, Int.cast_ofNat_Int, c_0, c_1, Int.natCast_add, Int.add_zero, cond_true, cond_false, Bool.and_self, Bool.and_true, Bool.true_and, Option.bind_some, decide_true, uI_hit, uI_miss, uI_o, uA_o, uA_s, ↓reduceIte, eq_self, true_or, or_true, or_false, false_or, true_and, and_true, false_and, and_false, or_self, and_self, not_false_eq_true, not_true_eq_false, tn_i, mq_in_n]
theorem o_latest (x : Int32) : Op (fun d e => FX10_latest d e x) (fun d e => FX11_latest d e x) := by
  obtain ⟨i, rfl, i1, i2⟩ := iI_ex x
  refine Op.quest (fun S hS => ?_)
  have hW := hS.1.1
  by_cases hi : i = 0 ∨ i = 1
  · obtain ⟨b, b1, b2, b3, b4, b5, _, _⟩ := bmS_tb (w := true) (moM_ok S.1) frN_5
    refine ⟨iI (if i = 0 then (moM S.1 : Nat) else (tbM true S.1 (moM S.1) (hsM S.1 6).1 0 : Nat)), fun d e hC => ?_, fun d e hM => ?_⟩
    · obtain ⟨d', q, k⟩ := cq_bestPairs (e := e) hS hC true hi
      have q2 : FX10_bestPairs d e (iI i) (iI 1) = _ := q
      refine ⟨d', e, ?_, k⟩
      generalize iI (if i = 0 then (moM S.1 : Nat) else (tbM true S.1 (moM S.1) (hsM S.1 6).1 0 : Nat)) = r at *
      show FX10_latest d e (iI i) = _
      unfold FX10_latest
      simp (disch := omega) only [nI_iI, lN_lJ, iI_0, lJ_0, iI_add, iI_sub, iI_mul, iI_neg, lJ_add, lJ_sub, lJ_mul, lJ_neg, i_l, l_i, iI_cl, iI_inb, iI_eqT, iI_eqF, iI_ltT, iI_ltF, iI_leT, iI_leF, lJ_eqT, lJ_eqF, lJ_cG, lJ_cE, lJ_cL, lJ_cF, lJ_cGE, lJ_cLE, lJ_cNL, lJ_cNG, Int.cast_ofNat_Int, c_0, c_1, Int.natCast_add, Int.add_zero, cond_true, cond_false, Bool.and_self, Bool.and_true, Bool.true_and, Option.bind_some, decide_true, uI_hit, uI_miss, uI_o, uA_o, uA_s, ↓reduceIte, eq_self, true_or, or_true, or_false, false_or, true_and, and_true, false_and, and_false, or_self, and_self, not_false_eq_true, not_true_eq_false, tn_i, q2]
    · obtain ⟨d1, q1, k1⟩ := mq_bestMatch (e := e) true hM.1 hW
      rw [b4] at q1
      have q1' : FX11_bestMatch d e (iI 1) = some (iI (b : Nat), d1, e) := q1
      obtain ⟨d2, q2, k2, k3⟩ := mq_isMatch (e := e) (hM.1.of (k1.obj (o := 109) (by omega))) hW b1
      rw [if_pos ⟨b2.1, Nat.zero_le _⟩] at q2
      obtain ⟨c26, c27, c28⟩ := k3 b2.1
      rw [b3] at c26
      rw [b5] at c28
      refine ⟨d2, e, ?_, (k1.trans k2).km⟩
      show FX11_latest d e (iI i) = _
      generalize (tbM true S.1 (moM S.1) (hsM S.1 6).1 0) = T at *
      rcases hi with rfl | rfl
      · rw [if_pos rfl]
        unfold FX11_latest
        simp (disch := omega) only [nI_iI, lN_lJ, iI_0, lJ_0, iI_add, iI_sub, iI_mul, iI_neg, lJ_add, lJ_sub, lJ_mul, lJ_neg, i_l, l_i, iI_cl, iI_inb, iI_eqT, iI_eqF, iI_ltT, iI_ltF, iI_leT, iI_leF, lJ_eqT, lJ_eqF, lJ_cG, lJ_cE, lJ_cL, lJ_cF, lJ_cGE, lJ_cLE, lJ_cNL, lJ_cNG, Int.cast_ofNat_Int, c_0, c_1, Int.natCast_add, Int.add_zero, cond_true, cond_false, Bool.and_self, Bool.and_true, Bool.true_and, Option.bind_some, decide_true, uI_hit, uI_miss, uI_o, uA_o, uA_s, ↓reduceIte, eq_self, true_or, or_true, or_false, false_or, true_and, and_true, false_and, and_false, or_self, and_self, not_false_eq_true, not_true_eq_false, tn_i, mq_in_y, q1', q2, c26]
      · rw [if_neg (by omega)]
        unfold FX11_latest
        simp (disch := omega) only [nI_iI, lN_lJ, iI_0, lJ_0, iI_add, iI_sub, iI_mul, iI_neg, lJ_add, lJ_sub, lJ_mul, lJ_neg, i_l, l_i, iI_cl, iI_inb, iI_eqT, iI_eqF, iI_ltT, iI_ltF, iI_leT, iI_leF, lJ_eqT, lJ_eqF, lJ_cG, lJ_cE, lJ_cL, lJ_cF, lJ_cGE, lJ_cLE, lJ_cNL, lJ_cNG, Int.cast_ofNat_Int, c_0, c_1, Int.natCast_add, Int.add_zero, cond_true, cond_false, Bool.and_self, Bool.and_true, Bool.true_and, Option.bind_some, decide_true, uI_hit, uI_miss, uI_o, uA_o, uA_s, ↓reduceIte, eq_self, true_or, or_true, or_false, false_or, true_and, and_true, false_and, and_false, or_self, and_self, not_false_eq_true, not_true_eq_false, tn_i, mq_in_y, q1', q2, c28]
  · refine ⟨iI (-1), fun d e hC => ⟨d, e, ?_, Kc.refl d⟩, fun d e hM => ⟨d, e, ?_, Km.refl d⟩⟩
    · show FX10_latest d e (iI i) = _
      unfold FX10_latest FX10_bestPairs
      simp (disch := omega) only [nI_iI, lN_lJ, iI_0, lJ_0, iI_add, iI_sub, iI_mul, iI_neg, lJ_add, lJ_sub, lJ_mul, lJ_neg, i_l, l_i, iI_cl, iI_inb, iI_eqT, iI_eqF, iI_ltT, iI_ltF, iI_leT, iI_leF, lJ_eqT, lJ_eqF, lJ_cG, lJ_cE, lJ_cL, lJ_cF, lJ_cGE, lJ_cLE, lJ_cNL, lJ_cNG, Int.cast_ofNat_Int, c_0, c_1, Int.natCast_add, Int.add_zero, cond_true, cond_false, Bool.and_self, Bool.and_true, Bool.true_and, Option.bind_some, decide_true, uI_hit, uI_miss, uI_o, uA_o, uA_s, ↓reduceIte, eq_self, true_or, or_true, or_false, false_or, true_and, and_true, false_and, and_false, or_self, and_self, not_false_eq_true, not_true_eq_false, tn_i, cq_in_n]
    · show FX11_latest d e (iI i) = _
      unfold FX11_latest
      simp (disch := omega) only [nI_iI, lN_lJ, iI_0, lJ_0, iI_add, iI_sub, iI_mul, iI_neg, lJ_add, lJ_sub, lJ_mul, lJ_neg, i_l, l_i, iI_cl, iI_inb, iI_eqT, iI_eqF, iI_ltT, iI_ltF, iI_leT, iI_leF, lJ_eqT, lJ_eqF, lJ_cG, lJ_cE, lJ_cL, lJ_cF, lJ_cGE, lJ_cLE, lJ_cNL, lJ_cNG, Int.cast_ofNat_Int, c_0, c_1, Int.natCast_add, Int.add_zero, cond_true, cond_false, Bool.and_self, Bool.and_true, Bool.true_and, Option.bind_some, decide_true, uI_hit, uI_miss, uI_o, uA_o, uA_s, ↓reduceIte, eq_self, true_or, or_true, or_false, false_or, true_and, and_true, false_and, and_false, or_self, and_self, not_false_eq_true, not_true_eq_false, tn_i, mq_in_n]
theorem o_matched (x : Int32) : Op (fun d e => FX10_matched d e x) (fun d e => FX11_matched d e x) := by
  obtain ⟨i, rfl, i1, i2⟩ := iI_ex x
  refine Op.quest (fun S hS => ?_)
  have hW := hS.1.1
  have w0 := hW.1
  by_cases hi : 0 ≤ i ∧ i < S.1 0
  · obtain ⟨z, rfl⟩ := Int.eq_ofNat_of_zero_le hi.1
    obtain ⟨b, b1, b2, b3, b4, b5, b6, b7⟩ := bmS_tb (w := false) (moM_ok S.1) frN_5
    refine ⟨iI ((dgM b z : Nat) - 1), fun d e hC => ?_, fun d e hM => ?_⟩
    · obtain ⟨d', q1, q2, q3, q4⟩ := cq_settle (e := e) (w := false) hC.cn hW (most := moM S.1) rfl
      have q1' : FX4_settle d e (iI 0) = some ((), d', e) := q1
      have pa := cq_partner (e := e) (hC.cn.of (fun k a b => q4 k (by omega))) hW q2 q3 (moM_ok S.1) b1 b2 b6 b7 (z := z) (by omega)
      refine ⟨d', e, ?_, q4.kc⟩
      show FX10_matched d e (iI z) = _
      unfold FX10_matched
      simp (disch := omega) only [nI_iI, lN_lJ, iI_0, lJ_0, iI_add, iI_sub, iI_mul, iI_neg, lJ_add, lJ_sub, lJ_mul, lJ_neg, i_l, l_i, iI_cl, iI_inb, iI_eqT, iI_eqF, iI_ltT, iI_ltF, iI_leT, iI_leF, lJ_eqT, lJ_eqF, lJ_cG, lJ_cE, lJ_cL, lJ_cF, lJ_cGE, lJ_cLE, lJ_cNL, lJ_cNG, Int.cast_ofNat_Int, c_0, c_1, Int.natCast_add, Int.add_zero, cond_true, cond_false, Bool.and_self, Bool.and_true, Bool.true_and, Option.bind_some, decide_true, uI_hit, uI_miss, uI_o, uA_o, uA_s, ↓reduceIte, eq_self, true_or, or_true, or_false, false_or, true_and, and_true, false_and, and_false, or_self, and_self, not_false_eq_true, not_true_eq_false, tn_i, cq_isHouse_y hC.cn hW, q1', pa]
    · obtain ⟨d1, q1, k1⟩ := mq_bestMatch (e := e) false hM.1 hW
      rw [b4] at q1
      have q1' : FX11_bestMatch d e (iI 0) = some (iI (b : Nat), d1, e) := q1
      have dg := mq_digitBy (d := d1) (e := e) (x := b) (h := z) b1 (by omega)
      refine ⟨d1, e, ?_, k1.km⟩
      show FX11_matched d e (iI z) = _
      unfold FX11_matched
      simp (disch := omega) only [nI_iI, lN_lJ, iI_0, lJ_0, iI_add, iI_sub, iI_mul, iI_neg, lJ_add, lJ_sub, lJ_mul, lJ_neg, i_l, l_i, iI_cl, iI_inb, iI_eqT, iI_eqF, iI_ltT, iI_ltF, iI_leT, iI_leF, lJ_eqT, lJ_eqF, lJ_cG, lJ_cE, lJ_cL, lJ_cF, lJ_cGE, lJ_cLE, lJ_cNL, lJ_cNG, Int.cast_ofNat_Int, c_0, c_1, Int.natCast_add, Int.add_zero, cond_true, cond_false, Bool.and_self, Bool.and_true, Bool.true_and, Option.bind_some, decide_true, uI_hit, uI_miss, uI_o, uA_o, uA_s, ↓reduceIte, eq_self, true_or, or_true, or_false, false_or, true_and, and_true, false_and, and_false, or_self, and_self, not_false_eq_true, not_true_eq_false, tn_i, mq_isHouse_y hM.1 hW, q1', dg]
  · refine ⟨iI (-1), fun d e hC => ⟨d, e, ?_, Kc.refl d⟩, fun d e hM => ⟨d, e, ?_, Km.refl d⟩⟩
    · show FX10_matched d e (iI i) = _
      unfold FX10_matched
      simp (disch := omega) only [nI_iI, lN_lJ, iI_0, lJ_0, iI_add, iI_sub, iI_mul, iI_neg, lJ_add, lJ_sub, lJ_mul, lJ_neg, i_l, l_i, iI_cl, iI_inb, iI_eqT, iI_eqF, iI_ltT, iI_ltF, iI_leT, iI_leF, lJ_eqT, lJ_eqF, lJ_cG, lJ_cE, lJ_cL, lJ_cF, lJ_cGE, lJ_cLE, lJ_cNL, lJ_cNG, Int.cast_ofNat_Int, c_0, c_1, Int.natCast_add, Int.add_zero, cond_true, cond_false, Bool.and_self, Bool.and_true, Bool.true_and, Option.bind_some, decide_true, uI_hit, uI_miss, uI_o, uA_o, uA_s, ↓reduceIte, eq_self, true_or, or_true, or_false, false_or, true_and, and_true, false_and, and_false, or_self, and_self, not_false_eq_true, not_true_eq_false, tn_i, cq_isHouse_n hC.cn hW]
    · show FX11_matched d e (iI i) = _
      unfold FX11_matched
      simp (disch := omega) only [nI_iI, lN_lJ, iI_0, lJ_0, iI_add, iI_sub, iI_mul, iI_neg, lJ_add, lJ_sub, lJ_mul, lJ_neg, i_l, l_i, iI_cl, iI_inb, iI_eqT, iI_eqF, iI_ltT, iI_ltF, iI_leT, iI_leF, lJ_eqT, lJ_eqF, lJ_cG, lJ_cE, lJ_cL, lJ_cF, lJ_cGE, lJ_cLE, lJ_cNL, lJ_cNG, Int.cast_ofNat_Int, c_0, c_1, Int.natCast_add, Int.add_zero, cond_true, cond_false, Bool.and_self, Bool.and_true, Bool.true_and, Option.bind_some, decide_true, uI_hit, uI_miss, uI_o, uA_o, uA_s, ↓reduceIte, eq_self, true_or, or_true, or_false, false_or, true_and, and_true, false_and, and_false, or_self, and_self, not_false_eq_true, not_true_eq_false, tn_i, mq_isHouse_n hM.1 hW]
