/-! ===== whose law it was ===== -/
abbrev sdN (A : Int → Int) (y : Option (En → Int)) : Nat → Prop := fun j => takesS A y (A (112 + 3 * j)) (A (112 + 3 * j + 1)) ≠ A (112 + 3 * j + 2)
/-- the law of a text -/
def lwT (S : aS) (t : Nat) : Option (En → Int) := (S.2.2.1 t).1.1
def whoF (S : aS) (k : Nat) (s : Int32) : Int32 := if fnd (sdN S.1 (lwT S k)) (S.1 8).toNat = -1 then s ||| a_shl (iI 1) (iI k) else s
def whoS (S : aS) : Int32 := itr (whoF S) (S.1 2).toNat (iI 0)
theorem oT_t {t : Nat} (h : t < 4) : oT (58 + 5 * t) := by
  unfold oT
  omega
theorem cq_fitsClaims {d : aI} {e : aJ} {S : aS} (hS : sOK S) (hC : CI d S) {t : Nat} (ht : (t : Int) < S.1 2) : ∃ d', FX10_fitsClaims d e (58 + 5 * t) = some (iI (if fnd (sdN S.1 (lwT S t)) (S.1 8).toNat = -1 then 1 else 0), d', e) ∧ SameX d d' := by
  have b8 := hS.1.nts.2.2.2
  have hW := hS.1.1
  have s2 := hS.1.2.2.1
  have c58 : 58 + 5 * t = 58 ∨ 58 + 5 * t = 63 ∨ 58 + 5 * t = 68 ∨ 58 + 5 * t = 73 := by omega
  unfold FX10_fitsClaims
  rw [a_run_step (st := stX10_fitsClaims) (p := (0, [some (.ref 0), some (.ref (58 + 5 * t)), none, none], d, e)) (p2 := (10, [some (.ref 0), some (.ref (58 + 5 * t)), some (.ref 25), some (.int (iI (0 : Nat)))], d, e)) (by
    show sX10_fitsClaims_0 d e _ = _
    unfold sX10_fitsClaims_0
    simp (disch := omega) only [nI_iI, lN_lJ, iI_0, lJ_0, iI_add, iI_sub, iI_mul, iI_neg, lJ_add, lJ_sub, lJ_mul, lJ_neg, i_l, l_i, iI_cl, iI_inb, iI_eqT, iI_eqF, iI_ltT, iI_ltF, iI_leT, iI_leF, lJ_eqT, lJ_eqF, lJ_cG, lJ_cE, lJ_cL, lJ_cF, lJ_cGE, lJ_cLE, lJ_cNL, lJ_cNG, Int.cast_ofNat_Int, c_0, c_1, Int.natCast_add, Int.add_zero, cond_true, cond_false, Bool.and_self, Bool.and_true, Bool.true_and, Option.bind_some, decide_true, uI_hit, uI_miss, uI_o, uA_o, uA_s, ↓reduceIte, eq_self, true_or, or_true, or_false, false_or, true_and, and_true, false_and, and_false, or_self, and_self, not_false_eq_true, not_true_eq_false, tn_i, c58, decide_eq_true]) rfl]
  have key := run_fndX (st := stX10_fitsClaims) (V := {x : aI // SameX d x}) (fun k v => (10, [some (.ref 0), some (.ref (58 + 5 * t)), some (.ref 25), some (.int (iI (k : Nat)))], v.1, e)) (fun r v => some ([some (.int (iI (if r = -1 then 1 else 0)))], v.1, e)) (sdN S.1 (lwT S t)) (S.1 8).toNat ?_ ?_ ?_ ⟨d, SameX.refl d⟩
  · obtain ⟨v', q⟩ := key
    refine ⟨v'.1, ?_, v'.2⟩
    rw [q]
    rfl
  · intro k v hk hp
    have hp2 : takesS S.1 (lwT S t) (S.1 (112 + 3 * k)) (S.1 (112 + 3 * k + 1)) = S.1 (112 + 3 * k + 2) := Decidable.not_not.mp hp
    have bk := b8.2 k (by omega) (by omega)
    have hC2 := hC.ofX hS v.2
    obtain ⟨d', q1, q2⟩ := cq_taking (e := e) hC2.cn hW (oT_t (by omega)) (hC2.2.2.1 t ht).1 bk.1 bk.2.1
    have q1' : FX1_taking v.1 e (58 + 5 * t) (iI (S.1 (112 + 3 * k))) (iI (S.1 (112 + 3 * k + 1))) = some (iI (S.1 (112 + 3 * k + 2)), d', e) := by rw [q1, ← hp2]; rfl
    have m := hC2.nt.2.2.2.1
    have n4 : v.1 25 4 = iI (S.1 8) := m.2.1
    have n1 : v.1 26 k = iI (S.1 (112 + 3 * k)) := m.2.2.1 k (by omega)
    have n2 : v.1 27 k = iI (S.1 (112 + 3 * k + 1)) := m.2.2.2 k (by omega)
    have n3 : d' 28 k = iI (S.1 (112 + 3 * k + 2)) := by rw [q2 28 (by omega) (by omega)]; exact hC2.nt.2.2.2.2 k (by omega)
    refine ⟨⟨d', v.2.trans q2⟩, a_run_step ?_ rfl⟩
    show sX10_fitsClaims_10 v.1 e _ _ = _
    unfold sX10_fitsClaims_10
    simp (disch := omega) only [nI_iI, lN_lJ, iI_0, lJ_0, iI_add, iI_sub, iI_mul, iI_neg, lJ_add, lJ_sub, lJ_mul, lJ_neg, i_l, l_i, iI_cl, iI_inb, iI_eqT, iI_eqF, iI_ltT, iI_ltF, iI_leT, iI_leF, lJ_eqT, lJ_eqF, lJ_cG, lJ_cE, lJ_cL, lJ_cF, lJ_cGE, lJ_cLE, lJ_cNL, lJ_cNG, Int.cast_ofNat_Int, c_0, c_1, Int.natCast_add, Int.add_zero, cond_true, cond_false, Bool.and_self, Bool.and_true, Bool.true_and, Option.bind_some, decide_true, uI_hit, uI_miss, uI_o, uA_o, uA_s, ↓reduceIte, eq_self, true_or, or_true, or_false, false_or, true_and, and_true, false_and, and_false, or_self, and_self, not_false_eq_true, not_true_eq_false, tn_i, Int.toNat_natCast, c58, decide_eq_true, n4, n1, n2, n3, q1']
  · intro k v hk hp
    have hp2 : takesS S.1 (lwT S t) (S.1 (112 + 3 * k)) (S.1 (112 + 3 * k + 1)) ≠ S.1 (112 + 3 * k + 2) := hp
    have bk := b8.2 k (by omega) (by omega)
    have ti := takesS_in hW (y := lwT S t) (h := S.1 (112 + 3 * k + 1)) bk.1
    have hC2 := hC.ofX hS v.2
    obtain ⟨d', q1, q2⟩ := cq_taking (e := e) hC2.cn hW (oT_t (by omega)) (hC2.2.2.1 t ht).1 bk.1 bk.2.1
    have q1' : FX1_taking v.1 e (58 + 5 * t) (iI (S.1 (112 + 3 * k))) (iI (S.1 (112 + 3 * k + 1))) = some (iI (takesS S.1 (lwT S t) (S.1 (112 + 3 * k)) (S.1 (112 + 3 * k + 1))), d', e) := q1
    have m := hC2.nt.2.2.2.1
    have n4 : v.1 25 4 = iI (S.1 8) := m.2.1
    have n1 : v.1 26 k = iI (S.1 (112 + 3 * k)) := m.2.2.1 k (by omega)
    have n2 : v.1 27 k = iI (S.1 (112 + 3 * k + 1)) := m.2.2.2 k (by omega)
    have n3 : d' 28 k = iI (S.1 (112 + 3 * k + 2)) := by rw [q2 28 (by omega) (by omega)]; exact hC2.nt.2.2.2.2 k (by omega)
    refine ⟨⟨d', v.2.trans q2⟩, ?_⟩
    rw [a_run_step (st := stX10_fitsClaims) (p2 := (100000, [some (.int (iI 0))], d', e)) (by
      show sX10_fitsClaims_10 v.1 e _ _ = _
      unfold sX10_fitsClaims_10
      simp (disch := omega) only [nI_iI, lN_lJ, iI_0, lJ_0, iI_add, iI_sub, iI_mul, iI_neg, lJ_add, lJ_sub, lJ_mul, lJ_neg, i_l, l_i, iI_cl, iI_inb, iI_eqT, iI_eqF, iI_ltT, iI_ltF, iI_leT, iI_leF, lJ_eqT, lJ_eqF, lJ_cG, lJ_cE, lJ_cL, lJ_cF, lJ_cGE, lJ_cLE, lJ_cNL, lJ_cNG, Int.cast_ofNat_Int, c_0, c_1, Int.natCast_add, Int.add_zero, cond_true, cond_false, Bool.and_self, Bool.and_true, Bool.true_and, Option.bind_some, decide_true, uI_hit, uI_miss, uI_o, uA_o, uA_s, ↓reduceIte, eq_self, true_or, or_true, or_false, false_or, true_and, and_true, false_and, and_false, or_self, and_self, not_false_eq_true, not_true_eq_false, tn_i, Int.toNat_natCast, c58, decide_eq_true, n4, n1, n2, n3, q1']) rfl, a_run_end]
    rw [if_neg (show ¬(k : Int) = -1 by omega)]
  · intro v
    have hC2 := hC.ofX hS v.2
    have m := hC2.nt.2.2.2.1
    have n4 : v.1 25 4 = iI (S.1 8) := m.2.1
    refine ⟨v, ?_⟩
    rw [a_run_step (st := stX10_fitsClaims) (p2 := (100000, [some (.int (iI 1))], v.1, e)) (by
      show sX10_fitsClaims_10 v.1 e _ _ = _
      unfold sX10_fitsClaims_10
      simp (disch := omega) only [nI_iI, lN_lJ, iI_0, lJ_0, iI_add, iI_sub, iI_mul, iI_neg, lJ_add, lJ_sub, lJ_mul, lJ_neg, i_l, l_i, iI_cl, iI_inb, iI_eqT, iI_eqF, iI_ltT, iI_ltF, iI_leT, iI_leF, lJ_eqT, lJ_eqF, lJ_cG, lJ_cE, lJ_cL, lJ_cF, lJ_cGE, lJ_cLE, lJ_cNL, lJ_cNG, Int.cast_ofNat_Int, c_0, c_1, Int.natCast_add, Int.add_zero, cond_true, cond_false, Bool.and_self, Bool.and_true, Bool.true_and, Option.bind_some, decide_true, uI_hit, uI_miss, uI_o, uA_o, uA_s, ↓reduceIte, eq_self, true_or, or_true, or_false, false_or, true_and, and_true, false_and, and_false, or_self, and_self, not_false_eq_true, not_true_eq_false, tn_i, c58, decide_eq_true, n4]) rfl, a_run_end]
    rfl
theorem cq_whose {d : aI} {e : aJ} {S : aS} (hS : sOK S) (hC : CI d S) : ∃ d', FX10_whose d e = some (whoS S, d', e) ∧ SameX d d' := by
  have hW := hS.1.1
  have s2 := hS.1.2.2.1
  unfold FX10_whose
  rw [a_run_step (st := stX10_whose) (p := (0, [some (.ref 0), none, none], d, e)) (p2 := (4, [some (.ref 0), some (.int (iI 0)), some (.int (iI (0 : Nat)))], d, e)) rfl rfl]
  have key := run_foldV (st := stX10_whose) (V := {x : aI // SameX d x}) (fun k s v => (4, [some (.ref 0), some (.int s), some (.int (iI (k : Nat)))], v.1, e)) (whoF S) (S.1 2).toNat (iI 0) ?_ ⟨d, SameX.refl d⟩
  · obtain ⟨v', q⟩ := key
    have hC2 := hC.ofX hS v'.2
    have n9 : v'.1 1 6 = iI (S.1 2) := hC2.1.2.2.1
    refine ⟨v'.1, ?_, v'.2⟩
    rw [q, a_run_step (st := stX10_whose) (p2 := (100000, [some (.int (whoS S))], v'.1, e)) (by
      show sX10_whose_4 v'.1 e _ _ = _
      unfold sX10_whose_4
      simp (disch := omega) only [nI_iI, lN_lJ, iI_0, lJ_0, iI_add, iI_sub, iI_mul, iI_neg, lJ_add, lJ_sub, lJ_mul, lJ_neg, i_l, l_i, iI_cl, iI_inb, iI_eqT, iI_eqF, iI_ltT, iI_ltF, iI_leT, iI_leF, lJ_eqT, lJ_eqF, lJ_cG, lJ_cE, lJ_cL, lJ_cF, lJ_cGE, lJ_cLE, lJ_cNL, lJ_cNG, Int.cast_ofNat_Int, c_0, c_1, Int.natCast_add, Int.add_zero, cond_true, cond_false, Bool.and_self, Bool.and_true, Bool.true_and, Option.bind_some, decide_true, uI_hit, uI_miss, uI_o, uA_o, uA_s, ↓reduceIte, eq_self, true_or, or_true, or_false, false_or, true_and, and_true, false_and, and_false, or_self, and_self, not_false_eq_true, not_true_eq_false, tn_i, n9]
      rfl) rfl, a_run_end]
    rfl
  · intro k v hk
    generalize itr (whoF S) k (iI 0) = s
    have hC2 := hC.ofX hS v.2
    have n9 : v.1 1 6 = iI (S.1 2) := hC2.1.2.2.1
    obtain ⟨d', q1, q2⟩ := cq_fitsClaims (e := e) hS hC2 (t := k) (by omega)
    refine ⟨⟨d', v.2.trans q2⟩, a_run_step ?_ rfl⟩
    unfold whoF
    show sX10_whose_4 v.1 e _ _ = _
    by_cases c : fnd (sdN S.1 (lwT S k)) (S.1 8).toNat = -1
    · rw [if_pos c] at q1 ⊢
      unfold sX10_whose_4
      simp (disch := omega) only [nI_iI, lN_lJ, iI_0, lJ_0, iI_add, iI_sub, iI_mul, iI_neg, lJ_add, lJ_sub, lJ_mul, lJ_neg, i_l, l_i, iI_cl, iI_inb, iI_eqT, iI_eqF, iI_ltT, iI_ltF, iI_leT, iI_leF, lJ_eqT, lJ_eqF, lJ_cG, lJ_cE, lJ_cL, lJ_cF, lJ_cGE, lJ_cLE, lJ_cNL, lJ_cNG, Int.cast_ofNat_Int, c_0, c_1, Int.natCast_add, Int.add_zero, cond_true, cond_false, Bool.and_self, Bool.and_true, Bool.true_and, Option.bind_some, decide_true, uI_hit, uI_miss, uI_o, uA_o, uA_s, ↓reduceIte, eq_self, true_or, or_true, or_false, false_or, true_and, and_true, false_and, and_false, or_self, and_self, not_false_eq_true, not_true_eq_false, tn_i, Int.toNat_natCast, n9, q1]
    · rw [if_neg c] at q1 ⊢
      unfold sX10_whose_4
      simp (disch := omega) only [nI_iI, lN_lJ, iI_0, lJ_0, iI_add, iI_sub, iI_mul, iI_neg, lJ_add, lJ_sub, lJ_mul, lJ_neg, i_l, l_i, iI_cl, iI_inb, iI_eqT, iI_eqF, iI_ltT, iI_ltF, iI_leT, iI_leF, lJ_eqT, lJ_eqF, lJ_cG, lJ_cE, lJ_cL, lJ_cF, lJ_cGE, lJ_cLE, lJ_cNL, lJ_cNG, Int.cast_ofNat_Int, c_0, c_1, Int.natCast_add, Int.add_zero, cond_true, cond_false, Bool.and_self, Bool.and_true, Bool.true_and, Option.bind_some, decide_true, uI_hit, uI_miss, uI_o, uA_o, uA_s, ↓reduceIte, eq_self, true_or, or_true, or_false, false_or, true_and, and_true, false_and, and_false, or_self, and_self, not_false_eq_true, not_true_eq_false, tn_i, Int.toNat_natCast, n9, q1]
-- reference
theorem mq_whose {d : aI} {e : aJ} {S : aS} (hS : sOK S) (hM : MI d S) : ∃ d' e', FX11_whose d e = some (whoS S, d', e') ∧ KmT d d' := by
  have hW := hS.1.1
  have s2 := hS.1.2.2.1
  have b8 := hS.1.nts.2.2.2
  have mxt : ∀ k : Nat, (k : Int) < S.1 2 → MX d k (lwT S k) (S.2.2.1 k).1.2 := fun k hk => Or.inr ⟨by omega, by omega, S.2.2.1 k, hS.2.2.2.1 k hk, hM.2.2.1 k hk, rfl, rfl⟩
  unfold FX11_whose
  rw [a_run_step (st := stX11_whose) (p := (0, [some (.ref 108), none, none, none, none], d, e)) (p2 := (4, [some (.ref 108), some (.int (iI 0)), some (.int (iI (0 : Nat))), none, none], d, e)) rfl rfl]
  have key := run_foldV (st := stX11_whose) (V := {x : aI × aJ // KmT d x.1} × (Option Value × Option Value)) (fun k s v => (4, [some (.ref 108), some (.int s), some (.int (iI (k : Nat))), v.2.1, v.2.2], v.1.1.1, v.1.1.2)) (whoF S) (S.1 2).toNat (iI 0) ?_ (⟨(d, e), fun _ _ _ => rfl⟩, none, none)
  · obtain ⟨⟨⟨v', hv⟩, v3, v4⟩, q⟩ := key
    have n1 : v'.1 109 2 = iI (S.1 2) := by rw [hv 109 (by omega) (by omega)]; exact hM.1.cell (j := 2) (by omega)
    refine ⟨v'.1, v'.2, ?_, hv⟩
    rw [q, a_run_step (st := stX11_whose) (p2 := (100000, [some (.int (whoS S))], v'.1, v'.2)) (by
      show sX11_whose_4 v'.1 v'.2 _ _ v3 v4 = _
      unfold sX11_whose_4
      simp (disch := omega) only [nI_iI, lN_lJ, iI_0, lJ_0, iI_add, iI_sub, iI_mul, iI_neg, lJ_add, lJ_sub, lJ_mul, lJ_neg, i_l, l_i, iI_cl, iI_inb, iI_eqT, iI_eqF, iI_ltT, iI_ltF, iI_leT, iI_leF, lJ_eqT, lJ_eqF, lJ_cG, lJ_cE, lJ_cL, lJ_cF, lJ_cGE, lJ_cLE, lJ_cNL, lJ_cNG, Int.cast_ofNat_Int, c_0, c_1, Int.natCast_add, Int.add_zero, cond_true, cond_false, Bool.and_self, Bool.and_true, Bool.true_and, Option.bind_some, decide_true, uI_hit, uI_miss, uI_o, uA_o, uA_s, ↓reduceIte, eq_self, true_or, or_true, or_false, false_or, true_and, and_true, false_and, and_false, or_self, and_self, not_false_eq_true, not_true_eq_false, tn_i, n1]
      rfl) rfl, a_run_end]
    rfl
  · rintro k ⟨⟨v, hv⟩, v3, v4⟩ hk
    have n1 : v.1 109 2 = iI (S.1 2) := by rw [hv 109 (by omega) (by omega)]; exact hM.1.cell (j := 2) (by omega)
    show ∃ v', a_run stX11_whose (4, [some (.ref 108), some (.int (itr (whoF S) k (iI 0))), some (.int (iI (k : Nat))), v3, v4], v.1, v.2) = _
    generalize itr (whoF S) k (iI 0) = s
    rw [a_run_step (st := stX11_whose) (p2 := (20, [some (.ref 108), some (.int s), some (.int (iI (k : Nat))), some (.int (iI (if (-1 : Int) = -1 then 1 else 0))), some (.int (iI (112 + 3 * (0 : Nat))))], v.1, v.2)) (by
      show sX11_whose_4 v.1 v.2 _ _ v3 v4 = _
      unfold sX11_whose_4
      simp (disch := omega) only [nI_iI, lN_lJ, iI_0, lJ_0, iI_add, iI_sub, iI_mul, iI_neg, lJ_add, lJ_sub, lJ_mul, lJ_neg, i_l, l_i, iI_cl, iI_inb, iI_eqT, iI_eqF, iI_ltT, iI_ltF, iI_leT, iI_leF, lJ_eqT, lJ_eqF, lJ_cG, lJ_cE, lJ_cL, lJ_cF, lJ_cGE, lJ_cLE, lJ_cNL, lJ_cNG, Int.cast_ofNat_Int, c_0, c_1, Int.natCast_add, Int.add_zero, cond_true, cond_false, Bool.and_self, Bool.and_true, Bool.true_and, Option.bind_some, decide_true, uI_hit, uI_miss, uI_o, uA_o, uA_s, ↓reduceIte, eq_self, true_or, or_true, or_false, false_or, true_and, and_true, false_and, and_false, or_self, and_self, not_false_eq_true, not_true_eq_false, tn_i, n1]
      rfl) rfl]
    have key := run_foldV (st := stX11_whose) (V := {x : aI × aJ // KmT d x.1}) (fun j f w => (20, [some (.ref 108), some (.int s), some (.int (iI (k : Nat))), some (.int (iI (if f = -1 then 1 else 0))), some (.int (iI (112 + 3 * (j : Nat))))], w.1.1, w.1.2)) (fun j f => if f = -1 ∧ sdN S.1 (lwT S k) j then (j : Int) else f) (S.1 8).toNat (-1) ?_ ⟨v, hv⟩
    · obtain ⟨⟨w, hw⟩, q⟩ := key
      have n6 : w.1 109 8 = iI (S.1 8) := by rw [hw 109 (by omega) (by omega)]; exact hM.1.cell (j := 8) (by omega)
      rw [q]
      show ∃ v', a_run stX11_whose (20, [some (.ref 108), some (.int s), some (.int (iI (k : Nat))), some (.int (iI (if fnd (sdN S.1 (lwT S k)) (S.1 8).toNat = -1 then 1 else 0))), some (.int (iI (112 + 3 * ((S.1 8).toNat : Nat))))], w.1, w.2) = _
      unfold whoF
      by_cases c : fnd (sdN S.1 (lwT S k)) (S.1 8).toNat = -1
      · rw [if_pos c, if_pos c]
        refine ⟨(⟨w, hw⟩, some (.int (iI 1)), some (.int (iI (112 + 3 * ((S.1 8).toNat : Nat))))), a_run_step ?_ rfl⟩
        show sX11_whose_20 w.1 w.2 _ _ _ _ = _
        unfold sX11_whose_20
        simp (disch := omega) only [nI_iI, lN_lJ, iI_0, lJ_0, iI_add, iI_sub, iI_mul, iI_neg, lJ_add, lJ_sub, lJ_mul, lJ_neg, i_l, l_i, iI_cl, iI_inb, iI_eqT, iI_eqF, iI_ltT, iI_ltF, iI_leT, iI_leF, lJ_eqT, lJ_eqF, lJ_cG, lJ_cE, lJ_cL, lJ_cF, lJ_cGE, lJ_cLE, lJ_cNL, lJ_cNG, Int.cast_ofNat_Int, c_0, c_1, Int.natCast_add, Int.add_zero, cond_true, cond_false, Bool.and_self, Bool.and_true, Bool.true_and, Option.bind_some, decide_true, uI_hit, uI_miss, uI_o, uA_o, uA_s, ↓reduceIte, eq_self, true_or, or_true, or_false, false_or, true_and, and_true, false_and, and_false, or_self, and_self, not_false_eq_true, not_true_eq_false, tn_i, n6]
      · rw [if_neg c, if_neg c]
        refine ⟨(⟨w, hw⟩, some (.int (iI 0)), some (.int (iI (112 + 3 * ((S.1 8).toNat : Nat))))), a_run_step ?_ rfl⟩
        show sX11_whose_20 w.1 w.2 _ _ _ _ = _
        unfold sX11_whose_20
        simp (disch := omega) only [nI_iI, lN_lJ, iI_0, lJ_0, iI_add, iI_sub, iI_mul, iI_neg, lJ_add, lJ_sub, lJ_mul, lJ_neg, i_l, l_i, iI_cl, iI_inb, iI_eqT, iI_eqF, iI_ltT, iI_ltF, iI_leT, iI_leF, lJ_eqT, lJ_eqF, lJ_cG, lJ_cE, lJ_cL, lJ_cF, lJ_cGE, lJ_cLE, lJ_cNL, lJ_cNG, Int.cast_ofNat_Int, c_0, c_1, Int.natCast_add, Int.add_zero, cond_true, cond_false, Bool.and_self, Bool.and_true, Bool.true_and, Option.bind_some, decide_true, uI_hit, uI_miss, uI_o, uA_o, uA_s, ↓reduceIte, eq_self, true_or, or_true, or_false, false_or, true_and, and_true, false_and, and_false, or_self, and_self, not_false_eq_true, not_true_eq_false, tn_i, n6, or_z]
    · rintro j ⟨w, hw⟩ hj
      have n6 : w.1 109 8 = iI (S.1 8) := by rw [hw 109 (by omega) (by omega)]; exact hM.1.cell (j := 8) (by omega)
      have bk := b8.2 j (by omega) (by omega)
      generalize itr (fun j f => if f = -1 ∧ sdN S.1 (lwT S k) j then (j : Int) else f) j (-1) = f
      by_cases c : f = -1
      · obtain ⟨d', e', q1, q2⟩ := mq_takesOf (e := w.2) (hM.1.of (hw 109 (by omega) (by omega))) hW ((mxt k (by omega)).of (hw 111 (by omega) (by omega))) bk.1 bk.2.1
        have hd : KmT d d' := fun o a b => (q2 o a b).trans (hw o a b)
        have m1 : w.1 109 (112 + 3 * (j : Int)).toNat = iI (S.1 (112 + 3 * j)) := by rw [hw 109 (by omega) (by omega)]; exact hM.1.cell (by omega)
        have m0 : w.1 109 (112 + 3 * (j : Int) + 1).toNat = iI (S.1 (112 + 3 * j + 1)) := by rw [hw 109 (by omega) (by omega)]; exact hM.1.cell (by omega)
        have m2 : d' 109 (112 + 3 * (j : Int) + 2).toNat = iI (S.1 (112 + 3 * j + 2)) := by rw [hd 109 (by omega) (by omega)]; exact hM.1.cell (by omega)
        have ti := takesS_in hW (y := lwT S k) (h := S.1 (112 + 3 * j + 1)) bk.1
        by_cases t : takesS S.1 (lwT S k) (S.1 (112 + 3 * j)) (S.1 (112 + 3 * j + 1)) = S.1 (112 + 3 * j + 2)
        · refine ⟨⟨(d', e'), hd⟩, a_run_step ?_ rfl⟩
          show sX11_whose_20 w.1 w.2 _ _ _ _ = _
          rw [if_pos c, if_neg (show ¬(f = -1 ∧ sdN S.1 (lwT S k) j) from fun z => z.2 t), if_pos c]
          rw [t] at q1
          unfold sX11_whose_20
          simp (disch := omega) only [nI_iI, lN_lJ, iI_0, lJ_0, iI_add, iI_sub, iI_mul, iI_neg, lJ_add, lJ_sub, lJ_mul, lJ_neg, i_l, l_i, iI_cl, iI_inb, iI_eqT, iI_eqF, iI_ltT, iI_ltF, iI_leT, iI_leF, lJ_eqT, lJ_eqF, lJ_cG, lJ_cE, lJ_cL, lJ_cF, lJ_cGE, lJ_cLE, lJ_cNL, lJ_cNG, Int.cast_ofNat_Int, c_0, c_1, Int.natCast_add, Int.add_zero, cond_true, cond_false, Bool.and_self, Bool.and_true, Bool.true_and, Option.bind_some, decide_true, uI_hit, uI_miss, uI_o, uA_o, uA_s, ↓reduceIte, eq_self, true_or, or_true, or_false, false_or, true_and, and_true, false_and, and_false, or_self, and_self, not_false_eq_true, not_true_eq_false, tn_i, n6, m0, m1, m2, q1]
          rw [show (112 : Int) + 3 * j + 3 = 112 + 3 * (j + 1) by omega]
        · refine ⟨⟨(d', e'), hd⟩, a_run_step ?_ rfl⟩
          show sX11_whose_20 w.1 w.2 _ _ _ _ = _
          rw [if_pos c, if_pos (show f = -1 ∧ sdN S.1 (lwT S k) j from ⟨c, t⟩), if_neg (show ¬(j : Int) = -1 by omega)]
          unfold sX11_whose_20
          simp (disch := omega) only [nI_iI, lN_lJ, iI_0, lJ_0, iI_add, iI_sub, iI_mul, iI_neg, lJ_add, lJ_sub, lJ_mul, lJ_neg, i_l, l_i, iI_cl, iI_inb, iI_eqT, iI_eqF, iI_ltT, iI_ltF, iI_leT, iI_leF, lJ_eqT, lJ_eqF, lJ_cG, lJ_cE, lJ_cL, lJ_cF, lJ_cGE, lJ_cLE, lJ_cNL, lJ_cNG, Int.cast_ofNat_Int, c_0, c_1, Int.natCast_add, Int.add_zero, cond_true, cond_false, Bool.and_self, Bool.and_true, Bool.true_and, Option.bind_some, decide_true, uI_hit, uI_miss, uI_o, uA_o, uA_s, ↓reduceIte, eq_self, true_or, or_true, or_false, false_or, true_and, and_true, false_and, and_false, or_self, and_self, not_false_eq_true, not_true_eq_false, tn_i, n6, m0, m1, m2, q1]
          rw [show (112 : Int) + 3 * j + 3 = 112 + 3 * (j + 1) by omega]
      · refine ⟨⟨w, hw⟩, a_run_step ?_ rfl⟩
        show sX11_whose_20 w.1 w.2 _ _ _ _ = _
        rw [if_neg c, if_neg (show ¬(f = -1 ∧ sdN S.1 (lwT S k) j) from fun z => c z.1), if_neg c]
        unfold sX11_whose_20
        simp (disch := omega) only [nI_iI, lN_lJ, iI_0, lJ_0, iI_add, iI_sub, iI_mul, iI_neg, lJ_add, lJ_sub, lJ_mul, lJ_neg, i_l, l_i, iI_cl, iI_inb, iI_eqT, iI_eqF, iI_ltT, iI_ltF, iI_leT, iI_leF, lJ_eqT, lJ_eqF, lJ_cG, lJ_cE, lJ_cL, lJ_cF, lJ_cGE, lJ_cLE, lJ_cNL, lJ_cNG, Int.cast_ofNat_Int, c_0, c_1, Int.natCast_add, Int.add_zero, cond_true, cond_false, Bool.and_self, Bool.and_true, Bool.true_and, Option.bind_some, decide_true, uI_hit, uI_miss, uI_o, uA_o, uA_s, ↓reduceIte, eq_self, true_or, or_true, or_false, false_or, true_and, and_true, false_and, and_false, or_self, and_self, not_false_eq_true, not_true_eq_false, tn_i, n6]
        rw [show (112 : Int) + 3 * j + 3 = 112 + 3 * (j + 1) by omega]
theorem o_whose : Op FX10_whose FX11_whose := by
  refine Op.quest (fun S hS => ⟨whoS S, fun d e hC => ?_, fun d e hM => ?_⟩)
  · obtain ⟨d', q1, q2⟩ := cq_whose (e := e) hS hC
    exact ⟨d', e, q1, fun k hk => q2 k (by omega) (by omega)⟩
  · obtain ⟨d', e', q1, q2⟩ := mq_whose (e := e) hS hM
    exact ⟨d', e', q1, fun k a b => q2 k (by omega) (by omega), fun j _ => by rw [q2 108 (by omega) (by omega)]⟩
