/-! ===== which it was ===== -/
theorem or_z (s : Int32) : s ||| iI 0 = s := Int32.or_zero
theorem fnd_s {p : Nat → Prop} [DecidablePred p] (k : Nat) : fnd p (k + 1) = if fnd p k = -1 ∧ p k then (k : Int) else fnd p k := rfl
theorem run_fndX {V : Type} {st : aP → Option aP} (T : Nat → V → aP) (R : Int → V → Option (aL × aI × aJ)) (p : Nat → Prop) [DecidablePred p] (n : Nat) (hs : ∀ k v, k < n → ¬p k → ∃ v', a_run st (T k v) = a_run st (T (k + 1) v'))
    (hy : ∀ k v, k < n → p k → ∃ v', a_run st (T k v) = R k v') (hn : ∀ v, ∃ v', a_run st (T n v) = R (-1) v') (v : V) : ∃ v', a_run st (T 0 v) = R (fnd p n) v' := by
  have walk : ∀ m, m ≤ n → (∀ j, j < m → ¬p j) → ∃ v', a_run st (T 0 v) = a_run st (T m v') := by
    intro m
    induction m with
    | zero => intro _ _; exact ⟨v, rfl⟩
    | succ m ih =>
      intro hm hq
      obtain ⟨v1, e1⟩ := ih (by omega) (fun j hj => hq j (by omega))
      obtain ⟨v2, e2⟩ := hs m v1 (by omega) (hq m (by omega))
      exact ⟨v2, e1.trans e2⟩
  by_cases h : fnd p n = -1
  · obtain ⟨v1, e1⟩ := walk n (Nat.le_refl _) (fun j hj => fnd_no h j hj)
    obtain ⟨v2, e2⟩ := hn v1
    exact ⟨v2, by rw [e1, e2, h]⟩
  · have hl := fnd_le (p := p) n
    obtain ⟨k, hk⟩ := Int.eq_ofNat_of_zero_le (show 0 ≤ fnd p n by omega)
    have hy2 := fnd_yes h
    rw [hk] at hy2
    have q : ∀ j, j < k → ¬p j := by
      intro j hj hpj
      have h2 : fnd p (j + 1) ≠ -1 := by
        rw [fnd_s]
        by_cases h5 : fnd p j = -1
        · rw [if_pos ⟨h5, hpj⟩]; omega
        · rw [if_neg (fun z => h5 z.1)]; exact h5
      have h3 := fnd_stay h2 (show j + 1 ≤ n by omega)
      have h4 := fnd_le (p := p) (j + 1)
      omega
    obtain ⟨v1, e1⟩ := walk k (by omega) q
    obtain ⟨v2, e2⟩ := hy k v1 (by omega) hy2
    exact ⟨v2, by rw [e1, e2, hk]⟩
abbrev tkN (A : Int → Int) (y : Option (En → Int)) (c : Int) : Nat → Prop := fun j => takesS A y c (A (86 + 2 * j)) ≠ A (86 + 2 * j + 1)
def whF (A : Int → Int) (y : Option (En → Int)) (k : Nat) (s : Int32) : Int32 := if fnd (tkN A y k) (A 6).toNat = -1 then s ||| a_shl (iI 1) (iI k) else s
def whS (A : Int → Int) (y : Option (En → Int)) : Int32 := itr (whF A y) (A 1).toNat (iI 0)
theorem cq_takesW {d : aI} {e : aJ} {S : aS} (hS : sOK S) (hC : CI d S) {c h : Int} (hc : 0 ≤ c ∧ c < S.1 1) (hh : 0 ≤ h ∧ h < S.1 0) : ∃ d', FX10_takes d e (iI c) (iI h) = some (iI (takesS S.1 (lawT S) c h), d', e) ∧ SameX d d' := by
  have hW := hS.1.1
  obtain ⟨o, p1, p2, p3, p4⟩ := cq_rule (e := e) (hC.ru hS)
  obtain ⟨d', q1, q2⟩ := cq_taking (e := e) hC.cn hW p2 p3 hc hh
  refine ⟨d', ?_, q2⟩
  unfold FX10_takes
  simp (disch := omega) only [nI_iI, lN_lJ, iI_0, lJ_0, iI_add, iI_sub, iI_mul, iI_neg, lJ_add, lJ_sub, lJ_mul, lJ_neg, i_l, l_i, iI_cl, iI_inb, iI_eqT, iI_eqF, iI_ltT, iI_ltF, iI_leT, iI_leF, lJ_eqT, lJ_eqF, lJ_cG, lJ_cE, lJ_cL, lJ_cF, lJ_cGE, lJ_cLE, lJ_cNL, lJ_cNG, Int.cast_ofNat_Int, c_0, c_1, Int.natCast_add, Int.add_zero, cond_true, cond_false, Bool.and_self, Bool.and_true, Bool.true_and, Option.bind_some, decide_true, uI_hit, uI_miss, uI_o, uA_o, uA_s, ↓reduceIte, eq_self, true_or, or_true, or_false, false_or, true_and, and_true, false_and, and_false, or_self, and_self, not_false_eq_true, not_true_eq_false, tn_i, cq_isCat_y hC.cn hW, cq_isHouse_y hC.cn hW, p1, q1]
theorem CI.ofX {d d' : aI} {S : aS} (hS : sOK S) (h : CI d S) (g : SameX d d') : CI d' S := h.of (fun k hk => g k (by omega) (by omega)) hS.1.2.2.1.2
theorem cq_fitsClues {d : aI} {e : aJ} {S : aS} (hS : sOK S) (hC : CI d S) {c : Int} (hc : 0 ≤ c ∧ c < S.1 1) : ∃ d', FX10_fitsClues d e (iI c) = some (iI (if fnd (tkN S.1 (lawT S) c) (S.1 6).toNat = -1 then 1 else 0), d', e) ∧ SameX d d' := by
  have b6 := hS.1.nts.2.1
  have hW := hS.1.1
  unfold FX10_fitsClues
  rw [a_run_step (st := stX10_fitsClues) (p := (0, [some (.ref 0), some (.int (iI c)), none, none], d, e)) (p2 := (10, [some (.ref 0), some (.int (iI c)), some (.ref 17), some (.int (iI (0 : Nat)))], d, e)) rfl rfl]
  have key := run_fndX (st := stX10_fitsClues) (V := {x : aI // SameX d x}) (fun k v => (10, [some (.ref 0), some (.int (iI c)), some (.ref 17), some (.int (iI (k : Nat)))], v.1, e)) (fun r v => some ([some (.int (iI (if r = -1 then 1 else 0)))], v.1, e)) (tkN S.1 (lawT S) c) (S.1 6).toNat ?_ ?_ ?_ ⟨d, SameX.refl d⟩
  · obtain ⟨v', q⟩ := key
    refine ⟨v'.1, ?_, v'.2⟩
    rw [q]
    rfl
  · intro k v hk hp
    have hp2 : takesS S.1 (lawT S) c (S.1 (86 + 2 * k)) = S.1 (86 + 2 * k + 1) := Decidable.not_not.mp hp
    have bk := b6.2 k (by omega) (by omega)
    have hC2 := hC.ofX hS v.2
    obtain ⟨d', q1, q2⟩ := cq_takesW (e := e) hS hC2 hc bk.1
    have m := hC2.nt.2.1
    have n4 : v.1 17 4 = iI (S.1 6) := m.2.1
    have n1 : v.1 18 k = iI (S.1 (86 + 2 * k)) := m.2.2.1 k (by omega)
    have n2 : d' 19 k = iI (S.1 (86 + 2 * k + 1)) := by rw [q2 19 (by omega) (by omega)]; exact m.2.2.2 k (by omega)
    rw [hp2] at q1
    refine ⟨⟨d', v.2.trans q2⟩, a_run_step ?_ rfl⟩
    show sX10_fitsClues_10 v.1 e _ _ = _
    unfold sX10_fitsClues_10
    simp (disch := omega) only [nI_iI, lN_lJ, iI_0, lJ_0, iI_add, iI_sub, iI_mul, iI_neg, lJ_add, lJ_sub, lJ_mul, lJ_neg, i_l, l_i, iI_cl, iI_inb, iI_eqT, iI_eqF, iI_ltT, iI_ltF, iI_leT, iI_leF, lJ_eqT, lJ_eqF, lJ_cG, lJ_cE, lJ_cL, lJ_cF, lJ_cGE, lJ_cLE, lJ_cNL, lJ_cNG, Int.cast_ofNat_Int, c_0, c_1, Int.natCast_add, Int.add_zero, cond_true, cond_false, Bool.and_self, Bool.and_true, Bool.true_and, Option.bind_some, decide_true, uI_hit, uI_miss, uI_o, uA_o, uA_s, ↓reduceIte, eq_self, true_or, or_true, or_false, false_or, true_and, and_true, false_and, and_false, or_self, and_self, not_false_eq_true, not_true_eq_false, tn_i, Int.toNat_natCast, n4, n1, n2, q1]
  · intro k v hk hp
    have hp2 : takesS S.1 (lawT S) c (S.1 (86 + 2 * k)) ≠ S.1 (86 + 2 * k + 1) := hp
    have bk := b6.2 k (by omega) (by omega)
    have ti := takesS_in hW (y := lawT S) (h := S.1 (86 + 2 * k)) hc
    have hC2 := hC.ofX hS v.2
    obtain ⟨d', q1, q2⟩ := cq_takesW (e := e) hS hC2 hc bk.1
    have m := hC2.nt.2.1
    have n4 : v.1 17 4 = iI (S.1 6) := m.2.1
    have n1 : v.1 18 k = iI (S.1 (86 + 2 * k)) := m.2.2.1 k (by omega)
    have n2 : d' 19 k = iI (S.1 (86 + 2 * k + 1)) := by rw [q2 19 (by omega) (by omega)]; exact m.2.2.2 k (by omega)
    refine ⟨⟨d', v.2.trans q2⟩, ?_⟩
    rw [a_run_step (st := stX10_fitsClues) (p2 := (100000, [some (.int (iI 0))], d', e)) (by
      show sX10_fitsClues_10 v.1 e _ _ = _
      unfold sX10_fitsClues_10
      simp (disch := omega) only [nI_iI, lN_lJ, iI_0, lJ_0, iI_add, iI_sub, iI_mul, iI_neg, lJ_add, lJ_sub, lJ_mul, lJ_neg, i_l, l_i, iI_cl, iI_inb, iI_eqT, iI_eqF, iI_ltT, iI_ltF, iI_leT, iI_leF, lJ_eqT, lJ_eqF, lJ_cG, lJ_cE, lJ_cL, lJ_cF, lJ_cGE, lJ_cLE, lJ_cNL, lJ_cNG, Int.cast_ofNat_Int, c_0, c_1, Int.natCast_add, Int.add_zero, cond_true, cond_false, Bool.and_self, Bool.and_true, Bool.true_and, Option.bind_some, decide_true, uI_hit, uI_miss, uI_o, uA_o, uA_s, ↓reduceIte, eq_self, true_or, or_true, or_false, false_or, true_and, and_true, false_and, and_false, or_self, and_self, not_false_eq_true, not_true_eq_false, tn_i, Int.toNat_natCast, n4, n1, n2, q1]) rfl, a_run_end]
    rw [if_neg (show ¬(k : Int) = -1 by omega)]
  · intro v
    have hC2 := hC.ofX hS v.2
    have m := hC2.nt.2.1
    have n4 : v.1 17 4 = iI (S.1 6) := m.2.1
    refine ⟨v, ?_⟩
    rw [a_run_step (st := stX10_fitsClues) (p2 := (100000, [some (.int (iI 1))], v.1, e)) (by
      show sX10_fitsClues_10 v.1 e _ _ = _
      unfold sX10_fitsClues_10
      simp (disch := omega) only [nI_iI, lN_lJ, iI_0, lJ_0, iI_add, iI_sub, iI_mul, iI_neg, lJ_add, lJ_sub, lJ_mul, lJ_neg, i_l, l_i, iI_cl, iI_inb, iI_eqT, iI_eqF, iI_ltT, iI_ltF, iI_leT, iI_leF, lJ_eqT, lJ_eqF, lJ_cG, lJ_cE, lJ_cL, lJ_cF, lJ_cGE, lJ_cLE, lJ_cNL, lJ_cNG, Int.cast_ofNat_Int, c_0, c_1, Int.natCast_add, Int.add_zero, cond_true, cond_false, Bool.and_self, Bool.and_true, Bool.true_and, Option.bind_some, decide_true, uI_hit, uI_miss, uI_o, uA_o, uA_s, ↓reduceIte, eq_self, true_or, or_true, or_false, false_or, true_and, and_true, false_and, and_false, or_self, and_self, not_false_eq_true, not_true_eq_false, tn_i, n4]) rfl, a_run_end]
    rfl
theorem cq_which {d : aI} {e : aJ} {S : aS} (hS : sOK S) (hC : CI d S) : ∃ d', FX10_which d e = some (whS S.1 (lawT S), d', e) ∧ SameX d d' := by
  have hW := hS.1.1
  have w1 := hW.2.1
  unfold FX10_which
  rw [a_run_step (st := stX10_which) (p := (0, [some (.ref 0), none, none], d, e)) (p2 := (4, [some (.ref 0), some (.int (iI 0)), some (.int (iI (0 : Nat)))], d, e)) rfl rfl]
  have key := run_foldV (st := stX10_which) (V := {x : aI // SameX d x}) (fun k s v => (4, [some (.ref 0), some (.int s), some (.int (iI (k : Nat)))], v.1, e)) (whF S.1 (lawT S)) (S.1 1).toNat (iI 0) ?_ ⟨d, SameX.refl d⟩
  · obtain ⟨v', q⟩ := key
    have hC2 := hC.ofX hS v'.2
    have n9 : v'.1 2 9 = iI (S.1 1) := hC2.cn.2.1
    refine ⟨v'.1, ?_, v'.2⟩
    rw [q, a_run_step (st := stX10_which) (p2 := (100000, [some (.int (whS S.1 (lawT S)))], v'.1, e)) (by
      show sX10_which_4 v'.1 e _ _ = _
      unfold sX10_which_4
      simp (disch := omega) only [nI_iI, lN_lJ, iI_0, lJ_0, iI_add, iI_sub, iI_mul, iI_neg, lJ_add, lJ_sub, lJ_mul, lJ_neg, i_l, l_i, iI_cl, iI_inb, iI_eqT, iI_eqF, iI_ltT, iI_ltF, iI_leT, iI_leF, lJ_eqT, lJ_eqF, lJ_cG, lJ_cE, lJ_cL, lJ_cF, lJ_cGE, lJ_cLE, lJ_cNL, lJ_cNG, Int.cast_ofNat_Int, c_0, c_1, Int.natCast_add, Int.add_zero, cond_true, cond_false, Bool.and_self, Bool.and_true, Bool.true_and, Option.bind_some, decide_true, uI_hit, uI_miss, uI_o, uA_o, uA_s, ↓reduceIte, eq_self, true_or, or_true, or_false, false_or, true_and, and_true, false_and, and_false, or_self, and_self, not_false_eq_true, not_true_eq_false, tn_i, n9]
      rfl) rfl, a_run_end]
    rfl
  · intro k v hk
    generalize itr (whF S.1 (lawT S)) k (iI 0) = s
    have hC2 := hC.ofX hS v.2
    have n9 : v.1 2 9 = iI (S.1 1) := hC2.cn.2.1
    obtain ⟨d', q1, q2⟩ := cq_fitsClues (e := e) hS hC2 (c := k) (by omega)
    refine ⟨⟨d', v.2.trans q2⟩, a_run_step ?_ rfl⟩
    unfold whF
    show sX10_which_4 v.1 e _ _ = _
    by_cases c : fnd (tkN S.1 (lawT S) k) (S.1 6).toNat = -1
    · rw [if_pos c] at q1 ⊢
      unfold sX10_which_4
      simp (disch := omega) only [nI_iI, lN_lJ, iI_0, lJ_0, iI_add, iI_sub, iI_mul, iI_neg, lJ_add, lJ_sub, lJ_mul, lJ_neg, i_l, l_i, iI_cl, iI_inb, iI_eqT, iI_eqF, iI_ltT, iI_ltF, iI_leT, iI_leF, lJ_eqT, lJ_eqF, lJ_cG, lJ_cE, lJ_cL, lJ_cF, lJ_cGE, lJ_cLE, lJ_cNL, lJ_cNG, Int.cast_ofNat_Int, c_0, c_1, Int.natCast_add, Int.add_zero, cond_true, cond_false, Bool.and_self, Bool.and_true, Bool.true_and, Option.bind_some, decide_true, uI_hit, uI_miss, uI_o, uA_o, uA_s, ↓reduceIte, eq_self, true_or, or_true, or_false, false_or, true_and, and_true, false_and, and_false, or_self, and_self, not_false_eq_true, not_true_eq_false, tn_i, n9, q1]
    · rw [if_neg c] at q1 ⊢
      unfold sX10_which_4
      simp (disch := omega) only [nI_iI, lN_lJ, iI_0, lJ_0, iI_add, iI_sub, iI_mul, iI_neg, lJ_add, lJ_sub, lJ_mul, lJ_neg, i_l, l_i, iI_cl, iI_inb, iI_eqT, iI_eqF, iI_ltT, iI_ltF, iI_leT, iI_leF, lJ_eqT, lJ_eqF, lJ_cG, lJ_cE, lJ_cL, lJ_cF, lJ_cGE, lJ_cLE, lJ_cNL, lJ_cNG, Int.cast_ofNat_Int, c_0, c_1, Int.natCast_add, Int.add_zero, cond_true, cond_false, Bool.and_self, Bool.and_true, Bool.true_and, Option.bind_some, decide_true, uI_hit, uI_miss, uI_o, uA_o, uA_s, ↓reduceIte, eq_self, true_or, or_true, or_false, false_or, true_and, and_true, false_and, and_false, or_self, and_self, not_false_eq_true, not_true_eq_false, tn_i, n9, q1]
-- reference
abbrev KmT (d d' : aI) : Prop := ∀ o, o ≠ 114 → o ≠ 116 → d' o = d o
theorem mq_which {d : aI} {e : aJ} {S : aS} (hS : sOK S) (hM : MI d S) : ∃ d' e', FX11_which d e = some (whS S.1 (lawT S), d', e') ∧ KmT d d' := by
  have hW := hS.1.1
  have w1 := hW.2.1
  have b6 := hS.1.nts.2.1
  unfold FX11_which
  rw [a_run_step (st := stX11_which) (p := (0, [some (.ref 108), none, none, none, none], d, e)) (p2 := (4, [some (.ref 108), some (.int (iI 0)), some (.int (iI (0 : Nat))), none, none], d, e)) rfl rfl]
  have key := run_foldV (st := stX11_which) (V := {x : aI × aJ // KmT d x.1} × (Option Value × Option Value)) (fun k s v => (4, [some (.ref 108), some (.int s), some (.int (iI (k : Nat))), v.2.1, v.2.2], v.1.1.1, v.1.1.2)) (whF S.1 (lawT S)) (S.1 1).toNat (iI 0) ?_ (⟨(d, e), fun _ _ _ => rfl⟩, none, none)
  · obtain ⟨⟨⟨v', hv⟩, v3, v4⟩, q⟩ := key
    have n1 : v'.1 109 1 = iI (S.1 1) := by rw [hv 109 (by omega) (by omega)]; exact hM.1.cell (j := 1) (by omega)
    refine ⟨v'.1, v'.2, ?_, hv⟩
    rw [q, a_run_step (st := stX11_which) (p2 := (100000, [some (.int (whS S.1 (lawT S)))], v'.1, v'.2)) (by
      show sX11_which_4 v'.1 v'.2 _ _ v3 v4 = _
      unfold sX11_which_4
      simp (disch := omega) only [nI_iI, lN_lJ, iI_0, lJ_0, iI_add, iI_sub, iI_mul, iI_neg, lJ_add, lJ_sub, lJ_mul, lJ_neg, i_l, l_i, iI_cl, iI_inb, iI_eqT, iI_eqF, iI_ltT, iI_ltF, iI_leT, iI_leF, lJ_eqT, lJ_eqF, lJ_cG, lJ_cE, lJ_cL, lJ_cF, lJ_cGE, lJ_cLE, lJ_cNL, lJ_cNG, Int.cast_ofNat_Int, c_0, c_1, Int.natCast_add, Int.add_zero, cond_true, cond_false, Bool.and_self, Bool.and_true, Bool.true_and, Option.bind_some, decide_true, uI_hit, uI_miss, uI_o, uA_o, uA_s, ↓reduceIte, eq_self, true_or, or_true, or_false, false_or, true_and, and_true, false_and, and_false, or_self, and_self, not_false_eq_true, not_true_eq_false, tn_i, n1]
      rfl) rfl, a_run_end]
    rfl
  · rintro k ⟨⟨v, hv⟩, v3, v4⟩ hk
    have n1 : v.1 109 1 = iI (S.1 1) := by rw [hv 109 (by omega) (by omega)]; exact hM.1.cell (j := 1) (by omega)
    show ∃ v', a_run stX11_which (4, [some (.ref 108), some (.int (itr (whF S.1 (lawT S)) k (iI 0))), some (.int (iI (k : Nat))), v3, v4], v.1, v.2) = _
    generalize itr (whF S.1 (lawT S)) k (iI 0) = s
    rw [a_run_step (st := stX11_which) (p2 := (20, [some (.ref 108), some (.int s), some (.int (iI (k : Nat))), some (.int (iI (if (-1 : Int) = -1 then 1 else 0))), some (.int (iI (86 + 2 * (0 : Nat))))], v.1, v.2)) (by
      show sX11_which_4 v.1 v.2 _ _ v3 v4 = _
      unfold sX11_which_4
      simp (disch := omega) only [nI_iI, lN_lJ, iI_0, lJ_0, iI_add, iI_sub, iI_mul, iI_neg, lJ_add, lJ_sub, lJ_mul, lJ_neg, i_l, l_i, iI_cl, iI_inb, iI_eqT, iI_eqF, iI_ltT, iI_ltF, iI_leT, iI_leF, lJ_eqT, lJ_eqF, lJ_cG, lJ_cE, lJ_cL, lJ_cF, lJ_cGE, lJ_cLE, lJ_cNL, lJ_cNG, Int.cast_ofNat_Int, c_0, c_1, Int.natCast_add, Int.add_zero, cond_true, cond_false, Bool.and_self, Bool.and_true, Bool.true_and, Option.bind_some, decide_true, uI_hit, uI_miss, uI_o, uA_o, uA_s, ↓reduceIte, eq_self, true_or, or_true, or_false, false_or, true_and, and_true, false_and, and_false, or_self, and_self, not_false_eq_true, not_true_eq_false, tn_i, n1]
      rfl) rfl]
    have key := run_foldV (st := stX11_which) (V := {x : aI × aJ // KmT d x.1}) (fun j f w => (20, [some (.ref 108), some (.int s), some (.int (iI (k : Nat))), some (.int (iI (if f = -1 then 1 else 0))), some (.int (iI (86 + 2 * (j : Nat))))], w.1.1, w.1.2)) (fun j f => if f = -1 ∧ tkN S.1 (lawT S) k j then (j : Int) else f) (S.1 6).toNat (-1) ?_ ⟨v, hv⟩
    · obtain ⟨⟨w, hw⟩, q⟩ := key
      have n6 : w.1 109 6 = iI (S.1 6) := by rw [hw 109 (by omega) (by omega)]; exact hM.1.cell (j := 6) (by omega)
      rw [q]
      show ∃ v', a_run stX11_which (20, [some (.ref 108), some (.int s), some (.int (iI (k : Nat))), some (.int (iI (if fnd (tkN S.1 (lawT S) k) (S.1 6).toNat = -1 then 1 else 0))), some (.int (iI (86 + 2 * ((S.1 6).toNat : Nat))))], w.1, w.2) = _
      unfold whF
      by_cases c : fnd (tkN S.1 (lawT S) k) (S.1 6).toNat = -1
      · rw [if_pos c, if_pos c]
        refine ⟨(⟨w, hw⟩, some (.int (iI 1)), some (.int (iI (86 + 2 * ((S.1 6).toNat : Nat))))), a_run_step ?_ rfl⟩
        show sX11_which_20 w.1 w.2 _ _ _ _ = _
        unfold sX11_which_20
        simp (disch := omega) only [nI_iI, lN_lJ, iI_0, lJ_0, iI_add, iI_sub, iI_mul, iI_neg, lJ_add, lJ_sub, lJ_mul, lJ_neg, i_l, l_i, iI_cl, iI_inb, iI_eqT, iI_eqF, iI_ltT, iI_ltF, iI_leT, iI_leF, lJ_eqT, lJ_eqF, lJ_cG, lJ_cE, lJ_cL, lJ_cF, lJ_cGE, lJ_cLE, lJ_cNL, lJ_cNG, Int.cast_ofNat_Int, c_0, c_1, Int.natCast_add, Int.add_zero, cond_true, cond_false, Bool.and_self, Bool.and_true, Bool.true_and, Option.bind_some, decide_true, uI_hit, uI_miss, uI_o, uA_o, uA_s, ↓reduceIte, eq_self, true_or, or_true, or_false, false_or, true_and, and_true, false_and, and_false, or_self, and_self, not_false_eq_true, not_true_eq_false, tn_i, n6]
      · rw [if_neg c, if_neg c]
        refine ⟨(⟨w, hw⟩, some (.int (iI 0)), some (.int (iI (86 + 2 * ((S.1 6).toNat : Nat))))), a_run_step ?_ rfl⟩
        show sX11_which_20 w.1 w.2 _ _ _ _ = _
        unfold sX11_which_20
        simp (disch := omega) only [nI_iI, lN_lJ, iI_0, lJ_0, iI_add, iI_sub, iI_mul, iI_neg, lJ_add, lJ_sub, lJ_mul, lJ_neg, i_l, l_i, iI_cl, iI_inb, iI_eqT, iI_eqF, iI_ltT, iI_ltF, iI_leT, iI_leF, lJ_eqT, lJ_eqF, lJ_cG, lJ_cE, lJ_cL, lJ_cF, lJ_cGE, lJ_cLE, lJ_cNL, lJ_cNG, Int.cast_ofNat_Int, c_0, c_1, Int.natCast_add, Int.add_zero, cond_true, cond_false, Bool.and_self, Bool.and_true, Bool.true_and, Option.bind_some, decide_true, uI_hit, uI_miss, uI_o, uA_o, uA_s, ↓reduceIte, eq_self, true_or, or_true, or_false, false_or, true_and, and_true, false_and, and_false, or_self, and_self, not_false_eq_true, not_true_eq_false, tn_i, n6, or_z]
    · rintro j ⟨w, hw⟩ hj
      have n6 : w.1 109 6 = iI (S.1 6) := by rw [hw 109 (by omega) (by omega)]; exact hM.1.cell (j := 6) (by omega)
      have n3 : w.1 109 3 = iI (S.1 3) := by rw [hw 109 (by omega) (by omega)]; exact hM.1.cell (j := 3) (by omega)
      have bk := b6.2 j (by omega) (by omega)
      generalize itr (fun j f => if f = -1 ∧ tkN S.1 (lawT S) k j then (j : Int) else f) j (-1) = f
      by_cases c : f = -1
      · obtain ⟨d', e', q1, q2⟩ := mq_takesOf (e := w.2) (hM.1.of (hw 109 (by omega) (by omega))) hW ((hM.mx hS).of (hw 111 (by omega) (by omega))) (c := k) (h := S.1 (86 + 2 * j)) (by omega) bk.1
        have hd : KmT d d' := fun o a b => (q2 o a b).trans (hw o a b)
        have m1 : w.1 109 (86 + 2 * (j : Int)).toNat = iI (S.1 (86 + 2 * j)) := by rw [hw 109 (by omega) (by omega)]; exact hM.1.cell (by omega)
        have m2 : d' 109 (86 + 2 * (j : Int) + 1).toNat = iI (S.1 (86 + 2 * j + 1)) := by rw [hd 109 (by omega) (by omega)]; exact hM.1.cell (by omega)
        have ti := takesS_in hW (y := lawT S) (c := k) (h := S.1 (86 + 2 * j)) (by omega)
        by_cases t : takesS S.1 (lawT S) k (S.1 (86 + 2 * j)) = S.1 (86 + 2 * j + 1)
        · refine ⟨⟨(d', e'), hd⟩, a_run_step ?_ rfl⟩
          show sX11_which_20 w.1 w.2 _ _ _ _ = _
          rw [if_pos c, if_neg (show ¬(f = -1 ∧ tkN S.1 (lawT S) k j) from fun z => z.2 t), if_pos c]
          rw [t] at q1
          unfold sX11_which_20
          simp (disch := omega) only [nI_iI, lN_lJ, iI_0, lJ_0, iI_add, iI_sub, iI_mul, iI_neg, lJ_add, lJ_sub, lJ_mul, lJ_neg, i_l, l_i, iI_cl, iI_inb, iI_eqT, iI_eqF, iI_ltT, iI_ltF, iI_leT, iI_leF, lJ_eqT, lJ_eqF, lJ_cG, lJ_cE, lJ_cL, lJ_cF, lJ_cGE, lJ_cLE, lJ_cNL, lJ_cNG, Int.cast_ofNat_Int, c_0, c_1, Int.natCast_add, Int.add_zero, cond_true, cond_false, Bool.and_self, Bool.and_true, Bool.true_and, Option.bind_some, decide_true, uI_hit, uI_miss, uI_o, uA_o, uA_s, ↓reduceIte, eq_self, true_or, or_true, or_false, false_or, true_and, and_true, false_and, and_false, or_self, and_self, not_false_eq_true, not_true_eq_false, tn_i, n6, n3, m1, m2, q1]
          rw [show (86 : Int) + 2 * j + 2 = 86 + 2 * (j + 1) by omega]
        · refine ⟨⟨(d', e'), hd⟩, a_run_step ?_ rfl⟩
          show sX11_which_20 w.1 w.2 _ _ _ _ = _
          rw [if_pos c, if_pos (show f = -1 ∧ tkN S.1 (lawT S) k j from ⟨c, t⟩), if_neg (show ¬(j : Int) = -1 by omega)]
          unfold sX11_which_20
          simp (disch := omega) only [nI_iI, lN_lJ, iI_0, lJ_0, iI_add, iI_sub, iI_mul, iI_neg, lJ_add, lJ_sub, lJ_mul, lJ_neg, i_l, l_i, iI_cl, iI_inb, iI_eqT, iI_eqF, iI_ltT, iI_ltF, iI_leT, iI_leF, lJ_eqT, lJ_eqF, lJ_cG, lJ_cE, lJ_cL, lJ_cF, lJ_cGE, lJ_cLE, lJ_cNL, lJ_cNG, Int.cast_ofNat_Int, c_0, c_1, Int.natCast_add, Int.add_zero, cond_true, cond_false, Bool.and_self, Bool.and_true, Bool.true_and, Option.bind_some, decide_true, uI_hit, uI_miss, uI_o, uA_o, uA_s, ↓reduceIte, eq_self, true_or, or_true, or_false, false_or, true_and, and_true, false_and, and_false, or_self, and_self, not_false_eq_true, not_true_eq_false, tn_i, n6, n3, m1, m2, q1]
          rw [show (86 : Int) + 2 * j + 2 = 86 + 2 * (j + 1) by omega]
      · refine ⟨⟨w, hw⟩, a_run_step ?_ rfl⟩
        show sX11_which_20 w.1 w.2 _ _ _ _ = _
        rw [if_neg c, if_neg (show ¬(f = -1 ∧ tkN S.1 (lawT S) k j) from fun z => c z.1), if_neg c]
        unfold sX11_which_20
        simp (disch := omega) only [nI_iI, lN_lJ, iI_0, lJ_0, iI_add, iI_sub, iI_mul, iI_neg, lJ_add, lJ_sub, lJ_mul, lJ_neg, i_l, l_i, iI_cl, iI_inb, iI_eqT, iI_eqF, iI_ltT, iI_ltF, iI_leT, iI_leF, lJ_eqT, lJ_eqF, lJ_cG, lJ_cE, lJ_cL, lJ_cF, lJ_cGE, lJ_cLE, lJ_cNL, lJ_cNG, Int.cast_ofNat_Int, c_0, c_1, Int.natCast_add, Int.add_zero, cond_true, cond_false, Bool.and_self, Bool.and_true, Bool.true_and, Option.bind_some, decide_true, uI_hit, uI_miss, uI_o, uA_o, uA_s, ↓reduceIte, eq_self, true_or, or_true, or_false, false_or, true_and, and_true, false_and, and_false, or_self, and_self, not_false_eq_true, not_true_eq_false, tn_i, n6]
        rw [show (86 : Int) + 2 * j + 2 = 86 + 2 * (j + 1) by omega]
theorem o_which : Op FX10_which FX11_which := by
  refine Op.quest (fun S hS => ⟨whS S.1 (lawT S), fun d e hC => ?_, fun d e hM => ?_⟩)
  · obtain ⟨d', q1, q2⟩ := cq_which (e := e) hS hC
    exact ⟨d', e, q1, fun k hk => q2 k (by omega) (by omega)⟩
  · obtain ⟨d', e', q1, q2⟩ := mq_which (e := e) hS hM
    exact ⟨d', e', q1, fun k a b => q2 k (by omega) (by omega), fun j _ => by rw [q2 108 (by omega) (by omega)]⟩
