/-! ===== pieces of a law's code: reference ===== -/
def EnvR (s : Int) (d : aI) (v : En) : Prop :=
  ∀ d', SameT d d' → (∀ k, k < 8 → nmOK s k → d' 114 k = iI (v.1 k)) ∧ (∀ (z : Int) (e' : aJ), -1000000 ≤ z → z ≤ 1000000 → FX11_chillOf d' e' (lJ z) = some (lJ (v.2 z), d', e'))
theorem EnvR.of {s : Int} {d d1 : aI} {v : En} (h : EnvR s d v) (hs : SameT d d1) : EnvR s d1 v := fun d' h' => h d' (hs.trans h')
def RC (d : aI) (x cb last : Int) (O V : Int → Int) (a b : Int) : Prop :=
  d 111 (x + 2).toNat = iI last ∧ (0 ≤ x ∧ x + 2 < 2724 ∧ 0 ≤ cb ∧ cb + 2 * last ≤ 2724) ∧ b ≤ last ∧ ∀ i : Int, a ≤ i → i < b → d 111 (cb + 2 * i).toNat = iI (O i) ∧ d 111 (cb + 2 * i + 1).toNat = iI (V i)
theorem RC.sub {d : aI} {x cb last : Int} {O V : Int → Int} {a b a' b' : Int} (h : RC d x cb last O V a b) (h1 : a ≤ a' ∧ b' ≤ b) : RC d x cb last O V a' b' :=
  ⟨h.1, h.2.1, by have := h.2.2.1; omega, fun i h2 h3 => h.2.2.2 i (by omega) (by omega)⟩
theorem RC.of {d d' : aI} {x cb last : Int} {O V : Int → Int} {a b : Int} (h : RC d x cb last O V a b) (hs : SameT d d') : RC d' x cb last O V a b := by
  unfold RC
  rw [hs 111 (by omega)]
  exact h
/-- the steps from a to b put this value on the pile -/
def RV (s : Int) (O V : Int → Int) (a b : Int) (f : En → Int) : Prop :=
  0 ≤ a ∧ a < b ∧ Bd f ∧ ∀ (d : aI) (e : aJ) (tx cl : Int32) (x cb : Int) (v : En) (last n m : Int) (u w : Option Value), EnOK v → EnvR s d v → RC d x cb last O V a b → 0 ≤ n → n + (b - a) ≤ 330 → 0 ≤ m → m + (b - a) ≤ 330 →
    ∃ d' e' u' w', a_run stX11_summedUp (rS tx cl x cb n m a u w d e) = a_run stX11_summedUp (rS tx cl x cb (n + 1) m b u' w' d' e') ∧ SameT d d' ∧ SameE e e' ∧ e' 115 n.toNat = lJ (f v) ∧ (∀ j : Nat, (j : Int) < n → e' 115 j = e 115 j) ∧ (∀ j : Nat, (j : Int) < m → d' 116 j = d 116 j)
/-- the same of an ask -/
def RB (s : Int) (O V : Int → Int) (a b : Int) (f : En → Bool) : Prop :=
  0 ≤ a ∧ a < b ∧ ∀ (d : aI) (e : aJ) (tx cl : Int32) (x cb : Int) (v : En) (last n m : Int) (u w : Option Value), EnOK v → EnvR s d v → RC d x cb last O V a b → 0 ≤ n → n + (b - a) ≤ 330 → 0 ≤ m → m + (b - a) ≤ 330 →
    ∃ d' e' u' w', a_run stX11_summedUp (rS tx cl x cb n m a u w d e) = a_run stX11_summedUp (rS tx cl x cb n (m + 1) b u' w' d' e') ∧ SameT d d' ∧ SameE e e' ∧ d' 116 m.toNat = iI (tv (f v)) ∧ (∀ j : Nat, (j : Int) < n → e' 115 j = e 115 j) ∧ (∀ j : Nat, (j : Int) < m → d' 116 j = d 116 j)
theorem RV.ext {s : Int} {O V O' V' : Int → Int} {a b : Int} {f : En → Int} (h : RV s O V a b f) (ho : ∀ j : Int, a ≤ j → j < b → O' j = O j ∧ V' j = V j) : RV s O' V' a b f := by
  refine ⟨h.1, h.2.1, h.2.2.1, fun d e tx cl x cb v last n m u w h1 h2 h3 => h.2.2.2 d e tx cl x cb v last n m u w h1 h2 ⟨h3.1, h3.2.1, h3.2.2.1, fun i i1 i2 => ?_⟩⟩
  have g := h3.2.2.2 i i1 i2
  rw [(ho i i1 i2).1, (ho i i1 i2).2] at g
  exact g
theorem RB.ext {s : Int} {O V O' V' : Int → Int} {a b : Int} {f : En → Bool} (h : RB s O V a b f) (ho : ∀ j : Int, a ≤ j → j < b → O' j = O j ∧ V' j = V j) : RB s O' V' a b f := by
  refine ⟨h.1, h.2.1, fun d e tx cl x cb v last n m u w h1 h2 h3 => h.2.2 d e tx cl x cb v last n m u w h1 h2 ⟨h3.1, h3.2.1, h3.2.2.1, fun i i1 i2 => ?_⟩⟩
  have g := h3.2.2.2 i i1 i2
  rw [(ho i i1 i2).1, (ho i i1 i2).2] at g
  exact g
theorem RV.congr {s : Int} {O V : Int → Int} {a b : Int} {f g : En → Int} (h : RV s O V a b f) (hf : ∀ v, EnOK v → f v = g v) : RV s O V a b g := by
  refine ⟨h.1, h.2.1, fun v hv => by rw [← hf v hv]; exact h.2.2.1 v hv, fun d e tx cl x cb v last n m u w h1 => ?_⟩
  rw [← hf v h1]
  exact h.2.2.2 d e tx cl x cb v last n m u w h1
theorem RV.num {s : Int} {O V : Int → Int} {a k : Int} (ha : 0 ≤ a) (hk : 0 ≤ k ∧ k ≤ 9999) (hO : O a = 0) (hV : V a = k) : RV s O V a (a + 1) (fun _ => k) := by
  refine ⟨ha, by omega, fun v _ => by show -1000000 ≤ k ∧ k ≤ 1000000; omega, fun d e tx cl x cb v last n m u w h1 h2 h3 h4 h5 h6 h7 => ?_⟩
  have c := h3.2.2.2 a (by omega) (by omega)
  rw [hO, hV] at c
  have := h3.2.1
  have := h3.2.2.1
  refine ⟨_, _, _, _, a_run_step (rs_num h3.1 c.1 c.2 (by omega) (by omega) rfl hk) rfl, SameT.refl d, (SameE.refl e).put, uJ_hit rfl, fun j hj => uJ_miss (by omega), fun j _ => rfl⟩
theorem RV.name {s : Int} {O V : Int → Int} {a : Int} {k : Nat} (ha : 0 ≤ a) (hk : k < 8) (hs : nmOK s k) (hO : O a = 1) (hV : V a = k) : RV s O V a (a + 1) (fun v => v.1 k) := by
  refine ⟨ha, by omega, fun v hv => by have := hv.1 k; show -1000000 ≤ v.1 k ∧ v.1 k ≤ 1000000; omega, fun d e tx cl x cb v last n m u w h1 h2 h3 h4 h5 h6 h7 => ?_⟩
  have c := h3.2.2.2 a (by omega) (by omega)
  rw [hO, hV] at c
  have := h3.2.1
  have := h3.2.2.1
  refine ⟨_, _, _, _, a_run_step (rs_name (y := v.1 k) h3.1 c.1 c.2 (by omega) (by omega) rfl (by omega) ((h2 d (SameT.refl d)).1 k hk hs) (h1.1 k)) rfl, SameT.refl d, (SameE.refl e).put, uJ_hit rfl, fun j hj => uJ_miss (by omega), fun j _ => rfl⟩
theorem RV.neg {s : Int} {O V : Int → Int} {a b : Int} {f : En → Int} (h : RV s O V a b f) (hO : O b = 5) : RV s O V a (b + 1) (fun v => -f v) := by
  obtain ⟨ha, hab, hf, hrun⟩ := h
  refine ⟨ha, by omega, fun v hv => by have := hf v hv; show -1000000 ≤ -f v ∧ -f v ≤ 1000000; omega, fun d e tx cl x cb v last n m u w h1 h2 h3 h4 h5 h6 h7 => ?_⟩
  obtain ⟨d', e', u', w', r1, r2, r3, r4, r5, r6⟩ := hrun d e tx cl x cb v last n m u w h1 h2 (h3.sub (by omega)) h4 (by omega) h6 (by omega)
  have h3' := h3.of r2
  have c := h3'.2.2.2 b (by omega) (by omega)
  rw [hO] at c
  have := h3.2.1
  have := h3.2.2.1
  refine ⟨_, _, _, _, r1.trans (a_run_step (rs_neg (y := f v) h3'.1 c.1 c.2 (by omega) (by omega) rfl (by rw [show n + 1 - 1 = n by omega]; exact r4)) rfl), r2, r3.put, uJ_hit (by omega), fun j hj => ?_, r6⟩
  rw [uJ_miss (by omega)]
  exact r5 j hj
theorem RV.chill {s : Int} {O V : Int → Int} {a b : Int} {f : En → Int} (h : RV s O V a b f) (hO : O b = 2) : RV s O V a (b + 1) (fun v => v.2 (f v)) := by
  obtain ⟨ha, hab, hf, hrun⟩ := h
  refine ⟨ha, by omega, fun v hv => by have := hv.2 (f v); show -1000000 ≤ v.2 (f v) ∧ v.2 (f v) ≤ 1000000; omega, fun d e tx cl x cb v last n m u w h1 h2 h3 h4 h5 h6 h7 => ?_⟩
  obtain ⟨d', e', u', w', r1, r2, r3, r4, r5, r6⟩ := hrun d e tx cl x cb v last n m u w h1 h2 (h3.sub (by omega)) h4 (by omega) h6 (by omega)
  have h3' := h3.of r2
  have c := h3'.2.2.2 b (by omega) (by omega)
  rw [hO] at c
  have := h3.2.1
  have := h3.2.2.1
  have bf := hf v h1
  refine ⟨_, _, _, _, r1.trans (a_run_step (rs_chill (y := f v) (q := v.2 (f v)) h3'.1 c.1 c.2 (by omega) (by omega) rfl (by rw [show n + 1 - 1 = n by omega]; exact r4) ((h2 d' r2).2 (f v) e' (by omega) (by omega))) rfl), r2, r3.put, uJ_hit (by omega), fun j hj => ?_, r6⟩
  rw [uJ_miss (by omega)]
  exact r5 j hj
/-- behind two values: one of them -/
theorem RV.two_ {s : Int} {O V : Int → Int} {a b q : Int} {f g r : En → Int} (h : RV s O V a b f) (h' : RV s O V b q g) (hr : Bd r)
    (hx : ∀ (d : aI) (e : aJ) (tx cl : Int32) (x cb : Int) (v : En) (last n m : Int) (u w : Option Value), EnOK v → RC d x cb last O V q (q + 1) → 1 < n → n ≤ 330 → e 115 (n + -1 - 1).toNat = lJ (f v) → e 115 (n + -1).toNat = lJ (g v) → ∃ u' w', stX11_summedUp (rS tx cl x cb n m q u w d e) = some (rS tx cl x cb (n + -1) m (q + 1) u' w' d (uJ e 115 (n + -1 - 1).toNat (lJ (r v))))) : RV s O V a (q + 1) r := by
  obtain ⟨ha, hab, hf, hrun⟩ := h
  obtain ⟨ha', hab', hf', hrun'⟩ := h'
  refine ⟨ha, by omega, hr, fun d e tx cl x cb v last n m u w h1 h2 h3 h4 h5 h6 h7 => ?_⟩
  obtain ⟨d', e', u', w', r1, r2, r3, r4, r5, r6⟩ := hrun d e tx cl x cb v last n m u w h1 h2 (h3.sub (by omega)) h4 (by omega) h6 (by omega)
  obtain ⟨d2, e2, u2, w2, s1, s2, s3, s4, s5, s6⟩ := hrun' d' e' tx cl x cb v last (n + 1) m u' w' h1 (h2.of r2) ((h3.of r2).sub (by omega)) (by omega) (by omega) h6 (by omega)
  obtain ⟨u3, w3, t1⟩ := hx d2 e2 tx cl x cb v last (n + 1 + 1) m u2 w2 h1 ((h3.of (r2.trans s2)).sub (by omega)) (by omega) (by omega) (by rw [show n + 1 + 1 + -1 - 1 = n by omega, s5 n.toNat (by omega)]; exact r4) (by rw [show n + 1 + 1 + -1 = n + 1 by omega]; exact s4)
  rw [show n + 1 + 1 + -1 = n + 1 by omega] at t1
  refine ⟨_, _, _, _, (r1.trans s1).trans (a_run_step t1 rfl), r2.trans s2, (r3.trans s3).put, uJ_hit (by omega), fun j hj => ?_, fun j hj => ?_⟩
  · rw [uJ_miss (by omega), s5 j (by omega)]
    exact r5 j hj
  · rw [s6 j hj]
    exact r6 j hj
theorem m_clip {d : aI} {e : aJ} {z : Int} (hz : -9000000000000000000 ≤ z ∧ z < 9000000000000000000) : FX11_clip d e (lJ z) = some (lJ (lim z), d, e) := by
  unfold FX11_clip lim
  by_cases h1 : z < -1000000
  · rw [if_pos h1]
    simp (disch := omega) only [nI_iI, lN_lJ, iI_0, lJ_0, iI_add, iI_sub, iI_mul, iI_neg, lJ_add, lJ_sub, lJ_mul, lJ_neg, i_l, l_i, iI_cl, iI_inb, iI_eqT, iI_eqF, iI_ltT, iI_ltF, iI_leT, iI_leF, lJ_eqT, lJ_eqF, lJ_cG, lJ_cE, lJ_cL, lJ_cF, lJ_cGE, lJ_cLE, lJ_cNL, lJ_cNG, Int.cast_ofNat_Int, c_0, c_1, Int.natCast_add, Int.add_zero, cond_true, cond_false, Bool.and_self, Bool.and_true, Bool.true_and, Option.bind_some, decide_true, uI_hit, uI_miss, uI_o, uA_o, uA_s, ↓reduceIte, eq_self, true_or, or_true, or_false, false_or, true_and, and_true, false_and, and_false, or_self, and_self, not_false_eq_true, not_true_eq_false, tn_i]
  · rw [if_neg h1]
    by_cases h2 : 1000000 < z
    · rw [if_pos h2]
      simp (disch := omega) only [nI_iI, lN_lJ, iI_0, lJ_0, iI_add, iI_sub, iI_mul, iI_neg, lJ_add, lJ_sub, lJ_mul, lJ_neg, i_l, l_i, iI_cl, iI_inb, iI_eqT, iI_eqF, iI_ltT, iI_ltF, iI_leT, iI_leF, lJ_eqT, lJ_eqF, lJ_cG, lJ_cE, lJ_cL, lJ_cF, lJ_cGE, lJ_cLE, lJ_cNL, lJ_cNG, Int.cast_ofNat_Int, c_0, c_1, Int.natCast_add, Int.add_zero, cond_true, cond_false, Bool.and_self, Bool.and_true, Bool.true_and, Option.bind_some, decide_true, uI_hit, uI_miss, uI_o, uA_o, uA_s, ↓reduceIte, eq_self, true_or, or_true, or_false, false_or, true_and, and_true, false_and, and_false, or_self, and_self, not_false_eq_true, not_true_eq_false, tn_i]
    · rw [if_neg h2]
      by_cases h3 : -1000000 < z
      · by_cases h4 : z < 1000000
        · simp (disch := omega) only [nI_iI, lN_lJ, iI_0, lJ_0, iI_add, iI_sub, iI_mul, iI_neg, lJ_add, lJ_sub, lJ_mul, lJ_neg, i_l, l_i, iI_cl, iI_inb, iI_eqT, iI_eqF, iI_ltT, iI_ltF, iI_leT, iI_leF, lJ_eqT, lJ_eqF, lJ_cG, lJ_cE, lJ_cL, lJ_cF, lJ_cGE, lJ_cLE, lJ_cNL, lJ_cNG, Int.cast_ofNat_Int, c_0, c_1, Int.natCast_add, Int.add_zero, cond_true, cond_false, Bool.and_self, Bool.and_true, Bool.true_and, Option.bind_some, decide_true, uI_hit, uI_miss, uI_o, uA_o, uA_s, ↓reduceIte, eq_self, true_or, or_true, or_false, false_or, true_and, and_true, false_and, and_false, or_self, and_self, not_false_eq_true, not_true_eq_false, tn_i]
        · rw [show z = 1000000 by omega]
          simp (disch := omega) only [nI_iI, lN_lJ, iI_0, lJ_0, iI_add, iI_sub, iI_mul, iI_neg, lJ_add, lJ_sub, lJ_mul, lJ_neg, i_l, l_i, iI_cl, iI_inb, iI_eqT, iI_eqF, iI_ltT, iI_ltF, iI_leT, iI_leF, lJ_eqT, lJ_eqF, lJ_cG, lJ_cE, lJ_cL, lJ_cF, lJ_cGE, lJ_cLE, lJ_cNL, lJ_cNG, Int.cast_ofNat_Int, c_0, c_1, Int.natCast_add, Int.add_zero, cond_true, cond_false, Bool.and_self, Bool.and_true, Bool.true_and, Option.bind_some, decide_true, uI_hit, uI_miss, uI_o, uA_o, uA_s, ↓reduceIte, eq_self, true_or, or_true, or_false, false_or, true_and, and_true, false_and, and_false, or_self, and_self, not_false_eq_true, not_true_eq_false, tn_i]
      · rw [show z = -1000000 by omega]
        simp (disch := omega) only [nI_iI, lN_lJ, iI_0, lJ_0, iI_add, iI_sub, iI_mul, iI_neg, lJ_add, lJ_sub, lJ_mul, lJ_neg, i_l, l_i, iI_cl, iI_inb, iI_eqT, iI_eqF, iI_ltT, iI_ltF, iI_leT, iI_leF, lJ_eqT, lJ_eqF, lJ_cG, lJ_cE, lJ_cL, lJ_cF, lJ_cGE, lJ_cLE, lJ_cNL, lJ_cNG, Int.cast_ofNat_Int, c_0, c_1, Int.natCast_add, Int.add_zero, cond_true, cond_false, Bool.and_self, Bool.and_true, Bool.true_and, Option.bind_some, decide_true, uI_hit, uI_miss, uI_o, uA_o, uA_s, ↓reduceIte, eq_self, true_or, or_true, or_false, false_or, true_and, and_true, false_and, and_false, or_self, and_self, not_false_eq_true, not_true_eq_false, tn_i]
def arS (o x y : Int) : Int := if o = 6 then x + y else if o = 7 then x - y else if o = 8 then x * y else divS x y
theorem m_two {d : aI} {e : aJ} {o x y : Int} (ho : 6 ≤ o ∧ o ≤ 9) (h : -1000000 ≤ x ∧ x ≤ 1000000 ∧ -1000000 ≤ y ∧ y ≤ 1000000) : FX11_two d e (iI o) (lJ x) (lJ y) = some (lJ (lim (arS o x y)), d, e) := by
  unfold FX11_two arS divS
  rcases (show o = 6 ∨ o = 7 ∨ o = 8 ∨ o = 9 by omega) with rfl | rfl | rfl | rfl
  · simp (disch := omega) only [nI_iI, lN_lJ, iI_0, lJ_0, iI_add, iI_sub, iI_mul, iI_neg, lJ_add, lJ_sub, lJ_mul, lJ_neg, i_l, l_i, iI_cl, iI_inb, iI_eqT, iI_eqF, iI_ltT, iI_ltF, iI_leT, iI_leF, lJ_eqT, lJ_eqF, lJ_cG, lJ_cE, lJ_cL, lJ_cF, lJ_cGE, lJ_cLE, lJ_cNL, lJ_cNG, Int.cast_ofNat_Int, c_0, c_1, Int.natCast_add, Int.add_zero, cond_true, cond_false, Bool.and_self, Bool.and_true, Bool.true_and, Option.bind_some, decide_true, uI_hit, uI_miss, uI_o, uA_o, uA_s, ↓reduceIte, eq_self, true_or, or_true, or_false, false_or, true_and, and_true, false_and, and_false, or_self, and_self, not_false_eq_true, not_true_eq_false, tn_i, m_clip]
  · simp (disch := omega) only [nI_iI, lN_lJ, iI_0, lJ_0, iI_add, iI_sub, iI_mul, iI_neg, lJ_add, lJ_sub, lJ_mul, lJ_neg, i_l, l_i, iI_cl, iI_inb, iI_eqT, iI_eqF, iI_ltT, iI_ltF, iI_leT, iI_leF, lJ_eqT, lJ_eqF, lJ_cG, lJ_cE, lJ_cL, lJ_cF, lJ_cGE, lJ_cLE, lJ_cNL, lJ_cNG, Int.cast_ofNat_Int, c_0, c_1, Int.natCast_add, Int.add_zero, cond_true, cond_false, Bool.and_self, Bool.and_true, Bool.true_and, Option.bind_some, decide_true, uI_hit, uI_miss, uI_o, uA_o, uA_s, ↓reduceIte, eq_self, true_or, or_true, or_false, false_or, true_and, and_true, false_and, and_false, or_self, and_self, not_false_eq_true, not_true_eq_false, tn_i, m_clip]
    rfl
  · have := mul_in h
    simp (disch := omega) only [nI_iI, lN_lJ, iI_0, lJ_0, iI_add, iI_sub, iI_mul, iI_neg, lJ_add, lJ_sub, lJ_mul, lJ_neg, i_l, l_i, iI_cl, iI_inb, iI_eqT, iI_eqF, iI_ltT, iI_ltF, iI_leT, iI_leF, lJ_eqT, lJ_eqF, lJ_cG, lJ_cE, lJ_cL, lJ_cF, lJ_cGE, lJ_cLE, lJ_cNL, lJ_cNG, Int.cast_ofNat_Int, c_0, c_1, Int.natCast_add, Int.add_zero, cond_true, cond_false, Bool.and_self, Bool.and_true, Bool.true_and, Option.bind_some, decide_true, uI_hit, uI_miss, uI_o, uA_o, uA_s, ↓reduceIte, eq_self, true_or, or_true, or_false, false_or, true_and, and_true, false_and, and_false, or_self, and_self, not_false_eq_true, not_true_eq_false, tn_i, m_clip]
    rfl
  · by_cases h0 : y = 0
    · subst h0
      simp (disch := omega) only [nI_iI, lN_lJ, iI_0, lJ_0, iI_add, iI_sub, iI_mul, iI_neg, lJ_add, lJ_sub, lJ_mul, lJ_neg, i_l, l_i, iI_cl, iI_inb, iI_eqT, iI_eqF, iI_ltT, iI_ltF, iI_leT, iI_leF, lJ_eqT, lJ_eqF, lJ_cG, lJ_cE, lJ_cL, lJ_cF, lJ_cGE, lJ_cLE, lJ_cNL, lJ_cNG, Int.cast_ofNat_Int, c_0, c_1, Int.natCast_add, Int.add_zero, cond_true, cond_false, Bool.and_self, Bool.and_true, Bool.true_and, Option.bind_some, decide_true, uI_hit, uI_miss, uI_o, uA_o, uA_s, ↓reduceIte, eq_self, true_or, or_true, or_false, false_or, true_and, and_true, false_and, and_false, or_self, and_self, not_false_eq_true, not_true_eq_false, tn_i]
      rfl
    · have g := divS_in (x := x) (y := y) (by omega)
      unfold divS at g
      rw [if_neg h0] at g
      simp (disch := omega) only [nI_iI, lN_lJ, iI_0, lJ_0, iI_add, iI_sub, iI_mul, iI_neg, lJ_add, lJ_sub, lJ_mul, lJ_neg, i_l, l_i, iI_cl, iI_inb, iI_eqT, iI_eqF, iI_ltT, iI_ltF, iI_leT, iI_leF, lJ_eqT, lJ_eqF, lJ_cG, lJ_cE, lJ_cL, lJ_cF, lJ_cGE, lJ_cLE, lJ_cNL, lJ_cNG, Int.cast_ofNat_Int, c_0, c_1, Int.natCast_add, Int.add_zero, cond_true, cond_false, Bool.and_self, Bool.and_true, Bool.true_and, Option.bind_some, decide_true, uI_hit, uI_miss, uI_o, uA_o, uA_s, ↓reduceIte, eq_self, true_or, or_true, or_false, false_or, true_and, and_true, false_and, and_false, or_self, and_self, not_false_eq_true, not_true_eq_false, tn_i, lJ_div, m_clip, h0]
      rfl
theorem RV.ar {s : Int} {O V : Int → Int} {a b q o : Int} {f g : En → Int} (h : RV s O V a b f) (h' : RV s O V b q g) (hO : O q = o) (ho : 6 ≤ o ∧ o ≤ 9) : RV s O V a (q + 1) (fun v => lim (arS o (f v) (g v))) := by
  have bf := h.2.2.1
  have bg := h'.2.2.1
  refine h.two_ h' (fun v _ => lim_in _) (fun d e tx cl x cb v last n m u w h1 h3 h4 h5 h6 h7 => ?_)
  have c := h3.2.2.2 q (by omega) (by omega)
  rw [hO] at c
  have := h3.2.1
  have := h3.2.2.1
  have := h'.1
  have := h'.2.1
  have := bf v h1
  have := bg v h1
  exact ⟨_, _, rs_two h3.1 c.1 c.2 (by omega) (by omega) ho h6 h7 (m_two ho (by omega))⟩
theorem RV.turn {s : Int} {O V : Int → Int} {a b q : Int} {f g : En → Int} (h : RV s O V a b f) (h' : RV s O V b q g) (hO : O q = 4) : RV s O V a (q + 1) (fun v => turnS (f v) (g v)) := by
  have bf := h.2.2.1
  have bg := h'.2.2.1
  refine h.two_ h' (fun v _ => by show -1000000 ≤ turnS (f v) (g v) ∧ turnS (f v) (g v) ≤ 1000000; unfold turnS; omega) (fun d e tx cl x cb v last n m u w h1 h3 h4 h5 h6 h7 => ?_)
  have c := h3.2.2.2 q (by omega) (by omega)
  rw [hO] at c
  have := h3.2.1
  have := h3.2.2.1
  have := h'.1
  have := h'.2.1
  have b1 := bf v h1
  have b2 := bg v h1
  refine ⟨_, _, rs_turn h3.1 c.1 c.2 (by omega) (by omega) rfl h6 h7 ?_⟩
  generalize f v = y at b1
  generalize g v = z at b2
  have ten : ∀ (t : Int), -1000000 ≤ t ∧ t ≤ 1000000 → FX11_byTen d e (lJ t) = some (lJ ((if t < 0 then -t else t) % 10), d, e) := by
    intro t ht
    unfold FX11_byTen
    by_cases h0 : t < 0
    · rw [if_pos h0]
      simp (disch := omega) only [nI_iI, lN_lJ, iI_0, lJ_0, iI_add, iI_sub, iI_mul, iI_neg, lJ_add, lJ_sub, lJ_mul, lJ_neg, i_l, l_i, iI_cl, iI_inb, iI_eqT, iI_eqF, iI_ltT, iI_ltF, iI_leT, iI_leF, lJ_eqT, lJ_eqF, lJ_cG, lJ_cE, lJ_cL, lJ_cF, lJ_cGE, lJ_cLE, lJ_cNL, lJ_cNG, Int.cast_ofNat_Int, c_0, c_1, Int.natCast_add, Int.add_zero, cond_true, cond_false, Bool.and_self, Bool.and_true, Bool.true_and, Option.bind_some, decide_true, uI_hit, uI_miss, uI_o, uA_o, uA_s, ↓reduceIte, eq_self, true_or, or_true, or_false, false_or, true_and, and_true, false_and, and_false, or_self, and_self, not_false_eq_true, not_true_eq_false, tn_i, lJ_rem]
    · rw [if_neg h0]
      simp (disch := omega) only [nI_iI, lN_lJ, iI_0, lJ_0, iI_add, iI_sub, iI_mul, iI_neg, lJ_add, lJ_sub, lJ_mul, lJ_neg, i_l, l_i, iI_cl, iI_inb, iI_eqT, iI_eqF, iI_ltT, iI_ltF, iI_leT, iI_leF, lJ_eqT, lJ_eqF, lJ_cG, lJ_cE, lJ_cL, lJ_cF, lJ_cGE, lJ_cLE, lJ_cNL, lJ_cNG, Int.cast_ofNat_Int, c_0, c_1, Int.natCast_add, Int.add_zero, cond_true, cond_false, Bool.and_self, Bool.and_true, Bool.true_and, Option.bind_some, decide_true, uI_hit, uI_miss, uI_o, uA_o, uA_s, ↓reduceIte, eq_self, true_or, or_true, or_false, false_or, true_and, and_true, false_and, and_false, or_self, and_self, not_false_eq_true, not_true_eq_false, tn_i, lJ_rem]
  unfold FX11_turnOf turnS
  simp (disch := omega) only [nI_iI, lN_lJ, iI_0, lJ_0, iI_add, iI_sub, iI_mul, iI_neg, lJ_add, lJ_sub, lJ_mul, lJ_neg, i_l, l_i, iI_cl, iI_inb, iI_eqT, iI_eqF, iI_ltT, iI_ltF, iI_leT, iI_leF, lJ_eqT, lJ_eqF, lJ_cG, lJ_cE, lJ_cL, lJ_cF, lJ_cGE, lJ_cLE, lJ_cNL, lJ_cNG, Int.cast_ofNat_Int, c_0, c_1, Int.natCast_add, Int.add_zero, cond_true, cond_false, Bool.and_self, Bool.and_true, Bool.true_and, Option.bind_some, decide_true, uI_hit, uI_miss, uI_o, uA_o, uA_s, ↓reduceIte, eq_self, true_or, or_true, or_false, false_or, true_and, and_true, false_and, and_false, or_self, and_self, not_false_eq_true, not_true_eq_false, tn_i, ten]
  generalize (if y < 0 then -y else y) = y1
  generalize (if z < 0 then -z else z) = z1
  simp (disch := omega) only [nI_iI, lN_lJ, iI_0, lJ_0, iI_add, iI_sub, iI_mul, iI_neg, lJ_add, lJ_sub, lJ_mul, lJ_neg, i_l, l_i, iI_cl, iI_inb, iI_eqT, iI_eqF, iI_ltT, iI_ltF, iI_leT, iI_leF, lJ_eqT, lJ_eqF, lJ_cG, lJ_cE, lJ_cL, lJ_cF, lJ_cGE, lJ_cLE, lJ_cNL, lJ_cNG, Int.cast_ofNat_Int, c_0, c_1, Int.natCast_add, Int.add_zero, cond_true, cond_false, Bool.and_self, Bool.and_true, Bool.true_and, Option.bind_some, decide_true, uI_hit, uI_miss, uI_o, uA_o, uA_s, ↓reduceIte, eq_self, true_or, or_true, or_false, false_or, true_and, and_true, false_and, and_false, or_self, and_self, not_false_eq_true, not_true_eq_false, tn_i, lJ_rem]
theorem RV.sel {s : Int} {O V : Int → Int} {a b m q : Int} {f : En → Bool} {g h : En → Int} (hf : RB s O V a b f) (hg : RV s O V b m g) (hh : RV s O V m q h) (hO : O q = 3) : RV s O V a (q + 1) (fun v => if f v then g v else h v) := by
  obtain ⟨ha, hab, hrun⟩ := hf
  obtain ⟨ga, gab, gbf, grun⟩ := hg
  obtain ⟨la, lab, lbf, lrun⟩ := hh
  refine ⟨ha, by omega, fun v hv => ?_, fun d e tx cl x cb v last n k u w h1 h2 h3 h4 h5 h6 h7 => ?_⟩
  · show -1000000 ≤ (if f v then g v else h v) ∧ (if f v then g v else h v) ≤ 1000000
    cases f v
    · exact lbf v hv
    · exact gbf v hv
  obtain ⟨d1, e1, u1, w1, r1, r2, r3, r4, r5, r6⟩ := hrun d e tx cl x cb v last n k u w h1 h2 (h3.sub (by omega)) h4 (by omega) h6 (by omega)
  obtain ⟨d2, e2, u2, w2, s1, s2, s3, s4, s5, s6⟩ := grun d1 e1 tx cl x cb v last n (k + 1) u1 w1 h1 (h2.of r2) ((h3.of r2).sub (by omega)) h4 (by omega) (by omega) (by omega)
  obtain ⟨d3, e3, u3, w3, t1, t2, t3, t4, t5, t6⟩ := lrun d2 e2 tx cl x cb v last (n + 1) (k + 1) u2 w2 h1 (h2.of (r2.trans s2)) ((h3.of (r2.trans s2)).sub (by omega)) (by omega) (by omega) (by omega) (by omega)
  have h3' := h3.of ((r2.trans s2).trans t2)
  have c := h3'.2.2.2 q (by omega) (by omega)
  rw [hO] at c
  have := h3.2.1
  have := h3.2.2.1
  have tr : d3 116 k.toNat = iI (tv (f v)) := by rw [t6 k.toNat (by omega), s6 k.toNat (by omega)]; exact r4
  have ev : e3 115 n.toNat = lJ (g v) := by rw [t5 n.toNat (by omega)]; exact s4
  have fr : ∀ j : Nat, (j : Int) < n → e3 115 j = e 115 j := fun j hj => by rw [t5 j (by omega), s5 j hj]; exact r5 j hj
  have fd : ∀ j : Nat, (j : Int) < k → d3 116 j = d 116 j := fun j hj => by rw [t6 j (by omega), s6 j (by omega)]; exact r6 j hj
  cases hv : f v
  · simp only [hv, show tv false = 0 from rfl] at tr
    have k1 := rs_sel0 (e := e3) (tx := tx) (cl := cl) (u := u3) (w := w3) (n := n + 1 + 1) (m := k + 1) h3'.1 c.1 c.2 (by omega) (by omega) (by omega) rfl (by rw [show k + 1 + -1 = k by omega]; exact tr)
    rw [show n + 1 + 1 + -1 = n + 1 by omega, show k + 1 + -1 = k by omega] at k1
    refine ⟨_, _, _, _, ((r1.trans s1).trans t1).trans (a_run_step k1 rfl), (r2.trans s2).trans t2, ((r3.trans s3).trans t3).put, ?_, fun j hj => ?_, fd⟩
    · show _ = lJ (if f v then g v else h v)
      rw [uJ_hit (by omega), hv]
      exact t4
    · rw [uJ_miss (by omega)]
      exact fr j hj
  · simp only [hv, show tv true = 1 from rfl] at tr
    have k1 := rs_sel1 (e := e3) (tx := tx) (cl := cl) (u := u3) (w := w3) (n := n + 1 + 1) (m := k + 1) h3'.1 c.1 c.2 (by omega) (by omega) (by omega) rfl (by rw [show k + 1 + -1 = k by omega]; exact tr)
    rw [show n + 1 + 1 + -1 = n + 1 by omega, show k + 1 + -1 = k by omega] at k1
    exact ⟨_, _, _, _, ((r1.trans s1).trans t1).trans (a_run_step k1 rfl), (r2.trans s2).trans t2, (r3.trans s3).trans t3, by show _ = lJ (if f v then g v else h v); rw [hv]; exact ev, fr, fd⟩
/-- the sign of a comparison: the class's cell and the reference's number -/
def cmC (o : Int) : Int := if o = 10 then 60 else if o = 11 then 3 else if o = 12 then 62 else if o = 13 then 4 else if o = 14 then 61 else 35
theorem m_asked {d : aI} {e : aJ} {o x y : Int} (ho : 10 ≤ o ∧ o ≤ 15) (hxy : -1000000 ≤ x ∧ x ≤ 1000000 ∧ -1000000 ≤ y ∧ y ≤ 1000000) : FX11_isAsked d e (iI o) (lJ x) (lJ y) = some (iI (tv (cmpS (cmC o) x y)), d, e) := by
  unfold FX11_isAsked cmpS tv cmC
  rcases Int.lt_trichotomy x y with h1 | h1 | h1
  · rcases (show o = 10 ∨ o = 11 ∨ o = 12 ∨ o = 13 ∨ o = 14 ∨ o = 15 by omega) with rfl | rfl | rfl | rfl | rfl | rfl
    · simp (disch := omega) only [nI_iI, lN_lJ, iI_0, lJ_0, iI_add, iI_sub, iI_mul, iI_neg, lJ_add, lJ_sub, lJ_mul, lJ_neg, i_l, l_i, iI_cl, iI_inb, iI_eqT, iI_eqF, iI_ltT, iI_ltF, iI_leT, iI_leF, lJ_eqT, lJ_eqF, lJ_cG, lJ_cE, lJ_cL, lJ_cF, lJ_cGE, lJ_cLE, lJ_cNL, lJ_cNG, Int.cast_ofNat_Int, c_0, c_1, Int.natCast_add, Int.add_zero, cond_true, cond_false, Bool.and_self, Bool.and_true, Bool.true_and, Option.bind_some, decide_true, uI_hit, uI_miss, uI_o, uA_o, uA_s, ↓reduceIte, eq_self, true_or, or_true, or_false, false_or, true_and, and_true, false_and, and_false, or_self, and_self, not_false_eq_true, not_true_eq_false, tn_i, iI_one]
      simp [h1]
    · simp (disch := omega) only [nI_iI, lN_lJ, iI_0, lJ_0, iI_add, iI_sub, iI_mul, iI_neg, lJ_add, lJ_sub, lJ_mul, lJ_neg, i_l, l_i, iI_cl, iI_inb, iI_eqT, iI_eqF, iI_ltT, iI_ltF, iI_leT, iI_leF, lJ_eqT, lJ_eqF, lJ_cG, lJ_cE, lJ_cL, lJ_cF, lJ_cGE, lJ_cLE, lJ_cNL, lJ_cNG, Int.cast_ofNat_Int, c_0, c_1, Int.natCast_add, Int.add_zero, cond_true, cond_false, Bool.and_self, Bool.and_true, Bool.true_and, Option.bind_some, decide_true, uI_hit, uI_miss, uI_o, uA_o, uA_s, ↓reduceIte, eq_self, true_or, or_true, or_false, false_or, true_and, and_true, false_and, and_false, or_self, and_self, not_false_eq_true, not_true_eq_false, tn_i, iI_one]
      simp [show x ≤ y by omega]
    · simp (disch := omega) only [nI_iI, lN_lJ, iI_0, lJ_0, iI_add, iI_sub, iI_mul, iI_neg, lJ_add, lJ_sub, lJ_mul, lJ_neg, i_l, l_i, iI_cl, iI_inb, iI_eqT, iI_eqF, iI_ltT, iI_ltF, iI_leT, iI_leF, lJ_eqT, lJ_eqF, lJ_cG, lJ_cE, lJ_cL, lJ_cF, lJ_cGE, lJ_cLE, lJ_cNL, lJ_cNG, Int.cast_ofNat_Int, c_0, c_1, Int.natCast_add, Int.add_zero, cond_true, cond_false, Bool.and_self, Bool.and_true, Bool.true_and, Option.bind_some, decide_true, uI_hit, uI_miss, uI_o, uA_o, uA_s, ↓reduceIte, eq_self, true_or, or_true, or_false, false_or, true_and, and_true, false_and, and_false, or_self, and_self, not_false_eq_true, not_true_eq_false, tn_i, iI_one]
      simp [show ¬ y < x by omega]
    · simp (disch := omega) only [nI_iI, lN_lJ, iI_0, lJ_0, iI_add, iI_sub, iI_mul, iI_neg, lJ_add, lJ_sub, lJ_mul, lJ_neg, i_l, l_i, iI_cl, iI_inb, iI_eqT, iI_eqF, iI_ltT, iI_ltF, iI_leT, iI_leF, lJ_eqT, lJ_eqF, lJ_cG, lJ_cE, lJ_cL, lJ_cF, lJ_cGE, lJ_cLE, lJ_cNL, lJ_cNG, Int.cast_ofNat_Int, c_0, c_1, Int.natCast_add, Int.add_zero, cond_true, cond_false, Bool.and_self, Bool.and_true, Bool.true_and, Option.bind_some, decide_true, uI_hit, uI_miss, uI_o, uA_o, uA_s, ↓reduceIte, eq_self, true_or, or_true, or_false, false_or, true_and, and_true, false_and, and_false, or_self, and_self, not_false_eq_true, not_true_eq_false, tn_i, iI_one]
      simp [show ¬ y ≤ x by omega]
    · simp (disch := omega) only [nI_iI, lN_lJ, iI_0, lJ_0, iI_add, iI_sub, iI_mul, iI_neg, lJ_add, lJ_sub, lJ_mul, lJ_neg, i_l, l_i, iI_cl, iI_inb, iI_eqT, iI_eqF, iI_ltT, iI_ltF, iI_leT, iI_leF, lJ_eqT, lJ_eqF, lJ_cG, lJ_cE, lJ_cL, lJ_cF, lJ_cGE, lJ_cLE, lJ_cNL, lJ_cNG, Int.cast_ofNat_Int, c_0, c_1, Int.natCast_add, Int.add_zero, cond_true, cond_false, Bool.and_self, Bool.and_true, Bool.true_and, Option.bind_some, decide_true, uI_hit, uI_miss, uI_o, uA_o, uA_s, ↓reduceIte, eq_self, true_or, or_true, or_false, false_or, true_and, and_true, false_and, and_false, or_self, and_self, not_false_eq_true, not_true_eq_false, tn_i, iI_one]
      simp [show ¬ x = y by omega]
    · simp (disch := omega) only [nI_iI, lN_lJ, iI_0, lJ_0, iI_add, iI_sub, iI_mul, iI_neg, lJ_add, lJ_sub, lJ_mul, lJ_neg, i_l, l_i, iI_cl, iI_inb, iI_eqT, iI_eqF, iI_ltT, iI_ltF, iI_leT, iI_leF, lJ_eqT, lJ_eqF, lJ_cG, lJ_cE, lJ_cL, lJ_cF, lJ_cGE, lJ_cLE, lJ_cNL, lJ_cNG, Int.cast_ofNat_Int, c_0, c_1, Int.natCast_add, Int.add_zero, cond_true, cond_false, Bool.and_self, Bool.and_true, Bool.true_and, Option.bind_some, decide_true, uI_hit, uI_miss, uI_o, uA_o, uA_s, ↓reduceIte, eq_self, true_or, or_true, or_false, false_or, true_and, and_true, false_and, and_false, or_self, and_self, not_false_eq_true, not_true_eq_false, tn_i, iI_one]
      simp [show ¬ x = y by omega]
  · subst h1
    rcases (show o = 10 ∨ o = 11 ∨ o = 12 ∨ o = 13 ∨ o = 14 ∨ o = 15 by omega) with rfl | rfl | rfl | rfl | rfl | rfl
    · simp (disch := omega) only [nI_iI, lN_lJ, iI_0, lJ_0, iI_add, iI_sub, iI_mul, iI_neg, lJ_add, lJ_sub, lJ_mul, lJ_neg, i_l, l_i, iI_cl, iI_inb, iI_eqT, iI_eqF, iI_ltT, iI_ltF, iI_leT, iI_leF, lJ_eqT, lJ_eqF, lJ_cG, lJ_cE, lJ_cL, lJ_cF, lJ_cGE, lJ_cLE, lJ_cNL, lJ_cNG, Int.cast_ofNat_Int, c_0, c_1, Int.natCast_add, Int.add_zero, cond_true, cond_false, Bool.and_self, Bool.and_true, Bool.true_and, Option.bind_some, decide_true, uI_hit, uI_miss, uI_o, uA_o, uA_s, ↓reduceIte, eq_self, true_or, or_true, or_false, false_or, true_and, and_true, false_and, and_false, or_self, and_self, not_false_eq_true, not_true_eq_false, tn_i, iI_one]
      simp
    · simp (disch := omega) only [nI_iI, lN_lJ, iI_0, lJ_0, iI_add, iI_sub, iI_mul, iI_neg, lJ_add, lJ_sub, lJ_mul, lJ_neg, i_l, l_i, iI_cl, iI_inb, iI_eqT, iI_eqF, iI_ltT, iI_ltF, iI_leT, iI_leF, lJ_eqT, lJ_eqF, lJ_cG, lJ_cE, lJ_cL, lJ_cF, lJ_cGE, lJ_cLE, lJ_cNL, lJ_cNG, Int.cast_ofNat_Int, c_0, c_1, Int.natCast_add, Int.add_zero, cond_true, cond_false, Bool.and_self, Bool.and_true, Bool.true_and, Option.bind_some, decide_true, uI_hit, uI_miss, uI_o, uA_o, uA_s, ↓reduceIte, eq_self, true_or, or_true, or_false, false_or, true_and, and_true, false_and, and_false, or_self, and_self, not_false_eq_true, not_true_eq_false, tn_i, iI_one]
      simp
    · simp (disch := omega) only [nI_iI, lN_lJ, iI_0, lJ_0, iI_add, iI_sub, iI_mul, iI_neg, lJ_add, lJ_sub, lJ_mul, lJ_neg, i_l, l_i, iI_cl, iI_inb, iI_eqT, iI_eqF, iI_ltT, iI_ltF, iI_leT, iI_leF, lJ_eqT, lJ_eqF, lJ_cG, lJ_cE, lJ_cL, lJ_cF, lJ_cGE, lJ_cLE, lJ_cNL, lJ_cNG, Int.cast_ofNat_Int, c_0, c_1, Int.natCast_add, Int.add_zero, cond_true, cond_false, Bool.and_self, Bool.and_true, Bool.true_and, Option.bind_some, decide_true, uI_hit, uI_miss, uI_o, uA_o, uA_s, ↓reduceIte, eq_self, true_or, or_true, or_false, false_or, true_and, and_true, false_and, and_false, or_self, and_self, not_false_eq_true, not_true_eq_false, tn_i, iI_one]
      simp
    · simp (disch := omega) only [nI_iI, lN_lJ, iI_0, lJ_0, iI_add, iI_sub, iI_mul, iI_neg, lJ_add, lJ_sub, lJ_mul, lJ_neg, i_l, l_i, iI_cl, iI_inb, iI_eqT, iI_eqF, iI_ltT, iI_ltF, iI_leT, iI_leF, lJ_eqT, lJ_eqF, lJ_cG, lJ_cE, lJ_cL, lJ_cF, lJ_cGE, lJ_cLE, lJ_cNL, lJ_cNG, Int.cast_ofNat_Int, c_0, c_1, Int.natCast_add, Int.add_zero, cond_true, cond_false, Bool.and_self, Bool.and_true, Bool.true_and, Option.bind_some, decide_true, uI_hit, uI_miss, uI_o, uA_o, uA_s, ↓reduceIte, eq_self, true_or, or_true, or_false, false_or, true_and, and_true, false_and, and_false, or_self, and_self, not_false_eq_true, not_true_eq_false, tn_i, iI_one]
      simp
    · simp (disch := omega) only [nI_iI, lN_lJ, iI_0, lJ_0, iI_add, iI_sub, iI_mul, iI_neg, lJ_add, lJ_sub, lJ_mul, lJ_neg, i_l, l_i, iI_cl, iI_inb, iI_eqT, iI_eqF, iI_ltT, iI_ltF, iI_leT, iI_leF, lJ_eqT, lJ_eqF, lJ_cG, lJ_cE, lJ_cL, lJ_cF, lJ_cGE, lJ_cLE, lJ_cNL, lJ_cNG, Int.cast_ofNat_Int, c_0, c_1, Int.natCast_add, Int.add_zero, cond_true, cond_false, Bool.and_self, Bool.and_true, Bool.true_and, Option.bind_some, decide_true, uI_hit, uI_miss, uI_o, uA_o, uA_s, ↓reduceIte, eq_self, true_or, or_true, or_false, false_or, true_and, and_true, false_and, and_false, or_self, and_self, not_false_eq_true, not_true_eq_false, tn_i, iI_one]
      simp
    · simp (disch := omega) only [nI_iI, lN_lJ, iI_0, lJ_0, iI_add, iI_sub, iI_mul, iI_neg, lJ_add, lJ_sub, lJ_mul, lJ_neg, i_l, l_i, iI_cl, iI_inb, iI_eqT, iI_eqF, iI_ltT, iI_ltF, iI_leT, iI_leF, lJ_eqT, lJ_eqF, lJ_cG, lJ_cE, lJ_cL, lJ_cF, lJ_cGE, lJ_cLE, lJ_cNL, lJ_cNG, Int.cast_ofNat_Int, c_0, c_1, Int.natCast_add, Int.add_zero, cond_true, cond_false, Bool.and_self, Bool.and_true, Bool.true_and, Option.bind_some, decide_true, uI_hit, uI_miss, uI_o, uA_o, uA_s, ↓reduceIte, eq_self, true_or, or_true, or_false, false_or, true_and, and_true, false_and, and_false, or_self, and_self, not_false_eq_true, not_true_eq_false, tn_i, iI_one]
      simp
  · rcases (show o = 10 ∨ o = 11 ∨ o = 12 ∨ o = 13 ∨ o = 14 ∨ o = 15 by omega) with rfl | rfl | rfl | rfl | rfl | rfl
    · simp (disch := omega) only [nI_iI, lN_lJ, iI_0, lJ_0, iI_add, iI_sub, iI_mul, iI_neg, lJ_add, lJ_sub, lJ_mul, lJ_neg, i_l, l_i, iI_cl, iI_inb, iI_eqT, iI_eqF, iI_ltT, iI_ltF, iI_leT, iI_leF, lJ_eqT, lJ_eqF, lJ_cG, lJ_cE, lJ_cL, lJ_cF, lJ_cGE, lJ_cLE, lJ_cNL, lJ_cNG, Int.cast_ofNat_Int, c_0, c_1, Int.natCast_add, Int.add_zero, cond_true, cond_false, Bool.and_self, Bool.and_true, Bool.true_and, Option.bind_some, decide_true, uI_hit, uI_miss, uI_o, uA_o, uA_s, ↓reduceIte, eq_self, true_or, or_true, or_false, false_or, true_and, and_true, false_and, and_false, or_self, and_self, not_false_eq_true, not_true_eq_false, tn_i, iI_one]
      simp [show ¬ x < y by omega]
    · simp (disch := omega) only [nI_iI, lN_lJ, iI_0, lJ_0, iI_add, iI_sub, iI_mul, iI_neg, lJ_add, lJ_sub, lJ_mul, lJ_neg, i_l, l_i, iI_cl, iI_inb, iI_eqT, iI_eqF, iI_ltT, iI_ltF, iI_leT, iI_leF, lJ_eqT, lJ_eqF, lJ_cG, lJ_cE, lJ_cL, lJ_cF, lJ_cGE, lJ_cLE, lJ_cNL, lJ_cNG, Int.cast_ofNat_Int, c_0, c_1, Int.natCast_add, Int.add_zero, cond_true, cond_false, Bool.and_self, Bool.and_true, Bool.true_and, Option.bind_some, decide_true, uI_hit, uI_miss, uI_o, uA_o, uA_s, ↓reduceIte, eq_self, true_or, or_true, or_false, false_or, true_and, and_true, false_and, and_false, or_self, and_self, not_false_eq_true, not_true_eq_false, tn_i, iI_one]
      simp [show ¬ x ≤ y by omega]
    · simp (disch := omega) only [nI_iI, lN_lJ, iI_0, lJ_0, iI_add, iI_sub, iI_mul, iI_neg, lJ_add, lJ_sub, lJ_mul, lJ_neg, i_l, l_i, iI_cl, iI_inb, iI_eqT, iI_eqF, iI_ltT, iI_ltF, iI_leT, iI_leF, lJ_eqT, lJ_eqF, lJ_cG, lJ_cE, lJ_cL, lJ_cF, lJ_cGE, lJ_cLE, lJ_cNL, lJ_cNG, Int.cast_ofNat_Int, c_0, c_1, Int.natCast_add, Int.add_zero, cond_true, cond_false, Bool.and_self, Bool.and_true, Bool.true_and, Option.bind_some, decide_true, uI_hit, uI_miss, uI_o, uA_o, uA_s, ↓reduceIte, eq_self, true_or, or_true, or_false, false_or, true_and, and_true, false_and, and_false, or_self, and_self, not_false_eq_true, not_true_eq_false, tn_i, iI_one]
      simp [h1]
    · simp (disch := omega) only [nI_iI, lN_lJ, iI_0, lJ_0, iI_add, iI_sub, iI_mul, iI_neg, lJ_add, lJ_sub, lJ_mul, lJ_neg, i_l, l_i, iI_cl, iI_inb, iI_eqT, iI_eqF, iI_ltT, iI_ltF, iI_leT, iI_leF, lJ_eqT, lJ_eqF, lJ_cG, lJ_cE, lJ_cL, lJ_cF, lJ_cGE, lJ_cLE, lJ_cNL, lJ_cNG, Int.cast_ofNat_Int, c_0, c_1, Int.natCast_add, Int.add_zero, cond_true, cond_false, Bool.and_self, Bool.and_true, Bool.true_and, Option.bind_some, decide_true, uI_hit, uI_miss, uI_o, uA_o, uA_s, ↓reduceIte, eq_self, true_or, or_true, or_false, false_or, true_and, and_true, false_and, and_false, or_self, and_self, not_false_eq_true, not_true_eq_false, tn_i, iI_one]
      simp [show y ≤ x by omega]
    · simp (disch := omega) only [nI_iI, lN_lJ, iI_0, lJ_0, iI_add, iI_sub, iI_mul, iI_neg, lJ_add, lJ_sub, lJ_mul, lJ_neg, i_l, l_i, iI_cl, iI_inb, iI_eqT, iI_eqF, iI_ltT, iI_ltF, iI_leT, iI_leF, lJ_eqT, lJ_eqF, lJ_cG, lJ_cE, lJ_cL, lJ_cF, lJ_cGE, lJ_cLE, lJ_cNL, lJ_cNG, Int.cast_ofNat_Int, c_0, c_1, Int.natCast_add, Int.add_zero, cond_true, cond_false, Bool.and_self, Bool.and_true, Bool.true_and, Option.bind_some, decide_true, uI_hit, uI_miss, uI_o, uA_o, uA_s, ↓reduceIte, eq_self, true_or, or_true, or_false, false_or, true_and, and_true, false_and, and_false, or_self, and_self, not_false_eq_true, not_true_eq_false, tn_i, iI_one]
      simp [show ¬ x = y by omega]
    · simp (disch := omega) only [nI_iI, lN_lJ, iI_0, lJ_0, iI_add, iI_sub, iI_mul, iI_neg, lJ_add, lJ_sub, lJ_mul, lJ_neg, i_l, l_i, iI_cl, iI_inb, iI_eqT, iI_eqF, iI_ltT, iI_ltF, iI_leT, iI_leF, lJ_eqT, lJ_eqF, lJ_cG, lJ_cE, lJ_cL, lJ_cF, lJ_cGE, lJ_cLE, lJ_cNL, lJ_cNG, Int.cast_ofNat_Int, c_0, c_1, Int.natCast_add, Int.add_zero, cond_true, cond_false, Bool.and_self, Bool.and_true, Bool.true_and, Option.bind_some, decide_true, uI_hit, uI_miss, uI_o, uA_o, uA_s, ↓reduceIte, eq_self, true_or, or_true, or_false, false_or, true_and, and_true, false_and, and_false, or_self, and_self, not_false_eq_true, not_true_eq_false, tn_i, iI_one]
      simp [show ¬ x = y by omega]
theorem RB.cmp {s : Int} {O V : Int → Int} {a b q o : Int} {f g : En → Int} (h : RV s O V a b f) (h' : RV s O V b q g) (hO : O q = o) (ho : 10 ≤ o ∧ o ≤ 15) : RB s O V a (q + 1) (fun v => cmpS (cmC o) (f v) (g v)) := by
  obtain ⟨ha, hab, hf, hrun⟩ := h
  obtain ⟨ha', hab', hf', hrun'⟩ := h'
  refine ⟨ha, by omega, fun d e tx cl x cb v last n m u w h1 h2 h3 h4 h5 h6 h7 => ?_⟩
  obtain ⟨d', e', u', w', r1, r2, r3, r4, r5, r6⟩ := hrun d e tx cl x cb v last n m u w h1 h2 (h3.sub (by omega)) h4 (by omega) h6 (by omega)
  obtain ⟨d2, e2, u2, w2, s1, s2, s3, s4, s5, s6⟩ := hrun' d' e' tx cl x cb v last (n + 1) m u' w' h1 (h2.of r2) ((h3.of r2).sub (by omega)) (by omega) (by omega) h6 (by omega)
  have h3' := h3.of (r2.trans s2)
  have c := h3'.2.2.2 q (by omega) (by omega)
  rw [hO] at c
  have := h3.2.1
  have := h3.2.2.1
  have := hf v h1
  have := hf' v h1
  have k1 := rs_cmp (e := e2) (tx := tx) (cl := cl) (u := u2) (w := w2) (n := n + 1 + 1) (m := m) (y := f v) (y2 := g v) h3'.1 c.1 c.2 (by omega) (by omega) (by omega) ho (by rw [show n + 1 + 1 + -2 = n by omega, s5 n.toNat (by omega)]; exact r4) (by rw [show n + 1 + 1 + -2 + 1 = n + 1 by omega]; exact s4) (m_asked ho (by omega))
  rw [show n + 1 + 1 + -2 = n by omega] at k1
  refine ⟨_, _, _, _, (r1.trans s1).trans (a_run_step k1 rfl), (r2.trans s2).put, r3.trans s3, uI_hit rfl, fun j hj => ?_, fun j hj => ?_⟩
  · rw [s5 j (by omega)]
    exact r5 j hj
  · rw [uI_miss (by omega), s6 j hj]
    exact r6 j hj
theorem RB.not {s : Int} {O V : Int → Int} {a b : Int} {f : En → Bool} (h : RB s O V a b f) (hO : O b = 20) : RB s O V a (b + 1) (fun v => !f v) := by
  obtain ⟨ha, hab, hrun⟩ := h
  refine ⟨ha, by omega, fun d e tx cl x cb v last n m u w h1 h2 h3 h4 h5 h6 h7 => ?_⟩
  obtain ⟨d', e', u', w', r1, r2, r3, r4, r5, r6⟩ := hrun d e tx cl x cb v last n m u w h1 h2 (h3.sub (by omega)) h4 (by omega) h6 (by omega)
  have h3' := h3.of r2
  have c := h3'.2.2.2 b (by omega) (by omega)
  rw [hO] at c
  have := h3.2.1
  have := h3.2.2.1
  refine ⟨_, _, _, _, r1.trans (a_run_step (rs_not (b := f v) h3'.1 c.1 c.2 (by omega) (by omega) rfl (by rw [show m + 1 - 1 = m by omega]; exact r4)) rfl), r2.put, r3, uI_hit (by omega), r5, fun j hj => ?_⟩
  rw [uI_miss (by omega)]
  exact r6 j hj
def joS (o : Int) (x y : Bool) : Bool := if o = 21 then (x && y) else (x || y)
theorem m_joined {d : aI} {e : aJ} {o : Int} {x y : Bool} (ho : 21 ≤ o ∧ o ≤ 22) : FX11_joined d e (iI o) (iI (tv x)) (iI (tv y)) = some (iI (tv (joS o x y)), d, e) := by
  unfold FX11_joined joS
  rcases (show o = 21 ∨ o = 22 by omega) with rfl | rfl
  · cases x <;> cases y <;> simp only [show tv false = 0 from rfl, show tv true = 1 from rfl]
    · simp (disch := omega) only [nI_iI, lN_lJ, iI_0, lJ_0, iI_add, iI_sub, iI_mul, iI_neg, lJ_add, lJ_sub, lJ_mul, lJ_neg, i_l, l_i, iI_cl, iI_inb, iI_eqT, iI_eqF, iI_ltT, iI_ltF, iI_leT, iI_leF, lJ_eqT, lJ_eqF, lJ_cG, lJ_cE, lJ_cL, lJ_cF, lJ_cGE, lJ_cLE, lJ_cNL, lJ_cNG, Int.cast_ofNat_Int, c_0, c_1, Int.natCast_add, Int.add_zero, cond_true, cond_false, Bool.and_self, Bool.and_true, Bool.true_and, Option.bind_some, decide_true, uI_hit, uI_miss, uI_o, uA_o, uA_s, ↓reduceIte, eq_self, true_or, or_true, or_false, false_or, true_and, and_true, false_and, and_false, or_self, and_self, not_false_eq_true, not_true_eq_false, tn_i]
      rfl
    · simp (disch := omega) only [nI_iI, lN_lJ, iI_0, lJ_0, iI_add, iI_sub, iI_mul, iI_neg, lJ_add, lJ_sub, lJ_mul, lJ_neg, i_l, l_i, iI_cl, iI_inb, iI_eqT, iI_eqF, iI_ltT, iI_ltF, iI_leT, iI_leF, lJ_eqT, lJ_eqF, lJ_cG, lJ_cE, lJ_cL, lJ_cF, lJ_cGE, lJ_cLE, lJ_cNL, lJ_cNG, Int.cast_ofNat_Int, c_0, c_1, Int.natCast_add, Int.add_zero, cond_true, cond_false, Bool.and_self, Bool.and_true, Bool.true_and, Option.bind_some, decide_true, uI_hit, uI_miss, uI_o, uA_o, uA_s, ↓reduceIte, eq_self, true_or, or_true, or_false, false_or, true_and, and_true, false_and, and_false, or_self, and_self, not_false_eq_true, not_true_eq_false, tn_i]
      rfl
    · simp (disch := omega) only [nI_iI, lN_lJ, iI_0, lJ_0, iI_add, iI_sub, iI_mul, iI_neg, lJ_add, lJ_sub, lJ_mul, lJ_neg, i_l, l_i, iI_cl, iI_inb, iI_eqT, iI_eqF, iI_ltT, iI_ltF, iI_leT, iI_leF, lJ_eqT, lJ_eqF, lJ_cG, lJ_cE, lJ_cL, lJ_cF, lJ_cGE, lJ_cLE, lJ_cNL, lJ_cNG, Int.cast_ofNat_Int, c_0, c_1, Int.natCast_add, Int.add_zero, cond_true, cond_false, Bool.and_self, Bool.and_true, Bool.true_and, Option.bind_some, decide_true, uI_hit, uI_miss, uI_o, uA_o, uA_s, ↓reduceIte, eq_self, true_or, or_true, or_false, false_or, true_and, and_true, false_and, and_false, or_self, and_self, not_false_eq_true, not_true_eq_false, tn_i]
      rfl
    · simp (disch := omega) only [nI_iI, lN_lJ, iI_0, lJ_0, iI_add, iI_sub, iI_mul, iI_neg, lJ_add, lJ_sub, lJ_mul, lJ_neg, i_l, l_i, iI_cl, iI_inb, iI_eqT, iI_eqF, iI_ltT, iI_ltF, iI_leT, iI_leF, lJ_eqT, lJ_eqF, lJ_cG, lJ_cE, lJ_cL, lJ_cF, lJ_cGE, lJ_cLE, lJ_cNL, lJ_cNG, Int.cast_ofNat_Int, c_0, c_1, Int.natCast_add, Int.add_zero, cond_true, cond_false, Bool.and_self, Bool.and_true, Bool.true_and, Option.bind_some, decide_true, uI_hit, uI_miss, uI_o, uA_o, uA_s, ↓reduceIte, eq_self, true_or, or_true, or_false, false_or, true_and, and_true, false_and, and_false, or_self, and_self, not_false_eq_true, not_true_eq_false, tn_i]
      rfl
  · cases x <;> cases y <;> simp only [show tv false = 0 from rfl, show tv true = 1 from rfl]
    · simp (disch := omega) only [nI_iI, lN_lJ, iI_0, lJ_0, iI_add, iI_sub, iI_mul, iI_neg, lJ_add, lJ_sub, lJ_mul, lJ_neg, i_l, l_i, iI_cl, iI_inb, iI_eqT, iI_eqF, iI_ltT, iI_ltF, iI_leT, iI_leF, lJ_eqT, lJ_eqF, lJ_cG, lJ_cE, lJ_cL, lJ_cF, lJ_cGE, lJ_cLE, lJ_cNL, lJ_cNG, Int.cast_ofNat_Int, c_0, c_1, Int.natCast_add, Int.add_zero, cond_true, cond_false, Bool.and_self, Bool.and_true, Bool.true_and, Option.bind_some, decide_true, uI_hit, uI_miss, uI_o, uA_o, uA_s, ↓reduceIte, eq_self, true_or, or_true, or_false, false_or, true_and, and_true, false_and, and_false, or_self, and_self, not_false_eq_true, not_true_eq_false, tn_i]
      rfl
    · simp (disch := omega) only [nI_iI, lN_lJ, iI_0, lJ_0, iI_add, iI_sub, iI_mul, iI_neg, lJ_add, lJ_sub, lJ_mul, lJ_neg, i_l, l_i, iI_cl, iI_inb, iI_eqT, iI_eqF, iI_ltT, iI_ltF, iI_leT, iI_leF, lJ_eqT, lJ_eqF, lJ_cG, lJ_cE, lJ_cL, lJ_cF, lJ_cGE, lJ_cLE, lJ_cNL, lJ_cNG, Int.cast_ofNat_Int, c_0, c_1, Int.natCast_add, Int.add_zero, cond_true, cond_false, Bool.and_self, Bool.and_true, Bool.true_and, Option.bind_some, decide_true, uI_hit, uI_miss, uI_o, uA_o, uA_s, ↓reduceIte, eq_self, true_or, or_true, or_false, false_or, true_and, and_true, false_and, and_false, or_self, and_self, not_false_eq_true, not_true_eq_false, tn_i]
      rfl
    · simp (disch := omega) only [nI_iI, lN_lJ, iI_0, lJ_0, iI_add, iI_sub, iI_mul, iI_neg, lJ_add, lJ_sub, lJ_mul, lJ_neg, i_l, l_i, iI_cl, iI_inb, iI_eqT, iI_eqF, iI_ltT, iI_ltF, iI_leT, iI_leF, lJ_eqT, lJ_eqF, lJ_cG, lJ_cE, lJ_cL, lJ_cF, lJ_cGE, lJ_cLE, lJ_cNL, lJ_cNG, Int.cast_ofNat_Int, c_0, c_1, Int.natCast_add, Int.add_zero, cond_true, cond_false, Bool.and_self, Bool.and_true, Bool.true_and, Option.bind_some, decide_true, uI_hit, uI_miss, uI_o, uA_o, uA_s, ↓reduceIte, eq_self, true_or, or_true, or_false, false_or, true_and, and_true, false_and, and_false, or_self, and_self, not_false_eq_true, not_true_eq_false, tn_i]
      rfl
    · simp (disch := omega) only [nI_iI, lN_lJ, iI_0, lJ_0, iI_add, iI_sub, iI_mul, iI_neg, lJ_add, lJ_sub, lJ_mul, lJ_neg, i_l, l_i, iI_cl, iI_inb, iI_eqT, iI_eqF, iI_ltT, iI_ltF, iI_leT, iI_leF, lJ_eqT, lJ_eqF, lJ_cG, lJ_cE, lJ_cL, lJ_cF, lJ_cGE, lJ_cLE, lJ_cNL, lJ_cNG, Int.cast_ofNat_Int, c_0, c_1, Int.natCast_add, Int.add_zero, cond_true, cond_false, Bool.and_self, Bool.and_true, Bool.true_and, Option.bind_some, decide_true, uI_hit, uI_miss, uI_o, uA_o, uA_s, ↓reduceIte, eq_self, true_or, or_true, or_false, false_or, true_and, and_true, false_and, and_false, or_self, and_self, not_false_eq_true, not_true_eq_false, tn_i]
      rfl
theorem RB.join {s : Int} {O V : Int → Int} {a b q o : Int} {f g : En → Bool} (h : RB s O V a b f) (h' : RB s O V b q g) (hO : O q = o) (ho : 21 ≤ o ∧ o ≤ 22) : RB s O V a (q + 1) (fun v => joS o (f v) (g v)) := by
  obtain ⟨ha, hab, hrun⟩ := h
  obtain ⟨ha', hab', hrun'⟩ := h'
  refine ⟨ha, by omega, fun d e tx cl x cb v last n m u w h1 h2 h3 h4 h5 h6 h7 => ?_⟩
  obtain ⟨d', e', u', w', r1, r2, r3, r4, r5, r6⟩ := hrun d e tx cl x cb v last n m u w h1 h2 (h3.sub (by omega)) h4 (by omega) h6 (by omega)
  obtain ⟨d2, e2, u2, w2, s1, s2, s3, s4, s5, s6⟩ := hrun' d' e' tx cl x cb v last n (m + 1) u' w' h1 (h2.of r2) ((h3.of r2).sub (by omega)) h4 (by omega) (by omega) (by omega)
  have h3' := h3.of (r2.trans s2)
  have c := h3'.2.2.2 q (by omega) (by omega)
  rw [hO] at c
  have := h3.2.1
  have := h3.2.2.1
  have k1 := rs_join (e := e2) (tx := tx) (cl := cl) (u := u2) (w := w2) (n := n) (m := m + 1 + 1) (b := f v) (b2 := g v) h3'.1 c.1 c.2 (by omega) (by omega) ho (by rw [show m + 1 + 1 + -1 - 1 = m by omega, s6 m.toNat (by omega)]; exact r4) (by rw [show m + 1 + 1 + -1 = m + 1 by omega]; exact s4) (m_joined ho)
  rw [show m + 1 + 1 + -1 = m + 1 by omega] at k1
  refine ⟨_, _, _, _, (r1.trans s1).trans (a_run_step k1 rfl), (r2.trans s2).put, r3.trans s3, uI_hit (by omega), fun j hj => ?_, fun j hj => ?_⟩
  · rw [s5 j hj]
    exact r5 j hj
  · rw [uI_miss (by omega), s6 j (by omega)]
    exact r6 j hj
/-- the whole of a law -/
theorem RV.run {s : Int} {O V : Int → Int} {a b : Int} {f : En → Int} (h : RV s O V a b f) {d : aI} {e : aJ} {t k : Int} {v : En} (hv : EnOK v) (hE : EnvR s d v) (ht : 0 ≤ t ∧ t < 4 ∧ 0 ≤ k ∧ k < 24 ∧ b ≤ 300) (h1 : d 111 (681 * t + 1 + 3 * k + 1).toNat = iI a) (h2 : d 111 (681 * t + 1 + 3 * k + 2).toNat = iI b) (hc : ∀ i : Int, a ≤ i → i < b → d 111 (681 * t + 73 + 2 * i).toNat = iI (O i) ∧ d 111 (681 * t + 73 + 2 * i + 1).toNat = iI (V i)) :
    ∃ d' e', FX11_summedUp d e (iI t) (iI k) = some (lJ (f v), d', e') ∧ SameT d d' ∧ SameE e e' := by
  obtain ⟨ha, hab, hf, hrun⟩ := h
  have k1 : stX11_summedUp (0, [some (.ref 108), some (.int (iI t)), some (.int (iI k)), none, none, none, none, none, none, none], d, e) = some (rS (iI t) (iI k) (681 * t + 1 + 3 * k) (681 * t + 73) 0 0 a none none d e) := by
    show sX11_summedUp_0 d e (iI t) (iI k) = _
    unfold sX11_summedUp_0
    simp (disch := omega) only [nI_iI, lN_lJ, iI_0, lJ_0, iI_add, iI_sub, iI_mul, iI_neg, lJ_add, lJ_sub, lJ_mul, lJ_neg, i_l, l_i, iI_cl, iI_inb, iI_eqT, iI_eqF, iI_ltT, iI_ltF, iI_leT, iI_leF, lJ_eqT, lJ_eqF, lJ_cG, lJ_cE, lJ_cL, lJ_cF, lJ_cGE, lJ_cLE, lJ_cNL, lJ_cNG, Int.cast_ofNat_Int, c_0, c_1, Int.natCast_add, Int.add_zero, cond_true, cond_false, Bool.and_self, Bool.and_true, Bool.true_and, Option.bind_some, decide_true, uI_hit, uI_miss, uI_o, uA_o, uA_s, ↓reduceIte, eq_self, true_or, or_true, or_false, false_or, true_and, and_true, false_and, and_false, or_self, and_self, not_false_eq_true, not_true_eq_false, tn_i, h1]
  have hC : RC d (681 * t + 1 + 3 * k) (681 * t + 73) b O V a b := ⟨h2, by omega, by omega, hc⟩
  obtain ⟨d', e', u', w', r1, r2, r3, r4, r5, r6⟩ := hrun d e (iI t) (iI k) _ _ v b 0 0 none none hv hE hC (by omega) (by omega) (by omega) (by omega)
  have hC' := hC.of r2
  refine ⟨d', e', ?_, r2, r3⟩
  unfold FX11_summedUp
  rw [a_run_step k1 rfl, r1, a_run_step (st := stX11_summedUp) (p2 := (100000, [some (.long (lJ (f v)))], d', e')) (by
    have r7 : e' 115 0 = lJ (f v) := r4
    have hl := hC'.1
    show sX11_summedUp_38 d' e' (iI t) (iI k) (iI (681 * t + 1 + 3 * k)) (iI (681 * t + 73)) (iI (0 + 1)) (iI 0) (iI b) u' w' = _
    unfold sX11_summedUp_38
    simp (disch := omega) only [nI_iI, lN_lJ, iI_0, lJ_0, iI_add, iI_sub, iI_mul, iI_neg, lJ_add, lJ_sub, lJ_mul, lJ_neg, i_l, l_i, iI_cl, iI_inb, iI_eqT, iI_eqF, iI_ltT, iI_ltF, iI_leT, iI_leF, lJ_eqT, lJ_eqF, lJ_cG, lJ_cE, lJ_cL, lJ_cF, lJ_cGE, lJ_cLE, lJ_cNL, lJ_cNG, Int.cast_ofNat_Int, c_0, c_1, Int.natCast_add, Int.add_zero, cond_true, cond_false, Bool.and_self, Bool.and_true, Bool.true_and, Option.bind_some, decide_true, uI_hit, uI_miss, uI_o, uA_o, uA_s, ↓reduceIte, eq_self, true_or, or_true, or_false, false_or, true_and, and_true, false_and, and_false, or_self, and_self, not_false_eq_true, not_true_eq_false, tn_i, hl, r7]) rfl, a_run_end]
  rfl
