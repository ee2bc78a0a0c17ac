/-! ===== pieces of a law's code: class ===== -/
abbrev ob (o1 : Nat) : Prop := o1 = 62 ∨ o1 = 67 ∨ o1 = 72 ∨ o1 = 77 ∨ o1 = 82
/-- the names have these values as the class asks for them -/
def EnvC (s : Int) (d : aI) (e : aJ) (x5 x6 : Int32) (v : En) : Prop :=
  ∀ d', SameX d d' → (∀ k, k < 8 → nmOK s k → FX1_named d' e (iI (nmC k)) x5 x6 = some (iI (v.1 k), d', e)) ∧ (∀ z, -1000000 ≤ z → z ≤ 1000000 → FX1_ofOne d' e (iI 313) (iI z) = some (iI (v.2 z), d', e))
theorem EnvC.of {s : Int} {d d1 : aI} {e : aJ} {x5 x6 : Int32} {v : En} (h : EnvC s d e x5 x6 v) (hs : SameX d d1) : EnvC s d1 e x5 x6 v := fun d' h' => h d' (hs.trans h')
/-- the cells from a to b put this value on the pile, with at most 'need' places of it -/
def CV (s : Int) (C : Int → Int) (a b need : Int) (f : En → Int) : Prop :=
  0 ≤ a ∧ a < b ∧ 1 ≤ need ∧ Bd f ∧ ∀ (d : aI) (e : aJ) (o1 : Nat) (xf xt x5 x6 : Int32) (v : En) (last i n : Int) (u w : Option Value), ob o1 → EnOK v → EnvC s d e x5 x6 v → (∀ j : Nat, a ≤ (j : Int) → (j : Int) < b → d o1 j = iI (C j)) → d 93 1 = iI n → 0 ≤ n → n + need ≤ 64 → b ≤ last → last ≤ 300 → 0 ≤ i → i + (b - a) ≤ 300 →
    ∃ d' i' u' w', a_run stX1_run (cS o1 xf xt x5 x6 last a i u w d e) = a_run stX1_run (cS o1 xf xt x5 x6 last b i' u' w' d' e) ∧ i ≤ i' ∧ i' ≤ i + (b - a) ∧ SameX d d' ∧ d' 93 1 = iI (n + 1) ∧ d' 94 n.toNat = iI (f v) ∧ (∀ j : Nat, (j : Int) < n → d' 94 j = d 94 j)
theorem CV.ext {s : Int} {C C' : Int → Int} {a b need : Int} {f : En → Int} (h : CV s C a b need f) (hc : ∀ j : Int, a ≤ j → j < b → C' j = C j) : CV s C' a b need f := by
  refine ⟨h.1, h.2.1, h.2.2.1, h.2.2.2.1, fun d e o1 xf xt x5 x6 v last i n u w h1 h2 h3 h4 => h.2.2.2.2 d e o1 xf xt x5 x6 v last i n u w h1 h2 h3 (fun j ja jb => ?_)⟩
  rw [h4 j ja jb, hc j ja jb]
theorem CV.more {s : Int} {C : Int → Int} {a b need need' : Int} {f : En → Int} (h : CV s C a b need f) (hn : need ≤ need') : CV s C a b need' f :=
  ⟨h.1, h.2.1, by have := h.2.2.1; omega, h.2.2.2.1, fun d e o1 xf xt x5 x6 v last i n u w h1 h2 h3 h4 h5 h6 h7 => h.2.2.2.2 d e o1 xf xt x5 x6 v last i n u w h1 h2 h3 h4 h5 h6 (by omega)⟩
theorem CV.congr {s : Int} {C : Int → Int} {a b need : Int} {f g : En → Int} (h : CV s C a b need f) (hf : ∀ v, EnOK v → f v = g v) : CV s C a b need g := by
  refine ⟨h.1, h.2.1, h.2.2.1, fun v hv => by rw [← hf v hv]; exact h.2.2.2.1 v hv, fun d e o1 xf xt x5 x6 v last i n u w h1 h2 h3 h4 h5 h6 h7 h8 h9 h10 h11 => ?_⟩
  rw [← hf v h2]
  exact h.2.2.2.2 d e o1 xf xt x5 x6 v last i n u w h1 h2 h3 h4 h5 h6 h7 h8 h9 h10 h11
theorem CV.num {s : Int} {C : Int → Int} {a k : Int} (ha : 0 ≤ a) (hk : 0 ≤ k ∧ k ≤ 9999) (hC : C a = -1 - k) : CV s C a (a + 1) 1 (fun _ => k) := by
  refine ⟨ha, by omega, by omega, fun v _ => by show -1000000 ≤ k ∧ k ≤ 1000000; omega, fun d e o1 xf xt x5 x6 v last i n u w h1 h2 h3 h4 h5 h6 h7 h8 h9 h10 h11 => ?_⟩
  have hc : d o1 a.toNat = iI (-1 - k) := by
    have := h4 a.toNat (by omega) (by omega)
    rw [tn_i ha, hC] at this
    exact this
  refine ⟨_, _, _, _, a_run_step (cs_num h1 hc (by omega) h5 (by omega) (by omega)) rfl, by omega, by omega, ((SameX.refl d).put (Or.inr rfl)).put (Or.inl rfl), uI_hit rfl, ?_, fun j hj => ?_⟩
  · rw [uI_o (by omega), uI_hit rfl]
    congr 1
    show -1 - (-1 - k) = k
    omega
  · rw [uI_o (by omega), uI_miss (by omega)]
theorem x_isName {d : aI} {e : aJ} {k : Nat} (hk : k < 8) : FX1_isName d e (iI (nmC k)) = some (iI 1, d, e) := by
  unfold FX1_isName
  rcases (show k = 0 ∨ k = 1 ∨ k = 2 ∨ k = 3 ∨ k = 4 ∨ k = 5 ∨ k = 6 ∨ k = 7 by omega) with rfl | rfl | rfl | rfl | rfl | rfl | rfl | rfl <;> simp only [nmC]
  · simp (disch := omega) only [nI_iI, lN_lJ, iI_0, lJ_0, iI_add, iI_sub, iI_mul, iI_neg, lJ_add, lJ_sub, lJ_mul, lJ_neg, i_l, l_i, iI_cl, iI_inb, iI_eqT, iI_eqF, iI_ltT, iI_ltF, iI_leT, iI_leF, lJ_eqT, lJ_eqF, lJ_cG, lJ_cE, lJ_cL, lJ_cF, lJ_cGE, lJ_cLE, lJ_cNL, lJ_cNG, Int.cast_ofNat_Int, c_0, c_1, Int.natCast_add, Int.add_zero, cond_true, cond_false, Bool.and_self, Bool.and_true, Bool.true_and, Option.bind_some, decide_true, uI_hit, uI_miss, uI_o, uA_o, uA_s, ↓reduceIte, eq_self, true_or, or_true, or_false, false_or, true_and, and_true, false_and, and_false, or_self, and_self, not_false_eq_true, not_true_eq_false, tn_i]
  · simp (disch := omega) only [nI_iI, lN_lJ, iI_0, lJ_0, iI_add, iI_sub, iI_mul, iI_neg, lJ_add, lJ_sub, lJ_mul, lJ_neg, i_l, l_i, iI_cl, iI_inb, iI_eqT, iI_eqF, iI_ltT, iI_ltF, iI_leT, iI_leF, lJ_eqT, lJ_eqF, lJ_cG, lJ_cE, lJ_cL, lJ_cF, lJ_cGE, lJ_cLE, lJ_cNL, lJ_cNG, Int.cast_ofNat_Int, c_0, c_1, Int.natCast_add, Int.add_zero, cond_true, cond_false, Bool.and_self, Bool.and_true, Bool.true_and, Option.bind_some, decide_true, uI_hit, uI_miss, uI_o, uA_o, uA_s, ↓reduceIte, eq_self, true_or, or_true, or_false, false_or, true_and, and_true, false_and, and_false, or_self, and_self, not_false_eq_true, not_true_eq_false, tn_i]
  · simp (disch := omega) only [nI_iI, lN_lJ, iI_0, lJ_0, iI_add, iI_sub, iI_mul, iI_neg, lJ_add, lJ_sub, lJ_mul, lJ_neg, i_l, l_i, iI_cl, iI_inb, iI_eqT, iI_eqF, iI_ltT, iI_ltF, iI_leT, iI_leF, lJ_eqT, lJ_eqF, lJ_cG, lJ_cE, lJ_cL, lJ_cF, lJ_cGE, lJ_cLE, lJ_cNL, lJ_cNG, Int.cast_ofNat_Int, c_0, c_1, Int.natCast_add, Int.add_zero, cond_true, cond_false, Bool.and_self, Bool.and_true, Bool.true_and, Option.bind_some, decide_true, uI_hit, uI_miss, uI_o, uA_o, uA_s, ↓reduceIte, eq_self, true_or, or_true, or_false, false_or, true_and, and_true, false_and, and_false, or_self, and_self, not_false_eq_true, not_true_eq_false, tn_i]
  · simp (disch := omega) only [nI_iI, lN_lJ, iI_0, lJ_0, iI_add, iI_sub, iI_mul, iI_neg, lJ_add, lJ_sub, lJ_mul, lJ_neg, i_l, l_i, iI_cl, iI_inb, iI_eqT, iI_eqF, iI_ltT, iI_ltF, iI_leT, iI_leF, lJ_eqT, lJ_eqF, lJ_cG, lJ_cE, lJ_cL, lJ_cF, lJ_cGE, lJ_cLE, lJ_cNL, lJ_cNG, Int.cast_ofNat_Int, c_0, c_1, Int.natCast_add, Int.add_zero, cond_true, cond_false, Bool.and_self, Bool.and_true, Bool.true_and, Option.bind_some, decide_true, uI_hit, uI_miss, uI_o, uA_o, uA_s, ↓reduceIte, eq_self, true_or, or_true, or_false, false_or, true_and, and_true, false_and, and_false, or_self, and_self, not_false_eq_true, not_true_eq_false, tn_i]
  · simp (disch := omega) only [nI_iI, lN_lJ, iI_0, lJ_0, iI_add, iI_sub, iI_mul, iI_neg, lJ_add, lJ_sub, lJ_mul, lJ_neg, i_l, l_i, iI_cl, iI_inb, iI_eqT, iI_eqF, iI_ltT, iI_ltF, iI_leT, iI_leF, lJ_eqT, lJ_eqF, lJ_cG, lJ_cE, lJ_cL, lJ_cF, lJ_cGE, lJ_cLE, lJ_cNL, lJ_cNG, Int.cast_ofNat_Int, c_0, c_1, Int.natCast_add, Int.add_zero, cond_true, cond_false, Bool.and_self, Bool.and_true, Bool.true_and, Option.bind_some, decide_true, uI_hit, uI_miss, uI_o, uA_o, uA_s, ↓reduceIte, eq_self, true_or, or_true, or_false, false_or, true_and, and_true, false_and, and_false, or_self, and_self, not_false_eq_true, not_true_eq_false, tn_i]
  · simp (disch := omega) only [nI_iI, lN_lJ, iI_0, lJ_0, iI_add, iI_sub, iI_mul, iI_neg, lJ_add, lJ_sub, lJ_mul, lJ_neg, i_l, l_i, iI_cl, iI_inb, iI_eqT, iI_eqF, iI_ltT, iI_ltF, iI_leT, iI_leF, lJ_eqT, lJ_eqF, lJ_cG, lJ_cE, lJ_cL, lJ_cF, lJ_cGE, lJ_cLE, lJ_cNL, lJ_cNG, Int.cast_ofNat_Int, c_0, c_1, Int.natCast_add, Int.add_zero, cond_true, cond_false, Bool.and_self, Bool.and_true, Bool.true_and, Option.bind_some, decide_true, uI_hit, uI_miss, uI_o, uA_o, uA_s, ↓reduceIte, eq_self, true_or, or_true, or_false, false_or, true_and, and_true, false_and, and_false, or_self, and_self, not_false_eq_true, not_true_eq_false, tn_i]
  · simp (disch := omega) only [nI_iI, lN_lJ, iI_0, lJ_0, iI_add, iI_sub, iI_mul, iI_neg, lJ_add, lJ_sub, lJ_mul, lJ_neg, i_l, l_i, iI_cl, iI_inb, iI_eqT, iI_eqF, iI_ltT, iI_ltF, iI_leT, iI_leF, lJ_eqT, lJ_eqF, lJ_cG, lJ_cE, lJ_cL, lJ_cF, lJ_cGE, lJ_cLE, lJ_cNL, lJ_cNG, Int.cast_ofNat_Int, c_0, c_1, Int.natCast_add, Int.add_zero, cond_true, cond_false, Bool.and_self, Bool.and_true, Bool.true_and, Option.bind_some, decide_true, uI_hit, uI_miss, uI_o, uA_o, uA_s, ↓reduceIte, eq_self, true_or, or_true, or_false, false_or, true_and, and_true, false_and, and_false, or_self, and_self, not_false_eq_true, not_true_eq_false, tn_i]
  · simp (disch := omega) only [nI_iI, lN_lJ, iI_0, lJ_0, iI_add, iI_sub, iI_mul, iI_neg, lJ_add, lJ_sub, lJ_mul, lJ_neg, i_l, l_i, iI_cl, iI_inb, iI_eqT, iI_eqF, iI_ltT, iI_ltF, iI_leT, iI_leF, lJ_eqT, lJ_eqF, lJ_cG, lJ_cE, lJ_cL, lJ_cF, lJ_cGE, lJ_cLE, lJ_cNL, lJ_cNG, Int.cast_ofNat_Int, c_0, c_1, Int.natCast_add, Int.add_zero, cond_true, cond_false, Bool.and_self, Bool.and_true, Bool.true_and, Option.bind_some, decide_true, uI_hit, uI_miss, uI_o, uA_o, uA_s, ↓reduceIte, eq_self, true_or, or_true, or_false, false_or, true_and, and_true, false_and, and_false, or_self, and_self, not_false_eq_true, not_true_eq_false, tn_i]
theorem nmC_in (k : Nat) : 308 ≤ nmC k ∧ nmC k ≤ 325 ∧ nmC k ≠ 314 ∧ nmC k ≠ 316 := by
  match k with
  | 0 => decide
  | 1 => decide
  | 2 => decide
  | 3 => decide
  | 4 => decide
  | 5 => decide
  | 6 => decide
  | k + 7 => exact (by decide : 308 ≤ (325 : Int) ∧ (325 : Int) ≤ 325 ∧ (325 : Int) ≠ 314 ∧ (325 : Int) ≠ 316)
theorem CV.name {s : Int} {C : Int → Int} {a : Int} {k : Nat} (ha : 0 ≤ a) (hk : k < 8) (hs : nmOK s k) (hC : C a = nmC k) : CV s C a (a + 1) 1 (fun v => v.1 k) := by
  refine ⟨ha, by omega, by omega, fun v hv => by have := hv.1 k; show -1000000 ≤ v.1 k ∧ v.1 k ≤ 1000000; omega, fun d e o1 xf xt x5 x6 v last i n u w h1 h2 h3 h4 h5 h6 h7 h8 h9 h10 h11 => ?_⟩
  have hc : d o1 a.toNat = iI (nmC k) := by
    have := h4 a.toNat (by omega) (by omega)
    rw [tn_i ha, hC] at this
    exact this
  have hn := nmC_in k
  refine ⟨_, _, _, _, a_run_step (cs_name h1 hc (by omega) h5 (by omega) (by omega) (x_isName hk) ((h3 d (SameX.refl d)).1 k hk hs)) rfl, by omega, by omega, ((SameX.refl d).put (Or.inr rfl)).put (Or.inl rfl), uI_hit rfl, ?_, fun j hj => ?_⟩
  · rw [uI_o (by omega), uI_hit rfl]
  · rw [uI_o (by omega), uI_miss (by omega)]
/-- behind one value: what is made of it -/
theorem CV.one {s : Int} {C : Int → Int} {a b need c : Int} {f g : En → Int} (h : CV s C a b need f) (hC : C b = c) (hcr : c = 5 ∨ c = 320 ∨ c = 313) (hg : Bd g)
    (hx : ∀ (d : aI) (e : aJ) (x5 x6 : Int32) (v : En), EnOK v → EnvC s d e x5 x6 v → FX1_ofOne d e (iI c) (iI (f v)) = some (iI (g v), d, e)) : CV s C a (b + 1) need g := by
  obtain ⟨ha, hab, hne, hf, hrun⟩ := h
  refine ⟨ha, by omega, hne, hg, fun d e o1 xf xt x5 x6 v last i n u w h1 h2 h3 h4 h5 h6 h7 h8 h9 h10 h11 => ?_⟩
  obtain ⟨d', i', u', w', r1, r2, r3, r4, r5, r6, r7⟩ := hrun d e o1 xf xt x5 x6 v last i n u w h1 h2 h3 (fun j ja jb => h4 j ja (by omega)) h5 h6 h7 (by omega) h9 h10 (by omega)
  have hc : d' o1 b.toNat = iI c := by
    have := h4 b.toNat (by omega) (by omega)
    rw [tn_i (by omega), hC] at this
    rw [r4 o1 (by omega) (by omega)]
    exact this
  refine ⟨_, _, _, _, r1.trans (a_run_step (cs_one (x := f v) (z := g v) h1 hc (by omega) r5 (by omega) (by rw [show n + 1 - 1 = n by omega]; exact r6) hcr (fun d'' hd => hx d'' e x5 x6 v h2 (h3.of (r4.trans hd)))) rfl), by omega, by omega, ((r4.put (Or.inl rfl)).put (Or.inr rfl)).put (Or.inl rfl), ?_, ?_, fun j hj => ?_⟩
  · rw [uI_hit rfl]
    congr 1
    omega
  · rw [uI_o (by omega), uI_hit (by omega)]
  · rw [uI_o (by omega), uI_miss (by omega), uI_o (by omega)]
    exact r7 j hj
theorem CV.neg {s : Int} {C : Int → Int} {a b need : Int} {f : En → Int} (h : CV s C a b need f) (hC : C b = 5) : CV s C a (b + 1) need (fun v => -f v) := by
  have hf := h.2.2.2.1
  refine h.one hC (Or.inl rfl) (fun v hv => by have := hf v hv; omega) (fun d e x5 x6 v hv _ => ?_)
  have := hf v hv
  unfold FX1_ofOne
  simp (disch := omega) only [nI_iI, lN_lJ, iI_0, lJ_0, iI_add, iI_sub, iI_mul, iI_neg, lJ_add, lJ_sub, lJ_mul, lJ_neg, i_l, l_i, iI_cl, iI_inb, iI_eqT, iI_eqF, iI_ltT, iI_ltF, iI_leT, iI_leF, lJ_eqT, lJ_eqF, lJ_cG, lJ_cE, lJ_cL, lJ_cF, lJ_cGE, lJ_cLE, lJ_cNL, lJ_cNG, Int.cast_ofNat_Int, c_0, c_1, Int.natCast_add, Int.add_zero, cond_true, cond_false, Bool.and_self, Bool.and_true, Bool.true_and, Option.bind_some, decide_true, uI_hit, uI_miss, uI_o, uA_o, uA_s, ↓reduceIte, eq_self, true_or, or_true, or_false, false_or, true_and, and_true, false_and, and_false, or_self, and_self, not_false_eq_true, not_true_eq_false, tn_i]
theorem CV.chill {s : Int} {C : Int → Int} {a b need : Int} {f : En → Int} (h : CV s C a b need f) (hC : C b = 313) : CV s C a (b + 1) need (fun v => v.2 (f v)) := by
  have hf := h.2.2.2.1
  refine h.one hC (Or.inr (Or.inr rfl)) (fun v hv => by have := hv.2 (f v); omega) (fun d e x5 x6 v hv hE => ?_)
  have := hf v hv
  exact (hE d (SameX.refl d)).2 (f v) (by omega) (by omega)
def tv (b : Bool) : Int := if b then 1 else 0
theorem tv_in (b : Bool) : 0 ≤ tv b ∧ tv b ≤ 1 := by cases b <;> decide
theorem CV.not {s : Int} {C : Int → Int} {a b need : Int} {f : En → Bool} (h : CV s C a b need (fun v => tv (f v))) (hC : C b = 320) : CV s C a (b + 1) need (fun v => tv (!f v)) := by
  refine h.one hC (Or.inr (Or.inl rfl)) (fun v hv => by have := tv_in (!f v); omega) (fun d e x5 x6 v hv hE => ?_)
  unfold FX1_ofOne
  cases f v
  · show _ = some (iI 1, d, e)
    simp only [show tv false = 0 from rfl]
    simp (disch := omega) only [nI_iI, lN_lJ, iI_0, lJ_0, iI_add, iI_sub, iI_mul, iI_neg, lJ_add, lJ_sub, lJ_mul, lJ_neg, i_l, l_i, iI_cl, iI_inb, iI_eqT, iI_eqF, iI_ltT, iI_ltF, iI_leT, iI_leF, lJ_eqT, lJ_eqF, lJ_cG, lJ_cE, lJ_cL, lJ_cF, lJ_cGE, lJ_cLE, lJ_cNL, lJ_cNG, Int.cast_ofNat_Int, c_0, c_1, Int.natCast_add, Int.add_zero, cond_true, cond_false, Bool.and_self, Bool.and_true, Bool.true_and, Option.bind_some, decide_true, uI_hit, uI_miss, uI_o, uA_o, uA_s, ↓reduceIte, eq_self, true_or, or_true, or_false, false_or, true_and, and_true, false_and, and_false, or_self, and_self, not_false_eq_true, not_true_eq_false, tn_i, Int.sub_zero]
  · show _ = some (iI 0, d, e)
    simp only [show tv true = 1 from rfl]
    simp (disch := omega) only [nI_iI, lN_lJ, iI_0, lJ_0, iI_add, iI_sub, iI_mul, iI_neg, lJ_add, lJ_sub, lJ_mul, lJ_neg, i_l, l_i, iI_cl, iI_inb, iI_eqT, iI_eqF, iI_ltT, iI_ltF, iI_leT, iI_leF, lJ_eqT, lJ_eqF, lJ_cG, lJ_cE, lJ_cL, lJ_cF, lJ_cGE, lJ_cLE, lJ_cNL, lJ_cNG, Int.cast_ofNat_Int, c_0, c_1, Int.natCast_add, Int.add_zero, cond_true, cond_false, Bool.and_self, Bool.and_true, Bool.true_and, Option.bind_some, decide_true, uI_hit, uI_miss, uI_o, uA_o, uA_s, ↓reduceIte, eq_self, true_or, or_true, or_false, false_or, true_and, and_true, false_and, and_false, or_self, and_self, not_false_eq_true, not_true_eq_false, tn_i, Int.sub_self]
/-- behind two values: what is made of them -/
theorem CV.two {s : Int} {C : Int → Int} {a b m need need2 c : Int} {f g : En → Int} {r : Int → Int → Int} (h : CV s C a b need f) (h' : CV s C b m need2 g) (hC : C m = c) (hcr : 0 ≤ c ∧ c < 320 ∧ c ≠ 5 ∧ c ≠ 313 ∧ c ≠ 314 ∧ c ≠ 316 ∧ c ≠ 308 ∧ c ≠ 309 ∧ c ≠ 310)
    (hx : ∀ (d : aI) (e : aJ) (v : En), EnOK v → FX1_ofTwo d e (iI c) (lJ (f v)) (lJ (g v)) = some (lJ (r (f v) (g v)), d, e)) (hr : ∀ v : En, EnOK v → -9000000000000000000 ≤ r (f v) (g v) ∧ r (f v) (g v) < 9000000000000000000)
    (k : Int) (hk : need ≤ k ∧ need2 + 1 ≤ k) : CV s C a (m + 1) k (fun v => lim (r (f v) (g v))) := by
  obtain ⟨ha, hab, hne, hf, hrun⟩ := h
  obtain ⟨ha', hab', hne', hf', hrun'⟩ := h'
  refine ⟨ha, by omega, by omega, fun v _ => lim_in _, fun d e o1 xf xt x5 x6 v last i n u w h1 h2 h3 h4 h5 h6 h7 h8 h9 h10 h11 => ?_⟩
  obtain ⟨d', i', u', w', r1, r2, r3, r4, r5, r6, r7⟩ := hrun d e o1 xf xt x5 x6 v last i n u w h1 h2 h3 (fun j ja jb => h4 j ja (by omega)) h5 h6 (by omega) (by omega) h9 h10 (by omega)
  obtain ⟨d2, i2, u2, w2, s1, s2, s3, s4, s5, s6, s7⟩ := hrun' d' e o1 xf xt x5 x6 v last i' (n + 1) u' w' h1 h2 (h3.of r4) (fun j ja jb => by rw [r4 o1 (by omega) (by omega)]; exact h4 j (by omega) (by omega)) r5 (by omega) (by omega) (by omega) h9 (by omega) (by omega)
  have hc : d2 o1 m.toNat = iI c := by
    have := h4 m.toNat (by omega) (by omega)
    rw [tn_i (by omega), hC] at this
    rw [s4 o1 (by omega) (by omega), r4 o1 (by omega) (by omega)]
    exact this
  have bf := hf v h2
  have bg := hf' v h2
  refine ⟨_, _, _, _, (r1.trans s1).trans (a_run_step (cs_two (x := f v) (y := g v) (z := r (f v) (g v)) h1 hc (by omega) s5 (by omega) (by rw [show n + 1 + 1 - 1 = n + 1 by omega]; exact s6) (by rw [show n + 1 + 1 - 1 - 1 = n by omega, s7 n.toNat (by omega)]; exact r6) (by omega) hcr (fun d'' => hx d'' e v h2) (hr v h2)) rfl), by omega, by omega, ((((r4.trans s4).put (Or.inl rfl)).put (Or.inl rfl)).put (Or.inr rfl)).put (Or.inl rfl), ?_, ?_, fun j hj => ?_⟩
  · rw [uI_hit rfl]
    congr 1
    omega
  · rw [uI_o (by omega), uI_hit (by omega)]
  · rw [uI_o (by omega), uI_miss (by omega), uI_o (by omega), uI_o (by omega), s7 j (by omega)]
    exact r7 j hj
