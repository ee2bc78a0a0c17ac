/-! ===== takes and goes: reference ===== -/
theorem mq_says {d : aI} {e : aJ} {s t : Int} {x : Tx} {y : Option (En → Int)} {v : En} {wo lo : Int} (hx : (t = -1 ∧ y = none) ∨ (0 ≤ t ∧ t < 4 ∧ TxOK x ∧ ML d t s x y ∧ d 111 (681 * t).toNat = iI x.2.1 ∧ ∀ k : Int, 0 ≤ k → k < x.2.1 → d 111 (681 * t + 1 + 3 * k).toNat = iI (x.2.2 k).1)) (hs : 0 ≤ s ∧ s ≤ 1) (hv : EnOK v) (hE : y ≠ none → EnvR s d v) (hlo : -99 ≤ lo ∧ lo ≤ 0) :
    ∃ d' e', FX11_says d e (iI t) (iI s) (iI wo) (iI lo) = some (iI (match y with | none => wo | some f => clampS lo 99 (f v)), d', e') ∧ SameT d d' := by
  unfold FX11_says
  rw [a_run_step (st := stX11_says) (p := (0, [some (.ref 108), some (.int (iI t)), some (.int (iI s)), some (.int (iI wo)), some (.int (iI lo)), none], d, e)) (p2 := (3, [some (.ref 108), some (.int (iI t)), some (.int (iI s)), some (.int (iI wo)), some (.int (iI lo)), some (.int (iI (0 : Nat)))], d, e)) rfl rfl]
  have walk : ∀ (n : Nat), 0 ≤ t → t < 4 → TxOK x → d 111 (681 * t).toNat = iI x.2.1 → (∀ k : Int, 0 ≤ k → k < x.2.1 → d 111 (681 * t + 1 + 3 * k).toNat = iI (x.2.2 k).1) → (n : Int) ≤ x.2.1 → (∀ k : Int, 0 ≤ k → k < n → (x.2.2 k).1 ≠ s) → a_run stX11_says (3, [some (.ref 108), some (.int (iI t)), some (.int (iI s)), some (.int (iI wo)), some (.int (iI lo)), some (.int (iI (0 : Nat)))], d, e) = a_run stX11_says (3, [some (.ref 108), some (.int (iI t)), some (.int (iI s)), some (.int (iI wo)), some (.int (iI lo)), some (.int (iI (n : Nat)))], d, e) := by
    intro n t0 t4 hok hn hk hle hne
    refine run_walk (st := stX11_says) (fun k => (3, [some (.ref 108), some (.int (iI t)), some (.int (iI s)), some (.int (iI wo)), some (.int (iI lo)), some (.int (iI (k : Nat)))], d, e)) n (fun _ => rfl) (fun k hk2 => ?_)
    have c1 := hk k (by omega) (by omega)
    have c2 := hne k (by omega) (by omega)
    have c3 := (hok.2 k (by omega) (by omega)).1
    have c4 := hok.1
    show sX11_says_3 d e (iI t) (iI s) (iI wo) (iI lo) _ = _
    unfold sX11_says_3
    simp (disch := omega) only [nI_iI, lN_lJ, iI_0, lJ_0, iI_add, iI_sub, iI_mul, iI_neg, lJ_add, lJ_sub, lJ_mul, lJ_neg, i_l, l_i, iI_cl, iI_inb, iI_eqT, iI_eqF, iI_ltT, iI_ltF, iI_leT, iI_leF, lJ_eqT, lJ_eqF, lJ_cG, lJ_cE, lJ_cL, lJ_cF, lJ_cGE, lJ_cLE, lJ_cNL, lJ_cNG, Int.cast_ofNat_Int, c_0, c_1, Int.natCast_add, Int.add_zero, cond_true, cond_false, Bool.and_self, Bool.and_true, Bool.true_and, Option.bind_some, decide_true, uI_hit, uI_miss, uI_o, uA_o, uA_s, ↓reduceIte, eq_self, true_or, or_true, or_false, false_or, true_and, and_true, false_and, and_false, or_self, and_self, not_false_eq_true, not_true_eq_false, tn_i, hn, c1]
  cases y with
  | none =>
    refine ⟨d, e, ?_, SameT.refl d⟩
    rcases hx with ⟨h1, _⟩ | ⟨t0, t4, hok, hml, hn, hk⟩
    · subst h1
      rw [a_run_step (st := stX11_says) (p2 := (100000, [some (.int (iI wo))], d, e)) (by
        show sX11_says_3 d e (iI (-1)) (iI s) (iI wo) (iI lo) _ = _
        unfold sX11_says_3
        simp (disch := omega) only [nI_iI, lN_lJ, iI_0, lJ_0, iI_add, iI_sub, iI_mul, iI_neg, lJ_add, lJ_sub, lJ_mul, lJ_neg, i_l, l_i, iI_cl, iI_inb, iI_eqT, iI_eqF, iI_ltT, iI_ltF, iI_leT, iI_leF, lJ_eqT, lJ_eqF, lJ_cG, lJ_cE, lJ_cL, lJ_cF, lJ_cGE, lJ_cLE, lJ_cNL, lJ_cNG, Int.cast_ofNat_Int, c_0, c_1, Int.natCast_add, Int.add_zero, cond_true, cond_false, Bool.and_self, Bool.and_true, Bool.true_and, Option.bind_some, decide_true, uI_hit, uI_miss, uI_o, uA_o, uA_s, ↓reduceIte, eq_self, true_or, or_true, or_false, false_or, true_and, and_true, false_and, and_false, or_self, and_self, not_false_eq_true, not_true_eq_false, tn_i]) rfl, a_run_end]
      rfl
    · have hno : ∀ k : Int, 0 ≤ k → k < x.2.1 → (x.2.2 k).1 ≠ s := hml
      have c4 := hok.1
      rw [walk x.2.1.toNat t0 t4 hok hn hk (by omega) (fun k a b => hno k a (by omega)), tn_i (by omega), a_run_step (st := stX11_says) (p2 := (100000, [some (.int (iI wo))], d, e)) (by
        show sX11_says_3 d e (iI t) (iI s) (iI wo) (iI lo) _ = _
        unfold sX11_says_3
        simp (disch := omega) only [nI_iI, lN_lJ, iI_0, lJ_0, iI_add, iI_sub, iI_mul, iI_neg, lJ_add, lJ_sub, lJ_mul, lJ_neg, i_l, l_i, iI_cl, iI_inb, iI_eqT, iI_eqF, iI_ltT, iI_ltF, iI_leT, iI_leF, lJ_eqT, lJ_eqF, lJ_cG, lJ_cE, lJ_cL, lJ_cF, lJ_cGE, lJ_cLE, lJ_cNL, lJ_cNG, Int.cast_ofNat_Int, c_0, c_1, Int.natCast_add, Int.add_zero, cond_true, cond_false, Bool.and_self, Bool.and_true, Bool.true_and, Option.bind_some, decide_true, uI_hit, uI_miss, uI_o, uA_o, uA_s, ↓reduceIte, eq_self, true_or, or_true, or_false, false_or, true_and, and_true, false_and, and_false, or_self, and_self, not_false_eq_true, not_true_eq_false, tn_i, hn]) rfl, a_run_end]
      rfl
  | some f =>
    rcases hx with ⟨_, h1⟩ | ⟨t0, t4, hok, hml, hn, hk⟩
    · cases h1
    · obtain ⟨k, a, b, O, V, g1, g2, g3, g4, g5, g6, g7⟩ : ∃ (k a b : Int) (O V : Int → Int), (0 ≤ k ∧ k < x.2.1 ∧ (x.2.2 k).1 = s) ∧ (∀ j : Int, 0 ≤ j → j < k → (x.2.2 j).1 ≠ s) ∧ d 111 (681 * t + 1 + 3 * k + 1).toNat = iI a ∧ d 111 (681 * t + 1 + 3 * k + 2).toNat = iI b ∧ RV s O V a b f ∧ b ≤ 300 ∧ (∀ i : Int, a ≤ i → i < b → d 111 (681 * t + 73 + 2 * i).toNat = iI (O i) ∧ d 111 (681 * t + 73 + 2 * i + 1).toNat = iI (V i)) := hml
      have c4 := hok.1
      have c1 := hk k g1.1 g1.2.1
      rw [g1.2.2] at c1
      obtain ⟨d', e', r1, r2, r3⟩ := g5.run (e := e) (t := t) (k := k) hv (hE (fun q => by cases q)) (by omega) g3 g4 g7
      have bd := g5.2.2.1 v hv
      refine ⟨d', e', ?_, r2⟩
      have hh : FX11_held d' e' (lJ (f v)) (iI lo) (iI 99) = some (iI (clampS lo 99 (f v)), d', e') := mq_held (by omega)
      rw [walk k.toNat t0 t4 hok hn hk (by omega) (fun j a b => g2 j a (by omega)), tn_i (by omega), a_run_step (st := stX11_says) (p2 := (100000, [some (.int (iI (clampS lo 99 (f v))))], d', e')) (by
        show sX11_says_3 d e (iI t) (iI s) (iI wo) (iI lo) _ = _
        unfold sX11_says_3
        simp (disch := omega) only [nI_iI, lN_lJ, iI_0, lJ_0, iI_add, iI_sub, iI_mul, iI_neg, lJ_add, lJ_sub, lJ_mul, lJ_neg, i_l, l_i, iI_cl, iI_inb, iI_eqT, iI_eqF, iI_ltT, iI_ltF, iI_leT, iI_leF, lJ_eqT, lJ_eqF, lJ_cG, lJ_cE, lJ_cL, lJ_cF, lJ_cGE, lJ_cLE, lJ_cNL, lJ_cNG, Int.cast_ofNat_Int, c_0, c_1, Int.natCast_add, Int.add_zero, cond_true, cond_false, Bool.and_self, Bool.and_true, Bool.true_and, Option.bind_some, decide_true, uI_hit, uI_miss, uI_o, uA_o, uA_s, ↓reduceIte, eq_self, true_or, or_true, or_false, false_or, true_and, and_true, false_and, and_false, or_self, and_self, not_false_eq_true, not_true_eq_false, tn_i, hn, c1, r1, hh]) rfl, a_run_end]
      rfl
/-- the text of a number, none for -1, as the reference has it -/
def MX (d : aI) (t : Int) (y0 y1 : Option (En → Int)) : Prop := (t = -1 ∧ y0 = none ∧ y1 = none) ∨ (0 ≤ t ∧ t < 4 ∧ ∃ x : Tx, TxOK x ∧ MT d t x ∧ x.1.1 = y0 ∧ x.1.2 = y1)
theorem MX.of {d d' : aI} {t : Int} {y0 y1 : Option (En → Int)} (h : MX d t y0 y1) (g : d' 111 = d 111) : MX d' t y0 y1 := by
  rcases h with h | ⟨a, b, x, h1, h2, h3⟩
  · exact Or.inl h
  · exact Or.inr ⟨a, b, x, h1, h2.of g, h3⟩
theorem MX.says {d : aI} {t : Int} {y0 y1 : Option (En → Int)} (h : MX d t y0 y1) (s : Int) (hs : s = 0 ∨ s = 1) : ∃ x : Tx, (t = -1 ∧ (if s = 0 then y0 else y1) = none) ∨ (0 ≤ t ∧ t < 4 ∧ TxOK x ∧ ML d t s x (if s = 0 then y0 else y1) ∧ d 111 (681 * t).toNat = iI x.2.1 ∧ ∀ k : Int, 0 ≤ k → k < x.2.1 → d 111 (681 * t + 1 + 3 * k).toNat = iI (x.2.2 k).1) := by
  rcases h with ⟨h1, h2, h3⟩ | ⟨a, b, x, h1, h2, h3, h4⟩
  · refine ⟨((none, none), 0, fun _ => (0, 0, 0)), Or.inl ⟨h1, ?_⟩⟩
    split
    · exact h2
    · exact h3
  · refine ⟨x, Or.inr ⟨a, b, h1, ?_, h2.2.2.1, fun k k0 k1 => (h2.2.2.2 k k0 k1).1⟩⟩
    rcases hs with rfl | rfl
    · rw [if_pos rfl, ← h3]; exact h2.1
    · rw [if_neg (by omega), ← h4]; exact h2.2.1
theorem mq_takesOf {d : aI} {e : aJ} {A : Int → Int} (hA : MA d 109 A) (hW : WN A) {t c h : Int} {y0 y1 : Option (En → Int)} (hX : MX d t y0 y1) (hc : 0 ≤ c ∧ c < A 1) (hh : 0 ≤ h ∧ h < A 0) : ∃ d' e', FX11_takesOf d e (iI t) (iI c) (iI h) = some (iI (takesS A y0 c h), d', e') ∧ (∀ o, o ≠ 114 → o ≠ 116 → d' o = d o) := by
  have w0 := hW.1
  have w1 := hW.2.1
  obtain ⟨d1, q1, q2, q3⟩ := mq_name (e := e) hA hW hc
  have a1 : MA d1 109 A := hA.of (q2 109 (by omega))
  have g1 := mq_getOf (e := e) a1 (c := h) (w := 0) (by omega)
  rw [show 30 + 2 * h + 0 = 30 + 2 * h by omega] at g1
  have a2 : MA (uI d1 114 5 (iI (A (30 + 2 * h)))) 109 A := a1.of (uI_o (by omega))
  have g2 := mq_getOf (e := e) a2 (c := h) (w := 1) (by omega)
  have fr : ∀ o, o ≠ 114 → uI (uI d1 114 5 (iI (A (30 + 2 * h)))) 114 6 (iI (A (30 + 2 * h + 1))) o = d o := fun o ho => by rw [uI_o ho, uI_o ho]; exact q2 o ho
  have a3 : MA (uI (uI d1 114 5 (iI (A (30 + 2 * h)))) 114 6 (iI (A (30 + 2 * h + 1)))) 109 A := hA.of (fr 109 (by omega))
  have r54 : uI d1 114 5 (iI (A (30 + 2 * h))) 109 (54 + c).toNat = iI (A (54 + c)) := by
    rw [uI_o (by omega)]
    exact a1.cell (by omega)
  obtain ⟨x, hx⟩ := (hX.of (fr 111 (by omega))).says 0 (Or.inl rfl)
  rw [if_pos rfl] at hx
  have hE : EnvR 0 (uI (uI d1 114 5 (iI (A (30 + 2 * h)))) 114 6 (iI (A (30 + 2 * h + 1)))) (envT A c h) := by
    intro d' hs
    refine ⟨fun k hk hn => ?_, fun z e' z0 z1 => mq_chill (a3.of (hs 109 (by omega))) hW ⟨z0, z1⟩⟩
    rw [hs 114 (by omega)]
    unfold nmOK at hn
    rcases (show k = 0 ∨ k = 1 ∨ k = 2 ∨ k = 3 ∨ k = 4 ∨ k = 5 ∨ k = 6 by omega) with rfl | rfl | rfl | rfl | rfl | rfl | rfl
    · rw [uI_miss (by omega), uI_miss (by omega)]; exact q3 0 (by omega)
    · rw [uI_miss (by omega), uI_miss (by omega)]; exact q3 1 (by omega)
    · rw [uI_miss (by omega), uI_miss (by omega)]; exact q3 2 (by omega)
    · rw [uI_miss (by omega), uI_miss (by omega)]; exact q3 3 (by omega)
    · rw [uI_miss (by omega), uI_miss (by omega)]; exact q3 4 (by omega)
    · rw [uI_miss (by omega), uI_hit rfl]; rfl
    · rw [uI_hit rfl]; rfl
  obtain ⟨d', e', r1, r2⟩ := mq_says (e := e) (v := envT A c h) (wo := A (54 + c)) (lo := 0) hx (by omega) (envT_ok hW hc hh) (fun _ => hE) (by omega)
  refine ⟨d', e', ?_, fun o o1 o2 => by rw [r2 o o2]; exact fr o o1⟩
  unfold FX11_takesOf
  simp (disch := omega) only [nI_iI, lN_lJ, iI_0, lJ_0, iI_add, iI_sub, iI_mul, iI_neg, lJ_add, lJ_sub, lJ_mul, lJ_neg, i_l, l_i, iI_cl, iI_inb, iI_eqT, iI_eqF, iI_ltT, iI_ltF, iI_leT, iI_leF, lJ_eqT, lJ_eqF, lJ_cG, lJ_cE, lJ_cL, lJ_cF, lJ_cGE, lJ_cLE, lJ_cNL, lJ_cNG, Int.cast_ofNat_Int, c_0, c_1, Int.natCast_add, Int.add_zero, cond_true, cond_false, Bool.and_self, Bool.and_true, Bool.true_and, Option.bind_some, decide_true, uI_hit, uI_miss, uI_o, uA_o, uA_s, ↓reduceIte, eq_self, true_or, or_true, or_false, false_or, true_and, and_true, false_and, and_false, or_self, and_self, not_false_eq_true, not_true_eq_false, tn_i, q1, g1, g2, r54, r1]
  rfl
theorem mq_goesOf {d : aI} {e : aJ} {A : Int → Int} (hA : MA d 109 A) (hW : WN A) {c : Int} {y0 y1 : Option (En → Int)} (hX : MX d (A 3) y0 y1) (hc : 0 ≤ c ∧ c < A 1) : ∃ d' e', FX11_goesOf d e (iI c) = some (iI (goesS A y1 c), d', e') ∧ (∀ o, o ≠ 114 → o ≠ 116 → d' o = d o) := by
  have w0 := hW.1
  have w1 := hW.2.1
  obtain ⟨d1, q1, q2, q3⟩ := mq_name (e := e) hA hW hc
  have a1 : MA d1 109 A := hA.of (q2 109 (by omega))
  have r3 : d1 109 3 = iI (A 3) := a1.cell (j := 3) (by omega)
  obtain ⟨x, hx⟩ := (hX.of (q2 111 (by omega))).says 1 (Or.inr rfl)
  rw [if_neg (by omega)] at hx
  -- two of its names are what they were
  have hE : EnvR 1 d1 (envG A c) := by
    intro d' hs
    refine ⟨fun k hk hn => ?_, fun z e' z0 z1 => mq_chill (a1.of (hs 109 (by omega))) hW ⟨z0, z1⟩⟩
    rw [hs 114 (by omega)]
    unfold nmOK at hn
    exact q3 k (by omega)
  obtain ⟨d', e', r1, r2⟩ := mq_says (e := e) (v := envG A c) (wo := 0) (lo := -99) hx (by omega) (envG_ok hW hc) (fun _ => hE) (by omega)
  refine ⟨d', e', ?_, fun o o1 o2 => by rw [r2 o o2]; exact q2 o o1⟩
  unfold FX11_goesOf
  simp (disch := omega) only [nI_iI, lN_lJ, iI_0, lJ_0, iI_add, iI_sub, iI_mul, iI_neg, lJ_add, lJ_sub, lJ_mul, lJ_neg, i_l, l_i, iI_cl, iI_inb, iI_eqT, iI_eqF, iI_ltT, iI_ltF, iI_leT, iI_leF, lJ_eqT, lJ_eqF, lJ_cG, lJ_cE, lJ_cL, lJ_cF, lJ_cGE, lJ_cLE, lJ_cNL, lJ_cNG, Int.cast_ofNat_Int, c_0, c_1, Int.natCast_add, Int.add_zero, cond_true, cond_false, Bool.and_self, Bool.and_true, Bool.true_and, Option.bind_some, decide_true, uI_hit, uI_miss, uI_o, uA_o, uA_s, ↓reduceIte, eq_self, true_or, or_true, or_false, false_or, true_and, and_true, false_and, and_false, or_self, and_self, not_false_eq_true, not_true_eq_false, tn_i, q1, r3, r1]
  rfl
