/-! ===== the class reads: parts ===== -/
theorem tkT_in {tp : Nat → Int} (h : ∀ j, 0 ≤ tp j ∧ tp j ≤ 255) {L i : Nat} : (tkT tp L i = 1 ↔ (¬ltT (tp i) ∧ fgT (tp i))) ∧ 1 ≤ tkT tp L i ∧ tkT tp L i ≤ 325 := by
  have g := h i
  unfold tkT
  by_cases q1 : ltT (tp i)
  · rw [if_pos q1]
    have fl := fnd_le (p := fun w => wmT tp i (rnE ltT tp L i - i) w) 26
    unfold wkT
    by_cases f : fnd (fun w => wmT tp i (rnE ltT tp L i - i) w) 26 = -1
    · rw [if_pos f]; exact ⟨⟨fun z => by omega, fun z => absurd q1 z.1⟩, by omega, by omega⟩
    · rw [if_neg f]; exact ⟨⟨fun z => by omega, fun z => absurd q1 z.1⟩, by omega, by omega⟩
  · rw [if_neg q1]
    by_cases q2 : fgT (tp i)
    · rw [if_pos q2]; exact ⟨⟨fun _ => ⟨q1, q2⟩, fun _ => rfl⟩, by omega, by omega⟩
    · rw [if_neg q2]
      by_cases q3 : dbT tp L i
      · rw [if_pos q3]
        by_cases q6 : tp i = 60
        · rw [if_pos q6]; exact ⟨⟨fun z => by omega, fun z => absurd z.2 q2⟩, by omega, by omega⟩
        · rw [if_neg q6]; exact ⟨⟨fun z => by omega, fun z => absurd z.2 q2⟩, by omega, by omega⟩
      · rw [if_neg q3]
        by_cases q4 : sgT (tp i)
        · rw [if_pos q4]; exact ⟨⟨fun z => by omega, fun z => absurd z.2 q2⟩, by omega, by omega⟩
        · rw [if_neg q4]; exact ⟨⟨fun z => by omega, fun z => absurd z.2 q2⟩, by omega, by omega⟩
theorem KT_in {tp : Nat → Int} (h : ∀ j, 0 ≤ tp j ∧ tp j ≤ 255) {L : Nat} (t : Nat) : 0 ≤ KT tp L t ∧ KT tp L t ≤ 325 ∧ (KT tp L t ≠ 0 ↔ psT tp L t < L) ∧ (KT tp L t = 1 → fgT (tp (psT tp L t))) := by
  have g := tkT_in h (L := L) (i := psT tp L t)
  unfold KT
  by_cases q : psT tp L t < L
  · rw [if_pos q]
    exact ⟨by omega, by omega, ⟨fun _ => q, fun _ => by omega⟩, fun z => (g.1.mp z).2⟩
  · rw [if_neg q]
    exact ⟨by omega, by omega, ⟨fun z => absurd rfl z, fun z => absurd z q⟩, fun z => by omega⟩
theorem VT_in {tp : Nat → Int} {L t : Nat} : 0 ≤ VT tp L t ∧ VT tp L t ≤ 10000 := by
  unfold VT
  have r := rnE_in (p := fgT) (tp := tp) (L := L) (i := psT tp L t) (psT_le t)
  exact vlT_in _ (fun j hj => r.2.2.1 _ (by omega) (by omega))
/-- the class stands at the i-th token, u cells are written -/
def CX (d : aI) (tp : Nat → Int) (L N i u : Nat) : Prop := TKC d tp L N ∧ (∀ j, 0 ≤ tp j ∧ tp j ≤ 255) ∧ L ≤ 300 ∧ i ≤ N ∧ u ≤ 300 ∧ d 83 9 = iI (i : Nat) ∧ d 83 10 = iI (KT tp L i) ∧ d 88 5 = iI (u : Nat)
def CS (d : aI) (tp : Nat → Int) (L N : Nat) (s : Int) (i u : Nat) : Prop := CX d tp L N i u ∧ d 83 3 = iI 0 ∧ (d 83 11 = iI (300 + s) ∧ d 83 4 = iI (-1)) ∧ u ≤ psT tp L i
def FS (d : aI) (tp : Nat → Int) (L N : Nat) (n : Int) (p : Nat) : Prop := ∃ i u, CX d tp L N i u ∧ d 83 3 = iI n ∧ d 83 4 = iI (p : Nat) ∧ 1 ≤ n ∧ n ≤ 6
/-- what reading leaves -/
def KC (d d' : aI) : Prop := ∀ o j, o ≠ 92 → (o ≠ 88 ∨ j ≠ 5) → (o ≠ 83 ∨ (j ≠ 3 ∧ j ≠ 4 ∧ j ≠ 9 ∧ j ≠ 10)) → d' o j = d o j
theorem KC.refl (d : aI) : KC d d := fun _ _ _ _ _ => rfl
theorem KC.trans {d d1 d2 : aI} (h : KC d d1) (h2 : KC d1 d2) : KC d d2 := fun o j a b c => (h2 o j a b c).trans (h o j a b c)
theorem KC.obj {d d' : aI} (h : KC d d') {o : Nat} (h1 : o ≠ 92) (h2 : o ≠ 88) (h3 : o ≠ 83) : d' o = d o := by funext j; exact h o j h1 (Or.inl h2) (Or.inl h3)
theorem KC.put {d : aI} {o j : Nat} {v : Int32} (ho : o = 92 ∨ (o = 88 ∧ j = 5) ∨ (o = 83 ∧ (j = 3 ∨ j = 4 ∨ j = 9 ∨ j = 10))) : KC d (uI d o j v) := fun o2 j2 a b c => by
  by_cases q : o2 = o
  · rw [q, uI_miss (by omega)]
  · rw [uI_o q]
theorem TKC.of {d d' : aI} {tp : Nat → Int} {L N : Nat} (h : TKC d tp L N) (g : KC d d') : TKC d' tp L N := by
  obtain ⟨a, b, c, f, k, m⟩ := h
  refine ⟨a, b, c, fun t ht => ?_, fun t ht hf => ?_, ?_⟩
  · rw [g.obj (o := 85) (by omega) (by omega) (by omega), g.obj (o := 86) (by omega) (by omega) (by omega)]; exact f t ht
  · rw [g.obj (o := 87) (by omega) (by omega) (by omega)]; exact k t ht hf
  · rw [g 83 8 (by omega) (by omega) (by omega)]; exact m
theorem CX.lt {d : aI} {tp : Nat → Int} {L N i u : Nat} (h : CX d tp L N i u) : (KT tp L i ≠ 0 ↔ i < N) ∧ (i < N → psT tp L i + 1 ≤ psT tp L (i + 1)) ∧ psT tp L i ≤ 300 := by
  obtain ⟨⟨h1, h2, h3, _⟩, h4, h5, h6, _⟩ := h
  have k := (KT_in h4 (L := L) i).2.2.1
  refine ⟨⟨fun z => ?_, fun z => k.mpr (h3 i z)⟩, fun z => (psT_lt (h3 i z)).1, by have := psT_le (tp := tp) (L := L) i; omega⟩
  by_cases q : i = N
  · rw [q] at z k; have := k.mp z; omega
  · omega
theorem c5_next {d : aI} {e : aJ} {tp : Nat → Int} {L N i u : Nat} (h : CX d tp L N i u) (hi : i < N) : FX5_next d e = some ((), uI (uI d 83 9 (iI (i + 1 : Nat))) 83 10 (iI (KT tp L (i + 1))), e) ∧ CX (uI (uI d 83 9 (iI (i + 1 : Nat))) 83 10 (iI (KT tp L (i + 1)))) tp L N (i + 1) u ∧ KC d (uI (uI d 83 9 (iI (i + 1 : Nat))) 83 10 (iI (KT tp L (i + 1)))) := by
  have kc : KC d (uI (uI d 83 9 (iI (i + 1 : Nat))) 83 10 (iI (KT tp L (i + 1)))) := (KC.put (by omega)).trans (KC.put (by omega))
  obtain ⟨h1, h2, h3, h4, h5, h6, h7, h8⟩ := h
  have n3 := h1.1
  have k1 := (h1.2.2.2.1 (i + 1) (by omega)).1
  have k8 := h1.2.2.2.2.2
  refine ⟨?_, ⟨h1.of kc, h2, h3, by omega, h5, by rw [uI_miss (by omega), uI_hit rfl], uI_hit rfl, by rw [uI_o (by omega), uI_o (by omega)]; exact h8⟩, kc⟩
  have tn : ((i : Int) + 1).toNat = i + 1 := by omega
  unfold FX5_next
  simp (disch := omega) only [nI_iI, lN_lJ, iI_0, lJ_0, iI_add, iI_sub, iI_mul, iI_neg, lJ_add, lJ_sub, lJ_mul, lJ_neg, i_l, l_i, iI_cl, iI_inb, iI_eqT, iI_eqF, iI_ltT, iI_ltF, iI_leT, iI_leF, lJ_eqT, lJ_eqF, lJ_cG, lJ_cE, lJ_cL, lJ_cF, lJ_cGE, lJ_cLE, lJ_cNL, lJ_cNG, Int.cast_ofNat_Int, c_0, c_1, Int.natCast_add, Int.add_zero, cond_true, cond_false, Bool.and_self, Bool.and_true, Bool.true_and, Option.bind_some, decide_true, uI_hit, uI_miss, uI_o, uA_o, uA_s, ↓reduceIte, eq_self, true_or, or_true, or_false, false_or, true_and, and_true, false_and, and_false, or_self, and_self, not_false_eq_true, not_true_eq_false, tn_i, h6, k8, tn, k1]
theorem CS.next {d : aI} {e : aJ} {tp : Nat → Int} {L N i u : Nat} {s : Int} (h : CS d tp L N s i u) (hi : i < N) : ∃ d', FX5_next d e = some ((), d', e) ∧ CS d' tp L N s (i + 1) u ∧ KC d d' ∧ d' 92 = d 92 := by
  obtain ⟨a, b, c⟩ := c5_next (e := e) h.1 hi
  have lt := h.1.lt.2.1 hi
  refine ⟨_, a, ⟨b, ?_, ?_, by have := h.2.2.2; omega⟩, c, ?_⟩
  · rw [uI_miss (by omega), uI_miss (by omega)]; exact h.2.1
  · exact ⟨by rw [uI_miss (by omega), uI_miss (by omega)]; exact h.2.2.1.1, by rw [uI_miss (by omega), uI_miss (by omega)]; exact h.2.2.1.2⟩
  · rw [uI_o (by omega), uI_o (by omega)]
theorem FS.next {d : aI} {e : aJ} {tp : Nat → Int} {L N : Nat} {n : Int} {p i u : Nat} (h : CX d tp L N i u) (h3 : d 83 3 = iI n) (h4 : d 83 4 = iI (p : Nat)) (hn : 1 ≤ n ∧ n ≤ 6) (hi : i < N) : ∃ d', FX5_next d e = some ((), d', e) ∧ FS d' tp L N n p ∧ KC d d' := by
  obtain ⟨a, b, c⟩ := c5_next (e := e) h hi
  refine ⟨_, a, ⟨i + 1, u, b, ?_, ?_, hn⟩, c⟩
  · rw [uI_miss (by omega), uI_miss (by omega)]; exact h3
  · rw [uI_miss (by omega), uI_miss (by omega)]; exact h4
theorem c5_blame {d : aI} {e : aJ} {tp : Nat → Int} {L N i u : Nat} {n : Int} (h : CX d tp L N i u) (h3 : d 83 3 = iI 0) (hn : 1 ≤ n ∧ n ≤ 6) : ∃ d', FX5_blame d e (iI n) = some ((), d', e) ∧ FS d' tp L N n (psT tp L i) ∧ KC d d' := by
  have kc : KC d (uI (uI d 83 3 (iI n)) 83 4 (iI (psT tp L i : Nat))) := (KC.put (by omega)).trans (KC.put (by omega))
  obtain ⟨a1, a2, a3, a4, a5, a6, a7, a8⟩ := h
  have n3 := a1.1
  have k1 := (a1.2.2.2.1 i a4).2
  refine ⟨_, ?_, ⟨i, u, ⟨a1.of kc, a2, a3, a4, a5, ?_, ?_, ?_⟩, ?_, uI_hit rfl, hn⟩, kc⟩
  · unfold FX5_blame
    simp (disch := omega) only [nI_iI, lN_lJ, iI_0, lJ_0, iI_add, iI_sub, iI_mul, iI_neg, lJ_add, lJ_sub, lJ_mul, lJ_neg, i_l, l_i, iI_cl, iI_inb, iI_eqT, iI_eqF, iI_ltT, iI_ltF, iI_leT, iI_leF, lJ_eqT, lJ_eqF, lJ_cG, lJ_cE, lJ_cL, lJ_cF, lJ_cGE, lJ_cLE, lJ_cNL, lJ_cNG, Int.cast_ofNat_Int, c_0, c_1, Int.natCast_add, Int.add_zero, cond_true, cond_false, Bool.and_self, Bool.and_true, Bool.true_and, Option.bind_some, decide_true, uI_hit, uI_miss, uI_o, uA_o, uA_s, ↓reduceIte, eq_self, true_or, or_true, or_false, false_or, true_and, and_true, false_and, and_false, or_self, and_self, not_false_eq_true, not_true_eq_false, tn_i, Int.toNat_natCast, h3, a6, k1]
  · rw [uI_miss (by omega), uI_miss (by omega)]; exact a6
  · rw [uI_miss (by omega), uI_miss (by omega)]; exact a7
  · rw [uI_o (by omega), uI_o (by omega)]; exact a8
  · rw [uI_miss (by omega), uI_hit rfl]
theorem c5_blameF {d : aI} {e : aJ} {m n : Int} (h3 : d 83 3 = iI n) (hn : 1 ≤ n ∧ n ≤ 6) : FX5_blame d e (iI m) = some ((), d, e) := by
  unfold FX5_blame
  simp (disch := omega) only [nI_iI, lN_lJ, iI_0, lJ_0, iI_add, iI_sub, iI_mul, iI_neg, lJ_add, lJ_sub, lJ_mul, lJ_neg, i_l, l_i, iI_cl, iI_inb, iI_eqT, iI_eqF, iI_ltT, iI_ltF, iI_leT, iI_leF, lJ_eqT, lJ_eqF, lJ_cG, lJ_cE, lJ_cL, lJ_cF, lJ_cGE, lJ_cLE, lJ_cNL, lJ_cNG, Int.cast_ofNat_Int, c_0, c_1, Int.natCast_add, Int.add_zero, cond_true, cond_false, Bool.and_self, Bool.and_true, Bool.true_and, Option.bind_some, decide_true, uI_hit, uI_miss, uI_o, uA_o, uA_s, ↓reduceIte, eq_self, true_or, or_true, or_false, false_or, true_and, and_true, false_and, and_false, or_self, and_self, not_false_eq_true, not_true_eq_false, tn_i, h3]
theorem c5_expF {d : aI} {e : aJ} {tp : Nat → Int} {L N : Nat} {n c : Int} {p : Nat} (h : FS d tp L N n p) (hc : 1 ≤ c ∧ c ≤ 325) : ∃ d', FX5_expect d e (iI c) = some ((), d', e) ∧ FS d' tp L N n p ∧ KC d d' := by
  obtain ⟨i, u, h1, h2, h3, h4⟩ := h
  have kr := KT_in h1.2.1 (L := L) i
  have k10 := h1.2.2.2.2.2.2.1
  by_cases q : KT tp L i = c
  · have hi : i < N := (h1.lt.1).mp (by omega)
    obtain ⟨d', x, y, z⟩ := FS.next (e := e) h1 h2 h3 h4 hi
    refine ⟨d', ?_, y, z⟩
    rw [q] at k10
    unfold FX5_expect
    simp (disch := omega) only [nI_iI, lN_lJ, iI_0, lJ_0, iI_add, iI_sub, iI_mul, iI_neg, lJ_add, lJ_sub, lJ_mul, lJ_neg, i_l, l_i, iI_cl, iI_inb, iI_eqT, iI_eqF, iI_ltT, iI_ltF, iI_leT, iI_leF, lJ_eqT, lJ_eqF, lJ_cG, lJ_cE, lJ_cL, lJ_cF, lJ_cGE, lJ_cLE, lJ_cNL, lJ_cNG, Int.cast_ofNat_Int, c_0, c_1, Int.natCast_add, Int.add_zero, cond_true, cond_false, Bool.and_self, Bool.and_true, Bool.true_and, Option.bind_some, decide_true, uI_hit, uI_miss, uI_o, uA_o, uA_s, ↓reduceIte, eq_self, true_or, or_true, or_false, false_or, true_and, and_true, false_and, and_false, or_self, and_self, not_false_eq_true, not_true_eq_false, tn_i, k10, x]
  · have bl := c5_blameF (e := e) (m := 1) h2 h4
    refine ⟨d, ?_, ⟨i, u, h1, h2, h3, h4⟩, KC.refl d⟩
    unfold FX5_expect
    simp (disch := omega) only [nI_iI, lN_lJ, iI_0, lJ_0, iI_add, iI_sub, iI_mul, iI_neg, lJ_add, lJ_sub, lJ_mul, lJ_neg, i_l, l_i, iI_cl, iI_inb, iI_eqT, iI_eqF, iI_ltT, iI_ltF, iI_leT, iI_leF, lJ_eqT, lJ_eqF, lJ_cG, lJ_cE, lJ_cL, lJ_cF, lJ_cGE, lJ_cLE, lJ_cNL, lJ_cNG, Int.cast_ofNat_Int, c_0, c_1, Int.natCast_add, Int.add_zero, cond_true, cond_false, Bool.and_self, Bool.and_true, Bool.true_and, Option.bind_some, decide_true, uI_hit, uI_miss, uI_o, uA_o, uA_s, ↓reduceIte, eq_self, true_or, or_true, or_false, false_or, true_and, and_true, false_and, and_false, or_self, and_self, not_false_eq_true, not_true_eq_false, tn_i, k10, bl]
theorem c5_exp {d : aI} {e : aJ} {tp : Nat → Int} {L N i u : Nat} {s c : Int} (h : CS d tp L N s i u) (hc : 1 ≤ c ∧ c ≤ 325) : (KT tp L i = c → ∃ d', FX5_expect d e (iI c) = some ((), d', e) ∧ CS d' tp L N s (i + 1) u ∧ KC d d' ∧ d' 92 = d 92 ∧ i < N) ∧ (KT tp L i ≠ c → ∃ d', FX5_expect d e (iI c) = some ((), d', e) ∧ FS d' tp L N 1 (psT tp L i) ∧ KC d d') := by
  have kr := KT_in h.1.2.1 (L := L) i
  have k10 := h.1.2.2.2.2.2.2.1
  constructor
  · intro q
    have hi : i < N := (h.1.lt.1).mp (by omega)
    obtain ⟨d', x, y, z, w⟩ := h.next (e := e) hi
    refine ⟨d', ?_, y, z, w, hi⟩
    rw [q] at k10
    unfold FX5_expect
    simp (disch := omega) only [nI_iI, lN_lJ, iI_0, lJ_0, iI_add, iI_sub, iI_mul, iI_neg, lJ_add, lJ_sub, lJ_mul, lJ_neg, i_l, l_i, iI_cl, iI_inb, iI_eqT, iI_eqF, iI_ltT, iI_ltF, iI_leT, iI_leF, lJ_eqT, lJ_eqF, lJ_cG, lJ_cE, lJ_cL, lJ_cF, lJ_cGE, lJ_cLE, lJ_cNL, lJ_cNG, Int.cast_ofNat_Int, c_0, c_1, Int.natCast_add, Int.add_zero, cond_true, cond_false, Bool.and_self, Bool.and_true, Bool.true_and, Option.bind_some, decide_true, uI_hit, uI_miss, uI_o, uA_o, uA_s, ↓reduceIte, eq_self, true_or, or_true, or_false, false_or, true_and, and_true, false_and, and_false, or_self, and_self, not_false_eq_true, not_true_eq_false, tn_i, k10, x]
  · intro q
    obtain ⟨d', x, y, z⟩ := c5_blame (e := e) (n := 1) h.1 h.2.1 (by omega)
    refine ⟨d', ?_, y, z⟩
    unfold FX5_expect
    simp (disch := omega) only [nI_iI, lN_lJ, iI_0, lJ_0, iI_add, iI_sub, iI_mul, iI_neg, lJ_add, lJ_sub, lJ_mul, lJ_neg, i_l, l_i, iI_cl, iI_inb, iI_eqT, iI_eqF, iI_ltT, iI_ltF, iI_leT, iI_leF, lJ_eqT, lJ_eqF, lJ_cG, lJ_cE, lJ_cL, lJ_cF, lJ_cGE, lJ_cLE, lJ_cNL, lJ_cNG, Int.cast_ofNat_Int, c_0, c_1, Int.natCast_add, Int.add_zero, cond_true, cond_false, Bool.and_self, Bool.and_true, Bool.true_and, Option.bind_some, decide_true, uI_hit, uI_miss, uI_o, uA_o, uA_s, ↓reduceIte, eq_self, true_or, or_true, or_false, false_or, true_and, and_true, false_and, and_false, or_self, and_self, not_false_eq_true, not_true_eq_false, tn_i, k10, x]
theorem c5_put {d : aI} {e : aJ} {x : Int32} {u : Nat} (h5 : d 88 5 = iI (u : Nat)) (hu : u < 300) : FX7_put d e x = some (iI (u : Nat), uI (uI d 92 u x) 88 5 (iI (u + 1 : Nat)), e) := by
  unfold FX7_put
  simp (disch := omega) only [nI_iI, lN_lJ, iI_0, lJ_0, iI_add, iI_sub, iI_mul, iI_neg, lJ_add, lJ_sub, lJ_mul, lJ_neg, i_l, l_i, iI_cl, iI_inb, iI_eqT, iI_eqF, iI_ltT, iI_ltF, iI_leT, iI_leF, lJ_eqT, lJ_eqF, lJ_cG, lJ_cE, lJ_cL, lJ_cF, lJ_cGE, lJ_cLE, lJ_cNL, lJ_cNG, Int.cast_ofNat_Int, c_0, c_1, Int.natCast_add, Int.add_zero, cond_true, cond_false, Bool.and_self, Bool.and_true, Bool.true_and, Option.bind_some, decide_true, uI_hit, uI_miss, uI_o, uA_o, uA_s, ↓reduceIte, eq_self, true_or, or_true, or_false, false_or, true_and, and_true, false_and, and_false, or_self, and_self, not_false_eq_true, not_true_eq_false, tn_i, Int.toNat_natCast, h5, Int.add_sub_cancel]
theorem CS.put {d : aI} {e : aJ} {x : Int32} {tp : Nat → Int} {L N i u : Nat} {s : Int} (h : CS d tp L N s i u) (hu : u + 1 ≤ psT tp L i) : FX7_put d e x = some (iI (u : Nat), uI (uI d 92 u x) 88 5 (iI (u + 1 : Nat)), e) ∧ CS (uI (uI d 92 u x) 88 5 (iI (u + 1 : Nat))) tp L N s i (u + 1) ∧ KC d (uI (uI d 92 u x) 88 5 (iI (u + 1 : Nat))) := by
  have p3 := h.1.lt.2.2
  have kc : KC d (uI (uI d 92 u x) 88 5 (iI (u + 1 : Nat))) := (KC.put (by omega)).trans (KC.put (by omega))
  obtain ⟨⟨a1, a2, a3, a4, a5, a6, a7, a8⟩, b, c, f⟩ := h
  refine ⟨c5_put a8 (by omega), ⟨⟨a1.of kc, a2, a3, a4, by omega, ?_, ?_, uI_hit rfl⟩, ?_, ?_, hu⟩, kc⟩
  · rw [uI_o (by omega), uI_o (by omega)]; exact a6
  · rw [uI_o (by omega), uI_o (by omega)]; exact a7
  · rw [uI_o (by omega), uI_o (by omega)]; exact b
  · exact ⟨by rw [uI_o (by omega), uI_o (by omega)]; exact c.1, by rw [uI_o (by omega), uI_o (by omega)]; exact c.2⟩
theorem FS.put {d : aI} {e : aJ} {x : Int32} {tp : Nat → Int} {L N : Nat} {n : Int} {p : Nat} (h : FS d tp L N n p) : ∃ d' r, FX7_put d e x = some (iI r, d', e) ∧ -1 ≤ r ∧ r ≤ 300 ∧ FS d' tp L N n p ∧ KC d d' := by
  obtain ⟨i, u, ⟨a1, a2, a3, a4, a5, a6, a7, a8⟩, h2, h3, h4⟩ := h
  by_cases q : u < 300
  · have kc : KC d (uI (uI d 92 u x) 88 5 (iI (u + 1 : Nat))) := (KC.put (by omega)).trans (KC.put (by omega))
    refine ⟨_, _, c5_put a8 q, by omega, by omega, ⟨i, u + 1, ⟨a1.of kc, a2, a3, a4, by omega, ?_, ?_, uI_hit rfl⟩, ?_, ?_, h4⟩, kc⟩
    · rw [uI_o (by omega), uI_o (by omega)]; exact a6
    · rw [uI_o (by omega), uI_o (by omega)]; exact a7
    · rw [uI_o (by omega), uI_o (by omega)]; exact h2
    · rw [uI_o (by omega), uI_o (by omega)]; exact h3
  · refine ⟨d, (u : Int) - 1, ?_, by omega, by omega, ⟨i, u, ⟨a1, a2, a3, a4, a5, a6, a7, a8⟩, h2, h3, h4⟩, KC.refl d⟩
    unfold FX7_put
    simp (disch := omega) only [nI_iI, lN_lJ, iI_0, lJ_0, iI_add, iI_sub, iI_mul, iI_neg, lJ_add, lJ_sub, lJ_mul, lJ_neg, i_l, l_i, iI_cl, iI_inb, iI_eqT, iI_eqF, iI_ltT, iI_ltF, iI_leT, iI_leF, lJ_eqT, lJ_eqF, lJ_cG, lJ_cE, lJ_cL, lJ_cF, lJ_cGE, lJ_cLE, lJ_cNL, lJ_cNG, Int.cast_ofNat_Int, c_0, c_1, Int.natCast_add, Int.add_zero, cond_true, cond_false, Bool.and_self, Bool.and_true, Bool.true_and, Option.bind_some, decide_true, uI_hit, uI_miss, uI_o, uA_o, uA_s, ↓reduceIte, eq_self, true_or, or_true, or_false, false_or, true_and, and_true, false_and, and_false, or_self, and_self, not_false_eq_true, not_true_eq_false, tn_i, a8]
theorem FS.land {d : aI} {e : aJ} {tp : Nat → Int} {L N : Nat} {n r : Int} {p : Nat} (h : FS d tp L N n p) (hr : -1 ≤ r ∧ r ≤ 300) : ∃ d', FX7_land d e (iI r) = some ((), d', e) ∧ FS d' tp L N n p ∧ KC d d' := by
  by_cases q : r < 0
  · refine ⟨d, ?_, h, KC.refl d⟩
    unfold FX7_land
    simp (disch := omega) only [nI_iI, lN_lJ, iI_0, lJ_0, iI_add, iI_sub, iI_mul, iI_neg, lJ_add, lJ_sub, lJ_mul, lJ_neg, i_l, l_i, iI_cl, iI_inb, iI_eqT, iI_eqF, iI_ltT, iI_ltF, iI_leT, iI_leF, lJ_eqT, lJ_eqF, lJ_cG, lJ_cE, lJ_cL, lJ_cF, lJ_cGE, lJ_cLE, lJ_cNL, lJ_cNG, Int.cast_ofNat_Int, c_0, c_1, Int.natCast_add, Int.add_zero, cond_true, cond_false, Bool.and_self, Bool.and_true, Bool.true_and, Option.bind_some, decide_true, uI_hit, uI_miss, uI_o, uA_o, uA_s, ↓reduceIte, eq_self, true_or, or_true, or_false, false_or, true_and, and_true, false_and, and_false, or_self, and_self, not_false_eq_true, not_true_eq_false, tn_i]
  · by_cases q2 : 300 ≤ r
    · refine ⟨d, ?_, h, KC.refl d⟩
      unfold FX7_land
      simp (disch := omega) only [nI_iI, lN_lJ, iI_0, lJ_0, iI_add, iI_sub, iI_mul, iI_neg, lJ_add, lJ_sub, lJ_mul, lJ_neg, i_l, l_i, iI_cl, iI_inb, iI_eqT, iI_eqF, iI_ltT, iI_ltF, iI_leT, iI_leF, lJ_eqT, lJ_eqF, lJ_cG, lJ_cE, lJ_cL, lJ_cF, lJ_cGE, lJ_cLE, lJ_cNL, lJ_cNG, Int.cast_ofNat_Int, c_0, c_1, Int.natCast_add, Int.add_zero, cond_true, cond_false, Bool.and_self, Bool.and_true, Bool.true_and, Option.bind_some, decide_true, uI_hit, uI_miss, uI_o, uA_o, uA_s, ↓reduceIte, eq_self, true_or, or_true, or_false, false_or, true_and, and_true, false_and, and_false, or_self, and_self, not_false_eq_true, not_true_eq_false, tn_i]
    · obtain ⟨i, u, ⟨a1, a2, a3, a4, a5, a6, a7, a8⟩, h2, h3, h4⟩ := h
      have kc : KC d (uI d 92 r.toNat (iI (u : Nat))) := KC.put (by omega)
      refine ⟨_, ?_, ⟨i, u, ⟨a1.of kc, a2, a3, a4, a5, ?_, ?_, ?_⟩, ?_, ?_, h4⟩, kc⟩
      · unfold FX7_land
        simp (disch := omega) only [nI_iI, lN_lJ, iI_0, lJ_0, iI_add, iI_sub, iI_mul, iI_neg, lJ_add, lJ_sub, lJ_mul, lJ_neg, i_l, l_i, iI_cl, iI_inb, iI_eqT, iI_eqF, iI_ltT, iI_ltF, iI_leT, iI_leF, lJ_eqT, lJ_eqF, lJ_cG, lJ_cE, lJ_cL, lJ_cF, lJ_cGE, lJ_cLE, lJ_cNL, lJ_cNG, Int.cast_ofNat_Int, c_0, c_1, Int.natCast_add, Int.add_zero, cond_true, cond_false, Bool.and_self, Bool.and_true, Bool.true_and, Option.bind_some, decide_true, uI_hit, uI_miss, uI_o, uA_o, uA_s, ↓reduceIte, eq_self, true_or, or_true, or_false, false_or, true_and, and_true, false_and, and_false, or_self, and_self, not_false_eq_true, not_true_eq_false, tn_i, a8]
      · rw [uI_o (by omega)]; exact a6
      · rw [uI_o (by omega)]; exact a7
      · rw [uI_o (by omega)]; exact a8
      · rw [uI_o (by omega)]; exact h2
      · rw [uI_o (by omega)]; exact h3
/-- what comes of reading a part: a fault, or the law's cells -/
def CR {α : Type} (val : α → Fn) (tp : Nat → Int) (L N : Nat) (s : Int) (need : Int) (d d' : aI) (i a : Nat) (x : Rs α) : Prop := match x with
  | .inl b => FS d' tp L N b.1 (psT tp L b.2)
  | .inr q => ∃ (C : Int → Int) (b : Nat), CS d' tp L N s q.1 b ∧ CV s C a b need (val q.2) ∧ (∀ j : Nat, a ≤ j → j < b → d' 92 j = iI (C j)) ∧ (∀ j : Nat, j < a → d' 92 j = d 92 j) ∧ b + psT tp L i ≤ a + psT tp L q.1 ∧ i < q.1
def CSim {α : Type} (val : α → Fn) (tp : Nat → Int) (L N : Nat) (s : Int) (need : Int) (F : aI → aJ → Option (Unit × aI × aJ)) (x : Nat → Rs α) : Prop := ∀ d e i a, CS d tp L N s i a → ∃ d', F d e = some ((), d', e) ∧ CR val tp L N s need d d' i a (x i) ∧ KC d d'
def CF (tp : Nat → Int) (L N : Nat) (F : aI → aJ → Option (Unit × aI × aJ)) : Prop := ∀ d e n p, FS d tp L N n p → ∃ d', F d e = some ((), d', e) ∧ FS d' tp L N n p ∧ KC d d'
theorem c5_loop {α : Type} {val : α → Fn} {tp : Nat → Int} {L N : Nat} {s need nsub : Int} {st : aP → Option aP} {T : Nat → Option Value → aL} {op : Int → Option (α → α → α)} {sub : Nat → Rs α} {F : aI → aJ → Option (Unit × aI × aJ)}
    (hsub : CSim val tp L N s nsub F sub) (op0 : op 0 = none) (e : aJ)
    (hop : ∀ (d : aI) (c : Int) (g : α → α → α) (cnt : Nat) (v : Option Value) (d1 d2 d3 : aI) (r : Int32), 0 ≤ c ∧ c ≤ 325 → op c = some g → cnt < 300 → d 83 3 = iI 0 → d 83 10 = iI c → FX5_next d e = some ((), d1, e) → F d1 e = some ((), d2, e) → FX7_put d2 e (iI c) = some (r, d3, e) → ∃ v', st (7, T cnt v, d, e) = some (7, T (cnt + 1) v', d3, e))
    (hend : ∀ (d : aI) (c : Int) (cnt : Nat) (v : Option Value), 0 ≤ c ∧ c ≤ 325 → op c = none → cnt ≤ 300 → d 83 3 = iI 0 → d 83 10 = iI c → st (7, T cnt v, d, e) = some (100000, [], d, e))
    (hflt : ∀ (d : aI) (n : Int) (cnt : Nat) (v : Option Value), 1 ≤ n ∧ n ≤ 6 → cnt ≤ 300 → d 83 3 = iI n → st (7, T cnt v, d, e) = some (100000, [], d, e))
    (h300 : ∀ (d : aI) (v : Option Value), st (7, T 300 v, d, e) = some (100000, [], d, e))
    (join : ∀ (C : Int → Int) (a b m : Int) (f g' : α) (h : α → α → α) (c : Int), op c = some h → CV s C a b need (val f) → CV s C b m nsub (val g') → C m = c → CV s C a (m + 1) need (val (h f g'))) :
    ∀ (r cnt j b : Nat) (d : aI) (v : Option Value) (f : α) (C : Int → Int) (i a : Nat) (d0 : aI), cnt + r = 300 → N ≤ j + r → CS d tp L N s j b → CV s C a b need (val f) → (∀ z : Nat, a ≤ z → z < b → d 92 z = iI (C z)) → (∀ z : Nat, z < a → d 92 z = d0 92 z) → b + psT tp L i ≤ a + psT tp L j → i < j →
    ∃ d', a_run st (7, T cnt v, d, e) = some ([], d', e) ∧ CR val tp L N s need d0 d' i a (lpP op sub (KT tp L) r j f) ∧ KC d d'
  | 0, cnt, j, b, d, v, f, C, i, a, d0, hc, hN, cs, cv, h1, h2, h3, h4 => by
    have c3 : cnt = 300 := by omega
    subst c3
    refine ⟨d, (a_run_step (h300 d v) rfl).trans a_run_end, ⟨C, b, cs, cv, h1, h2, h3, h4⟩, KC.refl d⟩
  | r + 1, cnt, j, b, d, v, f, C, i, a, d0, hc, hN, cs, cv, h1, h2, h3, h4 => by
    have kr := KT_in cs.1.2.1 (L := L) j
    have k10 := cs.1.2.2.2.2.2.2.1
    cases ho : op (KT tp L j) with
    | none =>
      refine ⟨d, (a_run_step (hend d _ cnt v ⟨kr.1, kr.2.1⟩ ho (by omega) cs.2.1 k10) rfl).trans a_run_end, ?_, KC.refl d⟩
      have e1 : lpP op sub (KT tp L) (r + 1) j f = .inr (j, f) := by unfold lpP; rw [ho]
      rw [e1]
      exact ⟨C, b, cs, cv, h1, h2, h3, h4⟩
    | some g =>
      have k0 : KT tp L j ≠ 0 := fun z => by rw [z, op0] at ho; cases ho
      have hj : j < N := (cs.1.lt.1).mp k0
      have pj := cs.1.lt.2.1 hj
      have bp := cs.2.2.2
      obtain ⟨d1, n1, n2, n3, n4⟩ := cs.next (e := e) hj
      obtain ⟨d2, s1, s2, s3⟩ := hsub d1 e (j + 1) b n2
      cases hs : sub (j + 1) with
      | inl bd =>
        rw [hs] at s2
        have s2' : FS d2 tp L N bd.1 (psT tp L bd.2) := s2
        obtain ⟨d3, rr, p1, p2, p3, p4, p5⟩ := FS.put (e := e) (x := iI (KT tp L j)) s2'
        obtain ⟨v', stp⟩ := hop d _ g cnt v d1 d2 d3 (iI rr) ⟨kr.1, kr.2.1⟩ ho (by omega) cs.2.1 k10 n1 s1 p1
        obtain ⟨ii, uu, x1, x2, x3, x4⟩ := id p4
        refine ⟨d3, (a_run_step stp rfl).trans ((a_run_step (hflt d3 bd.1 (cnt + 1) v' x4 (by omega) x2) rfl).trans a_run_end), ?_, n3.trans (s3.trans p5)⟩
        have e1 : lpP op sub (KT tp L) (r + 1) j f = .inl bd := by unfold lpP; rw [ho]; simp only [hs]
        rw [e1]
        exact p4
      | inr q =>
        rw [hs] at s2
        obtain ⟨C2, b2, t1, t2, t3, t4, t5, t6⟩ := s2
        obtain ⟨p1, p2, p3⟩ := t1.put (e := e) (x := iI (KT tp L j)) (by omega)
        obtain ⟨v', stp⟩ := hop d _ g cnt v d1 d2 _ _ ⟨kr.1, kr.2.1⟩ ho (by omega) cs.2.1 k10 n1 s1 p1
        have bb : a < b := by have := cv.2.1; omega
        have bb2 : b < b2 := by have := t2.2.1; omega
        have c1 : CV s (fun z : Int => if z < b then C z else if z < b2 then C2 z else KT tp L j) a b need (val f) := cv.ext (fun z z1 z2 => if_pos z2)
        have c2 : CV s (fun z : Int => if z < b then C z else if z < b2 then C2 z else KT tp L j) b b2 nsub (val q.2) := t2.ext (fun z z1 z2 => by
          show (if z < b then C z else if z < b2 then C2 z else KT tp L j) = C2 z
          rw [if_neg (by omega), if_pos z2])
        have c3 := join _ a b b2 f q.2 g (KT tp L j) ho c1 c2 (by
          show (if (b2 : Int) < b then C b2 else if (b2 : Int) < b2 then C2 b2 else KT tp L j) = KT tp L j
          rw [if_neg (by omega), if_neg (by omega)])
        obtain ⟨d4, y1, y2, y3⟩ := c5_loop hsub op0 e hop hend hflt h300 join r (cnt + 1) q.1 (b2 + 1) _ v' (g f q.2) _ i a d0 (by omega) (by omega) p2 c3 (fun z z1 z2 => by
          rw [uI_o (by omega)]
          by_cases w1 : z = b2
          · rw [w1, uI_hit rfl]
            show _ = iI (if ((b2 : Nat) : Int) < b then C b2 else if ((b2 : Nat) : Int) < b2 then C2 b2 else KT tp L j)
            rw [if_neg (by omega), if_neg (by omega)]
          · rw [uI_miss w1]
            show _ = iI (if (z : Int) < b then C z else if (z : Int) < b2 then C2 z else KT tp L j)
            by_cases w2 : z < b
            · rw [if_pos (by omega), t4 z w2, n4]; exact h1 z z1 w2
            · rw [if_neg (by omega), if_pos (by omega)]; exact t3 z (by omega) (by omega)) (fun z hz => by
          rw [uI_o (by omega), uI_miss (by omega), t4 z (by omega), n4]; exact h2 z hz) (by omega) (by omega)
        refine ⟨d4, (a_run_step stp rfl).trans y1, ?_, n3.trans (s3.trans (p3.trans y3))⟩
        have e1 : lpP op sub (KT tp L) (r + 1) j f = lpP op sub (KT tp L) r q.1 (g f q.2) := by
          show (match op (KT tp L j) with | none => _ | some g => _) = _
          rw [ho]
          simp only [hs]
        rw [e1]
        exact y2
