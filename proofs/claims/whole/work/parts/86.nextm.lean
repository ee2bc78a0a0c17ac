/-! ===== the reference's next token ===== -/
def TPM (d : aI) (tp : Nat → Int) (L : Nat) : Prop := d 108 4 = iI (L : Nat) ∧ L ≤ 300 ∧ (∀ j, j < L → d 112 j = iI (tp j)) ∧ ∀ j, 0 ≤ tp j ∧ tp j ≤ 255
theorem TPM.of {d d' : aI} {tp : Nat → Int} {L : Nat} (h : TPM d tp L) (g2 : d' 108 4 = d 108 4) (g : d' 112 = d 112) : TPM d' tp L := ⟨by rw [g2]; exact h.1, h.2.1, fun j hj => by rw [g]; exact h.2.2.1 j hj, h.2.2.2⟩
/-- a byte there; -1 behind the end -/
def btT (tp : Nat → Int) (L i : Nat) : Int := if i < L then tp i else -1
theorem m_byte {d : aI} {e : aJ} {tp : Nat → Int} {L i : Nat} (hT : TPM d tp L) (hi : i < 400) : FX11_byteAt d e (iI (i : Nat)) = some (iI (btT tp L i), d, e) := by
  obtain ⟨t1, t2, t3, t4⟩ := hT
  unfold FX11_byteAt btT
  by_cases q : i < L
  · have c := t3 i q
    rw [if_pos q]
    simp (disch := omega) only [nI_iI, lN_lJ, iI_0, lJ_0, iI_add, iI_sub, iI_mul, iI_neg, lJ_add, lJ_sub, lJ_mul, lJ_neg, i_l, l_i, iI_cl, iI_inb, iI_eqT, iI_eqF, iI_ltT, iI_ltF, iI_leT, iI_leF, lJ_eqT, lJ_eqF, lJ_cG, lJ_cE, lJ_cL, lJ_cF, lJ_cGE, lJ_cLE, lJ_cNL, lJ_cNG, Int.cast_ofNat_Int, c_0, c_1, Int.natCast_add, Int.add_zero, cond_true, cond_false, Bool.and_self, Bool.and_true, Bool.true_and, Option.bind_some, decide_true, uI_hit, uI_miss, uI_o, uA_o, uA_s, ↓reduceIte, eq_self, true_or, or_true, or_false, false_or, true_and, and_true, false_and, and_false, or_self, and_self, not_false_eq_true, not_true_eq_false, tn_i, Int.toNat_natCast, t1, c]
  · rw [if_neg q]
    simp (disch := omega) only [nI_iI, lN_lJ, iI_0, lJ_0, iI_add, iI_sub, iI_mul, iI_neg, lJ_add, lJ_sub, lJ_mul, lJ_neg, i_l, l_i, iI_cl, iI_inb, iI_eqT, iI_eqF, iI_ltT, iI_ltF, iI_leT, iI_leF, lJ_eqT, lJ_eqF, lJ_cG, lJ_cE, lJ_cL, lJ_cF, lJ_cGE, lJ_cLE, lJ_cNL, lJ_cNG, Int.cast_ofNat_Int, c_0, c_1, Int.natCast_add, Int.add_zero, cond_true, cond_false, Bool.and_self, Bool.and_true, Bool.true_and, Option.bind_some, decide_true, uI_hit, uI_miss, uI_o, uA_o, uA_s, ↓reduceIte, eq_self, true_or, or_true, or_false, false_or, true_and, and_true, false_and, and_false, or_self, and_self, not_false_eq_true, not_true_eq_false, tn_i, t1]
theorem btT_in {tp : Nat → Int} (h : ∀ j, 0 ≤ tp j ∧ tp j ≤ 255) (L i : Nat) : -1 ≤ btT tp L i ∧ btT tp L i ≤ 255 := by
  have := h i
  unfold btT
  split <;> omega
theorem m_let {d : aI} {e : aJ} {c : Int} (h : -1 ≤ c ∧ c ≤ 255) : FX11_isLetterByte d e (iI c) = some (iI (if ltT c then 1 else 0), d, e) := by
  by_cases q : ltT c
  · rw [if_pos q]
    unfold FX11_isLetterByte
    by_cases q1 : 97 ≤ c
    · simp (disch := omega) only [nI_iI, lN_lJ, iI_0, lJ_0, iI_add, iI_sub, iI_mul, iI_neg, lJ_add, lJ_sub, lJ_mul, lJ_neg, i_l, l_i, iI_cl, iI_inb, iI_eqT, iI_eqF, iI_ltT, iI_ltF, iI_leT, iI_leF, lJ_eqT, lJ_eqF, lJ_cG, lJ_cE, lJ_cL, lJ_cF, lJ_cGE, lJ_cLE, lJ_cNL, lJ_cNG, Int.cast_ofNat_Int, c_0, c_1, Int.natCast_add, Int.add_zero, cond_true, cond_false, Bool.and_self, Bool.and_true, Bool.true_and, Option.bind_some, decide_true, uI_hit, uI_miss, uI_o, uA_o, uA_s, ↓reduceIte, eq_self, true_or, or_true, or_false, false_or, true_and, and_true, false_and, and_false, or_self, and_self, not_false_eq_true, not_true_eq_false, tn_i]
    · simp (disch := omega) only [nI_iI, lN_lJ, iI_0, lJ_0, iI_add, iI_sub, iI_mul, iI_neg, lJ_add, lJ_sub, lJ_mul, lJ_neg, i_l, l_i, iI_cl, iI_inb, iI_eqT, iI_eqF, iI_ltT, iI_ltF, iI_leT, iI_leF, lJ_eqT, lJ_eqF, lJ_cG, lJ_cE, lJ_cL, lJ_cF, lJ_cGE, lJ_cLE, lJ_cNL, lJ_cNG, Int.cast_ofNat_Int, c_0, c_1, Int.natCast_add, Int.add_zero, cond_true, cond_false, Bool.and_self, Bool.and_true, Bool.true_and, Option.bind_some, decide_true, uI_hit, uI_miss, uI_o, uA_o, uA_s, ↓reduceIte, eq_self, true_or, or_true, or_false, false_or, true_and, and_true, false_and, and_false, or_self, and_self, not_false_eq_true, not_true_eq_false, tn_i]
  · rw [if_neg q]
    unfold FX11_isLetterByte
    by_cases q1 : 97 ≤ c
    · by_cases q2 : c ≤ 122
      · exact absurd (Or.inl ⟨q1, q2⟩) q
      · simp (disch := omega) only [nI_iI, lN_lJ, iI_0, lJ_0, iI_add, iI_sub, iI_mul, iI_neg, lJ_add, lJ_sub, lJ_mul, lJ_neg, i_l, l_i, iI_cl, iI_inb, iI_eqT, iI_eqF, iI_ltT, iI_ltF, iI_leT, iI_leF, lJ_eqT, lJ_eqF, lJ_cG, lJ_cE, lJ_cL, lJ_cF, lJ_cGE, lJ_cLE, lJ_cNL, lJ_cNG, Int.cast_ofNat_Int, c_0, c_1, Int.natCast_add, Int.add_zero, cond_true, cond_false, Bool.and_self, Bool.and_true, Bool.true_and, Option.bind_some, decide_true, uI_hit, uI_miss, uI_o, uA_o, uA_s, ↓reduceIte, eq_self, true_or, or_true, or_false, false_or, true_and, and_true, false_and, and_false, or_self, and_self, not_false_eq_true, not_true_eq_false, tn_i]
    · by_cases q2 : 65 ≤ c
      · by_cases q3 : c ≤ 90
        · exact absurd (Or.inr ⟨q2, q3⟩) q
        · simp (disch := omega) only [nI_iI, lN_lJ, iI_0, lJ_0, iI_add, iI_sub, iI_mul, iI_neg, lJ_add, lJ_sub, lJ_mul, lJ_neg, i_l, l_i, iI_cl, iI_inb, iI_eqT, iI_eqF, iI_ltT, iI_ltF, iI_leT, iI_leF, lJ_eqT, lJ_eqF, lJ_cG, lJ_cE, lJ_cL, lJ_cF, lJ_cGE, lJ_cLE, lJ_cNL, lJ_cNG, Int.cast_ofNat_Int, c_0, c_1, Int.natCast_add, Int.add_zero, cond_true, cond_false, Bool.and_self, Bool.and_true, Bool.true_and, Option.bind_some, decide_true, uI_hit, uI_miss, uI_o, uA_o, uA_s, ↓reduceIte, eq_self, true_or, or_true, or_false, false_or, true_and, and_true, false_and, and_false, or_self, and_self, not_false_eq_true, not_true_eq_false, tn_i]
      · simp (disch := omega) only [nI_iI, lN_lJ, iI_0, lJ_0, iI_add, iI_sub, iI_mul, iI_neg, lJ_add, lJ_sub, lJ_mul, lJ_neg, i_l, l_i, iI_cl, iI_inb, iI_eqT, iI_eqF, iI_ltT, iI_ltF, iI_leT, iI_leF, lJ_eqT, lJ_eqF, lJ_cG, lJ_cE, lJ_cL, lJ_cF, lJ_cGE, lJ_cLE, lJ_cNL, lJ_cNG, Int.cast_ofNat_Int, c_0, c_1, Int.natCast_add, Int.add_zero, cond_true, cond_false, Bool.and_self, Bool.and_true, Bool.true_and, Option.bind_some, decide_true, uI_hit, uI_miss, uI_o, uA_o, uA_s, ↓reduceIte, eq_self, true_or, or_true, or_false, false_or, true_and, and_true, false_and, and_false, or_self, and_self, not_false_eq_true, not_true_eq_false, tn_i]
theorem m_dig {d : aI} {e : aJ} {c : Int} (h : -1 ≤ c ∧ c ≤ 255) : FX11_isFigure d e (iI c) = some (iI (if fgT c then 1 else 0), d, e) := by
  by_cases q : fgT c
  · rw [if_pos q]
    unfold FX11_isFigure
    simp (disch := omega) only [nI_iI, lN_lJ, iI_0, lJ_0, iI_add, iI_sub, iI_mul, iI_neg, lJ_add, lJ_sub, lJ_mul, lJ_neg, i_l, l_i, iI_cl, iI_inb, iI_eqT, iI_eqF, iI_ltT, iI_ltF, iI_leT, iI_leF, lJ_eqT, lJ_eqF, lJ_cG, lJ_cE, lJ_cL, lJ_cF, lJ_cGE, lJ_cLE, lJ_cNL, lJ_cNG, Int.cast_ofNat_Int, c_0, c_1, Int.natCast_add, Int.add_zero, cond_true, cond_false, Bool.and_self, Bool.and_true, Bool.true_and, Option.bind_some, decide_true, uI_hit, uI_miss, uI_o, uA_o, uA_s, ↓reduceIte, eq_self, true_or, or_true, or_false, false_or, true_and, and_true, false_and, and_false, or_self, and_self, not_false_eq_true, not_true_eq_false, tn_i]
  · rw [if_neg q]
    unfold FX11_isFigure
    by_cases q1 : c < 48
    · simp (disch := omega) only [nI_iI, lN_lJ, iI_0, lJ_0, iI_add, iI_sub, iI_mul, iI_neg, lJ_add, lJ_sub, lJ_mul, lJ_neg, i_l, l_i, iI_cl, iI_inb, iI_eqT, iI_eqF, iI_ltT, iI_ltF, iI_leT, iI_leF, lJ_eqT, lJ_eqF, lJ_cG, lJ_cE, lJ_cL, lJ_cF, lJ_cGE, lJ_cLE, lJ_cNL, lJ_cNG, Int.cast_ofNat_Int, c_0, c_1, Int.natCast_add, Int.add_zero, cond_true, cond_false, Bool.and_self, Bool.and_true, Bool.true_and, Option.bind_some, decide_true, uI_hit, uI_miss, uI_o, uA_o, uA_s, ↓reduceIte, eq_self, true_or, or_true, or_false, false_or, true_and, and_true, false_and, and_false, or_self, and_self, not_false_eq_true, not_true_eq_false, tn_i]
    · simp (disch := omega) only [nI_iI, lN_lJ, iI_0, lJ_0, iI_add, iI_sub, iI_mul, iI_neg, lJ_add, lJ_sub, lJ_mul, lJ_neg, i_l, l_i, iI_cl, iI_inb, iI_eqT, iI_eqF, iI_ltT, iI_ltF, iI_leT, iI_leF, lJ_eqT, lJ_eqF, lJ_cG, lJ_cE, lJ_cL, lJ_cF, lJ_cGE, lJ_cLE, lJ_cNL, lJ_cNG, Int.cast_ofNat_Int, c_0, c_1, Int.natCast_add, Int.add_zero, cond_true, cond_false, Bool.and_self, Bool.and_true, Bool.true_and, Option.bind_some, decide_true, uI_hit, uI_miss, uI_o, uA_o, uA_s, ↓reduceIte, eq_self, true_or, or_true, or_false, false_or, true_and, and_true, false_and, and_false, or_self, and_self, not_false_eq_true, not_true_eq_false, tn_i]
abbrev sg2T (c : Int) : Prop := sgT c ∨ c = 58
theorem sgD : ∀ c, c < 256 → ((iI (c : Nat) = nI 35 ∨ iI (c : Nat) = nI 40 ∨ iI (c : Nat) = nI 41 ∨ iI (c : Nat) = nI 42 ∨ iI (c : Nat) = nI 43 ∨ iI (c : Nat) = nI 45 ∨ iI (c : Nat) = nI 47 ∨ iI (c : Nat) = nI 58 ∨ iI (c : Nat) = nI 59 ∨ iI (c : Nat) = nI 60 ∨ iI (c : Nat) = nI 61 ∨ iI (c : Nat) = nI 62) ↔ sg2T (c : Nat)) := by decide +kernel
theorem m_sign {d : aI} {e : aJ} {c : Int} (h : 0 ≤ c ∧ c ≤ 255) : FX11_isSign d e (iI c) = some (iI (if sg2T c then 1 else 0), d, e) := by
  unfold FX11_isSign
  by_cases q : sg2T c
  · rw [if_pos q]
    rcases q with (q | q | q | q | q | q | q | q | q | q | q) | q <;> subst q <;> rfl
  · rw [if_neg q]
    have n1 : ¬(c = 35 ∨ c = 40 ∨ c = 41 ∨ c = 42 ∨ c = 43 ∨ c = 45 ∨ c = 47 ∨ c = 58 ∨ c = 59 ∨ c = 60 ∨ c = 61 ∨ c = 62) := fun z => q (by omega)
    clear q
    by_cases r : 35 ≤ c ∧ c ≤ 62
    · have m : c = 36 ∨ c = 37 ∨ c = 38 ∨ c = 39 ∨ c = 44 ∨ c = 46 ∨ (48 ≤ c ∧ c ≤ 57) := by omega
      rcases m with m | m | m | m | m | m | m
      · subst m; rfl
      · subst m; rfl
      · subst m; rfl
      · subst m; rfl
      · subst m; rfl
      · subst m; rfl
      · have m2 : c = 48 ∨ c = 49 ∨ c = 50 ∨ c = 51 ∨ c = 52 ∨ c = 53 ∨ c = 54 ∨ c = 55 ∨ c = 56 ∨ c = 57 := by omega
        rcases m2 with m | m | m | m | m | m | m | m | m | m <;> subst m <;> rfl
    · simp (config := {maxSteps := 4000000}) (disch := omega) only [nI_iI, lN_lJ, iI_0, lJ_0, iI_add, iI_sub, iI_mul, iI_neg, lJ_add, lJ_sub, lJ_mul, lJ_neg, i_l, l_i, iI_cl, iI_inb, iI_eqT, iI_eqF, iI_ltT, iI_ltF, iI_leT, iI_leF, lJ_eqT, lJ_eqF, lJ_cG, lJ_cE, lJ_cL, lJ_cF, lJ_cGE, lJ_cLE, lJ_cNL, lJ_cNG, Int.cast_ofNat_Int, c_0, c_1, Int.natCast_add, Int.add_zero, cond_true, cond_false, Bool.and_self, Bool.and_true, Bool.true_and, Option.bind_some, decide_true, uI_hit, uI_miss, uI_o, uA_o, uA_s, ↓reduceIte, eq_self, true_or, or_true, or_false, false_or, true_and, and_true, false_and, and_false, or_self, and_self, not_false_eq_true, not_true_eq_false, tn_i]
/-- the reference's token -/
def rkT (tp : Nat → Int) (L i : Nat) : Int := if ltT (tp i) then 2 else if fgT (tp i) then 1 else if dbT tp L i then (if tp i = 60 then 4 else 5) else if sg2T (tp i) then tp i else 3
def RKT (tp : Nat → Int) (L t : Nat) : Int := if psT tp L t < L then rkT tp L (psT tp L t) else 0
def ceT (tp : Nat → Int) (L t : Nat) : Nat := if psT tp L t < L then teT tp L (psT tp L t) else psT tp L t
/-- it stands at the t-th token -/
def RT (d : aI) (e : aJ) (tp : Nat → Int) (L t : Nat) : Prop := d 108 8 = iI (psT tp L t : Nat) ∧ d 108 7 = iI (ceT tp L t : Nat) ∧ d 108 9 = iI (RKT tp L t) ∧ (RKT tp L t = 1 → d 108 10 = iI (nvT tp (psT tp L t) (rnE fgT tp L (psT tp L t) - psT tp L t))) ∧ (RKT tp L t = 2 → e 108 11 = lJ (wdT tp (psT tp L t) (rnE ltT tp L (psT tp L t) - psT tp L t) : Nat))
/-- what it leaves -/
def Kz (d d' : aI) (e e' : aJ) : Prop := (∀ o j, (o ≠ 108 ∨ (j ≠ 7 ∧ j ≠ 8 ∧ j ≠ 9 ∧ j ≠ 10)) → d' o j = d o j) ∧ (∀ o j, (o ≠ 108 ∨ j ≠ 11) → e' o j = e o j)
theorem Kz.refl (d : aI) (e : aJ) : Kz d d e e := ⟨fun _ _ _ => rfl, fun _ _ _ => rfl⟩
theorem Kz.trans {d d1 d2 : aI} {e e1 e2 : aJ} (h : Kz d d1 e e1) (h2 : Kz d1 d2 e1 e2) : Kz d d2 e e2 := ⟨fun o j a => (h2.1 o j a).trans (h.1 o j a), fun o j a => (h2.2 o j a).trans (h.2 o j a)⟩
theorem Kz.obj {d d' : aI} {e e' : aJ} (h : Kz d d' e e') {o : Nat} (ho : o ≠ 108) : d' o = d o := by funext j; exact h.1 o j (Or.inl ho)
theorem Kz.put {d : aI} {e : aJ} {j : Nat} {v : Int32} (hj : j = 7 ∨ j = 8 ∨ j = 9 ∨ j = 10) : Kz d (uI d 108 j v) e e := ⟨fun o i a => by
  by_cases q : o = 108
  · rw [q, uI_miss (by omega)]
  · rw [uI_o q], fun _ _ _ => rfl⟩
theorem Kz.putJ {d : aI} {e : aJ} {v : Int64} : Kz d d e (uJ e 108 11 v) := ⟨fun _ _ _ => rfl, fun o i a => by
  by_cases q : o = 108
  · rw [q, uJ_miss (by omega)]
  · rw [uJ_o q]⟩
theorem m_num {d : aI} {e : aJ} {tp : Nat → Int} {L i : Nat} {x : Int32} (hT : TPM d tp L) (hi : i < L) (h7 : d 108 7 = iI (i : Nat)) (h10 : d 108 10 = iI 0) : ∃ d', a_run stX11_nextToken (85, [some (.ref 108), some (.int x)], d, e) = some ([], d', e) ∧ d' 108 7 = iI (rnE fgT tp L i : Nat) ∧ d' 108 10 = iI (nvT tp i (rnE fgT tp L i - i)) ∧ d' 108 9 = d 108 9 ∧ d' 108 8 = d 108 8 ∧ Kz d d' e e := by
  have t2 := hT.2.1
  have t4 := hT.2.2.2
  obtain ⟨r1, r2, r3, r4⟩ := rnE_in (p := fgT) (tp := tp) (L := L) (i := i) (by omega)
  obtain ⟨m, hm⟩ : ∃ m, rnE fgT tp L i = i + m := ⟨rnE fgT tp L i - i, by omega⟩
  rw [hm] at r2 r3 r4 ⊢
  rw [show i + m - i = m by omega]
  have vi := fun k (hk : k ≤ m) => (nv_vl (tp := tp) (i := i) k (fun j hj => r3 (i + j) (by omega) (by omega))).1
  have lp := run_invR (st := stX11_nextToken) (fun k p => ∃ d', p = (85, [some (.ref 108), some (.int x)], d', e) ∧ d' 108 7 = iI (i + k : Nat) ∧ d' 108 10 = iI (nvT tp i k) ∧ d' 108 9 = d 108 9 ∧ d' 108 8 = d 108 8 ∧ Kz d d' e e) m (p0 := (85, [some (.ref 108), some (.int x)], d, e)) ⟨d, rfl, h7, h10, rfl, rfl, Kz.refl d e⟩ ?_
  rotate_left
  · rintro k p hk ⟨d', rfl, g7, g10, g9, g8, gz⟩
    have T := hT.of (gz.1 108 4 (by omega)) (gz.obj (by omega))
    have by1 := m_byte (e := e) T (i := i + k) (by omega)
    have bb : btT tp L (i + k) = tp (i + k) := if_pos (by omega)
    rw [bb] at by1
    have f := r3 (i + k) (by omega) (by omega)
    have g4 := t4 (i + k)
    have v := vi k (by omega)
    have dg := m_dig (d := d') (e := e) (c := tp (i + k)) (by omega)
    rw [if_pos f] at dg
    have e1 : nvT tp i (k + 1) = if 99999 < nvT tp i k then nvT tp i k else 10 * nvT tp i k + tp (i + k) - 48 := rfl
    refine ⟨_, a_run_step (p2 := (85, [some (.ref 108), some (.int x)], uI (uI d' 108 10 (iI (nvT tp i (k + 1)))) 108 7 (iI (i + (k + 1) : Nat)), e)) ?_ rfl, _, rfl, uI_hit rfl, ?_, ?_, ?_, gz.trans ((Kz.put (by omega)).trans (Kz.put (by omega)))⟩
    · rw [e1]
      have by2 : FX11_byteAt d' e (iI ((i : Int) + (k : Int))) = some (iI (tp (i + k)), d', e) := by1
      have g7' : d' 108 7 = iI ((i : Int) + (k : Int)) := g7
      show sX11_nextToken_85 d' e _ = _
      unfold sX11_nextToken_85
      generalize tp (i + k) = c at *
      generalize nvT tp i k = V at *
      by_cases q : 99999 < V
      · rw [if_pos q]
        simp (disch := omega) only [nI_iI, lN_lJ, iI_0, lJ_0, iI_add, iI_sub, iI_mul, iI_neg, lJ_add, lJ_sub, lJ_mul, lJ_neg, i_l, l_i, iI_cl, iI_inb, iI_eqT, iI_eqF, iI_ltT, iI_ltF, iI_leT, iI_leF, lJ_eqT, lJ_eqF, lJ_cG, lJ_cE, lJ_cL, lJ_cF, lJ_cGE, lJ_cLE, lJ_cNL, lJ_cNG, Int.cast_ofNat_Int, c_0, c_1, Int.natCast_add, Int.add_zero, cond_true, cond_false, Bool.and_self, Bool.and_true, Bool.true_and, Option.bind_some, decide_true, uI_hit, uI_miss, uI_o, uA_o, uA_s, ↓reduceIte, eq_self, true_or, or_true, or_false, false_or, true_and, and_true, false_and, and_false, or_self, and_self, not_false_eq_true, not_true_eq_false, tn_i, g7', by2, dg, g10, Int.add_assoc]
      · rw [if_neg q]
        simp (disch := omega) only [nI_iI, lN_lJ, iI_0, lJ_0, iI_add, iI_sub, iI_mul, iI_neg, lJ_add, lJ_sub, lJ_mul, lJ_neg, i_l, l_i, iI_cl, iI_inb, iI_eqT, iI_eqF, iI_ltT, iI_ltF, iI_leT, iI_leF, lJ_eqT, lJ_eqF, lJ_cG, lJ_cE, lJ_cL, lJ_cF, lJ_cGE, lJ_cLE, lJ_cNL, lJ_cNG, Int.cast_ofNat_Int, c_0, c_1, Int.natCast_add, Int.add_zero, cond_true, cond_false, Bool.and_self, Bool.and_true, Bool.true_and, Option.bind_some, decide_true, uI_hit, uI_miss, uI_o, uA_o, uA_s, ↓reduceIte, eq_self, true_or, or_true, or_false, false_or, true_and, and_true, false_and, and_false, or_self, and_self, not_false_eq_true, not_true_eq_false, tn_i, g7', by2, dg, g10, Int.add_assoc]
    · rw [uI_miss (by omega), uI_hit rfl]
    · rw [uI_miss (by omega), uI_miss (by omega)]; exact g9
    · rw [uI_miss (by omega), uI_miss (by omega)]; exact g8
  obtain ⟨p, ⟨d2, rfl, g7, g10, g9, g8, gz⟩, t1⟩ := lp
  refine ⟨d2, ?_, g7, g10, g9, g8, gz⟩
  have T := hT.of (gz.1 108 4 (by omega)) (gz.obj (by omega))
  have by1 := m_byte (e := e) T (i := i + m) (by omega)
  have bi := btT_in t4 L (i + m)
  have dg := m_dig (d := d2) (e := e) (c := btT tp L (i + m)) bi
  have nf : ¬fgT (btT tp L (i + m)) := by
    unfold btT
    by_cases q : i + m < L
    · rw [if_pos q]; exact r4 q
    · rw [if_neg q]; omega
  rw [if_neg nf] at dg
  rw [t1, a_run_step (st := stX11_nextToken) (p2 := (100000, [], d2, e)) (by
    show sX11_nextToken_85 d2 e _ = _
    unfold sX11_nextToken_85
    have g7' : d2 108 7 = iI ((i : Int) + (m : Int)) := g7
    have by2 : FX11_byteAt d2 e (iI ((i : Int) + (m : Int))) = some (iI (btT tp L (i + m)), d2, e) := by1
    simp (disch := omega) only [nI_iI, lN_lJ, iI_0, lJ_0, iI_add, iI_sub, iI_mul, iI_neg, lJ_add, lJ_sub, lJ_mul, lJ_neg, i_l, l_i, iI_cl, iI_inb, iI_eqT, iI_eqF, iI_ltT, iI_ltF, iI_leT, iI_leF, lJ_eqT, lJ_eqF, lJ_cG, lJ_cE, lJ_cL, lJ_cF, lJ_cGE, lJ_cLE, lJ_cNL, lJ_cNG, Int.cast_ofNat_Int, c_0, c_1, Int.natCast_add, Int.add_zero, cond_true, cond_false, Bool.and_self, Bool.and_true, Bool.true_and, Option.bind_some, decide_true, uI_hit, uI_miss, uI_o, uA_o, uA_s, ↓reduceIte, eq_self, true_or, or_true, or_false, false_or, true_and, and_true, false_and, and_false, or_self, and_self, not_false_eq_true, not_true_eq_false, tn_i, g7', by2, dg]) rfl, a_run_end]
theorem m_word {d : aI} {e : aJ} {tp : Nat → Int} {L i : Nat} {x : Int32} (hT : TPM d tp L) (hi : i < L) (h7 : d 108 7 = iI (i : Nat)) (h11 : e 108 11 = lJ (0 : Nat)) : ∃ d' e', a_run stX11_nextToken (168, [some (.ref 108), some (.int x)], d, e) = some ([], d', e') ∧ d' 108 7 = iI (rnE ltT tp L i : Nat) ∧ e' 108 11 = lJ (wdT tp i (rnE ltT tp L i - i) : Nat) ∧ d' 108 9 = d 108 9 ∧ d' 108 8 = d 108 8 ∧ Kz d d' e e' := by
  have t2 := hT.2.1
  have t4 := hT.2.2.2
  obtain ⟨r1, r2, r3, r4⟩ := rnE_in (p := ltT) (tp := tp) (L := L) (i := i) (by omega)
  obtain ⟨m, hm⟩ : ∃ m, rnE ltT tp L i = i + m := ⟨rnE ltT tp L i - i, by omega⟩
  rw [hm] at r2 r3 r4 ⊢
  rw [show i + m - i = m by omega]
  have lp := run_invR (st := stX11_nextToken) (fun k p => ∃ d' e', p = (168, [some (.ref 108), some (.int x)], d', e') ∧ d' 108 7 = iI (i + k : Nat) ∧ e' 108 11 = lJ (wdT tp i k : Nat) ∧ d' 108 9 = d 108 9 ∧ d' 108 8 = d 108 8 ∧ Kz d d' e e') m (p0 := (168, [some (.ref 108), some (.int x)], d, e)) ⟨d, e, rfl, h7, h11, rfl, rfl, Kz.refl d e⟩ ?_
  rotate_left
  · rintro k p hk ⟨d', e', rfl, g7, g11, g9, g8, gz⟩
    have T := hT.of (gz.1 108 4 (by omega)) (gz.obj (by omega))
    have by1 := m_byte (e := e') T (i := i + k) (by omega)
    have bb : btT tp L (i + k) = tp (i + k) := if_pos (by omega)
    rw [bb] at by1
    have f := r3 (i + k) (by omega) (by omega)
    have g4 := t4 (i + k)
    have wl := wdT_lt t4 i k
    have dg := m_let (d := d') (e := e') (c := tp (i + k)) (by omega)
    rw [if_pos f] at dg
    have e1 : wdT tp i (k + 1) = if wdT tp i k / 2 ^ 48 ≠ 0 then 2 ^ 60 else wdT tp i k * 256 + (tp (i + k)).toNat := rfl
    refine ⟨_, a_run_step (p2 := (168, [some (.ref 108), some (.int x)], uI d' 108 7 (iI (i + (k + 1) : Nat)), uJ e' 108 11 (lJ (wdT tp i (k + 1) : Nat)))) ?_ rfl, _, _, rfl, uI_hit rfl, uJ_hit rfl, ?_, ?_, gz.trans ((Kz.put (by omega)).trans Kz.putJ)⟩
    · rw [e1]
      have by2 : FX11_byteAt d' e' (iI ((i : Int) + (k : Int))) = some (iI (tp (i + k)), d', e') := by1
      have g7' : d' 108 7 = iI ((i : Int) + (k : Int)) := g7
      obtain ⟨c, hc⟩ := Int.eq_ofNat_of_zero_le g4.1
      rw [hc] at by2 dg g4 f ⊢
      rw [Int.toNat_natCast]
      generalize wdT tp i k = V at *
      have sr := jshr48 (v := V) (by omega)
      show sX11_nextToken_168 d' e' _ = _
      unfold sX11_nextToken_168
      by_cases q : V / 2 ^ 48 ≠ 0
      · rw [if_pos q]
        have n1 : ((V / 2 ^ 48 : Nat) : Int) ≠ 0 := by omega
        have n2 : ((V / 2 ^ 48 : Nat) : Int) < 9223372036854775808 := by omega
        have n3 : 0 ≤ ((V / 2 ^ 48 : Nat) : Int) := by omega
        generalize ((V / 2 ^ 48 : Nat) : Int) = Q at *
        have p60 : ((2 ^ 60 : Nat) : Int) = 1152921504606846976 := rfl
        rw [p60]
        simp (disch := omega) only [nI_iI, lN_lJ, iI_0, lJ_0, iI_add, iI_sub, iI_mul, iI_neg, lJ_add, lJ_sub, lJ_mul, lJ_neg, i_l, l_i, iI_cl, iI_inb, iI_eqT, iI_eqF, iI_ltT, iI_ltF, iI_leT, iI_leF, lJ_eqT, lJ_eqF, lJ_cG, lJ_cE, lJ_cL, lJ_cF, lJ_cGE, lJ_cLE, lJ_cNL, lJ_cNG, Int.cast_ofNat_Int, c_0, c_1, Int.natCast_add, Int.add_zero, cond_true, cond_false, Bool.and_self, Bool.and_true, Bool.true_and, Option.bind_some, decide_true, uI_hit, uI_miss, uI_o, uA_o, uA_s, ↓reduceIte, eq_self, true_or, or_true, or_false, false_or, true_and, and_true, false_and, and_false, or_self, and_self, not_false_eq_true, not_true_eq_false, tn_i, g7', by2, dg, g11, sr, Int.add_assoc]
      · rw [if_neg q]
        have z : V / 2 ^ 48 = 0 := Classical.byContradiction q
        rw [z] at sr
        have sl := jshl8 (v := V) (b := c) (by omega) (by omega)
        rw [i_l (by omega)] at sl
        generalize V * 256 + c = W at *
        simp (disch := omega) only [nI_iI, lN_lJ, iI_0, lJ_0, iI_add, iI_sub, iI_mul, iI_neg, lJ_add, lJ_sub, lJ_mul, lJ_neg, i_l, l_i, iI_cl, iI_inb, iI_eqT, iI_eqF, iI_ltT, iI_ltF, iI_leT, iI_leF, lJ_eqT, lJ_eqF, lJ_cG, lJ_cE, lJ_cL, lJ_cF, lJ_cGE, lJ_cLE, lJ_cNL, lJ_cNG, Int.cast_ofNat_Int, c_0, c_1, Int.natCast_add, Int.add_zero, cond_true, cond_false, Bool.and_self, Bool.and_true, Bool.true_and, Option.bind_some, decide_true, uI_hit, uI_miss, uI_o, uA_o, uA_s, ↓reduceIte, eq_self, true_or, or_true, or_false, false_or, true_and, and_true, false_and, and_false, or_self, and_self, not_false_eq_true, not_true_eq_false, tn_i, g7', by2, dg, g11, sr, sl, Int.add_assoc]
    · rw [uI_miss (by omega)]; exact g9
    · rw [uI_miss (by omega)]; exact g8
  obtain ⟨p, ⟨d2, e2, rfl, g7, g11, g9, g8, gz⟩, t1⟩ := lp
  refine ⟨d2, e2, ?_, g7, g11, g9, g8, gz⟩
  have T := hT.of (gz.1 108 4 (by omega)) (gz.obj (by omega))
  have by1 := m_byte (e := e2) T (i := i + m) (by omega)
  have bi := btT_in t4 L (i + m)
  have dg := m_let (d := d2) (e := e2) (c := btT tp L (i + m)) bi
  have nf : ¬ltT (btT tp L (i + m)) := by
    unfold btT
    by_cases q : i + m < L
    · rw [if_pos q]; exact r4 q
    · rw [if_neg q]; omega
  rw [if_neg nf] at dg
  rw [t1, a_run_step (st := stX11_nextToken) (p2 := (100000, [], d2, e2)) (by
    show sX11_nextToken_168 d2 e2 _ = _
    unfold sX11_nextToken_168
    have g7' : d2 108 7 = iI ((i : Int) + (m : Int)) := g7
    have by2 : FX11_byteAt d2 e2 (iI ((i : Int) + (m : Int))) = some (iI (btT tp L (i + m)), d2, e2) := by1
    simp (disch := omega) only [nI_iI, lN_lJ, iI_0, lJ_0, iI_add, iI_sub, iI_mul, iI_neg, lJ_add, lJ_sub, lJ_mul, lJ_neg, i_l, l_i, iI_cl, iI_inb, iI_eqT, iI_eqF, iI_ltT, iI_ltF, iI_leT, iI_leF, lJ_eqT, lJ_eqF, lJ_cG, lJ_cE, lJ_cL, lJ_cF, lJ_cGE, lJ_cLE, lJ_cNL, lJ_cNG, Int.cast_ofNat_Int, c_0, c_1, Int.natCast_add, Int.add_zero, cond_true, cond_false, Bool.and_self, Bool.and_true, Bool.true_and, Option.bind_some, decide_true, uI_hit, uI_miss, uI_o, uA_o, uA_s, ↓reduceIte, eq_self, true_or, or_true, or_false, false_or, true_and, and_true, false_and, and_false, or_self, and_self, not_false_eq_true, not_true_eq_false, tn_i, g7', by2, dg]) rfl, a_run_end]
theorem m_next {d : aI} {e : aJ} {tp : Nat → Int} {L t : Nat} (hT : TPM d tp L) : ∀ (r c : Nat) (d : aI), TPM d tp L → c + r = L → rnE blT tp L c = psT tp L t → d 108 7 = iI (c : Nat) → ∃ d' e', a_run stX11_nextToken (0, [some (.ref 108), none], d, e) = some ([], d', e') ∧ RT d' e' tp L t ∧ Kz d d' e e' := by
  have t2 := hT.2.1
  have t4 := hT.2.2.2
  intro r
  induction r with
  | zero =>
    intro c d hT hc hr h7
    have pe : psT tp L t = L := by rw [← hr, rnE_ge (by omega)]; omega
    have by1 := m_byte (e := e) hT (i := c) (by omega)
    have bb : btT tp L c = -1 := if_neg (by omega)
    rw [bb] at by1
    have T8 : TPM (uI d 108 8 (iI (c : Nat))) tp L := hT.of (by rw [uI_miss (by omega)]) (by rw [uI_o (by omega)])
    have by2 := m_byte (e := e) T8 (i := c) (by omega)
    rw [bb] at by2
    have cl : c = L := by omega
    have rk : RKT tp L t = 0 := by unfold RKT; rw [if_neg (by omega)]
    refine ⟨uI (uI d 108 8 (iI (c : Nat))) 108 9 (iI 0), e, ?_, ⟨?_, ?_, ?_, ?_, ?_⟩, (Kz.put (by omega)).trans (Kz.put (by omega))⟩
    · rw [a_run_step (st := stX11_nextToken) (p2 := (100000, [], uI (uI d 108 8 (iI (c : Nat))) 108 9 (iI 0), e)) (by
        show sX11_nextToken_0 d e = _
        unfold sX11_nextToken_0
        simp (config := {maxSteps := 4000000}) (disch := omega) only [nI_iI, lN_lJ, iI_0, lJ_0, iI_add, iI_sub, iI_mul, iI_neg, lJ_add, lJ_sub, lJ_mul, lJ_neg, i_l, l_i, iI_cl, iI_inb, iI_eqT, iI_eqF, iI_ltT, iI_ltF, iI_leT, iI_leF, lJ_eqT, lJ_eqF, lJ_cG, lJ_cE, lJ_cL, lJ_cF, lJ_cGE, lJ_cLE, lJ_cNL, lJ_cNG, Int.cast_ofNat_Int, c_0, c_1, Int.natCast_add, Int.add_zero, cond_true, cond_false, Bool.and_self, Bool.and_true, Bool.true_and, Option.bind_some, decide_true, uI_hit, uI_miss, uI_o, uA_o, uA_s, ↓reduceIte, eq_self, true_or, or_true, or_false, false_or, true_and, and_true, false_and, and_false, or_self, and_self, not_false_eq_true, not_true_eq_false, tn_i, h7, by1, by2]) rfl, a_run_end]
    · rw [uI_miss (by omega), uI_hit rfl, pe, cl]
    · rw [uI_miss (by omega), uI_miss (by omega), h7]; unfold ceT; rw [if_neg (by omega), pe, cl]
    · rw [uI_hit rfl, rk]
    · rw [rk]; intro z; omega
    · rw [rk]; intro z; omega
  | succ r ih =>
    intro c d hT hc hr h7
    have cl : c < L := by omega
    have by1 := m_byte (e := e) hT (i := c) (by omega)
    have bb : btT tp L c = tp c := if_pos cl
    rw [bb] at by1
    have g4 := t4 c
    by_cases b : blT (tp c)
    · have rn : rnE blT tp L (c + 1) = psT tp L t := by rw [← hr, rnE_s cl, if_pos b]
      have st : stX11_nextToken (0, [some (.ref 108), none], d, e) = some (0, [some (.ref 108), none], uI d 108 7 (iI (c + 1 : Nat)), e) := by
        show sX11_nextToken_0 d e = _
        unfold sX11_nextToken_0
        rcases b with b | b
        · rw [b] at by1
          simp (config := {maxSteps := 4000000}) (disch := omega) only [nI_iI, lN_lJ, iI_0, lJ_0, iI_add, iI_sub, iI_mul, iI_neg, lJ_add, lJ_sub, lJ_mul, lJ_neg, i_l, l_i, iI_cl, iI_inb, iI_eqT, iI_eqF, iI_ltT, iI_ltF, iI_leT, iI_leF, lJ_eqT, lJ_eqF, lJ_cG, lJ_cE, lJ_cL, lJ_cF, lJ_cGE, lJ_cLE, lJ_cNL, lJ_cNG, Int.cast_ofNat_Int, c_0, c_1, Int.natCast_add, Int.add_zero, cond_true, cond_false, Bool.and_self, Bool.and_true, Bool.true_and, Option.bind_some, decide_true, uI_hit, uI_miss, uI_o, uA_o, uA_s, ↓reduceIte, eq_self, true_or, or_true, or_false, false_or, true_and, and_true, false_and, and_false, or_self, and_self, not_false_eq_true, not_true_eq_false, tn_i, h7, by1]
        · rw [b] at by1
          simp (config := {maxSteps := 4000000}) (disch := omega) only [nI_iI, lN_lJ, iI_0, lJ_0, iI_add, iI_sub, iI_mul, iI_neg, lJ_add, lJ_sub, lJ_mul, lJ_neg, i_l, l_i, iI_cl, iI_inb, iI_eqT, iI_eqF, iI_ltT, iI_ltF, iI_leT, iI_leF, lJ_eqT, lJ_eqF, lJ_cG, lJ_cE, lJ_cL, lJ_cF, lJ_cGE, lJ_cLE, lJ_cNL, lJ_cNG, Int.cast_ofNat_Int, c_0, c_1, Int.natCast_add, Int.add_zero, cond_true, cond_false, Bool.and_self, Bool.and_true, Bool.true_and, Option.bind_some, decide_true, uI_hit, uI_miss, uI_o, uA_o, uA_s, ↓reduceIte, eq_self, true_or, or_true, or_false, false_or, true_and, and_true, false_and, and_false, or_self, and_self, not_false_eq_true, not_true_eq_false, tn_i, h7, by1]
      obtain ⟨d2, e2, x, y, z⟩ := ih (c + 1) (uI d 108 7 (iI (c + 1 : Nat))) (hT.of (by rw [uI_miss (by omega)]) (by rw [uI_o (by omega)])) (by omega) rn (uI_hit rfl)
      exact ⟨d2, e2, (a_run_step st rfl).trans x, y, (Kz.put (by omega)).trans z⟩
    · have pe : psT tp L t = c := by rw [← hr, rnE_s cl, if_neg b]
      have n1 : tp c ≠ 32 := fun z => b (Or.inl z)
      have n2 : tp c ≠ 10 := fun z => b (Or.inr z)
      have T8 : TPM (uI d 108 8 (iI (c : Nat))) tp L := hT.of (by rw [uI_miss (by omega)]) (by rw [uI_o (by omega)])
      have by2 := m_byte (e := e) T8 (i := c) (by omega)
      rw [bb] at by2
      have ce : ceT tp L t = teT tp L c := by unfold ceT; rw [pe, if_pos cl]
      have rk : RKT tp L t = rkT tp L c := by unfold RKT; rw [pe, if_pos cl]
      have di := m_dig (d := uI d 108 8 (iI (c : Nat))) (e := e) (c := tp c) (by omega)
      have le := m_let (d := uI d 108 8 (iI (c : Nat))) (e := e) (c := tp c) (by omega)
      have sg := m_sign (d := uI d 108 8 (iI (c : Nat))) (e := e) g4
      by_cases q1 : ltT (tp c)
      · have q2 : ¬fgT (tp c) := fun z => by omega
        rw [if_pos q1] at le
        rw [if_neg q2] at di
        have st : stX11_nextToken (0, [some (.ref 108), none], d, e) = some (168, [some (.ref 108), some (.int (iI (tp c)))], uI (uI d 108 8 (iI (c : Nat))) 108 9 (iI 2), uJ e 108 11 (lJ (0 : Nat))) := by
          show sX11_nextToken_0 d e = _
          unfold sX11_nextToken_0
          simp (config := {maxSteps := 4000000}) (disch := omega) only [nI_iI, lN_lJ, iI_0, lJ_0, iI_add, iI_sub, iI_mul, iI_neg, lJ_add, lJ_sub, lJ_mul, lJ_neg, i_l, l_i, iI_cl, iI_inb, iI_eqT, iI_eqF, iI_ltT, iI_ltF, iI_leT, iI_leF, lJ_eqT, lJ_eqF, lJ_cG, lJ_cE, lJ_cL, lJ_cF, lJ_cGE, lJ_cLE, lJ_cNL, lJ_cNG, Int.cast_ofNat_Int, c_0, c_1, Int.natCast_add, Int.add_zero, cond_true, cond_false, Bool.and_self, Bool.and_true, Bool.true_and, Option.bind_some, decide_true, uI_hit, uI_miss, uI_o, uA_o, uA_s, ↓reduceIte, eq_self, true_or, or_true, or_false, false_or, true_and, and_true, false_and, and_false, or_self, and_self, not_false_eq_true, not_true_eq_false, tn_i, h7, by1, by2, di, le]
        have T9 : TPM (uI (uI d 108 8 (iI (c : Nat))) 108 9 (iI 2)) tp L := T8.of (by rw [uI_miss (by omega)]) (by rw [uI_o (by omega)])
        obtain ⟨d2, e2, x1, x2, x3, x4, x5, x6⟩ := m_word (e := uJ e 108 11 (lJ (0 : Nat))) (x := iI (tp c)) T9 cl (by rw [uI_miss (by omega), uI_miss (by omega)]; exact h7) (uJ_hit rfl)
        have r2 : rkT tp L c = 2 := by unfold rkT; rw [if_pos q1]
        have te : teT tp L c = rnE ltT tp L c := by unfold teT; rw [if_pos q1]
        refine ⟨d2, e2, (a_run_step st rfl).trans x1, ⟨?_, ?_, ?_, ?_, ?_⟩, ?_⟩
        · rw [x5, uI_miss (by omega), uI_hit rfl, pe]
        · rw [x2, ce, te]
        · rw [x4, uI_hit rfl, rk, r2]
        · rw [rk, r2]; intro z; omega
        · rw [pe]; intro _; exact x3
        · exact (Kz.trans (Kz.put (by omega)) (Kz.put (by omega))).trans (Kz.trans Kz.putJ x6)
      · rw [if_neg q1] at le
        by_cases q2 : fgT (tp c)
        · rw [if_pos q2] at di
          have st : stX11_nextToken (0, [some (.ref 108), none], d, e) = some (85, [some (.ref 108), some (.int (iI (tp c)))], uI (uI (uI d 108 8 (iI (c : Nat))) 108 9 (iI 1)) 108 10 (iI 0), e) := by
            show sX11_nextToken_0 d e = _
            unfold sX11_nextToken_0
            simp (config := {maxSteps := 4000000}) (disch := omega) only [nI_iI, lN_lJ, iI_0, lJ_0, iI_add, iI_sub, iI_mul, iI_neg, lJ_add, lJ_sub, lJ_mul, lJ_neg, i_l, l_i, iI_cl, iI_inb, iI_eqT, iI_eqF, iI_ltT, iI_ltF, iI_leT, iI_leF, lJ_eqT, lJ_eqF, lJ_cG, lJ_cE, lJ_cL, lJ_cF, lJ_cGE, lJ_cLE, lJ_cNL, lJ_cNG, Int.cast_ofNat_Int, c_0, c_1, Int.natCast_add, Int.add_zero, cond_true, cond_false, Bool.and_self, Bool.and_true, Bool.true_and, Option.bind_some, decide_true, uI_hit, uI_miss, uI_o, uA_o, uA_s, ↓reduceIte, eq_self, true_or, or_true, or_false, false_or, true_and, and_true, false_and, and_false, or_self, and_self, not_false_eq_true, not_true_eq_false, tn_i, h7, by1, by2, di]
          have T9 : TPM (uI (uI (uI d 108 8 (iI (c : Nat))) 108 9 (iI 1)) 108 10 (iI 0)) tp L := T8.of (by rw [uI_miss (by omega), uI_miss (by omega)]) (by rw [uI_o (by omega), uI_o (by omega)])
          obtain ⟨d2, x1, x2, x3, x4, x5, x6⟩ := m_num (e := e) (x := iI (tp c)) T9 cl (by rw [uI_miss (by omega), uI_miss (by omega), uI_miss (by omega)]; exact h7) (uI_hit rfl)
          have r2 : rkT tp L c = 1 := by unfold rkT; rw [if_neg q1, if_pos q2]
          have te : teT tp L c = rnE fgT tp L c := by unfold teT; rw [if_neg q1, if_pos q2]
          refine ⟨d2, e, (a_run_step st rfl).trans x1, ⟨?_, ?_, ?_, ?_, ?_⟩, ?_⟩
          · rw [x5, uI_miss (by omega), uI_miss (by omega), uI_hit rfl, pe]
          · rw [x2, ce, te]
          · rw [x4, uI_miss (by omega), uI_hit rfl, rk, r2]
          · rw [pe]; intro _; exact x3
          · rw [rk, r2]; intro z; omega
          · exact (Kz.trans (Kz.put (by omega)) (Kz.trans (Kz.put (by omega)) (Kz.put (by omega)))).trans x6
        · rw [if_neg q2] at di
          have fin : ∀ (k : Int) (x : Nat), stX11_nextToken (0, [some (.ref 108), none], d, e) = some (100000, [], uI (uI (uI (uI d 108 8 (iI (c : Nat))) 108 9 (iI k)) 108 7 (iI (x : Nat))) 108 7 (iI (x : Nat)), e) → rkT tp L c = k → k ≠ 1 → k ≠ 2 → teT tp L c = x → ∃ d' e', a_run stX11_nextToken (0, [some (.ref 108), none], d, e) = some ([], d', e') ∧ RT d' e' tp L t ∧ Kz d d' e e' := by
            intro k x st r2 k1 k2 te
            refine ⟨_, e, (a_run_step st rfl).trans a_run_end, ⟨?_, ?_, ?_, ?_, ?_⟩, ?_⟩
            · rw [uI_miss (by omega), uI_miss (by omega), uI_miss (by omega), uI_hit rfl, pe]
            · rw [uI_hit rfl, ce, te]
            · rw [uI_miss (by omega), uI_miss (by omega), uI_hit rfl, rk, r2]
            · rw [rk, r2]; intro z; exact absurd z k1
            · rw [rk, r2]; intro z; exact absurd z k2
            · exact (Kz.trans (Kz.put (by omega)) (Kz.put (by omega))).trans ((Kz.put (by omega)).trans (Kz.put (by omega)))
          have uu : ∀ (d : aI) (o j : Nat) (v w : Int32), uI (uI d o j v) o j w = uI d o j w := fun d o j v w => by
            funext o2 j2
            by_cases z : o2 = o
            · subst z
              by_cases z2 : j2 = j
              · subst z2
                rw [uI_hit rfl, uI_hit rfl]
              · rw [uI_miss z2, uI_miss z2, uI_miss z2]
            · rw [uI_o z, uI_o z, uI_o z]
          -- the sign after it
          have T9 : ∀ k : Int32, TPM (uI (uI (uI d 108 8 (iI (c : Nat))) 108 9 k) 108 7 (iI ((c : Int) + 1))) tp L := fun k => T8.of (by rw [uI_miss (by omega), uI_miss (by omega)]) (by rw [uI_o (by omega), uI_o (by omega)])
          have by3 := fun k => m_byte (e := e) (T9 k) (i := c + 1) (by omega)
          rw [show ((c + 1 : Nat) : Int) = (c : Int) + 1 from by omega] at by3
          have b1 := btT_in t4 L (c + 1)
          have two : ∀ (d : aI) (k w x : Int32), uI (uI (uI (uI d 108 9 k) 108 7 w) 108 9 (iI 4)) 108 7 x = uI (uI (uI d 108 9 (iI 4)) 108 7 x) 108 7 x ∧ uI (uI (uI (uI d 108 9 k) 108 7 w) 108 9 (iI 5)) 108 7 x = uI (uI (uI d 108 9 (iI 5)) 108 7 x) 108 7 x := fun d k w x => by
            constructor
            · funext o2 j2
              by_cases z : o2 = 108
              · subst z
                by_cases z7 : j2 = 7
                · rw [uI_hit z7, uI_hit z7]
                · by_cases z9 : j2 = 9
                  · rw [uI_miss z7, uI_hit z9, uI_miss z7, uI_miss z7, uI_hit z9]
                  · rw [uI_miss z7, uI_miss z9, uI_miss z7, uI_miss z9, uI_miss z7, uI_miss z7, uI_miss z9]
              · rw [uI_o z, uI_o z, uI_o z, uI_o z, uI_o z, uI_o z, uI_o z]
            · funext o2 j2
              by_cases z : o2 = 108
              · subst z
                by_cases z7 : j2 = 7
                · rw [uI_hit z7, uI_hit z7]
                · by_cases z9 : j2 = 9
                  · rw [uI_miss z7, uI_hit z9, uI_miss z7, uI_miss z7, uI_hit z9]
                  · rw [uI_miss z7, uI_miss z9, uI_miss z7, uI_miss z9, uI_miss z7, uI_miss z7, uI_miss z9]
              · rw [uI_o z, uI_o z, uI_o z, uI_o z, uI_o z, uI_o z, uI_o z]
          by_cases q3 : dbT tp L c
          · have te : teT tp L c = c + 2 := by unfold teT; rw [if_neg q1, if_neg q2, if_pos q3]
            have bt : btT tp L (c + 1) = 61 := by unfold btT; rw [if_pos q3.2.1]; exact q3.2.2
            rw [bt] at by3
            by_cases q6 : tp c = 60
            · have r4 : rkT tp L c = 4 := by unfold rkT; rw [if_neg q1, if_neg q2, if_pos q3, if_pos q6]
              refine fin 4 (c + 2) ?_ r4 (by omega) (by omega) te
              rw [if_pos (Or.inl (Or.inl q6))] at sg
              rw [q6] at by1 by2 di le sg
              rw [← (two (uI d 108 8 (iI (c : Nat))) (iI 60) (iI ((c : Int) + 1)) _).1]
              show sX11_nextToken_0 d e = _
              unfold sX11_nextToken_0
              simp (config := {maxSteps := 4000000}) (disch := omega) only [nI_iI, lN_lJ, iI_0, lJ_0, iI_add, iI_sub, iI_mul, iI_neg, lJ_add, lJ_sub, lJ_mul, lJ_neg, i_l, l_i, iI_cl, iI_inb, iI_eqT, iI_eqF, iI_ltT, iI_ltF, iI_leT, iI_leF, lJ_eqT, lJ_eqF, lJ_cG, lJ_cE, lJ_cL, lJ_cF, lJ_cGE, lJ_cLE, lJ_cNL, lJ_cNG, Int.cast_ofNat_Int, c_0, c_1, Int.natCast_add, Int.add_zero, cond_true, cond_false, Bool.and_self, Bool.and_true, Bool.true_and, Option.bind_some, decide_true, uI_hit, uI_miss, uI_o, uA_o, uA_s, ↓reduceIte, eq_self, true_or, or_true, or_false, false_or, true_and, and_true, false_and, and_false, or_self, and_self, not_false_eq_true, not_true_eq_false, tn_i, h7, by1, by2, di, le, sg, by3, Int.add_assoc, (show (1 : Int) + 1 = 2 from rfl)]
            · have q7 : tp c = 62 := by have := q3.1; omega
              have r5 : rkT tp L c = 5 := by unfold rkT; rw [if_neg q1, if_neg q2, if_pos q3, if_neg q6]
              refine fin 5 (c + 2) ?_ r5 (by omega) (by omega) te
              rw [if_pos (Or.inl (Or.inr (Or.inl q7)))] at sg
              rw [q7] at by1 by2 di le sg
              rw [← (two (uI d 108 8 (iI (c : Nat))) (iI 62) (iI ((c : Int) + 1)) _).2]
              show sX11_nextToken_0 d e = _
              unfold sX11_nextToken_0
              simp (config := {maxSteps := 4000000}) (disch := omega) only [nI_iI, lN_lJ, iI_0, lJ_0, iI_add, iI_sub, iI_mul, iI_neg, lJ_add, lJ_sub, lJ_mul, lJ_neg, i_l, l_i, iI_cl, iI_inb, iI_eqT, iI_eqF, iI_ltT, iI_ltF, iI_leT, iI_leF, lJ_eqT, lJ_eqF, lJ_cG, lJ_cE, lJ_cL, lJ_cF, lJ_cGE, lJ_cLE, lJ_cNL, lJ_cNG, Int.cast_ofNat_Int, c_0, c_1, Int.natCast_add, Int.add_zero, cond_true, cond_false, Bool.and_self, Bool.and_true, Bool.true_and, Option.bind_some, decide_true, uI_hit, uI_miss, uI_o, uA_o, uA_s, ↓reduceIte, eq_self, true_or, or_true, or_false, false_or, true_and, and_true, false_and, and_false, or_self, and_self, not_false_eq_true, not_true_eq_false, tn_i, h7, by1, by2, di, le, sg, by3, Int.add_assoc, (show (1 : Int) + 1 = 2 from rfl)]
          · have te : teT tp L c = c + 1 := by unfold teT; rw [if_neg q1, if_neg q2, if_neg q3]
            have nb : (tp c = 60 ∨ tp c = 62) → btT tp L (c + 1) ≠ 61 := by
              intro z y
              unfold btT at y
              by_cases w : c + 1 < L
              · rw [if_pos w] at y; exact q3 ⟨z, w, y⟩
              · rw [if_neg w] at y; omega
            by_cases s2 : sg2T (tp c)
            · have r6 : rkT tp L c = tp c := by unfold rkT; rw [if_neg q1, if_neg q2, if_neg q3, if_pos s2]
              rw [if_pos s2] at sg
              refine fin (tp c) (c + 1) ?_ r6 (by omega) (by omega) te
              rw [uu]
              show sX11_nextToken_0 d e = _
              unfold sX11_nextToken_0
              by_cases q6 : tp c = 60 ∨ tp c = 62
              · have nb2 := nb q6
                have by4 := by3 (iI (tp c))
                generalize btT tp L (c + 1) = B at *
                rcases q6 with q6 | q6
                · rw [q6] at by1 by2 di le sg by4 ⊢
                  simp (config := {maxSteps := 4000000}) (disch := omega) only [nI_iI, lN_lJ, iI_0, lJ_0, iI_add, iI_sub, iI_mul, iI_neg, lJ_add, lJ_sub, lJ_mul, lJ_neg, i_l, l_i, iI_cl, iI_inb, iI_eqT, iI_eqF, iI_ltT, iI_ltF, iI_leT, iI_leF, lJ_eqT, lJ_eqF, lJ_cG, lJ_cE, lJ_cL, lJ_cF, lJ_cGE, lJ_cLE, lJ_cNL, lJ_cNG, Int.cast_ofNat_Int, c_0, c_1, Int.natCast_add, Int.add_zero, cond_true, cond_false, Bool.and_self, Bool.and_true, Bool.true_and, Option.bind_some, decide_true, uI_hit, uI_miss, uI_o, uA_o, uA_s, ↓reduceIte, eq_self, true_or, or_true, or_false, false_or, true_and, and_true, false_and, and_false, or_self, and_self, not_false_eq_true, not_true_eq_false, tn_i, h7, by1, by2, di, le, sg, by4]
                · rw [q6] at by1 by2 di le sg by4 ⊢
                  simp (config := {maxSteps := 4000000}) (disch := omega) only [nI_iI, lN_lJ, iI_0, lJ_0, iI_add, iI_sub, iI_mul, iI_neg, lJ_add, lJ_sub, lJ_mul, lJ_neg, i_l, l_i, iI_cl, iI_inb, iI_eqT, iI_eqF, iI_ltT, iI_ltF, iI_leT, iI_leF, lJ_eqT, lJ_eqF, lJ_cG, lJ_cE, lJ_cL, lJ_cF, lJ_cGE, lJ_cLE, lJ_cNL, lJ_cNG, Int.cast_ofNat_Int, c_0, c_1, Int.natCast_add, Int.add_zero, cond_true, cond_false, Bool.and_self, Bool.and_true, Bool.true_and, Option.bind_some, decide_true, uI_hit, uI_miss, uI_o, uA_o, uA_s, ↓reduceIte, eq_self, true_or, or_true, or_false, false_or, true_and, and_true, false_and, and_false, or_self, and_self, not_false_eq_true, not_true_eq_false, tn_i, h7, by1, by2, di, le, sg, by4]
              · simp (config := {maxSteps := 4000000}) (disch := omega) only [nI_iI, lN_lJ, iI_0, lJ_0, iI_add, iI_sub, iI_mul, iI_neg, lJ_add, lJ_sub, lJ_mul, lJ_neg, i_l, l_i, iI_cl, iI_inb, iI_eqT, iI_eqF, iI_ltT, iI_ltF, iI_leT, iI_leF, lJ_eqT, lJ_eqF, lJ_cG, lJ_cE, lJ_cL, lJ_cF, lJ_cGE, lJ_cLE, lJ_cNL, lJ_cNG, Int.cast_ofNat_Int, c_0, c_1, Int.natCast_add, Int.add_zero, cond_true, cond_false, Bool.and_self, Bool.and_true, Bool.true_and, Option.bind_some, decide_true, uI_hit, uI_miss, uI_o, uA_o, uA_s, ↓reduceIte, eq_self, true_or, or_true, or_false, false_or, true_and, and_true, false_and, and_false, or_self, and_self, not_false_eq_true, not_true_eq_false, tn_i, h7, by1, by2, di, le, sg]
            · have r6 : rkT tp L c = 3 := by unfold rkT; rw [if_neg q1, if_neg q2, if_neg q3, if_neg s2]
              rw [if_neg s2] at sg
              refine fin 3 (c + 1) ?_ r6 (by omega) (by omega) te
              rw [uu]
              have q6 : tp c ≠ 60 ∧ tp c ≠ 62 := ⟨fun z => s2 (Or.inl (Or.inl z)), fun z => s2 (Or.inl (Or.inr (Or.inl z)))⟩
              show sX11_nextToken_0 d e = _
              unfold sX11_nextToken_0
              simp (config := {maxSteps := 4000000}) (disch := omega) only [nI_iI, lN_lJ, iI_0, lJ_0, iI_add, iI_sub, iI_mul, iI_neg, lJ_add, lJ_sub, lJ_mul, lJ_neg, i_l, l_i, iI_cl, iI_inb, iI_eqT, iI_eqF, iI_ltT, iI_ltF, iI_leT, iI_leF, lJ_eqT, lJ_eqF, lJ_cG, lJ_cE, lJ_cL, lJ_cF, lJ_cGE, lJ_cLE, lJ_cNL, lJ_cNG, Int.cast_ofNat_Int, c_0, c_1, Int.natCast_add, Int.add_zero, cond_true, cond_false, Bool.and_self, Bool.and_true, Bool.true_and, Option.bind_some, decide_true, uI_hit, uI_miss, uI_o, uA_o, uA_s, ↓reduceIte, eq_self, true_or, or_true, or_false, false_or, true_and, and_true, false_and, and_false, or_self, and_self, not_false_eq_true, not_true_eq_false, tn_i, h7, by1, by2, di, le, sg]
