/-! ===== the reference reads: a clause as a whole ===== -/
def oc2 (p q : Bool) : Int := (if p then 1 else 0) + (if q then 2 else 0)
theorem oc_h0 {d : aI} {e : aJ} (p q : Bool) : FX11_has d e (iI (oc2 p q)) (iI 0) = some (iI (tv p), d, e) := by
  unfold FX11_has
  cases p with
  | true =>
    have c : (a_shr (iI (oc2 true q)) (iI 0)) &&& (nI 1) = (nI 1) := by cases q <;> decide +kernel
    rw [if_pos c]; rfl
  | false =>
    have c : ¬(a_shr (iI (oc2 false q)) (iI 0)) &&& (nI 1) = (nI 1) := by cases q <;> decide +kernel
    rw [if_neg c]; rfl
theorem oc_h1 {d : aI} {e : aJ} (p q : Bool) : FX11_has d e (iI (oc2 p q)) (iI 1) = some (iI (tv q), d, e) := by
  unfold FX11_has
  cases q with
  | true =>
    have c : (a_shr (iI (oc2 p true)) (iI 1)) &&& (nI 1) = (nI 1) := by cases p <;> decide +kernel
    rw [if_pos c]; rfl
  | false =>
    have c : ¬(a_shr (iI (oc2 p false)) (iI 1)) &&& (nI 1) = (nI 1) := by cases p <;> decide +kernel
    rw [if_neg c]; rfl
theorem oc_o0 (p q : Bool) : iI (oc2 p q) ||| a_shl (iI 1) (iI 0) = iI (oc2 true q) := by cases p <;> cases q <;> decide +kernel
theorem oc_o1 (p q : Bool) : iI (oc2 p q) ||| a_shl (iI 1) (iI 1) = iI (oc2 p true) := by cases p <;> cases q <;> decide +kernel
abbrev ocR (st : Rd) : Int := oc2 st.1.1.isSome st.1.2.isSome
def CM (d : aI) (e : aJ) (T : Nat) (tp : Nat → Int) (L i u : Nat) (st : Rd) : Prop := (TPM d tp L ∧ RT d e tp L i) ∧ (d 108 12 = iI ((681 * T : Nat) : Int) ∧ T < 4) ∧ (d 108 13 = iI (u : Nat) ∧ u ≤ psT tp L i) ∧ MDR d T st u ∧ d 108 19 = iI (ocR st)
def KN (T : Nat) (d d' : aI) : Prop := ∀ o j, o ≠ 113 → (o ≠ 111 ∨ j < 681 * T ∨ 681 * T + 681 ≤ j) → (o ≠ 108 ∨ (j ≠ 7 ∧ j ≠ 8 ∧ j ≠ 9 ∧ j ≠ 10 ∧ j ≠ 12 ∧ j ≠ 13 ∧ j ≠ 14 ∧ j ≠ 16 ∧ j ≠ 17 ∧ j ≠ 18 ∧ j ≠ 19)) → d' o j = d o j
theorem KN.refl {T : Nat} (d : aI) : KN T d d := fun _ _ _ _ _ => rfl
theorem KN.trans {T : Nat} {d d1 d2 : aI} (h : KN T d d1) (h2 : KN T d1 d2) : KN T d d2 := fun o j a b c => (h2 o j a b c).trans (h o j a b c)
theorem KN.put {T : Nat} {d : aI} {o j : Nat} {v : Int32} (ho : (o = 111 ∧ 681 * T ≤ j ∧ j < 681 * T + 681) ∨ (o = 108 ∧ (j = 7 ∨ j = 8 ∨ j = 9 ∨ j = 10 ∨ j = 12 ∨ j = 13 ∨ j = 14 ∨ j = 16 ∨ j = 17 ∨ j = 18 ∨ j = 19))) : KN T d (uI d o j v) := fun o2 j2 a b c => by
  by_cases q : o2 = o
  · rw [q, uI_miss (by omega)]
  · rw [uI_o q]
theorem Kz.kn {T : Nat} {d d' : aI} {e e' : aJ} (h : Kz d d' e e') : KN T d d' := fun o j a b c => h.1 o j (by omega)
theorem Kv.kn {T : Nat} {S : Nat → Prop} {d d' : aI} {e e' : aJ} (h : Kv S d d' e e') (g : ∀ j, S j → 681 * T ≤ j ∧ j < 681 * T + 681) : KN T d d' := fun o j a b c => h.1 o j a (by
  rcases b with b | b
  · exact Or.inl b
  · exact Or.inr (fun z => by have := g j z; omega)) (by omega)
theorem psT_mo {tp : Nat → Int} {L : Nat} (t : Nat) : psT tp L t ≤ psT tp L (t + 1) := by
  by_cases q : psT tp L t < L
  · have := (psT_lt q).1; omega
  · have ce := ceT_le (tp := tp) (L := L) (t := t)
    have c2 : ceT tp L t = psT tp L t := if_neg q
    have r := (rnE_in (p := blT) (tp := tp) (L := L) (i := ceT tp L t) ce.1).1
    rw [ce.2] at r
    omega
theorem psT_mn {tp : Nat → Int} {L : Nat} {i j : Nat} (h : i ≤ j) : psT tp L i ≤ psT tp L j := by
  induction h with
  | refl => exact Nat.le_refl _
  | step _ ih => exact Nat.le_trans ih (psT_mo _)
/-- behind what a clause says -/
theorem m_tail {dd d2 d3 : aI} {e e2 e3 : aJ} {T n x j : Nat} {s : Int} {tp : Nat → Int} {L : Nat} (n1 : FX11_nextToken dd e = some ((), d2, e2)) (h12 : d2 108 12 = iI ((681 * T : Nat) : Int)) (hT : T < 4) (hn : n < 24) (hx : x = 681 * T + 1 + 3 * n) (hb : FX11_body (uI d2 111 x (iI s)) e2 (iI s) (iI (x : Nat)) = some (iI 0, d3, e3)) (g12 : d3 108 12 = iI ((681 * T : Nat) : Int)) (g111 : d3 111 (681 * T) = iI (n : Nat)) (hT3 : TPM d3 tp L) (hR3 : RT d3 e3 tp L j) :
    (KT tp L j = 59 → ∃ d5 e5, clT dd e (iI s) (iI (n : Nat)) = some (iI 0, d5, e5) ∧ TPM d5 tp L ∧ RT d5 e5 tp L (j + 1) ∧ (∀ z, z ≠ 681 * T → d5 111 z = d3 111 z) ∧ d5 111 (681 * T) = iI (n + 1 : Nat) ∧ (∀ z, z ≠ 7 → z ≠ 8 → z ≠ 9 → z ≠ 10 → d5 108 z = d3 108 z) ∧ KN T d3 d5) ∧
    (KT tp L j ≠ 59 → ∃ d5 e5, clT dd e (iI s) (iI (n : Nat)) = some (iI 1, d5, e5) ∧ d5 108 8 = iI (psT tp L j : Nat) ∧ KN T d3 d5) := by
  have rk := rk_kt hT3.2.2.2 (L := L) (t := j)
  have r59 := rk.2.2.2.2.1 59 (by decide)
  have rr := rk.2.2.2.2.2.2
  have ct := ((m_clT n1 h12 hT hn hx).2 d3 e3 hb g12 g111 (RKT tp L j) hR3.2.2.1 rr)
  have k0 : KN T d3 (uI d3 111 (681 * T) (iI (n + 1 : Nat))) := KN.put (Or.inl ⟨rfl, by omega⟩)
  have hT4 : TPM (uI d3 111 (681 * T) (iI (n + 1 : Nat))) tp L := hT3.of (by rw [uI_o (by omega)]) (by rw [uI_o (by omega)])
  have hR4 : RT (uI d3 111 (681 * T) (iI (n + 1 : Nat))) e3 tp L j := hR3.of (fun z hz => by rw [uI_o (by omega)])
  constructor
  · intro q
    obtain ⟨d5, e5, x1, x2, x3, x4⟩ := m_nx hT4 hR4
    refine ⟨d5, e5, ct.1 (r59.mp q) d5 e5 x1, x2, x3, fun z hz => by rw [x4.obj (by omega), uI_miss hz], by rw [x4.obj (by omega), uI_hit rfl], fun z z1 z2 z3 z4 => by rw [x4.1 108 z (Or.inr ⟨z1, z2, z3, z4⟩), uI_o (by omega)], k0.trans x4.kn⟩
  · intro q
    exact ⟨_, e3, ct.2 (fun z => q (r59.mpr z)), hR4.1, k0⟩
theorem m_clause {d : aI} {e : aJ} {tp : Nat → Int} {L N i T u : Nat} {st : Rd} (tn : TN tp L N) (hN : N ≤ 300) (cm : CM d e T tp L i u st) (k0 : KT tp L i ≠ 0) : match pCla (KT tp L) (VT tp L) st i with
    | .inl b => ∃ d' e', FX11_clause d e = some (iI b.1, d', e') ∧ (1 ≤ b.1 ∧ b.1 ≤ 6) ∧ d' 108 8 = iI (psT tp L b.2 : Nat) ∧ KN T d d'
    | .inr q => ∃ d' e' u', FX11_clause d e = some (iI 0, d', e') ∧ CM d' e' T tp L q.1 u' q.2 ∧ KN T d d' ∧ i < q.1 := by
  obtain ⟨⟨hT, hR⟩, ⟨h12, hT4⟩, ⟨h13, hu⟩, hD, h19⟩ := cm
  have h5 := hT.2.2.2
  have srt := m_sort (d := d) (e := e) hR h5
  have cnt := hD.2.2.1
  have n24 := hD.2.2.2.1
  have X0 : 681 * T < 2724 := by omega
  have h12' : d 108 12 = iI (681 * (T : Int)) := h12
  have tnT : (681 * (T : Int)).toNat = 681 * T := by omega
  have pi := tn.2.2 i
  have l3 := tn.1
  have ps1 := (tn.2.1 i k0).2
  unfold pCla
  by_cases q1 : KT tp L i < 300 ∨ 308 < KT tp L i
  · rw [if_pos q1]
    rw [if_neg (by omega)] at srt
    refine ⟨d, e, ?_, (show (1 : Int) ≤ 1 ∧ (1 : Int) ≤ 6 by decide), hR.1, KN.refl d⟩
    rw [cl_eq]
    simp (disch := omega) only [nI_iI, lN_lJ, iI_0, lJ_0, iI_add, iI_sub, iI_mul, iI_neg, lJ_add, lJ_sub, lJ_mul, lJ_neg, i_l, l_i, iI_cl, iI_inb, iI_eqT, iI_eqF, iI_ltT, iI_ltF, iI_leT, iI_leF, lJ_eqT, lJ_eqF, lJ_cG, lJ_cE, lJ_cL, lJ_cF, lJ_cGE, lJ_cLE, lJ_cNL, lJ_cNG, Int.cast_ofNat_Int, c_0, c_1, Int.natCast_add, Int.add_zero, cond_true, cond_false, Bool.and_self, Bool.and_true, Bool.true_and, Option.bind_some, decide_true, uI_hit, uI_miss, uI_o, uA_o, uA_s, ↓reduceIte, eq_self, true_or, or_true, or_false, false_or, true_and, and_true, false_and, and_false, or_self, and_self, not_false_eq_true, not_true_eq_false, tn_i, srt]
  · rw [if_neg q1]
    rw [if_pos (by omega)] at srt
    have ha0 := oc_h0 (d := d) (e := e) st.1.1.isSome st.1.2.isSome
    have ha1 := oc_h1 (d := d) (e := e) st.1.1.isSome st.1.2.isSome
    have o0 := oc_o0 st.1.1.isSome st.1.2.isSome
    have o1 := oc_o1 st.1.1.isSome st.1.2.isSome
    by_cases q2 : (KT tp L i = 300 ∧ st.1.1.isSome = true) ∨ (KT tp L i = 301 ∧ st.1.2.isSome = true)
    · rw [if_pos q2]
      refine ⟨d, e, ?_, (show (1 : Int) ≤ 4 ∧ (4 : Int) ≤ 6 by decide), hR.1, KN.refl d⟩
      rw [cl_eq]
      rcases q2 with ⟨a, b⟩ | ⟨a, b⟩
      · rw [a] at srt
        have srt' : FX11_sortOf d e = some (iI 0, d, e) := srt
        have ha0' : FX11_has d e (d 108 19) (iI 0) = some (iI 1, d, e) := by rw [h19, ha0, b]; rfl
        simp (disch := omega) only [nI_iI, lN_lJ, iI_0, lJ_0, iI_add, iI_sub, iI_mul, iI_neg, lJ_add, lJ_sub, lJ_mul, lJ_neg, i_l, l_i, iI_cl, iI_inb, iI_eqT, iI_eqF, iI_ltT, iI_ltF, iI_leT, iI_leF, lJ_eqT, lJ_eqF, lJ_cG, lJ_cE, lJ_cL, lJ_cF, lJ_cGE, lJ_cLE, lJ_cNL, lJ_cNG, Int.cast_ofNat_Int, c_0, c_1, Int.natCast_add, Int.add_zero, cond_true, cond_false, Bool.and_self, Bool.and_true, Bool.true_and, Option.bind_some, decide_true, uI_hit, uI_miss, uI_o, uA_o, uA_s, ↓reduceIte, eq_self, true_or, or_true, or_false, false_or, true_and, and_true, false_and, and_false, or_self, and_self, not_false_eq_true, not_true_eq_false, tn_i, srt', ha0']
      · rw [a] at srt
        have srt' : FX11_sortOf d e = some (iI 1, d, e) := srt
        have ha1' : FX11_has d e (d 108 19) (iI 1) = some (iI 1, d, e) := by rw [h19, ha1, b]; rfl
        simp (disch := omega) only [nI_iI, lN_lJ, iI_0, lJ_0, iI_add, iI_sub, iI_mul, iI_neg, lJ_add, lJ_sub, lJ_mul, lJ_neg, i_l, l_i, iI_cl, iI_inb, iI_eqT, iI_eqF, iI_ltT, iI_ltF, iI_leT, iI_leF, lJ_eqT, lJ_eqF, lJ_cG, lJ_cE, lJ_cL, lJ_cF, lJ_cGE, lJ_cLE, lJ_cNL, lJ_cNG, Int.cast_ofNat_Int, c_0, c_1, Int.natCast_add, Int.add_zero, cond_true, cond_false, Bool.and_self, Bool.and_true, Bool.true_and, Option.bind_some, decide_true, uI_hit, uI_miss, uI_o, uA_o, uA_s, ↓reduceIte, eq_self, true_or, or_true, or_false, false_or, true_and, and_true, false_and, and_false, or_self, and_self, not_false_eq_true, not_true_eq_false, tn_i, srt', ha1']
    · rw [if_neg q2]
      -- what the clause goes on with
      have cE : ∀ dd : aI, (KT tp L i = 300 → dd = uI (uI d 108 19 (iI (oc2 true st.1.2.isSome))) 108 14 (iI 0)) → (KT tp L i = 301 → dd = uI (uI d 108 19 (iI (oc2 st.1.1.isSome true))) 108 14 (iI 1)) → (302 ≤ KT tp L i → dd = uI d 108 14 (iI (KT tp L i - 300))) → FX11_clause d e = if st.2.1 = 24 then some (iI 6, d, e) else clT dd e (iI (KT tp L i - 300)) (iI (st.2.1 : Nat)) := by
        intro dd e0 e1 e2
        rw [cl_eq]
        by_cases a : KT tp L i = 300
        · rw [e0 a, a]
          rw [a] at srt
          have srt' : FX11_sortOf d e = some (iI 0, d, e) := srt
          have s1 : st.1.1.isSome = false := Bool.not_eq_true _ ▸ (fun z => q2 (Or.inl ⟨a, z⟩))
          have ha0' : FX11_has d e (d 108 19) (iI 0) = some (iI 0, d, e) := by rw [h19, ha0, s1]; rfl
          have o0' : d 108 19 ||| a_shl (iI 1) (iI 0) = iI (oc2 true st.1.2.isSome) := by rw [h19]; exact o0
          show _ = if st.2.1 = 24 then some (iI 6, d, e) else clT (uI (uI d 108 19 (iI (oc2 true st.1.2.isSome))) 108 14 (iI 0)) e (iI 0) (iI (st.2.1 : Nat))
          generalize st.2.1 = n at *
          by_cases f : n = 24
          · rw [if_pos f]
            simp (disch := omega) only [nI_iI, lN_lJ, iI_0, lJ_0, iI_add, iI_sub, iI_mul, iI_neg, lJ_add, lJ_sub, lJ_mul, lJ_neg, i_l, l_i, iI_cl, iI_inb, iI_eqT, iI_eqF, iI_ltT, iI_ltF, iI_leT, iI_leF, lJ_eqT, lJ_eqF, lJ_cG, lJ_cE, lJ_cL, lJ_cF, lJ_cGE, lJ_cLE, lJ_cNL, lJ_cNG, Int.cast_ofNat_Int, c_0, c_1, Int.natCast_add, Int.add_zero, cond_true, cond_false, Bool.and_self, Bool.and_true, Bool.true_and, Option.bind_some, decide_true, uI_hit, uI_miss, uI_o, uA_o, uA_s, ↓reduceIte, eq_self, true_or, or_true, or_false, false_or, true_and, and_true, false_and, and_false, or_self, and_self, not_false_eq_true, not_true_eq_false, tn_i, srt', ha0', h12', tnT, cnt]
          · rw [if_neg f]
            simp (disch := omega) only [nI_iI, lN_lJ, iI_0, lJ_0, iI_add, iI_sub, iI_mul, iI_neg, lJ_add, lJ_sub, lJ_mul, lJ_neg, i_l, l_i, iI_cl, iI_inb, iI_eqT, iI_eqF, iI_ltT, iI_ltF, iI_leT, iI_leF, lJ_eqT, lJ_eqF, lJ_cG, lJ_cE, lJ_cL, lJ_cF, lJ_cGE, lJ_cLE, lJ_cNL, lJ_cNG, Int.cast_ofNat_Int, c_0, c_1, Int.natCast_add, Int.add_zero, cond_true, cond_false, Bool.and_self, Bool.and_true, Bool.true_and, Option.bind_some, decide_true, uI_hit, uI_miss, uI_o, uA_o, uA_s, ↓reduceIte, eq_self, true_or, or_true, or_false, false_or, true_and, and_true, false_and, and_false, or_self, and_self, not_false_eq_true, not_true_eq_false, tn_i, srt', ha0', h12', tnT, cnt, o0']
        · by_cases b : KT tp L i = 301
          · rw [e1 b, b]
            rw [b] at srt
            have srt' : FX11_sortOf d e = some (iI 1, d, e) := srt
            have s1 : st.1.2.isSome = false := Bool.not_eq_true _ ▸ (fun z => q2 (Or.inr ⟨b, z⟩))
            have ha1' : FX11_has d e (d 108 19) (iI 1) = some (iI 0, d, e) := by rw [h19, ha1, s1]; rfl
            have o1' : d 108 19 ||| a_shl (iI 1) (iI 1) = iI (oc2 st.1.1.isSome true) := by rw [h19]; exact o1
            show _ = if st.2.1 = 24 then some (iI 6, d, e) else clT (uI (uI d 108 19 (iI (oc2 st.1.1.isSome true))) 108 14 (iI 1)) e (iI 1) (iI (st.2.1 : Nat))
            generalize st.2.1 = n at *
            by_cases f : n = 24
            · rw [if_pos f]
              simp (disch := omega) only [nI_iI, lN_lJ, iI_0, lJ_0, iI_add, iI_sub, iI_mul, iI_neg, lJ_add, lJ_sub, lJ_mul, lJ_neg, i_l, l_i, iI_cl, iI_inb, iI_eqT, iI_eqF, iI_ltT, iI_ltF, iI_leT, iI_leF, lJ_eqT, lJ_eqF, lJ_cG, lJ_cE, lJ_cL, lJ_cF, lJ_cGE, lJ_cLE, lJ_cNL, lJ_cNG, Int.cast_ofNat_Int, c_0, c_1, Int.natCast_add, Int.add_zero, cond_true, cond_false, Bool.and_self, Bool.and_true, Bool.true_and, Option.bind_some, decide_true, uI_hit, uI_miss, uI_o, uA_o, uA_s, ↓reduceIte, eq_self, true_or, or_true, or_false, false_or, true_and, and_true, false_and, and_false, or_self, and_self, not_false_eq_true, not_true_eq_false, tn_i, srt', ha1', h12', tnT, cnt]
            · rw [if_neg f]
              simp (disch := omega) only [nI_iI, lN_lJ, iI_0, lJ_0, iI_add, iI_sub, iI_mul, iI_neg, lJ_add, lJ_sub, lJ_mul, lJ_neg, i_l, l_i, iI_cl, iI_inb, iI_eqT, iI_eqF, iI_ltT, iI_ltF, iI_leT, iI_leF, lJ_eqT, lJ_eqF, lJ_cG, lJ_cE, lJ_cL, lJ_cF, lJ_cGE, lJ_cLE, lJ_cNL, lJ_cNG, Int.cast_ofNat_Int, c_0, c_1, Int.natCast_add, Int.add_zero, cond_true, cond_false, Bool.and_self, Bool.and_true, Bool.true_and, Option.bind_some, decide_true, uI_hit, uI_miss, uI_o, uA_o, uA_s, ↓reduceIte, eq_self, true_or, or_true, or_false, false_or, true_and, and_true, false_and, and_false, or_self, and_self, not_false_eq_true, not_true_eq_false, tn_i, srt', ha1', h12', tnT, cnt, o1']
          · rw [e2 (by omega)]
            generalize KT tp L i = K at *
            generalize st.2.1 = n at *
            by_cases f : n = 24
            · rw [if_pos f]
              simp (disch := omega) only [nI_iI, lN_lJ, iI_0, lJ_0, iI_add, iI_sub, iI_mul, iI_neg, lJ_add, lJ_sub, lJ_mul, lJ_neg, i_l, l_i, iI_cl, iI_inb, iI_eqT, iI_eqF, iI_ltT, iI_ltF, iI_leT, iI_leF, lJ_eqT, lJ_eqF, lJ_cG, lJ_cE, lJ_cL, lJ_cF, lJ_cGE, lJ_cLE, lJ_cNL, lJ_cNG, Int.cast_ofNat_Int, c_0, c_1, Int.natCast_add, Int.add_zero, cond_true, cond_false, Bool.and_self, Bool.and_true, Bool.true_and, Option.bind_some, decide_true, uI_hit, uI_miss, uI_o, uA_o, uA_s, ↓reduceIte, eq_self, true_or, or_true, or_false, false_or, true_and, and_true, false_and, and_false, or_self, and_self, not_false_eq_true, not_true_eq_false, tn_i, srt, h12', tnT, cnt]
            · rw [if_neg f]
              simp (disch := omega) only [nI_iI, lN_lJ, iI_0, lJ_0, iI_add, iI_sub, iI_mul, iI_neg, lJ_add, lJ_sub, lJ_mul, lJ_neg, i_l, l_i, iI_cl, iI_inb, iI_eqT, iI_eqF, iI_ltT, iI_ltF, iI_leT, iI_leF, lJ_eqT, lJ_eqF, lJ_cG, lJ_cE, lJ_cL, lJ_cF, lJ_cGE, lJ_cLE, lJ_cNL, lJ_cNG, Int.cast_ofNat_Int, c_0, c_1, Int.natCast_add, Int.add_zero, cond_true, cond_false, Bool.and_self, Bool.and_true, Bool.true_and, Option.bind_some, decide_true, uI_hit, uI_miss, uI_o, uA_o, uA_s, ↓reduceIte, eq_self, true_or, or_true, or_false, false_or, true_and, and_true, false_and, and_false, or_self, and_self, not_false_eq_true, not_true_eq_false, tn_i, srt, h12', tnT, cnt]
      by_cases q3 : 24 ≤ st.2.1
      · rw [if_pos q3]
        refine ⟨d, e, ?_, (show (1 : Int) ≤ 6 ∧ (6 : Int) ≤ 6 by decide), hR.1, KN.refl d⟩
        by_cases a : KT tp L i = 300
        · rw [cE _ (fun _ => rfl) (fun z => by omega) (fun z => by omega), if_pos (by omega)]
        · by_cases b : KT tp L i = 301
          · rw [cE _ (fun z => by omega) (fun z => rfl) (fun z => by omega), if_pos (by omega)]
          · rw [cE _ (fun z => by omega) (fun z => by omega) (fun z => rfl), if_pos (by omega)]
      · rw [if_neg q3]
        have hn : st.2.1 < 24 := by omega
        -- a law's clause, whichever
        have law : ∀ (s : Int) (dd : aI) (l : Fn → Option Fn × Option Fn), (s = 0 ∨ s = 1) → KT tp L i = 300 + s → (∃ oc, dd = uI (uI d 108 19 (iI oc)) 108 14 (iI s) ∧ ∀ f, oc = oc2 (l f).1.isSome (l f).2.isSome) → FX11_clause d e = clT dd e (iI s) (iI (st.2.1 : Nat)) → (∀ (f : Fn) (d' : aI) (u' : Nat), MLu d' T s (addR st (l f) (s, 0, 0)) u' (some f) → (∀ s2, s2 ≠ s → ∀ y, MLu d T s2 st u y → MLu d' T s2 (addR st (l f) (s, 0, 0)) u' y) → MLu d' T 0 (addR st (l f) (s, 0, 0)) u' (l f).1 ∧ MLu d' T 1 (addR st (l f) (s, 0, 0)) u' (l f).2) → (∀ k, k < st.2.1 → (st.2.2 k).1 ≠ s) → match (match (match pSum (KT tp L) (VT tp L) s (pOpd (KT tp L) (VT tp L) s 12) 0 (i + 1) with | .inl b => .inl b | .inr q => .inr (q.1, addR st (l q.2) (s, 0, 0)) : Rs Rd) with | .inl b => .inl b | .inr q => if KT tp L q.1 = 59 then .inr (q.1 + 1, q.2) else .inl (1, q.1) : Rs Rd) with
            | .inl b => ∃ d' e', FX11_clause d e = some (iI b.1, d', e') ∧ (1 ≤ b.1 ∧ b.1 ≤ 6) ∧ d' 108 8 = iI (psT tp L b.2 : Nat) ∧ KN T d d'
            | .inr q => ∃ d' e' u', FX11_clause d e = some (iI 0, d', e') ∧ CM d' e' T tp L q.1 u' q.2 ∧ KN T d d' ∧ i < q.1 := by
          intro s dd l hs ks hdd cEq hl hnone
          obtain ⟨oc, hdd, hoc⟩ := hdd
          have dT : TPM dd tp L := hT.of (by rw [hdd, uI_miss (by omega), uI_miss (by omega)]) (by rw [hdd, uI_o (by omega), uI_o (by omega)])
          have dR : RT dd e tp L i := hR.of (fun j hj => by rw [hdd, uI_miss (by omega), uI_miss (by omega)])
          have kd : KN T d dd := by rw [hdd]; exact (KN.put (by omega)).trans (KN.put (by omega))
          obtain ⟨d2, e2, n1, n2, n3, n4⟩ := m_nx dT dR
          have c108 : ∀ j, j ≠ 7 → j ≠ 8 → j ≠ 9 → j ≠ 10 → j ≠ 14 → j ≠ 19 → d2 108 j = d 108 j := fun j j1 j2 j3 j4 j5 j6 => by rw [n4.1 108 j (Or.inr ⟨j1, j2, j3, j4⟩), hdd, uI_miss j5, uI_miss j6]
          have c111 : d2 111 = d 111 := by rw [n4.obj (by omega), hdd, uI_o (by omega), uI_o (by omega)]
          obtain ⟨x, hx⟩ : ∃ x, x = 681 * T + 1 + 3 * st.2.1 := ⟨_, rfl⟩
          have lc := m_lawc (d := uI d2 111 x (iI s)) (e := e2) (i := i + 1) (x := x) (a := u) (s := s) (T := T) tn hN (n2.of (by rw [uI_o (by omega)]) (by rw [uI_o (by omega)])) (n3.of (fun j hj => by rw [uI_o (by omega)])) (by rw [uI_o (by omega), c108 12 (by omega) (by omega) (by omega) (by omega) (by omega) (by omega)]; exact h12) hT4 (by rw [uI_o (by omega), c108 13 (by omega) (by omega) (by omega) (by omega) (by omega) (by omega)]; exact h13) (by omega) (by rw [uI_o (by omega), n4.1 108 14 (by omega), hdd, uI_hit rfl]) hs (by omega)
          have k2 : KN T d (uI d2 111 x (iI s)) := kd.trans (n4.kn.trans (KN.put (by omega)))
          have bd : FX11_body (uI d2 111 x (iI s)) e2 (iI s) (iI (x : Nat)) = FX11_lawClause (uI d2 111 x (iI s)) e2 (iI (x : Nat)) ∨ ∀ z, FX11_lawClause (uI d2 111 x (iI s)) e2 (iI (x : Nat)) = some z → FX11_body (uI d2 111 x (iI s)) e2 (iI s) (iI (x : Nat)) = some (z.1, z.2.1, z.2.2) := Or.inr (fun z hz => by
            unfold FX11_body
            rcases hs with hs | hs <;> (subst hs; simp (disch := omega) only [nI_iI, lN_lJ, iI_0, lJ_0, iI_add, iI_sub, iI_mul, iI_neg, lJ_add, lJ_sub, lJ_mul, lJ_neg, i_l, l_i, iI_cl, iI_inb, iI_eqT, iI_eqF, iI_ltT, iI_ltF, iI_leT, iI_leF, lJ_eqT, lJ_eqF, lJ_cG, lJ_cE, lJ_cL, lJ_cF, lJ_cGE, lJ_cLE, lJ_cNL, lJ_cNG, Int.cast_ofNat_Int, c_0, c_1, Int.natCast_add, Int.add_zero, cond_true, cond_false, Bool.and_self, Bool.and_true, Bool.true_and, Option.bind_some, decide_true, uI_hit, uI_miss, uI_o, uA_o, uA_s, ↓reduceIte, eq_self, true_or, or_true, or_false, false_or, true_and, and_true, false_and, and_false, or_self, and_self, not_false_eq_true, not_true_eq_false, tn_i, hz]))
          have bd2 : ∀ f d3 e3, FX11_lawClause (uI d2 111 x (iI s)) e2 (iI (x : Nat)) = some (f, d3, e3) → FX11_body (uI d2 111 x (iI s)) e2 (iI s) (iI (x : Nat)) = some (f, d3, e3) := fun f d3 e3 hz => by
            rcases bd with g | g
            · rw [g]; exact hz
            · exact g _ hz
          have h12d : d2 108 12 = iI ((681 * T : Nat) : Int) := by rw [c108 12 (by omega) (by omega) (by omega) (by omega) (by omega) (by omega)]; exact h12
          cases hp : pSum (KT tp L) (VT tp L) s (pOpd (KT tp L) (VT tp L) s 12) 0 (i + 1) with
          | inl b =>
            rw [hp] at lc
            obtain ⟨d3, e3, y1, y2, y3, y4⟩ := lc
            refine ⟨d3, e3, ?_, y2, y3, k2.trans (y4.kn (fun j hj => by omega))⟩
            rw [cEq]
            exact (m_clT n1 h12d hT4 hn hx).1 b.1 d3 e3 y2 (bd2 _ _ _ y1)
          | inr q =>
            rw [hp] at lc
            obtain ⟨d3, e3, b, O, V, y1, y2, y3, y4, y5, y6, y7, y8, y9, y10, y11, y12⟩ := lc
            have z12 : d3 108 12 = iI ((681 * T : Nat) : Int) := by rw [y11.1 108 12 (by omega) (by omega) (by omega), uI_o (by omega)]; exact h12d
            have z0 : d3 111 (681 * T) = iI (st.2.1 : Nat) := by rw [y11.1 111 _ (by omega) (by omega) (by omega), uI_miss (by omega), c111]; exact cnt
            have tl := m_tail n1 h12d hT4 hn hx (bd2 _ _ _ y1) z12 z0 y2 y3
            have k3 : KN T d d3 := k2.trans (y11.kn (fun j hj => by omega))
            by_cases q59 : KT tp L q.1 = 59
            · simp only [if_pos q59]
              obtain ⟨d5, e5, w1, w2, w3, w4, w5, w6, w7⟩ := tl.1 q59
              have mono := psT_mo (tp := tp) (L := L) q.1
              have g1 : ∀ j, 681 * T + 1 ≤ j → j < 681 * T + 1 + 3 * st.2.1 → d5 111 j = d 111 j := fun j j1 j2 => by rw [w4 j (by omega), y11.1 111 j (by omega) (Or.inr (by omega)) (Or.inl (by omega)), uI_miss (by omega), c111]
              have g2 : ∀ j, 681 * T + 73 ≤ j → j < 681 * T + 73 + 2 * u → d5 111 j = d 111 j := fun j j1 j2 => by rw [w4 j (by omega), y10 j j1 j2, uI_miss (by omega), c111]
              have ub := y8.2.1
              have new : MLu d5 T s (addR st (l q.2) (s, 0, 0)) b (some q.2) := by
                refine ⟨st.2.1, u, b, O, V, ⟨Nat.lt_succ_self _, ?_⟩, fun j hj => ?_, ?_, ?_, y8, Nat.le_refl _, fun z z1 z2 => ?_⟩
                · show (if st.2.1 = st.2.1 then ((s, 0, 0) : Int × Int × Int) else _).1 = s
                  rw [if_pos rfl]
                · show (if j = st.2.1 then ((s, 0, 0) : Int × Int × Int) else st.2.2 j).1 ≠ s
                  rw [if_neg (by omega)]
                  exact hnone j hj
                · rw [w4 _ (by omega), ← hx]; exact y6
                · rw [w4 _ (by omega), ← hx]; exact y7
                · rw [w4 _ (by omega), w4 _ (by omega)]
                  exact y9 z z1 z2
              have two := hl q.2 d5 b new (fun s2 hs2 y hy => hy.keep n24 g1 g2 (by exact fun z => hs2 z.symm) (by omega))
              refine ⟨d5, e5, b, by rw [cEq]; exact w1, ⟨⟨w2, w3⟩, ⟨by rw [w6 12 (by omega) (by omega) (by omega) (by omega)]; exact z12, hT4⟩, ⟨by rw [w6 13 (by omega) (by omega) (by omega) (by omega)]; exact y4, by show b ≤ psT tp L (q.1 + 1); omega⟩, hD.add g1 hn w5 ?_ (fun z => ?_) two.1 two.2, ?_⟩, k3.trans w7, by show i < q.1 + 1; omega⟩
              · rw [w4 _ (by omega), ← hx, y11.1 111 x (by omega) (Or.inr (by omega)) (Or.inl (by omega)), uI_hit rfl]
              · have z2 : 2 ≤ s := z
                omega
              · show d5 108 19 = iI (oc2 (l q.2).1.isSome (l q.2).2.isSome)
                rw [w6 19 (by omega) (by omega) (by omega) (by omega), y11.1 108 19 (by omega) (by omega) (by omega), uI_o (by omega), n4.1 108 19 (by omega), hdd, uI_miss (by omega), uI_hit rfl, hoc q.2]
            · simp only [if_neg q59]
              obtain ⟨d5, e5, w1, w2, w3⟩ := tl.2 q59
              exact ⟨d5, e5, by rw [cEq]; exact w1, (show (1 : Int) ≤ 1 ∧ (1 : Int) ≤ 6 by decide), w2, k3.trans w3⟩
        unfold pBody
        by_cases a : KT tp L i = 300
        · simp only [if_pos a]
          have s1 : st.1.1 = none := by
            cases h : st.1.1 with
            | none => rfl
            | some f => exact absurd (Or.inl ⟨a, by rw [h]; rfl⟩) q2
          have m1 := hD.1
          have m2 := hD.2.1
          rw [s1] at m1
          have ce := cE _ (fun _ => rfl) (fun z => by omega) (fun z => by omega)
          rw [if_neg (by omega), a] at ce
          exact law 0 _ (fun f => (some f, st.1.2)) (Or.inl rfl) a ⟨_, rfl, fun f => rfl⟩ ce (fun f d' u' w1 w2 => ⟨w1, w2 1 (by decide) _ m2⟩) m1
        · simp only [if_neg a]
          by_cases b : KT tp L i = 301
          · simp only [if_pos b]
            have s1 : st.1.2 = none := by
              cases h : st.1.2 with
              | none => rfl
              | some f => exact absurd (Or.inr ⟨b, by rw [h]; rfl⟩) q2
            have m1 := hD.1
            have m2 := hD.2.1
            rw [s1] at m2
            have ce := cE _ (fun z => by omega) (fun _ => rfl) (fun z => by omega)
            rw [if_neg (by omega), b] at ce
            exact law 1 _ (fun f => (st.1.1, some f)) (Or.inr rfl) b ⟨_, rfl, fun f => rfl⟩ ce (fun f d' u' w1 w2 => ⟨w2 0 (by decide) _ m1, w1⟩) m2
          · simp only [if_neg b]
            have ce := cE _ (fun z => by omega) (fun z => by omega) (fun _ => rfl)
            rw [if_neg (by omega)] at ce
            have dT : TPM (uI d 108 14 (iI (KT tp L i - 300))) tp L := hT.of (by rw [uI_miss (by omega)]) (by rw [uI_o (by omega)])
            have dR : RT (uI d 108 14 (iI (KT tp L i - 300))) e tp L i := hR.of (fun j hj => by rw [uI_miss (by omega)])
            obtain ⟨d2, e2, n1, n2, n3, n4⟩ := m_nx dT dR
            have kd : KN T d d2 := (KN.put (by omega)).trans n4.kn
            have c108 : ∀ j, j ≠ 7 → j ≠ 8 → j ≠ 9 → j ≠ 10 → j ≠ 14 → d2 108 j = d 108 j := fun j j1 j2 j3 j4 j5 => by rw [n4.1 108 j (Or.inr ⟨j1, j2, j3, j4⟩), uI_miss j5]
            have c111 : d2 111 = d 111 := by rw [n4.obj (by omega), uI_o (by omega)]
            obtain ⟨x, hx⟩ : ∃ x, x = 681 * T + 1 + 3 * st.2.1 := ⟨_, rfl⟩
            have h12d : d2 108 12 = iI ((681 * T : Nat) : Int) := by rw [c108 12 (by omega) (by omega) (by omega) (by omega) (by omega)]; exact h12
            have dd := m_deed (d := uI d2 111 x (iI (KT tp L i - 300))) (e := e2) (i := i + 1) (x := x) (c := KT tp L i) (n2.of (by rw [uI_o (by omega)]) (by rw [uI_o (by omega)])) (n3.of (fun j hj => by rw [uI_o (by omega)])) (by omega) (by omega)
            have k2 : KN T d (uI d2 111 x (iI (KT tp L i - 300))) := kd.trans (KN.put (by omega))
            cases hp : pDeed (KT tp L) (VT tp L) (KT tp L i) (i + 1) with
            | inl b =>
              rw [hp] at dd
              obtain ⟨d3, e3, y1, y2, y3, y4⟩ := dd
              refine ⟨d3, e3, ?_, y2, y3, k2.trans (y4.kn (fun j hj => by omega))⟩
              rw [ce]
              exact (m_clT n1 h12d hT4 hn hx).1 b.1 d3 e3 y2 y1
            | inr q =>
              rw [hp] at dd
              obtain ⟨d3, e3, y1, y2, y3, y4, y5, y6, y7, y8⟩ := dd
              have z12 : d3 108 12 = iI ((681 * T : Nat) : Int) := by rw [y7.1 108 12 (by omega) (by omega) (by omega), uI_o (by omega)]; exact h12d
              have z0 : d3 111 (681 * T) = iI (st.2.1 : Nat) := by rw [y7.1 111 _ (by omega) (by omega) (by omega), uI_miss (by omega), c111]; exact cnt
              have tl := m_tail n1 h12d hT4 hn hx y1 z12 z0 y2 y3
              have k3 : KN T d d3 := k2.trans (y7.kn (fun j hj => by omega))
              by_cases q59 : KT tp L q.1 = 59
              · simp only [if_pos q59]
                obtain ⟨d5, e5, w1, w2, w3, w4, w5, w6, w7⟩ := tl.1 q59
                have mono := psT_mn (tp := tp) (L := L) (i := i) (j := q.1 + 1) (by omega)
                have g1 : ∀ j, 681 * T + 1 ≤ j → j < 681 * T + 1 + 3 * st.2.1 → d5 111 j = d 111 j := fun j j1 j2 => by rw [w4 j (by omega), y7.1 111 j (by omega) (Or.inr (by omega)) (Or.inl (by omega)), uI_miss (by omega), c111]
                have g2 : ∀ j, 681 * T + 73 ≤ j → j < 681 * T + 73 + 2 * u → d5 111 j = d 111 j := fun j j1 j2 => by rw [w4 j (by omega), y7.1 111 j (by omega) (Or.inr (by omega)) (Or.inl (by omega)), uI_miss (by omega), c111]
                refine ⟨d5, e5, u, by rw [ce]; exact w1, ⟨⟨w2, w3⟩, ⟨by rw [w6 12 (by omega) (by omega) (by omega) (by omega)]; exact z12, hT4⟩, ⟨?_, by show u ≤ psT tp L (q.1 + 1); omega⟩, hD.add g1 hn w5 ?_ (fun z => ⟨?_, fun z2 => ?_⟩) (hD.1.keep n24 g1 g2 (by show KT tp L i - 300 ≠ 0; omega) (Nat.le_refl _)) (hD.2.1.keep n24 g1 g2 (by show KT tp L i - 300 ≠ 1; omega) (Nat.le_refl _)), ?_⟩, k3.trans w7, by show i < q.1 + 1; omega⟩
                · rw [w6 13 (by omega) (by omega) (by omega) (by omega), y6, uI_o (by omega), c108 13 (by omega) (by omega) (by omega) (by omega) (by omega)]; exact h13
                · rw [w4 _ (by omega), ← hx, y7.1 111 x (by omega) (Or.inr (by omega)) (Or.inl (by omega)), uI_hit rfl]
                · rw [w4 _ (by omega), ← hx]; exact y4
                · have z3 : KT tp L i - 300 = 2 ∨ KT tp L i - 300 = 3 ∨ KT tp L i - 300 = 4 := z2
                  rw [w4 _ (by omega), ← hx]; exact y5 (by omega)
                · show d5 108 19 = iI (ocR st)
                  rw [w6 19 (by omega) (by omega) (by omega) (by omega), y7.1 108 19 (by omega) (by omega) (by omega), uI_o (by omega), c108 19 (by omega) (by omega) (by omega) (by omega) (by omega)]; exact h19
              · simp only [if_neg q59]
                obtain ⟨d5, e5, w1, w2, w3⟩ := tl.2 q59
                exact ⟨d5, e5, by rw [ce]; exact w1, (show (1 : Int) ≤ 1 ∧ (1 : Int) ≤ 6 by decide), w2, k3.trans w3⟩
