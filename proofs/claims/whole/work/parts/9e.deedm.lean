/-! ===== the reference reads: clauses ===== -/
theorem m_nx {d : aI} {e : aJ} {tp : Nat → Int} {L t : Nat} (h1 : TPM d tp L) (h2 : RT d e tp L t) : ∃ d' e', FX11_nextToken d e = some ((), d', e') ∧ TPM d' tp L ∧ RT d' e' tp L (t + 1) ∧ Kz d d' e e' := by
  have ce := ceT_le (tp := tp) (L := L) (t := t)
  obtain ⟨d', e', x, y, z⟩ := m_next (e := e) h1 (L - ceT tp L t) (ceT tp L t) d h1 (by omega) ce.2 h2.2.1
  refine ⟨d', e', ?_, h1.of (z.1 108 4 (by omega)) (z.obj (by omega)), y, z⟩
  unfold FX11_nextToken
  rw [x]
  rfl
/-- what stays -/
def Kv (S : Nat → Prop) (d d' : aI) (e e' : aJ) : Prop := (∀ o j, o ≠ 113 → (o ≠ 111 ∨ ¬S j) → (o ≠ 108 ∨ (j ≠ 7 ∧ j ≠ 8 ∧ j ≠ 9 ∧ j ≠ 10 ∧ j ≠ 13 ∧ j ≠ 16 ∧ j ≠ 17 ∧ j ≠ 18)) → d' o j = d o j) ∧ (∀ o j, (o ≠ 108 ∨ j ≠ 11) → e' o j = e o j)
theorem Kv.refl {S : Nat → Prop} (d : aI) (e : aJ) : Kv S d d e e := ⟨fun _ _ _ _ _ => rfl, fun _ _ _ => rfl⟩
theorem Kv.trans {S : Nat → Prop} {d d1 d2 : aI} {e e1 e2 : aJ} (h : Kv S d d1 e e1) (h2 : Kv S d1 d2 e1 e2) : Kv S d d2 e e2 := ⟨fun o j a b c => (h2.1 o j a b c).trans (h.1 o j a b c), fun o j a => (h2.2 o j a).trans (h.2 o j a)⟩
theorem Kv.more {S S2 : Nat → Prop} {d d' : aI} {e e' : aJ} (h : Kv S d d' e e') (g : ∀ j, S j → S2 j) : Kv S2 d d' e e' := ⟨fun o j a b c => h.1 o j a (by rcases b with b | b; exact Or.inl b; exact Or.inr (fun z => b (g j z))) c, h.2⟩
theorem Kz.kv {S : Nat → Prop} {d d' : aI} {e e' : aJ} (h : Kz d d' e e') : Kv S d d' e e' := ⟨fun o j a b c => h.1 o j (by omega), h.2⟩
theorem Kv.put {S : Nat → Prop} {d : aI} {e : aJ} {o j : Nat} {v : Int32} (ho : (o = 111 ∧ S j) ∨ (o = 108 ∧ (j = 13 ∨ j = 16 ∨ j = 17 ∨ j = 18))) : Kv S d (uI d o j v) e e := ⟨fun o2 j2 a b c => by
  by_cases q : o2 = o
  · rw [q]
    refine uI_miss (fun z => ?_)
    rcases ho with ⟨h1, h2⟩ | ⟨h1, h2⟩
    · rcases b with b | b
      · omega
      · exact b (by rw [z]; exact h2)
    · omega
  · rw [uI_o q], fun _ _ _ => rfl⟩
theorem m_fig {d : aI} {e : aJ} {tp : Nat → Int} {L i x : Nat} {lo hi : Int} (hT : TPM d tp L) (h : RT d e tp L i) (hx : x < 2724) (hl : 0 ≤ lo ∧ lo ≤ hi ∧ hi ≤ 9999) :
    (KT tp L i = 1 → lo ≤ VT tp L i ∧ VT tp L i ≤ hi → ∃ d' e', FX11_figure d e (iI (x : Nat)) (iI lo) (iI hi) = some (iI 0, d', e') ∧ TPM d' tp L ∧ RT d' e' tp L (i + 1) ∧ d' 111 x = iI (VT tp L i) ∧ d' 108 13 = d 108 13 ∧ Kv (fun j => j = x) d d' e e') ∧
    (KT tp L i = 1 → ¬(lo ≤ VT tp L i ∧ VT tp L i ≤ hi) → FX11_figure d e (iI (x : Nat)) (iI lo) (iI hi) = some (iI 2, d, e)) ∧
    (KT tp L i ≠ 1 → FX11_figure d e (iI (x : Nat)) (iI lo) (iI hi) = some (iI 1, d, e)) := by
  have h5 := hT.2.2.2
  have rk := rk_kt h5 (L := L) (t := i)
  have h9 := h.2.2.1
  have kr := KT_in h5 (L := L) i
  have rn := rnE_in (p := fgT) (tp := tp) (L := L) (i := psT tp L i) (psT_le i)
  have nv := nv_vl (tp := tp) (i := psT tp L i) (rnE fgT tp L (psT tp L i) - psT tp L i) (fun j hj => rn.2.2.1 _ (by omega) (by omega))
  refine ⟨fun q v => ?_, fun q v => ?_, fun q => ?_⟩
  · have r1 : RKT tp L i = 1 := rk.2.1.mp q
    have h10 := h.2.2.2.1 r1
    rw [r1] at h9
    have vt : VT tp L i = vlT tp (psT tp L i) (rnE fgT tp L (psT tp L i) - psT tp L i) := rfl
    have ev : nvT tp (psT tp L i) (rnE fgT tp L (psT tp L i) - psT tp L i) = VT tp L i := by omega
    rw [ev] at h10
    have hT2 : TPM (uI d 111 x (iI (VT tp L i))) tp L := hT.of (by rw [uI_o (by omega)]) (by rw [uI_o (by omega)])
    have hR2 : RT (uI d 111 x (iI (VT tp L i))) e tp L i := h.of (fun j hj => by rw [uI_o (by omega)])
    obtain ⟨d2, e2, n1, n2, n3, n4⟩ := m_nx hT2 hR2
    refine ⟨d2, e2, ?_, n2, n3, ?_, ?_, (Kv.put (S := fun j => j = x) (Or.inl ⟨rfl, rfl⟩)).trans n4.kv⟩
    · unfold FX11_figure
      generalize VT tp L i = V at *
      simp (disch := omega) only [nI_iI, lN_lJ, iI_0, lJ_0, iI_add, iI_sub, iI_mul, iI_neg, lJ_add, lJ_sub, lJ_mul, lJ_neg, i_l, l_i, iI_cl, iI_inb, iI_eqT, iI_eqF, iI_ltT, iI_ltF, iI_leT, iI_leF, lJ_eqT, lJ_eqF, lJ_cG, lJ_cE, lJ_cL, lJ_cF, lJ_cGE, lJ_cLE, lJ_cNL, lJ_cNG, Int.cast_ofNat_Int, c_0, c_1, Int.natCast_add, Int.add_zero, cond_true, cond_false, Bool.and_self, Bool.and_true, Bool.true_and, Option.bind_some, decide_true, uI_hit, uI_miss, uI_o, uA_o, uA_s, ↓reduceIte, eq_self, true_or, or_true, or_false, false_or, true_and, and_true, false_and, and_false, or_self, and_self, not_false_eq_true, not_true_eq_false, tn_i, Int.toNat_natCast, h9, h10, mq_in_y, n1]
    · rw [n4.obj (by omega), uI_hit rfl]
    · rw [n4.1 108 13 (by omega), uI_o (by omega)]
  · have r1 : RKT tp L i = 1 := rk.2.1.mp q
    have h10 := h.2.2.2.1 r1
    rw [r1] at h9
    have vt : VT tp L i = vlT tp (psT tp L i) (rnE fgT tp L (psT tp L i) - psT tp L i) := rfl
    generalize nvT tp (psT tp L i) (rnE fgT tp L (psT tp L i) - psT tp L i) = y at *
    have yn : y < lo ∨ hi < y := by omega
    unfold FX11_figure
    simp (disch := omega) only [nI_iI, lN_lJ, iI_0, lJ_0, iI_add, iI_sub, iI_mul, iI_neg, lJ_add, lJ_sub, lJ_mul, lJ_neg, i_l, l_i, iI_cl, iI_inb, iI_eqT, iI_eqF, iI_ltT, iI_ltF, iI_leT, iI_leF, lJ_eqT, lJ_eqF, lJ_cG, lJ_cE, lJ_cL, lJ_cF, lJ_cGE, lJ_cLE, lJ_cNL, lJ_cNG, Int.cast_ofNat_Int, c_0, c_1, Int.natCast_add, Int.add_zero, cond_true, cond_false, Bool.and_self, Bool.and_true, Bool.true_and, Option.bind_some, decide_true, uI_hit, uI_miss, uI_o, uA_o, uA_s, ↓reduceIte, eq_self, true_or, or_true, or_false, false_or, true_and, and_true, false_and, and_false, or_self, and_self, not_false_eq_true, not_true_eq_false, tn_i, h9, h10, mq_in_n]
  · have r1 : RKT tp L i ≠ 1 := fun z => q (rk.2.1.mpr z)
    have rr := rk.2.2.2.2.2.2
    generalize RKT tp L i = r at *
    unfold FX11_figure
    simp (disch := omega) only [nI_iI, lN_lJ, iI_0, lJ_0, iI_add, iI_sub, iI_mul, iI_neg, lJ_add, lJ_sub, lJ_mul, lJ_neg, i_l, l_i, iI_cl, iI_inb, iI_eqT, iI_eqF, iI_ltT, iI_ltF, iI_leT, iI_leF, lJ_eqT, lJ_eqF, lJ_cG, lJ_cE, lJ_cL, lJ_cF, lJ_cGE, lJ_cLE, lJ_cNL, lJ_cNG, Int.cast_ofNat_Int, c_0, c_1, Int.natCast_add, Int.add_zero, cond_true, cond_false, Bool.and_self, Bool.and_true, Bool.true_and, Option.bind_some, decide_true, uI_hit, uI_miss, uI_o, uA_o, uA_s, ↓reduceIte, eq_self, true_or, or_true, or_false, false_or, true_and, and_true, false_and, and_false, or_self, and_self, not_false_eq_true, not_true_eq_false, tn_i, h9]
theorem m_pair {d : aI} {e : aJ} {tp : Nat → Int} {L i x w : Nat} {hi hi2 mid : Int} (hT : TPM d tp L) (h : RT d e tp L i) (hx : x + 2 < 2724) (hl : 0 ≤ hi ∧ hi ≤ 9999 ∧ 0 ≤ hi2 ∧ hi2 ≤ 9999) (hw : w < 26) (hm : mid = 300 + (w : Int)) : match pTwo (KT tp L) (VT tp L) hi mid hi2 i with
    | .inl b => ∃ d' e', FX11_pair d e (iI (x : Nat)) (iI hi) (lJ (wzT w : Nat)) (iI hi2) = some (iI b.1, d', e') ∧ (1 ≤ b.1 ∧ b.1 ≤ 6) ∧ d' 108 8 = iI (psT tp L b.2 : Nat) ∧ Kv (fun j => j = x + 1 ∨ j = x + 2) d d' e e'
    | .inr q => ∃ d' e', FX11_pair d e (iI (x : Nat)) (iI hi) (lJ (wzT w : Nat)) (iI hi2) = some (iI 0, d', e') ∧ TPM d' tp L ∧ RT d' e' tp L q.1 ∧ d' 111 (x + 1) = iI q.2.1 ∧ d' 111 (x + 2) = iI q.2.2 ∧ d' 108 13 = d 108 13 ∧ Kv (fun j => j = x + 1 ∨ j = x + 2) d d' e e' ∧ i < q.1 := by
  obtain ⟨f1, f2, f3⟩ := m_fig (x := x + 1) (lo := 0) (hi := hi) hT h (by omega) (by omega)
  have x1 : iI (x : Nat) + iI 1 = iI ((x : Int) + 1) := by simp (disch := omega) only [nI_iI, lN_lJ, iI_0, lJ_0, iI_add, iI_sub, iI_mul, iI_neg, lJ_add, lJ_sub, lJ_mul, lJ_neg, i_l, l_i, iI_cl, iI_inb, iI_eqT, iI_eqF, iI_ltT, iI_ltF, iI_leT, iI_leF, lJ_eqT, lJ_eqF, lJ_cG, lJ_cE, lJ_cL, lJ_cF, lJ_cGE, lJ_cLE, lJ_cNL, lJ_cNG, Int.cast_ofNat_Int, c_0, c_1, Int.natCast_add, Int.add_zero, cond_true, cond_false, Bool.and_self, Bool.and_true, Bool.true_and, Option.bind_some, decide_true, uI_hit, uI_miss, uI_o, uA_o, uA_s, ↓reduceIte, eq_self, true_or, or_true, or_false, false_or, true_and, and_true, false_and, and_false, or_self, and_self, not_false_eq_true, not_true_eq_false, tn_i]
  unfold pTwo pNum
  by_cases q1 : KT tp L i = 1
  · rw [if_pos q1]
    by_cases v1 : 0 ≤ VT tp L i ∧ VT tp L i ≤ hi
    · rw [if_pos v1]
      obtain ⟨d1, e1, g1, g2, g3, g4, g5, g6⟩ := f1 q1 v1
      have g1' : FX11_figure d e (iI ((x : Int) + 1)) (iI 0) (iI hi) = some (iI 0, d1, e1) := g1
      have h5 := g2.2.2.2
      have iw := m_isw (w := w) g3 h5 hw
      by_cases q2 : KT tp L (i + 1) = mid
      · simp only [if_pos q2]
        rw [if_pos (by omega)] at iw
        obtain ⟨d2, e2, n1, n2, n3, n4⟩ := m_nx g2 g3
        obtain ⟨f4, f5, f6⟩ := m_fig (x := x + 2) (lo := 0) (hi := hi2) n2 n3 (by omega) (by omega)
        have kk : Kv (fun j => j = x + 1 ∨ j = x + 2) d d2 e e2 := (g6.more (fun j z => Or.inl z)).trans n4.kv
        by_cases q3 : KT tp L (i + 1 + 1) = 1
        · rw [if_pos q3]
          by_cases v3 : 0 ≤ VT tp L (i + 1 + 1) ∧ VT tp L (i + 1 + 1) ≤ hi2
          · rw [if_pos v3]
            obtain ⟨d3, e3, k1, k2, k3, k4, k5, k6⟩ := f4 q3 v3
            have k1' : FX11_figure d2 e2 (iI ((x : Int) + 2)) (iI 0) (iI hi2) = some (iI 0, d3, e3) := k1
            refine ⟨d3, e3, ?_, k2, k3, ?_, k4, ?_, kk.trans (k6.more (fun j z => Or.inr z)), by show i < i + 1 + 1 + 1; omega⟩
            · unfold FX11_pair
              simp (disch := omega) only [nI_iI, lN_lJ, iI_0, lJ_0, iI_add, iI_sub, iI_mul, iI_neg, lJ_add, lJ_sub, lJ_mul, lJ_neg, i_l, l_i, iI_cl, iI_inb, iI_eqT, iI_eqF, iI_ltT, iI_ltF, iI_leT, iI_leF, lJ_eqT, lJ_eqF, lJ_cG, lJ_cE, lJ_cL, lJ_cF, lJ_cGE, lJ_cLE, lJ_cNL, lJ_cNG, Int.cast_ofNat_Int, c_0, c_1, Int.natCast_add, Int.add_zero, cond_true, cond_false, Bool.and_self, Bool.and_true, Bool.true_and, Option.bind_some, decide_true, uI_hit, uI_miss, uI_o, uA_o, uA_s, ↓reduceIte, eq_self, true_or, or_true, or_false, false_or, true_and, and_true, false_and, and_false, or_self, and_self, not_false_eq_true, not_true_eq_false, tn_i, g1', iw, n1, k1']
            · rw [k6.1 111 (x + 1) (by omega) (Or.inr (by omega)) (Or.inl (by omega)), n4.obj (by omega)]; exact g4
            · rw [k5, n4.1 108 13 (by omega), g5]
          · rw [if_neg v3]
            have k1' : FX11_figure d2 e2 (iI ((x : Int) + 2)) (iI 0) (iI hi2) = some (iI 2, d2, e2) := f5 q3 v3
            refine ⟨d2, e2, ?_, (show (1 : Int) ≤ 2 ∧ (2 : Int) ≤ 6 by decide), n3.1, kk⟩
            unfold FX11_pair
            simp (disch := omega) only [nI_iI, lN_lJ, iI_0, lJ_0, iI_add, iI_sub, iI_mul, iI_neg, lJ_add, lJ_sub, lJ_mul, lJ_neg, i_l, l_i, iI_cl, iI_inb, iI_eqT, iI_eqF, iI_ltT, iI_ltF, iI_leT, iI_leF, lJ_eqT, lJ_eqF, lJ_cG, lJ_cE, lJ_cL, lJ_cF, lJ_cGE, lJ_cLE, lJ_cNL, lJ_cNG, Int.cast_ofNat_Int, c_0, c_1, Int.natCast_add, Int.add_zero, cond_true, cond_false, Bool.and_self, Bool.and_true, Bool.true_and, Option.bind_some, decide_true, uI_hit, uI_miss, uI_o, uA_o, uA_s, ↓reduceIte, eq_self, true_or, or_true, or_false, false_or, true_and, and_true, false_and, and_false, or_self, and_self, not_false_eq_true, not_true_eq_false, tn_i, g1', iw, n1, k1']
        · rw [if_neg q3]
          have k1' : FX11_figure d2 e2 (iI ((x : Int) + 2)) (iI 0) (iI hi2) = some (iI 1, d2, e2) := f6 q3
          refine ⟨d2, e2, ?_, (show (1 : Int) ≤ 1 ∧ (1 : Int) ≤ 6 by decide), n3.1, kk⟩
          unfold FX11_pair
          simp (disch := omega) only [nI_iI, lN_lJ, iI_0, lJ_0, iI_add, iI_sub, iI_mul, iI_neg, lJ_add, lJ_sub, lJ_mul, lJ_neg, i_l, l_i, iI_cl, iI_inb, iI_eqT, iI_eqF, iI_ltT, iI_ltF, iI_leT, iI_leF, lJ_eqT, lJ_eqF, lJ_cG, lJ_cE, lJ_cL, lJ_cF, lJ_cGE, lJ_cLE, lJ_cNL, lJ_cNG, Int.cast_ofNat_Int, c_0, c_1, Int.natCast_add, Int.add_zero, cond_true, cond_false, Bool.and_self, Bool.and_true, Bool.true_and, Option.bind_some, decide_true, uI_hit, uI_miss, uI_o, uA_o, uA_s, ↓reduceIte, eq_self, true_or, or_true, or_false, false_or, true_and, and_true, false_and, and_false, or_self, and_self, not_false_eq_true, not_true_eq_false, tn_i, g1', iw, n1, k1']
      · simp only [if_neg q2]
        rw [if_neg (by omega)] at iw
        refine ⟨d1, e1, ?_, (show (1 : Int) ≤ 1 ∧ (1 : Int) ≤ 6 by decide), g3.1, g6.more (fun j z => Or.inl z)⟩
        unfold FX11_pair
        simp (disch := omega) only [nI_iI, lN_lJ, iI_0, lJ_0, iI_add, iI_sub, iI_mul, iI_neg, lJ_add, lJ_sub, lJ_mul, lJ_neg, i_l, l_i, iI_cl, iI_inb, iI_eqT, iI_eqF, iI_ltT, iI_ltF, iI_leT, iI_leF, lJ_eqT, lJ_eqF, lJ_cG, lJ_cE, lJ_cL, lJ_cF, lJ_cGE, lJ_cLE, lJ_cNL, lJ_cNG, Int.cast_ofNat_Int, c_0, c_1, Int.natCast_add, Int.add_zero, cond_true, cond_false, Bool.and_self, Bool.and_true, Bool.true_and, Option.bind_some, decide_true, uI_hit, uI_miss, uI_o, uA_o, uA_s, ↓reduceIte, eq_self, true_or, or_true, or_false, false_or, true_and, and_true, false_and, and_false, or_self, and_self, not_false_eq_true, not_true_eq_false, tn_i, g1', iw]
    · rw [if_neg v1]
      have g1' : FX11_figure d e (iI ((x : Int) + 1)) (iI 0) (iI hi) = some (iI 2, d, e) := f2 q1 v1
      refine ⟨d, e, ?_, (show (1 : Int) ≤ 2 ∧ (2 : Int) ≤ 6 by decide), h.1, Kv.refl d e⟩
      unfold FX11_pair
      simp (disch := omega) only [nI_iI, lN_lJ, iI_0, lJ_0, iI_add, iI_sub, iI_mul, iI_neg, lJ_add, lJ_sub, lJ_mul, lJ_neg, i_l, l_i, iI_cl, iI_inb, iI_eqT, iI_eqF, iI_ltT, iI_ltF, iI_leT, iI_leF, lJ_eqT, lJ_eqF, lJ_cG, lJ_cE, lJ_cL, lJ_cF, lJ_cGE, lJ_cLE, lJ_cNL, lJ_cNG, Int.cast_ofNat_Int, c_0, c_1, Int.natCast_add, Int.add_zero, cond_true, cond_false, Bool.and_self, Bool.and_true, Bool.true_and, Option.bind_some, decide_true, uI_hit, uI_miss, uI_o, uA_o, uA_s, ↓reduceIte, eq_self, true_or, or_true, or_false, false_or, true_and, and_true, false_and, and_false, or_self, and_self, not_false_eq_true, not_true_eq_false, tn_i, g1']
  · rw [if_neg q1]
    have g1' : FX11_figure d e (iI ((x : Int) + 1)) (iI 0) (iI hi) = some (iI 1, d, e) := f3 q1
    refine ⟨d, e, ?_, (show (1 : Int) ≤ 1 ∧ (1 : Int) ≤ 6 by decide), h.1, Kv.refl d e⟩
    unfold FX11_pair
    simp (disch := omega) only [nI_iI, lN_lJ, iI_0, lJ_0, iI_add, iI_sub, iI_mul, iI_neg, lJ_add, lJ_sub, lJ_mul, lJ_neg, i_l, l_i, iI_cl, iI_inb, iI_eqT, iI_eqF, iI_ltT, iI_ltF, iI_leT, iI_leF, lJ_eqT, lJ_eqF, lJ_cG, lJ_cE, lJ_cL, lJ_cF, lJ_cGE, lJ_cLE, lJ_cNL, lJ_cNG, Int.cast_ofNat_Int, c_0, c_1, Int.natCast_add, Int.add_zero, cond_true, cond_false, Bool.and_self, Bool.and_true, Bool.true_and, Option.bind_some, decide_true, uI_hit, uI_miss, uI_o, uA_o, uA_s, ↓reduceIte, eq_self, true_or, or_true, or_false, false_or, true_and, and_true, false_and, and_false, or_self, and_self, not_false_eq_true, not_true_eq_false, tn_i, g1']
theorem m_deed {d : aI} {e : aJ} {tp : Nat → Int} {L i x : Nat} {c : Int} (hT : TPM d tp L) (h : RT d e tp L i) (hx : x + 2 < 2724) (hc : 302 ≤ c ∧ c ≤ 308) : match pDeed (KT tp L) (VT tp L) c i with
    | .inl b => ∃ d' e', FX11_body d e (iI (c - 300)) (iI (x : Nat)) = some (iI b.1, d', e') ∧ (1 ≤ b.1 ∧ b.1 ≤ 6) ∧ d' 108 8 = iI (psT tp L b.2 : Nat) ∧ Kv (fun j => j = x + 1 ∨ j = x + 2) d d' e e'
    | .inr q => ∃ d' e', FX11_body d e (iI (c - 300)) (iI (x : Nat)) = some (iI 0, d', e') ∧ TPM d' tp L ∧ RT d' e' tp L q.1 ∧ d' 111 (x + 1) = iI q.2.1 ∧ ((c = 302 ∨ c = 303 ∨ c = 304) → d' 111 (x + 2) = iI q.2.2) ∧ d' 108 13 = d 108 13 ∧ Kv (fun j => j = x + 1 ∨ j = x + 2) d d' e e' ∧ i < q.1 := by
  have two : ∀ (w : Nat) (hi hi2 mid : Int), w < 26 → mid = 300 + (w : Int) → (0 ≤ hi ∧ hi ≤ 9999 ∧ 0 ≤ hi2 ∧ hi2 ≤ 9999) → (∀ z, FX11_pair d e (iI (x : Nat)) (iI hi) (lJ (wzT w : Nat)) (iI hi2) = some z → FX11_body d e (iI (c - 300)) (iI (x : Nat)) = some (z.1, z.2.1, z.2.2)) → match pTwo (KT tp L) (VT tp L) hi mid hi2 i with
    | .inl b => ∃ d' e', FX11_body d e (iI (c - 300)) (iI (x : Nat)) = some (iI b.1, d', e') ∧ (1 ≤ b.1 ∧ b.1 ≤ 6) ∧ d' 108 8 = iI (psT tp L b.2 : Nat) ∧ Kv (fun j => j = x + 1 ∨ j = x + 2) d d' e e'
    | .inr q => ∃ d' e', FX11_body d e (iI (c - 300)) (iI (x : Nat)) = some (iI 0, d', e') ∧ TPM d' tp L ∧ RT d' e' tp L q.1 ∧ d' 111 (x + 1) = iI q.2.1 ∧ ((c = 302 ∨ c = 303 ∨ c = 304) → d' 111 (x + 2) = iI q.2.2) ∧ d' 108 13 = d 108 13 ∧ Kv (fun j => j = x + 1 ∨ j = x + 2) d d' e e' ∧ i < q.1 := by
    intro w hi hi2 mid hw hm hl hb
    have p := m_pair (x := x) (w := w) (hi := hi) (hi2 := hi2) (mid := mid) hT h hx hl hw hm
    cases hp : pTwo (KT tp L) (VT tp L) hi mid hi2 i with
    | inl b =>
      rw [hp] at p
      obtain ⟨d', e', p1, p2⟩ := p
      exact ⟨d', e', hb _ p1, p2⟩
    | inr q =>
      rw [hp] at p
      obtain ⟨d', e', p1, p2, p3, p4, p5, p6⟩ := p
      exact ⟨d', e', hb _ p1, p2, p3, p4, fun _ => p5, p6⟩
  have uno : ∀ (lo hi : Int), (0 ≤ lo ∧ lo ≤ hi ∧ hi ≤ 9999) → 305 ≤ c → (∀ z, FX11_figure d e (iI ((x : Int) + 1)) (iI lo) (iI hi) = some z → FX11_body d e (iI (c - 300)) (iI (x : Nat)) = some (z.1, z.2.1, z.2.2)) → match pUno (KT tp L) (VT tp L) lo hi i with
    | .inl b => ∃ d' e', FX11_body d e (iI (c - 300)) (iI (x : Nat)) = some (iI b.1, d', e') ∧ (1 ≤ b.1 ∧ b.1 ≤ 6) ∧ d' 108 8 = iI (psT tp L b.2 : Nat) ∧ Kv (fun j => j = x + 1 ∨ j = x + 2) d d' e e'
    | .inr q => ∃ d' e', FX11_body d e (iI (c - 300)) (iI (x : Nat)) = some (iI 0, d', e') ∧ TPM d' tp L ∧ RT d' e' tp L q.1 ∧ d' 111 (x + 1) = iI q.2.1 ∧ ((c = 302 ∨ c = 303 ∨ c = 304) → d' 111 (x + 2) = iI q.2.2) ∧ d' 108 13 = d 108 13 ∧ Kv (fun j => j = x + 1 ∨ j = x + 2) d d' e e' ∧ i < q.1 := by
    intro lo hi hl hc5 hb
    obtain ⟨f1, f2, f3⟩ := m_fig (x := x + 1) (lo := lo) (hi := hi) hT h (by omega) hl
    unfold pUno pNum
    by_cases q1 : KT tp L i = 1
    · rw [if_pos q1]
      by_cases v1 : lo ≤ VT tp L i ∧ VT tp L i ≤ hi
      · rw [if_pos v1]
        obtain ⟨d1, e1, g1, g2, g3, g4, g5, g6⟩ := f1 q1 v1
        exact ⟨d1, e1, hb _ g1, g2, g3, g4, fun z => by omega, g5, g6.more (fun j z => Or.inl z), Nat.lt_succ_self i⟩
      · rw [if_neg v1]
        exact ⟨d, e, hb _ (f2 q1 v1), (show (1 : Int) ≤ 2 ∧ (2 : Int) ≤ 6 by decide), h.1, Kv.refl d e⟩
    · rw [if_neg q1]
      exact ⟨d, e, hb _ (f3 q1), (show (1 : Int) ≤ 1 ∧ (1 : Int) ≤ 6 by decide), h.1, Kv.refl d e⟩
  unfold pDeed
  by_cases c2 : c = 302
  · subst c2
    rw [if_pos rfl]
    have m9 := mw_9 (d := d) (e := e)
    refine two 9 9 999 309 (by omega) (by omega) (by omega) (fun z hz => ?_)
    show FX11_body d e (iI 2) (iI (x : Nat)) = _
    unfold FX11_body
    simp (disch := omega) only [nI_iI, lN_lJ, iI_0, lJ_0, iI_add, iI_sub, iI_mul, iI_neg, lJ_add, lJ_sub, lJ_mul, lJ_neg, i_l, l_i, iI_cl, iI_inb, iI_eqT, iI_eqF, iI_ltT, iI_ltF, iI_leT, iI_leF, lJ_eqT, lJ_eqF, lJ_cG, lJ_cE, lJ_cL, lJ_cF, lJ_cGE, lJ_cLE, lJ_cNL, lJ_cNG, Int.cast_ofNat_Int, c_0, c_1, Int.natCast_add, Int.add_zero, cond_true, cond_false, Bool.and_self, Bool.and_true, Bool.true_and, Option.bind_some, decide_true, uI_hit, uI_miss, uI_o, uA_o, uA_s, ↓reduceIte, eq_self, true_or, or_true, or_false, false_or, true_and, and_true, false_and, and_false, or_self, and_self, not_false_eq_true, not_true_eq_false, tn_i, m9, hz]
  · rw [if_neg c2]
    by_cases c3 : c = 303
    · subst c3
      rw [if_pos rfl]
      have m10 := mw_10 (d := d) (e := e)
      refine two 10 9 9 310 (by omega) (by omega) (by omega) (fun z hz => ?_)
      show FX11_body d e (iI 3) (iI (x : Nat)) = _
      unfold FX11_body
      simp (disch := omega) only [nI_iI, lN_lJ, iI_0, lJ_0, iI_add, iI_sub, iI_mul, iI_neg, lJ_add, lJ_sub, lJ_mul, lJ_neg, i_l, l_i, iI_cl, iI_inb, iI_eqT, iI_eqF, iI_ltT, iI_ltF, iI_leT, iI_leF, lJ_eqT, lJ_eqF, lJ_cG, lJ_cE, lJ_cL, lJ_cF, lJ_cGE, lJ_cLE, lJ_cNL, lJ_cNG, Int.cast_ofNat_Int, c_0, c_1, Int.natCast_add, Int.add_zero, cond_true, cond_false, Bool.and_self, Bool.and_true, Bool.true_and, Option.bind_some, decide_true, uI_hit, uI_miss, uI_o, uA_o, uA_s, ↓reduceIte, eq_self, true_or, or_true, or_false, false_or, true_and, and_true, false_and, and_false, or_self, and_self, not_false_eq_true, not_true_eq_false, tn_i, m10, hz]
    · rw [if_neg c3]
      by_cases c4 : c = 304
      · subst c4
        rw [if_pos rfl]
        have m11 := mw_11 (d := d) (e := e)
        refine two 11 5 5 311 (by omega) (by omega) (by omega) (fun z hz => ?_)
        show FX11_body d e (iI 4) (iI (x : Nat)) = _
        unfold FX11_body
        simp (disch := omega) only [nI_iI, lN_lJ, iI_0, lJ_0, iI_add, iI_sub, iI_mul, iI_neg, lJ_add, lJ_sub, lJ_mul, lJ_neg, i_l, l_i, iI_cl, iI_inb, iI_eqT, iI_eqF, iI_ltT, iI_ltF, iI_leT, iI_leF, lJ_eqT, lJ_eqF, lJ_cG, lJ_cE, lJ_cL, lJ_cF, lJ_cGE, lJ_cLE, lJ_cNL, lJ_cNG, Int.cast_ofNat_Int, c_0, c_1, Int.natCast_add, Int.add_zero, cond_true, cond_false, Bool.and_self, Bool.and_true, Bool.true_and, Option.bind_some, decide_true, uI_hit, uI_miss, uI_o, uA_o, uA_s, ↓reduceIte, eq_self, true_or, or_true, or_false, false_or, true_and, and_true, false_and, and_false, or_self, and_self, not_false_eq_true, not_true_eq_false, tn_i, m11, hz]
      · rw [if_neg c4]
        by_cases c8 : c = 308
        · subst c8
          rw [if_pos rfl]
          refine uno 1 60 (by omega) (by omega) (fun z hz => ?_)
          show FX11_body d e (iI 8) (iI (x : Nat)) = _
          unfold FX11_body
          simp (disch := omega) only [nI_iI, lN_lJ, iI_0, lJ_0, iI_add, iI_sub, iI_mul, iI_neg, lJ_add, lJ_sub, lJ_mul, lJ_neg, i_l, l_i, iI_cl, iI_inb, iI_eqT, iI_eqF, iI_ltT, iI_ltF, iI_leT, iI_leF, lJ_eqT, lJ_eqF, lJ_cG, lJ_cE, lJ_cL, lJ_cF, lJ_cGE, lJ_cLE, lJ_cNL, lJ_cNG, Int.cast_ofNat_Int, c_0, c_1, Int.natCast_add, Int.add_zero, cond_true, cond_false, Bool.and_self, Bool.and_true, Bool.true_and, Option.bind_some, decide_true, uI_hit, uI_miss, uI_o, uA_o, uA_s, ↓reduceIte, eq_self, true_or, or_true, or_false, false_or, true_and, and_true, false_and, and_false, or_self, and_self, not_false_eq_true, not_true_eq_false, tn_i, hz]
        · rw [if_neg c8]
          refine uno 0 5 (by omega) (by omega) (fun z hz => ?_)
          rcases (show c = 305 ∨ c = 306 ∨ c = 307 by omega) with q | q | q
          · subst q
            show FX11_body d e (iI 5) (iI (x : Nat)) = _
            unfold FX11_body
            simp (disch := omega) only [nI_iI, lN_lJ, iI_0, lJ_0, iI_add, iI_sub, iI_mul, iI_neg, lJ_add, lJ_sub, lJ_mul, lJ_neg, i_l, l_i, iI_cl, iI_inb, iI_eqT, iI_eqF, iI_ltT, iI_ltF, iI_leT, iI_leF, lJ_eqT, lJ_eqF, lJ_cG, lJ_cE, lJ_cL, lJ_cF, lJ_cGE, lJ_cLE, lJ_cNL, lJ_cNG, Int.cast_ofNat_Int, c_0, c_1, Int.natCast_add, Int.add_zero, cond_true, cond_false, Bool.and_self, Bool.and_true, Bool.true_and, Option.bind_some, decide_true, uI_hit, uI_miss, uI_o, uA_o, uA_s, ↓reduceIte, eq_self, true_or, or_true, or_false, false_or, true_and, and_true, false_and, and_false, or_self, and_self, not_false_eq_true, not_true_eq_false, tn_i, hz]
          · subst q
            show FX11_body d e (iI 6) (iI (x : Nat)) = _
            unfold FX11_body
            simp (disch := omega) only [nI_iI, lN_lJ, iI_0, lJ_0, iI_add, iI_sub, iI_mul, iI_neg, lJ_add, lJ_sub, lJ_mul, lJ_neg, i_l, l_i, iI_cl, iI_inb, iI_eqT, iI_eqF, iI_ltT, iI_ltF, iI_leT, iI_leF, lJ_eqT, lJ_eqF, lJ_cG, lJ_cE, lJ_cL, lJ_cF, lJ_cGE, lJ_cLE, lJ_cNL, lJ_cNG, Int.cast_ofNat_Int, c_0, c_1, Int.natCast_add, Int.add_zero, cond_true, cond_false, Bool.and_self, Bool.and_true, Bool.true_and, Option.bind_some, decide_true, uI_hit, uI_miss, uI_o, uA_o, uA_s, ↓reduceIte, eq_self, true_or, or_true, or_false, false_or, true_and, and_true, false_and, and_false, or_self, and_self, not_false_eq_true, not_true_eq_false, tn_i, hz]
          · subst q
            show FX11_body d e (iI 7) (iI (x : Nat)) = _
            unfold FX11_body
            simp (disch := omega) only [nI_iI, lN_lJ, iI_0, lJ_0, iI_add, iI_sub, iI_mul, iI_neg, lJ_add, lJ_sub, lJ_mul, lJ_neg, i_l, l_i, iI_cl, iI_inb, iI_eqT, iI_eqF, iI_ltT, iI_ltF, iI_leT, iI_leF, lJ_eqT, lJ_eqF, lJ_cG, lJ_cE, lJ_cL, lJ_cF, lJ_cGE, lJ_cLE, lJ_cNL, lJ_cNG, Int.cast_ofNat_Int, c_0, c_1, Int.natCast_add, Int.add_zero, cond_true, cond_false, Bool.and_self, Bool.and_true, Bool.true_and, Option.bind_some, decide_true, uI_hit, uI_miss, uI_o, uA_o, uA_s, ↓reduceIte, eq_self, true_or, or_true, or_false, false_or, true_and, and_true, false_and, and_false, or_self, and_self, not_false_eq_true, not_true_eq_false, tn_i, hz]
noncomputable def so8 (d : aI) (e : aJ) : Option (Int32 × aI × aJ) := ((FX11_w4 d e (nI 104) (nI 111) (nI 117) (nI 114)).bind fun q1 => ((FX11_isWord q1.2.1 q1.2.2 q1.1).bind fun q2 => (if q2.1 = 0 then (some ((-(nI 1)), q2.2.1, q2.2.2)) else (some ((nI 8), q2.2.1, q2.2.2)))))
noncomputable def so7 (d : aI) (e : aJ) : Option (Int32 × aI × aJ) := ((FX11_w4 d e (nI 100) (nI 111) (nI 119) (nI 110)).bind fun q1 => ((FX11_isWord q1.2.1 q1.2.2 q1.1).bind fun q2 => (if q2.1 = 0 then (so8 q2.2.1 q2.2.2) else (some ((nI 7), q2.2.1, q2.2.2)))))
noncomputable def so6 (d : aI) (e : aJ) : Option (Int32 × aI × aJ) := ((FX11_w2 d e (nI 117) (nI 112)).bind fun q1 => ((FX11_isWord q1.2.1 q1.2.2 q1.1).bind fun q2 => (if q2.1 = 0 then (so7 q2.2.1 q2.2.2) else (some ((nI 6), q2.2.1, q2.2.2)))))
noncomputable def so5 (d : aI) (e : aJ) : Option (Int32 × aI × aJ) := ((FX11_w3 d e (nI 111) (nI 117) (nI 116)).bind fun q1 => ((FX11_isWord q1.2.1 q1.2.2 q1.1).bind fun q2 => (if q2.1 = 0 then (so6 q2.2.1 q2.2.2) else (some ((nI 5), q2.2.1, q2.2.2)))))
noncomputable def so4 (d : aI) (e : aJ) : Option (Int32 × aI × aJ) := ((FX11_w3 d e (nI 108) (nI 101) (nI 116)).bind fun q1 => ((FX11_isWord q1.2.1 q1.2.2 q1.1).bind fun q2 => (if q2.1 = 0 then (so5 q2.2.1 q2.2.2) else (some ((nI 4), q2.2.1, q2.2.2)))))
noncomputable def so3 (d : aI) (e : aJ) : Option (Int32 × aI × aJ) := ((FX11_w3 d e (nI 99) (nI 97) (nI 116)).bind fun q1 => ((FX11_isWord q1.2.1 q1.2.2 q1.1).bind fun q2 => (if q2.1 = 0 then (so4 q2.2.1 q2.2.2) else (some ((nI 3), q2.2.1, q2.2.2)))))
noncomputable def so2 (d : aI) (e : aJ) : Option (Int32 × aI × aJ) := ((FX11_w5 d e (nI 104) (nI 111) (nI 117) (nI 115) (nI 101)).bind fun q1 => ((FX11_isWord q1.2.1 q1.2.2 q1.1).bind fun q2 => (if q2.1 = 0 then (so3 q2.2.1 q2.2.2) else (some ((nI 2), q2.2.1, q2.2.2)))))
noncomputable def so1 (d : aI) (e : aJ) : Option (Int32 × aI × aJ) := ((FX11_w4 d e (nI 103) (nI 111) (nI 101) (nI 115)).bind fun q1 => ((FX11_isWord q1.2.1 q1.2.2 q1.1).bind fun q2 => (if q2.1 = 0 then (so2 q2.2.1 q2.2.2) else (some ((nI 1), q2.2.1, q2.2.2)))))
noncomputable def so0 (d : aI) (e : aJ) : Option (Int32 × aI × aJ) := ((FX11_w5 d e (nI 116) (nI 97) (nI 107) (nI 101) (nI 115)).bind fun q1 => ((FX11_isWord q1.2.1 q1.2.2 q1.1).bind fun q2 => (if q2.1 = 0 then (so1 q2.2.1 q2.2.2) else (some ((nI 0), q2.2.1, q2.2.2)))))
theorem so_eq {d : aI} {e : aJ} : FX11_sortOf d e = so0 d e := rfl
theorem so_8 {d : aI} {e : aJ} {tp : Nat → Int} {L t : Nat} (h : RT d e tp L t) (h5 : ∀ j, 0 ≤ tp j ∧ tp j ≤ 255) : so8 d e = if KT tp L t = 308 then some (iI 8, d, e) else some (iI (-1), d, e) := by
  have i0 := m_isw (w := 8) h h5 (by omega)
  have m0 := mw_8 (d := d) (e := e)
  unfold so8
  generalize KT tp L t = K at *
  by_cases q : K = 308
  · rw [if_pos q]
    rw [if_pos (show K = 300 + ((8 : Nat) : Int) by omega)] at i0
    simp (disch := omega) only [nI_iI, lN_lJ, iI_0, lJ_0, iI_add, iI_sub, iI_mul, iI_neg, lJ_add, lJ_sub, lJ_mul, lJ_neg, i_l, l_i, iI_cl, iI_inb, iI_eqT, iI_eqF, iI_ltT, iI_ltF, iI_leT, iI_leF, lJ_eqT, lJ_eqF, lJ_cG, lJ_cE, lJ_cL, lJ_cF, lJ_cGE, lJ_cLE, lJ_cNL, lJ_cNG, Int.cast_ofNat_Int, c_0, c_1, Int.natCast_add, Int.add_zero, cond_true, cond_false, Bool.and_self, Bool.and_true, Bool.true_and, Option.bind_some, decide_true, uI_hit, uI_miss, uI_o, uA_o, uA_s, ↓reduceIte, eq_self, true_or, or_true, or_false, false_or, true_and, and_true, false_and, and_false, or_self, and_self, not_false_eq_true, not_true_eq_false, tn_i, m0, i0]
  · rw [if_neg q]
    rw [if_neg (show ¬K = 300 + ((8 : Nat) : Int) by omega)] at i0
    simp (disch := omega) only [nI_iI, lN_lJ, iI_0, lJ_0, iI_add, iI_sub, iI_mul, iI_neg, lJ_add, lJ_sub, lJ_mul, lJ_neg, i_l, l_i, iI_cl, iI_inb, iI_eqT, iI_eqF, iI_ltT, iI_ltF, iI_leT, iI_leF, lJ_eqT, lJ_eqF, lJ_cG, lJ_cE, lJ_cL, lJ_cF, lJ_cGE, lJ_cLE, lJ_cNL, lJ_cNG, Int.cast_ofNat_Int, c_0, c_1, Int.natCast_add, Int.add_zero, cond_true, cond_false, Bool.and_self, Bool.and_true, Bool.true_and, Option.bind_some, decide_true, uI_hit, uI_miss, uI_o, uA_o, uA_s, ↓reduceIte, eq_self, true_or, or_true, or_false, false_or, true_and, and_true, false_and, and_false, or_self, and_self, not_false_eq_true, not_true_eq_false, tn_i, m0, i0]
theorem so_7 {d : aI} {e : aJ} {tp : Nat → Int} {L t : Nat} (h : RT d e tp L t) (h5 : ∀ j, 0 ≤ tp j ∧ tp j ≤ 255) : so7 d e = if KT tp L t = 307 then some (iI 7, d, e) else so8 d e := by
  have i0 := m_isw (w := 7) h h5 (by omega)
  have m0 := mw_7 (d := d) (e := e)
  unfold so7
  generalize KT tp L t = K at *
  by_cases q : K = 307
  · rw [if_pos q]
    rw [if_pos (show K = 300 + ((7 : Nat) : Int) by omega)] at i0
    simp (disch := omega) only [nI_iI, lN_lJ, iI_0, lJ_0, iI_add, iI_sub, iI_mul, iI_neg, lJ_add, lJ_sub, lJ_mul, lJ_neg, i_l, l_i, iI_cl, iI_inb, iI_eqT, iI_eqF, iI_ltT, iI_ltF, iI_leT, iI_leF, lJ_eqT, lJ_eqF, lJ_cG, lJ_cE, lJ_cL, lJ_cF, lJ_cGE, lJ_cLE, lJ_cNL, lJ_cNG, Int.cast_ofNat_Int, c_0, c_1, Int.natCast_add, Int.add_zero, cond_true, cond_false, Bool.and_self, Bool.and_true, Bool.true_and, Option.bind_some, decide_true, uI_hit, uI_miss, uI_o, uA_o, uA_s, ↓reduceIte, eq_self, true_or, or_true, or_false, false_or, true_and, and_true, false_and, and_false, or_self, and_self, not_false_eq_true, not_true_eq_false, tn_i, m0, i0]
  · rw [if_neg q]
    rw [if_neg (show ¬K = 300 + ((7 : Nat) : Int) by omega)] at i0
    simp (disch := omega) only [nI_iI, lN_lJ, iI_0, lJ_0, iI_add, iI_sub, iI_mul, iI_neg, lJ_add, lJ_sub, lJ_mul, lJ_neg, i_l, l_i, iI_cl, iI_inb, iI_eqT, iI_eqF, iI_ltT, iI_ltF, iI_leT, iI_leF, lJ_eqT, lJ_eqF, lJ_cG, lJ_cE, lJ_cL, lJ_cF, lJ_cGE, lJ_cLE, lJ_cNL, lJ_cNG, Int.cast_ofNat_Int, c_0, c_1, Int.natCast_add, Int.add_zero, cond_true, cond_false, Bool.and_self, Bool.and_true, Bool.true_and, Option.bind_some, decide_true, uI_hit, uI_miss, uI_o, uA_o, uA_s, ↓reduceIte, eq_self, true_or, or_true, or_false, false_or, true_and, and_true, false_and, and_false, or_self, and_self, not_false_eq_true, not_true_eq_false, tn_i, m0, i0]
theorem so_6 {d : aI} {e : aJ} {tp : Nat → Int} {L t : Nat} (h : RT d e tp L t) (h5 : ∀ j, 0 ≤ tp j ∧ tp j ≤ 255) : so6 d e = if KT tp L t = 306 then some (iI 6, d, e) else so7 d e := by
  have i0 := m_isw (w := 6) h h5 (by omega)
  have m0 := mw_6 (d := d) (e := e)
  unfold so6
  generalize KT tp L t = K at *
  by_cases q : K = 306
  · rw [if_pos q]
    rw [if_pos (show K = 300 + ((6 : Nat) : Int) by omega)] at i0
    simp (disch := omega) only [nI_iI, lN_lJ, iI_0, lJ_0, iI_add, iI_sub, iI_mul, iI_neg, lJ_add, lJ_sub, lJ_mul, lJ_neg, i_l, l_i, iI_cl, iI_inb, iI_eqT, iI_eqF, iI_ltT, iI_ltF, iI_leT, iI_leF, lJ_eqT, lJ_eqF, lJ_cG, lJ_cE, lJ_cL, lJ_cF, lJ_cGE, lJ_cLE, lJ_cNL, lJ_cNG, Int.cast_ofNat_Int, c_0, c_1, Int.natCast_add, Int.add_zero, cond_true, cond_false, Bool.and_self, Bool.and_true, Bool.true_and, Option.bind_some, decide_true, uI_hit, uI_miss, uI_o, uA_o, uA_s, ↓reduceIte, eq_self, true_or, or_true, or_false, false_or, true_and, and_true, false_and, and_false, or_self, and_self, not_false_eq_true, not_true_eq_false, tn_i, m0, i0]
  · rw [if_neg q]
    rw [if_neg (show ¬K = 300 + ((6 : Nat) : Int) by omega)] at i0
    simp (disch := omega) only [nI_iI, lN_lJ, iI_0, lJ_0, iI_add, iI_sub, iI_mul, iI_neg, lJ_add, lJ_sub, lJ_mul, lJ_neg, i_l, l_i, iI_cl, iI_inb, iI_eqT, iI_eqF, iI_ltT, iI_ltF, iI_leT, iI_leF, lJ_eqT, lJ_eqF, lJ_cG, lJ_cE, lJ_cL, lJ_cF, lJ_cGE, lJ_cLE, lJ_cNL, lJ_cNG, Int.cast_ofNat_Int, c_0, c_1, Int.natCast_add, Int.add_zero, cond_true, cond_false, Bool.and_self, Bool.and_true, Bool.true_and, Option.bind_some, decide_true, uI_hit, uI_miss, uI_o, uA_o, uA_s, ↓reduceIte, eq_self, true_or, or_true, or_false, false_or, true_and, and_true, false_and, and_false, or_self, and_self, not_false_eq_true, not_true_eq_false, tn_i, m0, i0]
theorem so_5 {d : aI} {e : aJ} {tp : Nat → Int} {L t : Nat} (h : RT d e tp L t) (h5 : ∀ j, 0 ≤ tp j ∧ tp j ≤ 255) : so5 d e = if KT tp L t = 305 then some (iI 5, d, e) else so6 d e := by
  have i0 := m_isw (w := 5) h h5 (by omega)
  have m0 := mw_5 (d := d) (e := e)
  unfold so5
  generalize KT tp L t = K at *
  by_cases q : K = 305
  · rw [if_pos q]
    rw [if_pos (show K = 300 + ((5 : Nat) : Int) by omega)] at i0
    simp (disch := omega) only [nI_iI, lN_lJ, iI_0, lJ_0, iI_add, iI_sub, iI_mul, iI_neg, lJ_add, lJ_sub, lJ_mul, lJ_neg, i_l, l_i, iI_cl, iI_inb, iI_eqT, iI_eqF, iI_ltT, iI_ltF, iI_leT, iI_leF, lJ_eqT, lJ_eqF, lJ_cG, lJ_cE, lJ_cL, lJ_cF, lJ_cGE, lJ_cLE, lJ_cNL, lJ_cNG, Int.cast_ofNat_Int, c_0, c_1, Int.natCast_add, Int.add_zero, cond_true, cond_false, Bool.and_self, Bool.and_true, Bool.true_and, Option.bind_some, decide_true, uI_hit, uI_miss, uI_o, uA_o, uA_s, ↓reduceIte, eq_self, true_or, or_true, or_false, false_or, true_and, and_true, false_and, and_false, or_self, and_self, not_false_eq_true, not_true_eq_false, tn_i, m0, i0]
  · rw [if_neg q]
    rw [if_neg (show ¬K = 300 + ((5 : Nat) : Int) by omega)] at i0
    simp (disch := omega) only [nI_iI, lN_lJ, iI_0, lJ_0, iI_add, iI_sub, iI_mul, iI_neg, lJ_add, lJ_sub, lJ_mul, lJ_neg, i_l, l_i, iI_cl, iI_inb, iI_eqT, iI_eqF, iI_ltT, iI_ltF, iI_leT, iI_leF, lJ_eqT, lJ_eqF, lJ_cG, lJ_cE, lJ_cL, lJ_cF, lJ_cGE, lJ_cLE, lJ_cNL, lJ_cNG, Int.cast_ofNat_Int, c_0, c_1, Int.natCast_add, Int.add_zero, cond_true, cond_false, Bool.and_self, Bool.and_true, Bool.true_and, Option.bind_some, decide_true, uI_hit, uI_miss, uI_o, uA_o, uA_s, ↓reduceIte, eq_self, true_or, or_true, or_false, false_or, true_and, and_true, false_and, and_false, or_self, and_self, not_false_eq_true, not_true_eq_false, tn_i, m0, i0]
theorem so_4 {d : aI} {e : aJ} {tp : Nat → Int} {L t : Nat} (h : RT d e tp L t) (h5 : ∀ j, 0 ≤ tp j ∧ tp j ≤ 255) : so4 d e = if KT tp L t = 304 then some (iI 4, d, e) else so5 d e := by
  have i0 := m_isw (w := 4) h h5 (by omega)
  have m0 := mw_4 (d := d) (e := e)
  unfold so4
  generalize KT tp L t = K at *
  by_cases q : K = 304
  · rw [if_pos q]
    rw [if_pos (show K = 300 + ((4 : Nat) : Int) by omega)] at i0
    simp (disch := omega) only [nI_iI, lN_lJ, iI_0, lJ_0, iI_add, iI_sub, iI_mul, iI_neg, lJ_add, lJ_sub, lJ_mul, lJ_neg, i_l, l_i, iI_cl, iI_inb, iI_eqT, iI_eqF, iI_ltT, iI_ltF, iI_leT, iI_leF, lJ_eqT, lJ_eqF, lJ_cG, lJ_cE, lJ_cL, lJ_cF, lJ_cGE, lJ_cLE, lJ_cNL, lJ_cNG, Int.cast_ofNat_Int, c_0, c_1, Int.natCast_add, Int.add_zero, cond_true, cond_false, Bool.and_self, Bool.and_true, Bool.true_and, Option.bind_some, decide_true, uI_hit, uI_miss, uI_o, uA_o, uA_s, ↓reduceIte, eq_self, true_or, or_true, or_false, false_or, true_and, and_true, false_and, and_false, or_self, and_self, not_false_eq_true, not_true_eq_false, tn_i, m0, i0]
  · rw [if_neg q]
    rw [if_neg (show ¬K = 300 + ((4 : Nat) : Int) by omega)] at i0
    simp (disch := omega) only [nI_iI, lN_lJ, iI_0, lJ_0, iI_add, iI_sub, iI_mul, iI_neg, lJ_add, lJ_sub, lJ_mul, lJ_neg, i_l, l_i, iI_cl, iI_inb, iI_eqT, iI_eqF, iI_ltT, iI_ltF, iI_leT, iI_leF, lJ_eqT, lJ_eqF, lJ_cG, lJ_cE, lJ_cL, lJ_cF, lJ_cGE, lJ_cLE, lJ_cNL, lJ_cNG, Int.cast_ofNat_Int, c_0, c_1, Int.natCast_add, Int.add_zero, cond_true, cond_false, Bool.and_self, Bool.and_true, Bool.true_and, Option.bind_some, decide_true, uI_hit, uI_miss, uI_o, uA_o, uA_s, ↓reduceIte, eq_self, true_or, or_true, or_false, false_or, true_and, and_true, false_and, and_false, or_self, and_self, not_false_eq_true, not_true_eq_false, tn_i, m0, i0]
theorem so_3 {d : aI} {e : aJ} {tp : Nat → Int} {L t : Nat} (h : RT d e tp L t) (h5 : ∀ j, 0 ≤ tp j ∧ tp j ≤ 255) : so3 d e = if KT tp L t = 303 then some (iI 3, d, e) else so4 d e := by
  have i0 := m_isw (w := 3) h h5 (by omega)
  have m0 := mw_3 (d := d) (e := e)
  unfold so3
  generalize KT tp L t = K at *
  by_cases q : K = 303
  · rw [if_pos q]
    rw [if_pos (show K = 300 + ((3 : Nat) : Int) by omega)] at i0
    simp (disch := omega) only [nI_iI, lN_lJ, iI_0, lJ_0, iI_add, iI_sub, iI_mul, iI_neg, lJ_add, lJ_sub, lJ_mul, lJ_neg, i_l, l_i, iI_cl, iI_inb, iI_eqT, iI_eqF, iI_ltT, iI_ltF, iI_leT, iI_leF, lJ_eqT, lJ_eqF, lJ_cG, lJ_cE, lJ_cL, lJ_cF, lJ_cGE, lJ_cLE, lJ_cNL, lJ_cNG, Int.cast_ofNat_Int, c_0, c_1, Int.natCast_add, Int.add_zero, cond_true, cond_false, Bool.and_self, Bool.and_true, Bool.true_and, Option.bind_some, decide_true, uI_hit, uI_miss, uI_o, uA_o, uA_s, ↓reduceIte, eq_self, true_or, or_true, or_false, false_or, true_and, and_true, false_and, and_false, or_self, and_self, not_false_eq_true, not_true_eq_false, tn_i, m0, i0]
  · rw [if_neg q]
    rw [if_neg (show ¬K = 300 + ((3 : Nat) : Int) by omega)] at i0
    simp (disch := omega) only [nI_iI, lN_lJ, iI_0, lJ_0, iI_add, iI_sub, iI_mul, iI_neg, lJ_add, lJ_sub, lJ_mul, lJ_neg, i_l, l_i, iI_cl, iI_inb, iI_eqT, iI_eqF, iI_ltT, iI_ltF, iI_leT, iI_leF, lJ_eqT, lJ_eqF, lJ_cG, lJ_cE, lJ_cL, lJ_cF, lJ_cGE, lJ_cLE, lJ_cNL, lJ_cNG, Int.cast_ofNat_Int, c_0, c_1, Int.natCast_add, Int.add_zero, cond_true, cond_false, Bool.and_self, Bool.and_true, Bool.true_and, Option.bind_some, decide_true, uI_hit, uI_miss, uI_o, uA_o, uA_s, ↓reduceIte, eq_self, true_or, or_true, or_false, false_or, true_and, and_true, false_and, and_false, or_self, and_self, not_false_eq_true, not_true_eq_false, tn_i, m0, i0]
theorem so_2 {d : aI} {e : aJ} {tp : Nat → Int} {L t : Nat} (h : RT d e tp L t) (h5 : ∀ j, 0 ≤ tp j ∧ tp j ≤ 255) : so2 d e = if KT tp L t = 302 then some (iI 2, d, e) else so3 d e := by
  have i0 := m_isw (w := 2) h h5 (by omega)
  have m0 := mw_2 (d := d) (e := e)
  unfold so2
  generalize KT tp L t = K at *
  by_cases q : K = 302
  · rw [if_pos q]
    rw [if_pos (show K = 300 + ((2 : Nat) : Int) by omega)] at i0
    simp (disch := omega) only [nI_iI, lN_lJ, iI_0, lJ_0, iI_add, iI_sub, iI_mul, iI_neg, lJ_add, lJ_sub, lJ_mul, lJ_neg, i_l, l_i, iI_cl, iI_inb, iI_eqT, iI_eqF, iI_ltT, iI_ltF, iI_leT, iI_leF, lJ_eqT, lJ_eqF, lJ_cG, lJ_cE, lJ_cL, lJ_cF, lJ_cGE, lJ_cLE, lJ_cNL, lJ_cNG, Int.cast_ofNat_Int, c_0, c_1, Int.natCast_add, Int.add_zero, cond_true, cond_false, Bool.and_self, Bool.and_true, Bool.true_and, Option.bind_some, decide_true, uI_hit, uI_miss, uI_o, uA_o, uA_s, ↓reduceIte, eq_self, true_or, or_true, or_false, false_or, true_and, and_true, false_and, and_false, or_self, and_self, not_false_eq_true, not_true_eq_false, tn_i, m0, i0]
  · rw [if_neg q]
    rw [if_neg (show ¬K = 300 + ((2 : Nat) : Int) by omega)] at i0
    simp (disch := omega) only [nI_iI, lN_lJ, iI_0, lJ_0, iI_add, iI_sub, iI_mul, iI_neg, lJ_add, lJ_sub, lJ_mul, lJ_neg, i_l, l_i, iI_cl, iI_inb, iI_eqT, iI_eqF, iI_ltT, iI_ltF, iI_leT, iI_leF, lJ_eqT, lJ_eqF, lJ_cG, lJ_cE, lJ_cL, lJ_cF, lJ_cGE, lJ_cLE, lJ_cNL, lJ_cNG, Int.cast_ofNat_Int, c_0, c_1, Int.natCast_add, Int.add_zero, cond_true, cond_false, Bool.and_self, Bool.and_true, Bool.true_and, Option.bind_some, decide_true, uI_hit, uI_miss, uI_o, uA_o, uA_s, ↓reduceIte, eq_self, true_or, or_true, or_false, false_or, true_and, and_true, false_and, and_false, or_self, and_self, not_false_eq_true, not_true_eq_false, tn_i, m0, i0]
theorem so_1 {d : aI} {e : aJ} {tp : Nat → Int} {L t : Nat} (h : RT d e tp L t) (h5 : ∀ j, 0 ≤ tp j ∧ tp j ≤ 255) : so1 d e = if KT tp L t = 301 then some (iI 1, d, e) else so2 d e := by
  have i0 := m_isw (w := 1) h h5 (by omega)
  have m0 := mw_1 (d := d) (e := e)
  unfold so1
  generalize KT tp L t = K at *
  by_cases q : K = 301
  · rw [if_pos q]
    rw [if_pos (show K = 300 + ((1 : Nat) : Int) by omega)] at i0
    simp (disch := omega) only [nI_iI, lN_lJ, iI_0, lJ_0, iI_add, iI_sub, iI_mul, iI_neg, lJ_add, lJ_sub, lJ_mul, lJ_neg, i_l, l_i, iI_cl, iI_inb, iI_eqT, iI_eqF, iI_ltT, iI_ltF, iI_leT, iI_leF, lJ_eqT, lJ_eqF, lJ_cG, lJ_cE, lJ_cL, lJ_cF, lJ_cGE, lJ_cLE, lJ_cNL, lJ_cNG, Int.cast_ofNat_Int, c_0, c_1, Int.natCast_add, Int.add_zero, cond_true, cond_false, Bool.and_self, Bool.and_true, Bool.true_and, Option.bind_some, decide_true, uI_hit, uI_miss, uI_o, uA_o, uA_s, ↓reduceIte, eq_self, true_or, or_true, or_false, false_or, true_and, and_true, false_and, and_false, or_self, and_self, not_false_eq_true, not_true_eq_false, tn_i, m0, i0]
  · rw [if_neg q]
    rw [if_neg (show ¬K = 300 + ((1 : Nat) : Int) by omega)] at i0
    simp (disch := omega) only [nI_iI, lN_lJ, iI_0, lJ_0, iI_add, iI_sub, iI_mul, iI_neg, lJ_add, lJ_sub, lJ_mul, lJ_neg, i_l, l_i, iI_cl, iI_inb, iI_eqT, iI_eqF, iI_ltT, iI_ltF, iI_leT, iI_leF, lJ_eqT, lJ_eqF, lJ_cG, lJ_cE, lJ_cL, lJ_cF, lJ_cGE, lJ_cLE, lJ_cNL, lJ_cNG, Int.cast_ofNat_Int, c_0, c_1, Int.natCast_add, Int.add_zero, cond_true, cond_false, Bool.and_self, Bool.and_true, Bool.true_and, Option.bind_some, decide_true, uI_hit, uI_miss, uI_o, uA_o, uA_s, ↓reduceIte, eq_self, true_or, or_true, or_false, false_or, true_and, and_true, false_and, and_false, or_self, and_self, not_false_eq_true, not_true_eq_false, tn_i, m0, i0]
theorem so_0 {d : aI} {e : aJ} {tp : Nat → Int} {L t : Nat} (h : RT d e tp L t) (h5 : ∀ j, 0 ≤ tp j ∧ tp j ≤ 255) : so0 d e = if KT tp L t = 300 then some (iI 0, d, e) else so1 d e := by
  have i0 := m_isw (w := 0) h h5 (by omega)
  have m0 := mw_0 (d := d) (e := e)
  unfold so0
  generalize KT tp L t = K at *
  by_cases q : K = 300
  · rw [if_pos q]
    rw [if_pos (show K = 300 + ((0 : Nat) : Int) by omega)] at i0
    simp (disch := omega) only [nI_iI, lN_lJ, iI_0, lJ_0, iI_add, iI_sub, iI_mul, iI_neg, lJ_add, lJ_sub, lJ_mul, lJ_neg, i_l, l_i, iI_cl, iI_inb, iI_eqT, iI_eqF, iI_ltT, iI_ltF, iI_leT, iI_leF, lJ_eqT, lJ_eqF, lJ_cG, lJ_cE, lJ_cL, lJ_cF, lJ_cGE, lJ_cLE, lJ_cNL, lJ_cNG, Int.cast_ofNat_Int, c_0, c_1, Int.natCast_add, Int.add_zero, cond_true, cond_false, Bool.and_self, Bool.and_true, Bool.true_and, Option.bind_some, decide_true, uI_hit, uI_miss, uI_o, uA_o, uA_s, ↓reduceIte, eq_self, true_or, or_true, or_false, false_or, true_and, and_true, false_and, and_false, or_self, and_self, not_false_eq_true, not_true_eq_false, tn_i, m0, i0]
  · rw [if_neg q]
    rw [if_neg (show ¬K = 300 + ((0 : Nat) : Int) by omega)] at i0
    simp (disch := omega) only [nI_iI, lN_lJ, iI_0, lJ_0, iI_add, iI_sub, iI_mul, iI_neg, lJ_add, lJ_sub, lJ_mul, lJ_neg, i_l, l_i, iI_cl, iI_inb, iI_eqT, iI_eqF, iI_ltT, iI_ltF, iI_leT, iI_leF, lJ_eqT, lJ_eqF, lJ_cG, lJ_cE, lJ_cL, lJ_cF, lJ_cGE, lJ_cLE, lJ_cNL, lJ_cNG, Int.cast_ofNat_Int, c_0, c_1, Int.natCast_add, Int.add_zero, cond_true, cond_false, Bool.and_self, Bool.and_true, Bool.true_and, Option.bind_some, decide_true, uI_hit, uI_miss, uI_o, uA_o, uA_s, ↓reduceIte, eq_self, true_or, or_true, or_false, false_or, true_and, and_true, false_and, and_false, or_self, and_self, not_false_eq_true, not_true_eq_false, tn_i, m0, i0]
theorem m_sort {d : aI} {e : aJ} {tp : Nat → Int} {L t : Nat} (h : RT d e tp L t) (h5 : ∀ j, 0 ≤ tp j ∧ tp j ≤ 255) : FX11_sortOf d e = some (iI (if 300 ≤ KT tp L t ∧ KT tp L t ≤ 308 then KT tp L t - 300 else -1), d, e) := by
  rw [so_eq, so_0 h h5, so_1 h h5, so_2 h h5, so_3 h h5, so_4 h h5, so_5 h h5, so_6 h h5, so_7 h h5, so_8 h h5]
  generalize KT tp L t = K at *
  by_cases q : 300 ≤ K ∧ K ≤ 308
  · rw [if_pos q]
    rcases (show K = 300 ∨ K = 301 ∨ K = 302 ∨ K = 303 ∨ K = 304 ∨ K = 305 ∨ K = 306 ∨ K = 307 ∨ K = 308 by omega) with z | z | z | z | z | z | z | z | z <;> (subst z; rfl)
  · rw [if_neg q, if_neg (by omega), if_neg (by omega), if_neg (by omega), if_neg (by omega), if_neg (by omega), if_neg (by omega), if_neg (by omega), if_neg (by omega), if_neg (by omega)]
