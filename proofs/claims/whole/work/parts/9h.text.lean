/-! ===== text ===== -/
theorem TN.mk {tp : Nat → Int} (h : ∀ j, 0 ≤ tp j ∧ tp j ≤ 255) {L : Nat} (hL : L ≤ 300) : TN tp L L := by
  refine ⟨hL, fun i hi => ?_, fun i => psT_le i⟩
  have q := (KT_in h (L := L) i).2.2.1.mp hi
  have g := psT_ge (tp := tp) (L := L) i (fun j hj => by have := psT_mn (tp := tp) (L := L) (i := j) (j := i) (by omega); omega)
  exact ⟨by omega, (psT_lt q).1⟩
theorem m_read {d : aI} {e : aJ} {tp : Nat → Int} {L T : Nat} (hT : TPM d tp L) (h2 : d 109 2 = iI (T : Nat)) (hT4 : T < 4) : match pRd (KT tp L) (VT tp L) 300 rd0 0 with
    | .inl b => ∃ d' e', FX11_readText d e = some (iI b.1, d', e') ∧ (1 ≤ b.1 ∧ b.1 ≤ 6) ∧ d' 108 8 = iI (psT tp L b.2 : Nat) ∧ KN T d d'
    | .inr q => ∃ d' e' u, FX11_readText d e = some (iI 0, d', e') ∧ MDR d' T q.2 u ∧ u ≤ 300 ∧ KN T d d' := by
  have l3 := hT.2.1
  have tn := TN.mk hT.2.2.2 l3
  have loop : ∀ (r i u : Nat) (d1 : aI) (e1 : aJ) (v : Option Value) (st : Rd), L ≤ i + r → CM d1 e1 T tp L i u st → match pRd (KT tp L) (VT tp L) r st i with
      | .inl b => ∃ d' e', a_run stX11_readText (43, [some (.ref 108), v], d1, e1) = some ([some (.int (iI b.1))], d', e') ∧ (1 ≤ b.1 ∧ b.1 ≤ 6) ∧ d' 108 8 = iI (psT tp L b.2 : Nat) ∧ KN T d1 d'
      | .inr q => ∃ d' e' u, a_run stX11_readText (43, [some (.ref 108), v], d1, e1) = some ([some (.int (iI 0))], d', e') ∧ MDR d' T q.2 u ∧ u ≤ 300 ∧ KN T d1 d' := by
    have fin : ∀ (i u : Nat) (d1 : aI) (e1 : aJ) (v : Option Value) (st : Rd), KT tp L i = 0 → CM d1 e1 T tp L i u st → ∃ d' e' u, a_run stX11_readText (43, [some (.ref 108), v], d1, e1) = some ([some (.int (iI 0))], d', e') ∧ MDR d' T st u ∧ u ≤ 300 ∧ KN T d1 d' := by
      intro i u d1 e1 v st k0 cm
      have rk := rk_kt hT.2.2.2 (L := L) (t := i)
      have h9 := cm.1.2.2.2.1
      rw [rk.1.mp k0] at h9
      have pi := tn.2.2 i
      have hu := cm.2.2.1.2
      refine ⟨d1, e1, u, ?_, cm.2.2.2.1, by omega, KN.refl d1⟩
      rw [a_run_step (st := stX11_readText) (p2 := (100000, [some (.int (iI 0))], d1, e1)) (by
        show sX11_readText_43 d1 e1 v = _
        unfold sX11_readText_43
        simp (disch := omega) only [nI_iI, lN_lJ, iI_0, lJ_0, iI_add, iI_sub, iI_mul, iI_neg, lJ_add, lJ_sub, lJ_mul, lJ_neg, i_l, l_i, iI_cl, iI_inb, iI_eqT, iI_eqF, iI_ltT, iI_ltF, iI_leT, iI_leF, lJ_eqT, lJ_eqF, lJ_cG, lJ_cE, lJ_cL, lJ_cF, lJ_cGE, lJ_cLE, lJ_cNL, lJ_cNG, Int.cast_ofNat_Int, c_0, c_1, Int.natCast_add, Int.add_zero, cond_true, cond_false, Bool.and_self, Bool.and_true, Bool.true_and, Option.bind_some, decide_true, uI_hit, uI_miss, uI_o, uA_o, uA_s, ↓reduceIte, eq_self, true_or, or_true, or_false, false_or, true_and, and_true, false_and, and_false, or_self, and_self, not_false_eq_true, not_true_eq_false, tn_i, h9]) rfl, a_run_end]
    intro r
    induction r with
    | zero =>
      intro i u d1 e1 v st hi cm
      have k0 : KT tp L i = 0 := Classical.byContradiction (fun z => by have := (tn.2.1 i z).1; omega)
      exact fin i u d1 e1 v st k0 cm
    | succ r ih =>
      intro i u d1 e1 v st hi cm
      have e1q : pRd (KT tp L) (VT tp L) (r + 1) st i = if KT tp L i = 0 then .inr (i, st) else match pCla (KT tp L) (VT tp L) st i with | .inl b => .inl b | .inr q => pRd (KT tp L) (VT tp L) r q.2 q.1 := rfl
      rw [e1q]
      by_cases k0 : KT tp L i = 0
      · rw [if_pos k0]
        exact fin i u d1 e1 v st k0 cm
      · rw [if_neg k0]
        have rk := rk_kt hT.2.2.2 (L := L) (t := i)
        have h9 := cm.1.2.2.2.1
        have rr := rk.2.2.2.2.2.2
        have rn : RKT tp L i ≠ 0 := fun z => k0 (rk.1.mpr z)
        have cl := m_clause tn l3 cm k0
        cases hp : pCla (KT tp L) (VT tp L) st i with
        | inl b =>
          rw [hp] at cl
          obtain ⟨d2, e2, x1, x2, x3, x4⟩ := cl
          refine ⟨d2, e2, ?_, x2, x3, x4⟩
          rw [a_run_step (st := stX11_readText) (p2 := (100000, [some (.int (iI b.1))], d2, e2)) (by
            show sX11_readText_43 d1 e1 v = _
            unfold sX11_readText_43
            generalize RKT tp L i = r at *
            simp (disch := omega) only [nI_iI, lN_lJ, iI_0, lJ_0, iI_add, iI_sub, iI_mul, iI_neg, lJ_add, lJ_sub, lJ_mul, lJ_neg, i_l, l_i, iI_cl, iI_inb, iI_eqT, iI_eqF, iI_ltT, iI_ltF, iI_leT, iI_leF, lJ_eqT, lJ_eqF, lJ_cG, lJ_cE, lJ_cL, lJ_cF, lJ_cGE, lJ_cLE, lJ_cNL, lJ_cNG, Int.cast_ofNat_Int, c_0, c_1, Int.natCast_add, Int.add_zero, cond_true, cond_false, Bool.and_self, Bool.and_true, Bool.true_and, Option.bind_some, decide_true, uI_hit, uI_miss, uI_o, uA_o, uA_s, ↓reduceIte, eq_self, true_or, or_true, or_false, false_or, true_and, and_true, false_and, and_false, or_self, and_self, not_false_eq_true, not_true_eq_false, tn_i, h9, x1]) rfl, a_run_end]
        | inr q =>
          rw [hp] at cl
          obtain ⟨d2, e2, u2, x1, x2, x3, x4⟩ := cl
          have stp : stX11_readText (43, [some (.ref 108), v], d1, e1) = some (43, [some (.ref 108), some (.int (iI 0))], d2, e2) := by
            show sX11_readText_43 d1 e1 v = _
            unfold sX11_readText_43
            generalize RKT tp L i = r at *
            simp (disch := omega) only [nI_iI, lN_lJ, iI_0, lJ_0, iI_add, iI_sub, iI_mul, iI_neg, lJ_add, lJ_sub, lJ_mul, lJ_neg, i_l, l_i, iI_cl, iI_inb, iI_eqT, iI_eqF, iI_ltT, iI_ltF, iI_leT, iI_leF, lJ_eqT, lJ_eqF, lJ_cG, lJ_cE, lJ_cL, lJ_cF, lJ_cGE, lJ_cLE, lJ_cNL, lJ_cNG, Int.cast_ofNat_Int, c_0, c_1, Int.natCast_add, Int.add_zero, cond_true, cond_false, Bool.and_self, Bool.and_true, Bool.true_and, Option.bind_some, decide_true, uI_hit, uI_miss, uI_o, uA_o, uA_s, ↓reduceIte, eq_self, true_or, or_true, or_false, false_or, true_and, and_true, false_and, and_false, or_self, and_self, not_false_eq_true, not_true_eq_false, tn_i, h9, x1]
          have nx := ih q.1 u2 d2 e2 (some (.int (iI 0))) q.2 (by omega) x2
          show match pRd (KT tp L) (VT tp L) r q.2 q.1 with | .inl b => _ | .inr q => _
          cases hr : pRd (KT tp L) (VT tp L) r q.2 q.1 with
          | inl b =>
            rw [hr] at nx
            obtain ⟨d3, e3, a1, a2, a3, a4⟩ := nx
            exact ⟨d3, e3, (a_run_step stp rfl).trans a1, a2, a3, x3.trans a4⟩
          | inr q2 =>
            rw [hr] at nx
            obtain ⟨d3, e3, u3, a1, a2, a3, a4⟩ := nx
            exact ⟨d3, e3, u3, (a_run_step stp rfl).trans a1, a2, a3, x3.trans a4⟩
  -- its start
  obtain ⟨w, hw⟩ : ∃ w, w = uI (uI (uI (uI (uI d 108 12 (iI ((681 * T : Nat) : Int))) 111 (681 * T) (iI 0)) 108 13 (iI 0)) 108 19 (iI 0)) 108 7 (iI 0) := ⟨_, rfl⟩
  have kw : KN T d w := by
    rw [hw]
    exact (KN.put (by omega)).trans ((KN.put (by omega)).trans ((KN.put (by omega)).trans ((KN.put (by omega)).trans (KN.put (by omega)))))
  have wT : TPM w tp L := hT.of (kw 108 4 (by omega) (by omega) (by omega)) (by funext j; exact kw 112 j (by omega) (by omega) (by omega))
  obtain ⟨d1, e1, x1, x2, x3⟩ := m_next (e := e) (t := 0) wT L 0 w wT (by omega) rfl (by rw [hw, uI_hit rfl]; rfl)
  have nt : FX11_nextToken w e = some ((), d1, e1) := by
    unfold FX11_nextToken
    rw [x1]
    rfl
  have st0 : stX11_readText (0, [some (.ref 108), none], d, e) = some (43, [some (.ref 108), none], d1, e1) := by
    have nt' := nt
    rw [hw] at nt'
    have X0 : 681 * T < 2724 := by omega
    have tnT : (681 * (T : Int)).toNat = 681 * T := by omega
    have nt2 : FX11_nextToken (uI (uI (uI (uI (uI d 108 12 (iI (681 * (T : Int)))) 111 (681 * T) (iI 0)) 108 13 (iI 0)) 108 19 (iI 0)) 108 7 (iI 0)) e = some ((), d1, e1) := nt'
    show sX11_readText_0 d e = _
    unfold sX11_readText_0
    simp (disch := omega) only [nI_iI, lN_lJ, iI_0, lJ_0, iI_add, iI_sub, iI_mul, iI_neg, lJ_add, lJ_sub, lJ_mul, lJ_neg, i_l, l_i, iI_cl, iI_inb, iI_eqT, iI_eqF, iI_ltT, iI_ltF, iI_leT, iI_leF, lJ_eqT, lJ_eqF, lJ_cG, lJ_cE, lJ_cL, lJ_cF, lJ_cGE, lJ_cLE, lJ_cNL, lJ_cNG, Int.cast_ofNat_Int, c_0, c_1, Int.natCast_add, Int.add_zero, cond_true, cond_false, Bool.and_self, Bool.and_true, Bool.true_and, Option.bind_some, decide_true, uI_hit, uI_miss, uI_o, uA_o, uA_s, ↓reduceIte, eq_self, true_or, or_true, or_false, false_or, true_and, and_true, false_and, and_false, or_self, and_self, not_false_eq_true, not_true_eq_false, tn_i, h2, tnT, nt2]
  have c108 : ∀ j, j ≠ 7 → j ≠ 8 → j ≠ 9 → j ≠ 10 → d1 108 j = w 108 j := fun j a b c f => x3.1 108 j (Or.inr ⟨a, b, c, f⟩)
  have cm : CM d1 e1 T tp L 0 0 rd0 := by
    refine ⟨⟨wT.of (c108 4 (by omega) (by omega) (by omega) (by omega)) (x3.obj (by omega)), x2⟩, ⟨?_, hT4⟩, ⟨?_, Nat.zero_le _⟩, ⟨fun k hk => absurd hk (Nat.not_lt_zero k), fun k hk => absurd hk (Nat.not_lt_zero k), ?_, Nat.zero_le _, fun k hk => absurd hk (Nat.not_lt_zero k)⟩, ?_⟩
    · rw [c108 12 (by omega) (by omega) (by omega) (by omega), hw, uI_miss (by omega), uI_miss (by omega), uI_miss (by omega), uI_o (by omega), uI_hit rfl]
    · rw [c108 13 (by omega) (by omega) (by omega) (by omega), hw, uI_miss (by omega), uI_miss (by omega), uI_hit rfl]; rfl
    · rw [x3.obj (by omega), hw, uI_o (by omega), uI_o (by omega), uI_o (by omega), uI_hit rfl]; rfl
    · rw [c108 19 (by omega) (by omega) (by omega) (by omega), hw, uI_miss (by omega), uI_hit rfl]; rfl
  have lp := loop 300 0 0 d1 e1 none rd0 (by omega) cm
  have k1 : KN T d d1 := kw.trans x3.kn
  cases hr : pRd (KT tp L) (VT tp L) 300 rd0 0 with
  | inl b =>
    rw [hr] at lp
    obtain ⟨d3, e3, a1, a2, a3, a4⟩ := lp
    refine ⟨d3, e3, ?_, a2, a3, k1.trans a4⟩
    unfold FX11_readText
    rw [a_run_step st0 rfl, a1]
    rfl
  | inr q2 =>
    rw [hr] at lp
    obtain ⟨d3, e3, u3, a1, a2, a3, a4⟩ := lp
    refine ⟨d3, e3, u3, ?_, a2, a3, k1.trans a4⟩
    unfold FX11_readText
    rw [a_run_step st0 rfl, a1]
    rfl
theorem MDR.mt {d : aI} {T u : Nat} {st : Rd} (h : MDR d T st u) (hu : u ≤ 300) : MT d (T : Nat) (txR st) := by
  obtain ⟨l1, l2, h3, h4, h5⟩ := h
  have law : ∀ (s : Int) (y : Option Fn), MLu d T s st u y → ML d (T : Nat) s (txR st) y := by
    intro s y hy
    cases y with
    | none =>
      intro k k0 k1
      have k2 : k < (st.2.1 : Int) := k1
      exact hy k.toNat (by omega)
    | some f =>
      obtain ⟨k, a, b, O, V, ⟨g1, g2⟩, g3, g4, g5, g6, g7, g8⟩ := hy
      have a0 := g6.1
      refine ⟨(k : Nat), (a : Nat), (b : Nat), O, V, ⟨by omega, by show (k : Int) < (st.2.1 : Int); omega, ?_⟩, fun j j0 j1 => g3 j.toNat (by omega), ?_, ?_, g6, by omega, fun i i1 i2 => ?_⟩
      · show (st.2.2 ((k : Int)).toNat).1 = s
        rw [Int.toNat_natCast]; exact g2
      · rw [show (681 * ((T : Nat) : Int) + 1 + 3 * ((k : Nat) : Int) + 1).toNat = 681 * T + 1 + 3 * k + 1 by omega]; exact g4
      · rw [show (681 * ((T : Nat) : Int) + 1 + 3 * ((k : Nat) : Int) + 2).toNat = 681 * T + 1 + 3 * k + 2 by omega]; exact g5
      · have g := g8 i.toNat (by omega) (by omega)
        rw [show ((i.toNat : Nat) : Int) = i by omega] at g
        rw [show (681 * ((T : Nat) : Int) + 73 + 2 * i).toNat = 681 * T + 73 + 2 * i.toNat by omega, show (681 * ((T : Nat) : Int) + 73 + 2 * i + 1).toNat = 681 * T + 73 + 2 * i.toNat + 1 by omega]
        exact g
  refine ⟨law 0 _ l1, law 1 _ l2, ?_, fun k k0 k1 => ?_⟩
  · rw [show (681 * ((T : Nat) : Int)).toNat = 681 * T by omega]; exact h3
  · have k2 : k < (st.2.1 : Int) := k1
    rw [show (681 * ((T : Nat) : Int) + 1 + 3 * k).toNat = 681 * T + 1 + 3 * k.toNat by omega, show (681 * ((T : Nat) : Int) + 1 + 3 * k + 1).toNat = 681 * T + 1 + 3 * k.toNat + 1 by omega, show (681 * ((T : Nat) : Int) + 1 + 3 * k + 2).toNat = 681 * T + 1 + 3 * k.toNat + 2 by omega]
    exact h5 k.toNat (by omega)
theorem MT.of2 {d d' : aI} {t : Nat} {x : Tx} (h : MT d (t : Nat) x) (ok : TxOK x) (g : ∀ j, 681 * t ≤ j → j < 681 * t + 681 → d' 111 j = d 111 j) : MT d' (t : Nat) x := by
  obtain ⟨l1, l2, h3, h5⟩ := h
  have n24 := ok.1.2
  have law : ∀ (s : Int) (y : Option Fn), ML d (t : Nat) s x y → ML d' (t : Nat) s x y := by
    intro s y hy
    cases y with
    | none => exact hy
    | some f =>
      obtain ⟨k, a, b, O, V, g1, g3, g4, g5, g6, g7, g8⟩ := hy
      have a0 := g6.1
      refine ⟨k, a, b, O, V, g1, g3, by rw [g _ (by omega) (by omega)]; exact g4, by rw [g _ (by omega) (by omega)]; exact g5, g6, g7, fun i i1 i2 => ?_⟩
      rw [g _ (by omega) (by omega), g _ (by omega) (by omega)]
      exact g8 i i1 i2
  refine ⟨law 0 _ l1, law 1 _ l2, by rw [g _ (by omega) (by omega)]; exact h3, fun k k0 k1 => ?_⟩
  rw [g _ (by omega) (by omega), g _ (by omega) (by omega), g _ (by omega) (by omega)]
  exact h5 k k0 k1
theorem SI.texts {A : Int → Int} (hS : SI A) (ht : A 2 < 4) : SI (aU A 2 (A 2 + 1)) := by
  obtain ⟨hw, h4, h2, h3, hr, hn⟩ := hS
  obtain ⟨t, hT⟩ : ∃ t, t = A 2 + 1 := ⟨_, rfl⟩
  rw [← hT]
  have o : ∀ j : Int, j ≠ 2 → aU A 2 t j = A j := fun j hj => aU_miss hj
  have ag : Ag A (aU A 2 t) := fun j hj => (o j (by omega)).symm
  refine ⟨hw.ag ag, by rw [o 4 (by omega)]; exact h4, by rw [aU_hit rfl]; omega, by rw [aU_hit rfl, o 3 (by omega)]; omega, fun s s0 s1 => ?_, ?_⟩
  · rw [o 4 (by omega)] at s1
    obtain ⟨r1, r2⟩ := hr s s0 s1
    have y0 := r1.1
    have y1 := r1.2.1
    have g := row_ag (A := A) (B := aU A 2 t) (fun j a b => (o j (by omega)).symm) (s := s) (by omega)
    refine ⟨r1.ag g, ?_⟩
    unfold stT at r2 ⊢
    rw [o 4 (by omega)]
    by_cases h : s + 1 < A 4
    · rw [if_pos h] at r2 ⊢
      have y2 := (hr (s + 1) (by omega) h).1.1
      have y3 := (hr (s + 1) (by omega) h).1.2.1
      exact r2.ag g (row_ag (fun j a b => (o j (by omega)).symm) (by omega)) (by omega)
    · rw [if_neg h] at r2 ⊢
      have w0 := hw.1
      have w1 := hw.2.1
      exact r2.ag g ag (by omega)
  · rw [o 5 (by omega), o 6 (by omega), o 7 (by omega), o 8 (by omega), o 0 (by omega), o 1 (by omega)]
    obtain ⟨n5, n6, n7, n8⟩ := hn
    refine ⟨⟨n5.1, fun i a b => ?_⟩, ⟨n6.1, fun i a b => ?_⟩, ⟨n7.1, fun i a b => ?_⟩, ⟨n8.1, fun i a b => ?_⟩⟩
    · rw [o _ (by omega), o _ (by omega)]; exact n5.2 i a b
    · rw [o _ (by omega), o _ (by omega)]; exact n6.2 i a b
    · rw [o _ (by omega), o _ (by omega)]; exact n7.2 i a b
    · rw [o _ (by omega), o _ (by omega), o _ (by omega)]; exact n8.2 i a b
theorem o_text : Op FX10_text FX11_text := by
  intro S hS
  have s2 := hS.1.2.2.1
  obtain ⟨t1, t2, t3, t4, t5, t6⟩ := id hS
  by_cases hA : S.1 2 < 4
  · obtain ⟨T, hT⟩ : ∃ T : Nat, S.1 2 = (T : Nat) := ⟨(S.1 2).toNat, by omega⟩
    obtain ⟨L, hL⟩ : ∃ L : Nat, S.2.2.2.2.1 = (L : Nat) := ⟨(S.2.2.2.2.1).toNat, by omega⟩
    have tpe : ∀ d, CI d S → TPE d S.2.2.2.1 L := fun d hC => ⟨by rw [hC.2.2.2.2.1, hL], by omega, fun j hj => hC.2.2.2.2.2.2.2 j (by omega), t5⟩
    have tpm : ∀ d, MI d S → TPM d S.2.2.2.1 L := fun d hM => ⟨by rw [hM.2.2.2.1, hL], by omega, fun j hj => hM.2.2.2.2.2.2.1 j (by omega), t5⟩
    cases hr : pRd (KT S.2.2.2.1 L) (VT S.2.2.2.1 L) 300 rd0 0 with
    | inl b =>
      refine ⟨(S.1, S.2.1, S.2.2.1, S.2.2.2.1, 0, b.1, (psT S.2.2.2.1 L b.2 : Nat)), iI (-1), ⟨t1, t2, t3, t4, t5, by show (0 : Int) ≤ 0 ∧ (0 : Int) ≤ 300; omega⟩, fun d e hC => ?_, fun d e hM => ?_⟩
      · have rd := c5_read (e := e) (tpe d hC)
        rw [hr] at rd
        obtain ⟨d1, x1, x2, x3, x4, x5⟩ := rd
        obtain ⟨h1, h2, h3, h4, h5, h6, h7, h8⟩ := hC
        have obj : ∀ o, (o < 85 ∨ 92 < o) → o ≠ 83 → uI d1 83 2 (iI 0) o = d o := fun o a b => by
          rw [uI_o b]; funext j; exact x5 o j a (Or.inl b)
        have c3 : d 1 6 = iI (T : Nat) := by rw [← hT]; exact h1.2.2.1
        refine ⟨uI d1 83 2 (iI 0), e, ?_, ⟨h1.of (fun k a b => obj k (by omega) (by omega)), h2.of (fun k a b => obj k (by omega) (by omega)), fun t ht => (h3 t ht).of (fun k a b => obj k (by have ht2 : (t : Int) < S.1 2 := ht; omega) (by have ht2 : (t : Int) < S.1 2 := ht; omega)), ?_, ?_, ?_, ?_, fun j hj => ?_⟩, fun k a => obj k (by omega) (by omega)⟩
        · unfold FX10_text
          simp (disch := omega) only [nI_iI, lN_lJ, iI_0, lJ_0, iI_add, iI_sub, iI_mul, iI_neg, lJ_add, lJ_sub, lJ_mul, lJ_neg, i_l, l_i, iI_cl, iI_inb, iI_eqT, iI_eqF, iI_ltT, iI_ltF, iI_leT, iI_leF, lJ_eqT, lJ_eqF, lJ_cG, lJ_cE, lJ_cL, lJ_cF, lJ_cGE, lJ_cLE, lJ_cNL, lJ_cNG, Int.cast_ofNat_Int, c_0, c_1, Int.natCast_add, Int.add_zero, cond_true, cond_false, Bool.and_self, Bool.and_true, Bool.true_and, Option.bind_some, decide_true, uI_hit, uI_miss, uI_o, uA_o, uA_s, ↓reduceIte, eq_self, true_or, or_true, or_false, false_or, true_and, and_true, false_and, and_false, or_self, and_self, not_false_eq_true, not_true_eq_false, tn_i, c3, x1]
        · rw [obj 78 (by omega) (by omega)]; exact h4
        · exact uI_hit rfl
        · rw [uI_miss (by omega)]; exact x2
        · rw [uI_miss (by omega)]; exact x3
        · have hj2 : (j : Int) < 0 := hj
          omega
      · have r2 : d 109 2 = iI (T : Nat) := by rw [← hT]; exact hM.1.cell (j := 2) (by omega)
        have rd := m_read (e := e) (tpm d hM) r2 (by omega)
        rw [hr] at rd
        obtain ⟨d1, e1, x1, x2, x3, x4⟩ := rd
        obtain ⟨h1, h2, h3, h4, h5, h6, h7, h8⟩ := hM
        obtain ⟨d2, hd2⟩ : ∃ d2, d2 = uI (uI (uI d1 108 5 (iI b.1)) 108 6 (iI (psT S.2.2.2.1 L b.2 : Nat))) 108 4 (iI 0) := ⟨_, rfl⟩
        have obj : ∀ o, o ≠ 108 → o ≠ 111 → o ≠ 113 → d2 o = d o := fun o a b c => by
          rw [hd2, uI_o a, uI_o a, uI_o a]; funext j; exact x4 o j c (Or.inl b) (Or.inl a)
        refine ⟨d2, e1, ?_, ⟨h1.of (obj 109 (by omega) (by omega) (by omega)), h2.of (obj 110 (by omega) (by omega) (by omega)), fun t ht => ?_, ?_, ?_, ?_, fun j hj => ?_, ?_⟩, fun k a => obj k (by omega) (by omega) (by omega)⟩
        · rw [hd2]
          have bb := x2
          generalize b.1 = f at *
          unfold FX11_text
          simp (disch := omega) only [nI_iI, lN_lJ, iI_0, lJ_0, iI_add, iI_sub, iI_mul, iI_neg, lJ_add, lJ_sub, lJ_mul, lJ_neg, i_l, l_i, iI_cl, iI_inb, iI_eqT, iI_eqF, iI_ltT, iI_ltF, iI_leT, iI_leF, lJ_eqT, lJ_eqF, lJ_cG, lJ_cE, lJ_cL, lJ_cF, lJ_cGE, lJ_cLE, lJ_cNL, lJ_cNG, Int.cast_ofNat_Int, c_0, c_1, Int.natCast_add, Int.add_zero, cond_true, cond_false, Bool.and_self, Bool.and_true, Bool.true_and, Option.bind_some, decide_true, uI_hit, uI_miss, uI_o, uA_o, uA_s, ↓reduceIte, eq_self, true_or, or_true, or_false, false_or, true_and, and_true, false_and, and_false, or_self, and_self, not_false_eq_true, not_true_eq_false, tn_i, r2, x1, x3]
        · have ht2 : (t : Int) < S.1 2 := ht
          exact (h3 t ht).of2 (t4 t ht) (fun j j1 j2 => by rw [hd2, uI_o (by omega), uI_o (by omega), uI_o (by omega)]; exact x4 111 j (by omega) (Or.inr (by omega)) (Or.inl (by omega)))
        · rw [hd2]; exact uI_hit rfl
        · rw [hd2, uI_miss (by omega), uI_miss (by omega), uI_hit rfl]
        · rw [hd2, uI_miss (by omega), uI_hit rfl]
        · have hj2 : (j : Int) < 0 := hj
          omega
        · rw [hd2, uI_miss (by omega), uI_miss (by omega), uI_miss (by omega), x4 108 23 (by omega) (Or.inl (by omega)) (by omega)]; exact h8
    | inr q =>
      have rok := pRd_in 300 rd0 0 q rd0_ok hr
      have o : ∀ j : Int, j ≠ 2 → aU S.1 2 (S.1 2 + 1) j = S.1 j := fun j hj => aU_miss hj
      have ah : aU S.1 2 (S.1 2 + 1) 2 = S.1 2 + 1 := aU_hit rfl
      refine ⟨(aU S.1 2 (S.1 2 + 1), S.2.1, fun t => if t = T then txR q.2 else S.2.2.1 t, S.2.2.2.1, 0, 0, -1), iI (T : Nat), ⟨t1.texts hA, t2, ?_, fun t ht => ?_, t5, by show (0 : Int) ≤ 0 ∧ (0 : Int) ≤ 300; omega⟩, fun d e hC => ?_, fun d e hM => ?_⟩
      · show S.2.1 2 ≤ aU S.1 2 (S.1 2 + 1) 2
        rw [ah]; omega
      · have ht2 : (t : Int) < aU S.1 2 (S.1 2 + 1) 2 := ht
        rw [ah] at ht2
        show TxOK (if t = T then txR q.2 else S.2.2.1 t)
        by_cases z : t = T
        · rw [if_pos z]; exact rok.tx
        · rw [if_neg z]; exact t4 t (by omega)
      · have rd := c5_read (e := e) (tpe d hC)
        rw [hr] at rd
        obtain ⟨d1, u, x1, x2, x3, x4, x5, x6⟩ := rd
        obtain ⟨h1, h2, h3, h4, h5, h6, h7, h8⟩ := hC
        have objB : ∀ o, (o < 85 ∨ 92 < o) → o ≠ 83 → uI d1 83 2 (iI 0) o = d o := fun o a b => by
          rw [uI_o b]; funext j; exact x6 o j a (Or.inl b)
        have c3 : d 1 6 = iI (T : Nat) := by rw [← hT]; exact h1.2.2.1
        have c31 : uI d1 83 2 (iI 0) 1 6 = iI (T : Nat) := by rw [objB 1 (by omega) (by omega)]; exact c3
        have c30 : d1 1 6 = iI (T : Nat) := by rw [x6 1 6 (by omega) (by omega)]; exact c3
        obtain ⟨d2, y1, y2, y3, y4, y5, y6, y7⟩ := c7_become (d := uI d1 83 2 (iI 0)) (e := e) (o0 := 58 + 5 * T) (by omega)
        have objA : ∀ o, (o < 85 ∨ 92 < o) → o ≠ 83 → (o < 58 + 5 * T ∨ 58 + 5 * T + 4 < o) → d2 o = d o := fun o a b c => by rw [y7 o c]; exact objB o a b
        have c32 : d2 1 6 = iI (T : Nat) := by rw [objA 1 (by omega) (by omega) (by omega)]; exact c3
        have dr : DR (uI d1 83 2 (iI 0)) q.2 u := by
          refine x4.of (fun j hj => by rw [uI_o (by omega)]) (uI_o (by omega)) (uI_o (by omega)) (uI_o (by omega)) (fun z hz => by rw [uI_o (by omega)]) (Nat.le_refl _)
        have ct := dr.ct (d' := d2) (o0 := 58 + 5 * T) x5 y2 y3 y4 y5 y6
        obtain ⟨d3, hd3⟩ : ∃ d3, d3 = uI d2 1 6 (iI ((T : Int) + 1)) := ⟨_, rfl⟩
        have obj : ∀ o, o ≠ 1 → (o < 85 ∨ 92 < o) → o ≠ 83 → (o < 58 + 5 * T ∨ 58 + 5 * T + 4 < o) → d3 o = d o := fun o a b c f => by rw [hd3, uI_o a]; exact objA o b c f
        obtain ⟨c1, c2, c3', c4, c5, c6, c7, c8, c9⟩ := h1
        refine ⟨d3, e, ?_, ⟨⟨?_, ?_, ?_, ?_, ?_, ?_, ?_, ?_, ?_⟩, h2.of (fun k a b => obj k (by omega) (by omega) (by omega) (by omega)), fun t ht => ?_, ?_, ?_, ?_, ?_, fun j hj => ?_⟩, fun k a => obj k (by omega) (by omega) (by omega) (by omega)⟩
        · have tm : ((T : Int)).toNat = T := Int.toNat_natCast T
          have x7 : (58 : Nat) + 5 * T = 58 + 5 * (T : Nat) := rfl
          rw [hd3]
          unfold FX10_text
          simp (disch := omega) only [nI_iI, lN_lJ, iI_0, lJ_0, iI_add, iI_sub, iI_mul, iI_neg, lJ_add, lJ_sub, lJ_mul, lJ_neg, i_l, l_i, iI_cl, iI_inb, iI_eqT, iI_eqF, iI_ltT, iI_ltF, iI_leT, iI_leF, lJ_eqT, lJ_eqF, lJ_cG, lJ_cE, lJ_cL, lJ_cF, lJ_cGE, lJ_cLE, lJ_cNL, lJ_cNG, Int.cast_ofNat_Int, c_0, c_1, Int.natCast_add, Int.add_zero, cond_true, cond_false, Bool.and_self, Bool.and_true, Bool.true_and, Option.bind_some, decide_true, uI_hit, uI_miss, uI_o, uA_o, uA_s, ↓reduceIte, eq_self, true_or, or_true, or_false, false_or, true_and, and_true, false_and, and_false, or_self, and_self, not_false_eq_true, not_true_eq_false, tn_i, Int.toNat_natCast, c3, x1, c30, y1, c32, Int.add_sub_cancel]
        · exact (c1.of (fun k a b => obj k (by omega) (by omega) (by omega) (by omega))).ag hS.1.1 (fun j hj => (o j (by omega)).symm)
        · exact (c2.of (fun k a b => obj k (by omega) (by omega) (by omega) (by omega))).ag (o 4 (by omega)) hS.1.2.1.2 (fun s a b => (hS.1.2.2.2.2.1 s a b).1) (fun j a b => (o j (by omega)).symm)
        · show d3 1 6 = iI (aU S.1 2 (S.1 2 + 1) 2)
          rw [hd3, uI_hit rfl, ah, hT]
        · show d3 1 7 = iI (aU S.1 2 (S.1 2 + 1) 3)
          rw [hd3, uI_miss (by omega), objA 1 (by omega) (by omega) (by omega), o 3 (by omega)]; exact c4
        · exact (c5.of (fun k a b => obj k (by omega) (by omega) (by omega) (by omega))).ag (o 5 (by omega)) (fun j hj => ⟨o _ (by omega), o _ (by omega)⟩)
        · exact (c6.of (fun k a b => obj k (by omega) (by omega) (by omega) (by omega))).ag (o 6 (by omega)) (fun j hj => ⟨o _ (by omega), o _ (by omega)⟩)
        · exact (c7.of (fun k a b => obj k (by omega) (by omega) (by omega) (by omega))).ag (o 7 (by omega)) (fun j hj => ⟨o _ (by omega), o _ (by omega)⟩)
        · exact (c8.of (fun k a b => obj k (by omega) (by omega) (by omega) (by omega))).ag (o 8 (by omega)) (fun j hj => ⟨o _ (by omega), o _ (by omega)⟩)
        · rw [obj 28 (by omega) (by omega) (by omega) (by omega)]
          intro j hj
          have hj2 : (j : Int) < aU S.1 2 (S.1 2 + 1) 8 := hj
          rw [o 8 (by omega)] at hj2
          show d 28 j = iI (aU S.1 2 (S.1 2 + 1) (112 + 3 * (j : Int) + 2))
          rw [o _ (by omega)]
          exact c9 j hj2
        · have ht2 : (t : Int) < aU S.1 2 (S.1 2 + 1) 2 := ht
          rw [ah] at ht2
          show CT d3 (58 + 5 * t) (if t = T then txR q.2 else S.2.2.1 t)
          by_cases z : t = T
          · rw [if_pos z, z]
            exact ct.of (fun k a b => by rw [hd3, uI_o (by omega)])
          · rw [if_neg z]
            exact (h3 t (by omega)).of (fun k a b => obj k (by omega) (by omega) (by omega) (by omega))
        · rw [obj 78 (by omega) (by omega) (by omega) (by omega)]; exact h4
        · rw [hd3, uI_o (by omega), y7 83 (by omega), uI_hit rfl]
        · rw [hd3, uI_o (by omega), y7 83 (by omega), uI_miss (by omega)]; exact x2
        · rw [hd3, uI_o (by omega), y7 83 (by omega), uI_miss (by omega)]; exact x3
        · have hj2 : (j : Int) < 0 := hj
          omega
      · have r2 : d 109 2 = iI (T : Nat) := by rw [← hT]; exact hM.1.cell (j := 2) (by omega)
        have rd := m_read (e := e) (tpm d hM) r2 (by omega)
        rw [hr] at rd
        obtain ⟨d1, e1, u, x1, x2, x3, x4⟩ := rd
        obtain ⟨h1, h2, h3, h4, h5, h6, h7, h8⟩ := hM
        have c109 : d1 109 = d 109 := by funext j; exact x4 109 j (by omega) (Or.inl (by omega)) (Or.inl (by omega))
        have r21 : d1 109 2 = iI (T : Nat) := by rw [c109]; exact r2
        obtain ⟨d2, hd2⟩ : ∃ d2, d2 = uI (uI (uI (uI d1 108 5 (iI 0)) 108 6 (iI (-1))) 108 4 (iI 0)) 109 2 (iI ((T : Int) + 1)) := ⟨_, rfl⟩
        have obj : ∀ o, o ≠ 108 → o ≠ 109 → o ≠ 111 → o ≠ 113 → d2 o = d o := fun o a a2 b c => by
          rw [hd2, uI_o a2, uI_o a, uI_o a, uI_o a]; funext j; exact x4 o j c (Or.inl b) (Or.inl a)
        have c111 : d2 111 = d1 111 := by rw [hd2, uI_o (by omega), uI_o (by omega), uI_o (by omega), uI_o (by omega)]
        have ma : MA d2 109 (aU S.1 2 (S.1 2 + 1)) := by
          have m0 : MA (uI (uI (uI d1 108 5 (iI 0)) 108 6 (iI (-1))) 108 4 (iI 0)) 109 S.1 := h1.of (by rw [uI_o (by omega), uI_o (by omega), uI_o (by omega)]; exact c109)
          rw [hd2, hT]
          exact m0.put rfl
        refine ⟨d2, e1, ?_, ⟨ma, h2.of (obj 110 (by omega) (by omega) (by omega) (by omega)), fun t ht => ?_, ?_, ?_, ?_, fun j hj => ?_, ?_⟩, fun k a => obj k (by omega) (by omega) (by omega) (by omega)⟩
        · rw [hd2]
          unfold FX11_text
          simp (disch := omega) only [nI_iI, lN_lJ, iI_0, lJ_0, iI_add, iI_sub, iI_mul, iI_neg, lJ_add, lJ_sub, lJ_mul, lJ_neg, i_l, l_i, iI_cl, iI_inb, iI_eqT, iI_eqF, iI_ltT, iI_ltF, iI_leT, iI_leF, lJ_eqT, lJ_eqF, lJ_cG, lJ_cE, lJ_cL, lJ_cF, lJ_cGE, lJ_cLE, lJ_cNL, lJ_cNG, Int.cast_ofNat_Int, c_0, c_1, Int.natCast_add, Int.add_zero, cond_true, cond_false, Bool.and_self, Bool.and_true, Bool.true_and, Option.bind_some, decide_true, uI_hit, uI_miss, uI_o, uA_o, uA_s, ↓reduceIte, eq_self, true_or, or_true, or_false, false_or, true_and, and_true, false_and, and_false, or_self, and_self, not_false_eq_true, not_true_eq_false, tn_i, r2, x1, r21, Int.add_sub_cancel]
        · have ht2 : (t : Int) < aU S.1 2 (S.1 2 + 1) 2 := ht
          rw [ah] at ht2
          show MT d2 (t : Nat) (if t = T then txR q.2 else S.2.2.1 t)
          by_cases z : t = T
          · rw [if_pos z, z]
            exact (x2.mt x3).of c111
          · rw [if_neg z]
            exact (h3 t (by omega)).of2 (t4 t (by omega)) (fun j j1 j2 => by rw [c111]; exact x4 111 j (by omega) (Or.inr (by omega)) (Or.inl (by omega)))
        · rw [hd2, uI_o (by omega)]; exact uI_hit rfl
        · rw [hd2, uI_o (by omega), uI_miss (by omega), uI_miss (by omega), uI_hit rfl]
        · rw [hd2, uI_o (by omega), uI_miss (by omega), uI_hit rfl]
        · have hj2 : (j : Int) < 0 := hj
          omega
        · rw [hd2, uI_o (by omega), uI_miss (by omega), uI_miss (by omega), uI_miss (by omega), x4 108 23 (by omega) (Or.inl (by omega)) (by omega)]; exact h8
  · have hA4 : S.1 2 = 4 := by omega
    refine ⟨S, iI (-1), hS, fun d e hC => ⟨d, e, ?_, hC, Fc.refl d⟩, fun d e hM => ⟨d, e, ?_, hM, Fm.refl d⟩⟩
    · have c3 : d 1 6 = iI 4 := by rw [← hA4]; exact hC.1.2.2.1
      unfold FX10_text
      simp (disch := omega) only [nI_iI, lN_lJ, iI_0, lJ_0, iI_add, iI_sub, iI_mul, iI_neg, lJ_add, lJ_sub, lJ_mul, lJ_neg, i_l, l_i, iI_cl, iI_inb, iI_eqT, iI_eqF, iI_ltT, iI_ltF, iI_leT, iI_leF, lJ_eqT, lJ_eqF, lJ_cG, lJ_cE, lJ_cL, lJ_cF, lJ_cGE, lJ_cLE, lJ_cNL, lJ_cNG, Int.cast_ofNat_Int, c_0, c_1, Int.natCast_add, Int.add_zero, cond_true, cond_false, Bool.and_self, Bool.and_true, Bool.true_and, Option.bind_some, decide_true, uI_hit, uI_miss, uI_o, uA_o, uA_s, ↓reduceIte, eq_self, true_or, or_true, or_false, false_or, true_and, and_true, false_and, and_false, or_self, and_self, not_false_eq_true, not_true_eq_false, tn_i, c3]
    · have r2 : d 109 2 = iI 4 := by rw [← hA4]; exact hM.1.cell (j := 2) (by omega)
      unfold FX11_text
      simp (disch := omega) only [nI_iI, lN_lJ, iI_0, lJ_0, iI_add, iI_sub, iI_mul, iI_neg, lJ_add, lJ_sub, lJ_mul, lJ_neg, i_l, l_i, iI_cl, iI_inb, iI_eqT, iI_eqF, iI_ltT, iI_ltF, iI_leT, iI_leF, lJ_eqT, lJ_eqF, lJ_cG, lJ_cE, lJ_cL, lJ_cF, lJ_cGE, lJ_cLE, lJ_cNL, lJ_cNG, Int.cast_ofNat_Int, c_0, c_1, Int.natCast_add, Int.add_zero, cond_true, cond_false, Bool.and_self, Bool.and_true, Bool.true_and, Option.bind_some, decide_true, uI_hit, uI_miss, uI_o, uA_o, uA_s, ↓reduceIte, eq_self, true_or, or_true, or_false, false_or, true_and, and_true, false_and, and_false, or_self, and_self, not_false_eq_true, not_true_eq_false, tn_i, r2]
