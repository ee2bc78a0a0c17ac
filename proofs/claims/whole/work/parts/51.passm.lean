/-! ===== an hour: reference ===== -/
def afterS (wr : Bool) (y0 y1 : Option (En → Int)) (A : Int → Int) (c : Int) : Int → Int := if 0 < goesS (tkA A y0 c) y1 c then outW wr (tkA A y0 c) c 2 else tkA A y0 c
theorem mq_takeNow {d : aI} {e : aJ} {A : Int → Int} {y0 y1 : Option (En → Int)} {wr : Bool} {c q : Int} (hA : MA d 109 A) (hW : WN A) (hX : MX d (A 3) y0 y1) (hwr : d 108 23 = iI (tv wr)) (hq : d 108 24 = iI q) (hc : 0 ≤ c ∧ c < A 1) (hin : 0 ≤ A (12 + 3 * c + 1)) : ∃ d' e', FX11_takeNow d e (iI c) = some ((), d', e') ∧ MA d' 109 (afterS wr y0 y1 A c) ∧ Kr d d' ∧ d' 108 24 = iI (q + tkB A y0 c) := by
  have w0 := hW.1
  have w1 := hW.2.1
  have wc := hW.2.2.2.2.2.1 c hc.1 hc.2
  have wh := hW.2.2.2.2.2.2.1 (A (12 + 3 * c + 1)) hin wc.2.1.2
  have ht := takesS_in hW (y := y0) (c := c) (h := A (12 + 3 * c + 1)) hc
  have tw : WN (tkA A y0 c) := takeS_wn hW hc (by omega) ht
  have to : ∀ j : Int, j ≠ 30 + 2 * A (12 + 3 * c + 1) → j ≠ 12 + 3 * c + 2 → tkA A y0 c j = A j := fun j a b => takeS_o ⟨a, b⟩
  have g0 := mq_get (e := e) hA (c := c) (w := 1) (by omega)
  have r3 : d 109 3 = iI (A 3) := hA.cell (j := 3) (by omega)
  obtain ⟨d1, e1, p1, p2⟩ := mq_takesOf (e := e) hA hW hX hc (h := A (12 + 3 * c + 1)) (by omega)
  have a1 : MA d1 109 A := hA.of (p2 109 (by omega) (by omega))
  have g1 := mq_getOf (e := e1) a1 (c := A (12 + 3 * c + 1)) (w := 0) (by omega)
  rw [show 30 + 2 * A (12 + 3 * c + 1) + 0 = 30 + 2 * A (12 + 3 * c + 1) by omega] at g1
  have hb : 0 ≤ tkB A y0 c ∧ tkB A y0 c ≤ 999 := by unfold tkB biteS; split <;> omega
  have a2 : MA (uI d1 109 (30 + 2 * A (12 + 3 * c + 1)).toNat (iI (A (30 + 2 * A (12 + 3 * c + 1)) - tkB A y0 c))) 109 (aU A (30 + 2 * A (12 + 3 * c + 1)) (A (30 + 2 * A (12 + 3 * c + 1)) - tkB A y0 c)) := a1.put (by omega)
  have g2 := mq_get (e := e1) a2 (c := c) (w := 2) (by omega)
  rw [aU_miss (by omega)] at g2
  have hheld : ∀ d' : aI, FX11_held d' e1 (lJ (A (12 + 3 * c + 2) + tkB A y0 c)) (iI 0) (iI 9999) = some (iI (if A (12 + 3 * c + 2) + tkB A y0 c < 9999 then A (12 + 3 * c + 2) + tkB A y0 c else 9999), d', e1) := by
    intro d'
    rw [mq_held (by omega)]
    congr 3
    rw [if_neg (by omega)]
    by_cases h3 : A (12 + 3 * c + 2) + tkB A y0 c < 9999
    · rw [if_pos h3, if_neg (by omega)]
    · rw [if_neg h3]
      split <;> omega
  have a3 : MA (uI (uI d1 109 (30 + 2 * A (12 + 3 * c + 1)).toNat (iI (A (30 + 2 * A (12 + 3 * c + 1)) - tkB A y0 c))) 109 (12 + 3 * c + 2).toNat (iI (if A (12 + 3 * c + 2) + tkB A y0 c < 9999 then A (12 + 3 * c + 2) + tkB A y0 c else 9999))) 109 (tkA A y0 c) := a2.put (by omega)
  generalize hd3 : uI (uI d1 109 (30 + 2 * A (12 + 3 * c + 1)).toNat (iI (A (30 + 2 * A (12 + 3 * c + 1)) - tkB A y0 c))) 109 (12 + 3 * c + 2).toNat (iI (if A (12 + 3 * c + 2) + tkB A y0 c < 9999 then A (12 + 3 * c + 2) + tkB A y0 c else 9999)) = d3 at a3
  have f3 : ∀ o, o ≠ 109 → d3 o = d1 o := fun o ho => by rw [← hd3, uI_o ho, uI_o ho]
  have s24 : d3 108 24 = iI q := by rw [f3 108 (by omega), p2 108 (by omega) (by omega)]; exact hq
  have a4 : MA (uI d3 108 24 (iI (q + tkB A y0 c))) 109 (tkA A y0 c) := a3.of (uI_o (by omega))
  have hX4 : MX (uI d3 108 24 (iI (q + tkB A y0 c))) (tkA A y0 c 3) y0 y1 := by
    rw [to 3 (by omega) (by omega)]
    exact hX.of (by rw [uI_o (by omega), f3 111 (by omega), p2 111 (by omega) (by omega)])
  obtain ⟨d5, e5, u1, u2⟩ := mq_goesOf (e := e1) a4 tw hX4 (c := c) (by rw [to 1 (by omega) (by omega)]; exact hc)
  have a5 : MA d5 109 (tkA A y0 c) := a4.of (u2 109 (by omega) (by omega))
  have k5 : Kr d d5 := by
    refine ⟨fun k x1 x2 x3 => ?_, fun j hj => ?_⟩
    · rw [u2 k (by omega) (by omega), uI_o x2, f3 k x3, p2 k (by omega) (by omega)]
    · rw [u2 108 (by omega) (by omega), uI_miss (by omega), f3 108 (by omega), p2 108 (by omega) (by omega)]
  have z24 : d5 108 24 = iI (q + tkB A y0 c) := by rw [u2 108 (by omega) (by omega), uI_hit rfl]
  have hg := goesS_in (A := tkA A y0 c) (y := y1) (c := c)
  have hcase : (takesS A y0 c (A (12 + 3 * c + 1)) < A (30 + 2 * A (12 + 3 * c + 1)) ∧ tkB A y0 c = takesS A y0 c (A (12 + 3 * c + 1))) ∨ (A (30 + 2 * A (12 + 3 * c + 1)) ≤ takesS A y0 c (A (12 + 3 * c + 1)) ∧ tkB A y0 c = A (30 + 2 * A (12 + 3 * c + 1))) := by
    unfold tkB biteS
    by_cases x : takesS A y0 c (A (12 + 3 * c + 1)) < A (30 + 2 * A (12 + 3 * c + 1))
    · rw [if_pos x]; exact Or.inl ⟨x, rfl⟩
    · rw [if_neg x]; exact Or.inr ⟨by omega, rfl⟩
  unfold afterS
  by_cases h2 : 0 < goesS (tkA A y0 c) y1 c
  · rw [if_pos h2]
    obtain ⟨d6, v1, v2, v3⟩ := mq_outNow (e := e5) (b := wr) a5 tw (c := c) (w := 2) (by rw [to 1 (by omega) (by omega)]; exact hc) (by rw [to _ (by omega) (by omega)]; exact hin) (by omega) (by rw [k5.2 23 (by omega)]; exact hwr)
    refine ⟨d6, e5, ?_, v2, k5.trans (Kr.only v3), by rw [v3 108 (by omega)]; exact z24⟩
    unfold FX11_takeNow
    rcases hcase with ⟨x1, x2⟩ | ⟨x1, x2⟩
    · rw [x2] at g2 hheld u1 hd3
      simp (disch := omega) only [nI_iI, lN_lJ, iI_0, lJ_0, iI_add, iI_sub, iI_mul, iI_neg, lJ_add, lJ_sub, lJ_mul, lJ_neg, i_l, l_i, iI_cl, iI_inb, iI_eqT, iI_eqF, iI_ltT, iI_ltF, iI_leT, iI_leF, lJ_eqT, lJ_eqF, lJ_cG, lJ_cE, lJ_cL, lJ_cF, lJ_cGE, lJ_cLE, lJ_cNL, lJ_cNG, Int.cast_ofNat_Int, c_0, c_1, Int.natCast_add, Int.add_zero, cond_true, cond_false, Bool.and_self, Bool.and_true, Bool.true_and, Option.bind_some, decide_true, uI_hit, uI_miss, uI_o, uA_o, uA_s, ↓reduceIte, eq_self, true_or, or_true, or_false, false_or, true_and, and_true, false_and, and_false, or_self, and_self, not_false_eq_true, not_true_eq_false, tn_i, g0, r3, p1, g1, mq_layOf, g2, hheld, mq_lay, hd3, s24, u1, v1]
    · rw [x2] at g2 hheld u1 hd3
      simp (disch := omega) only [nI_iI, lN_lJ, iI_0, lJ_0, iI_add, iI_sub, iI_mul, iI_neg, lJ_add, lJ_sub, lJ_mul, lJ_neg, i_l, l_i, iI_cl, iI_inb, iI_eqT, iI_eqF, iI_ltT, iI_ltF, iI_leT, iI_leF, lJ_eqT, lJ_eqF, lJ_cG, lJ_cE, lJ_cL, lJ_cF, lJ_cGE, lJ_cLE, lJ_cNL, lJ_cNG, Int.cast_ofNat_Int, c_0, c_1, Int.natCast_add, Int.add_zero, cond_true, cond_false, Bool.and_self, Bool.and_true, Bool.true_and, Option.bind_some, decide_true, uI_hit, uI_miss, uI_o, uA_o, uA_s, ↓reduceIte, eq_self, true_or, or_true, or_false, false_or, true_and, and_true, false_and, and_false, or_self, and_self, not_false_eq_true, not_true_eq_false, tn_i, g0, r3, p1, g1, mq_layOf, g2, hheld, mq_lay, hd3, s24, u1, v1]
  · rw [if_neg h2]
    refine ⟨d5, e5, ?_, a5, k5, z24⟩
    unfold FX11_takeNow
    rcases hcase with ⟨x1, x2⟩ | ⟨x1, x2⟩
    · rw [x2] at g2 hheld u1 hd3
      simp (disch := omega) only [nI_iI, lN_lJ, iI_0, lJ_0, iI_add, iI_sub, iI_mul, iI_neg, lJ_add, lJ_sub, lJ_mul, lJ_neg, i_l, l_i, iI_cl, iI_inb, iI_eqT, iI_eqF, iI_ltT, iI_ltF, iI_leT, iI_leF, lJ_eqT, lJ_eqF, lJ_cG, lJ_cE, lJ_cL, lJ_cF, lJ_cGE, lJ_cLE, lJ_cNL, lJ_cNG, Int.cast_ofNat_Int, c_0, c_1, Int.natCast_add, Int.add_zero, cond_true, cond_false, Bool.and_self, Bool.and_true, Bool.true_and, Option.bind_some, decide_true, uI_hit, uI_miss, uI_o, uA_o, uA_s, ↓reduceIte, eq_self, true_or, or_true, or_false, false_or, true_and, and_true, false_and, and_false, or_self, and_self, not_false_eq_true, not_true_eq_false, tn_i, g0, r3, p1, g1, mq_layOf, g2, hheld, mq_lay, hd3, s24, u1]
    · rw [x2] at g2 hheld u1 hd3
      simp (disch := omega) only [nI_iI, lN_lJ, iI_0, lJ_0, iI_add, iI_sub, iI_mul, iI_neg, lJ_add, lJ_sub, lJ_mul, lJ_neg, i_l, l_i, iI_cl, iI_inb, iI_eqT, iI_eqF, iI_ltT, iI_ltF, iI_leT, iI_leF, lJ_eqT, lJ_eqF, lJ_cG, lJ_cE, lJ_cL, lJ_cF, lJ_cGE, lJ_cLE, lJ_cNL, lJ_cNG, Int.cast_ofNat_Int, c_0, c_1, Int.natCast_add, Int.add_zero, cond_true, cond_false, Bool.and_self, Bool.and_true, Bool.true_and, Option.bind_some, decide_true, uI_hit, uI_miss, uI_o, uA_o, uA_s, ↓reduceIte, eq_self, true_or, or_true, or_false, false_or, true_and, and_true, false_and, and_false, or_self, and_self, not_false_eq_true, not_true_eq_false, tn_i, g0, r3, p1, g1, mq_layOf, g2, hheld, mq_lay, hd3, s24, u1]
theorem mq_pass {d : aI} {e : aJ} {A : Int → Int} {y0 y1 : Option (En → Int)} {wr : Bool} {q : Int} (hA : MA d 109 A) (hW : WN A) (hX : MX d (A 3) y0 y1) (hwr : d 108 23 = iI (tv wr)) (hq : d 108 24 = iI q) : ∃ d' e', FX11_pass d e = some ((), d', e') ∧ MA d' 109 (passA wr y0 y1 A) ∧ Kr d d' ∧ d' 108 24 = iI (q + passN wr y0 y1 A) := by
  have w1 := hW.2.1
  have key : ∀ n : Nat, (n : Int) ≤ A 1 → ∃ d' e' v, MA d' 109 (passC wr y0 y1 A n).1 ∧ Kr d d' ∧ d' 108 24 = iI (q + (passC wr y0 y1 A n).2) ∧ a_run stX11_pass (2, [some (.ref 108), some (.int (iI (0 : Nat))), none], d, e) = a_run stX11_pass (2, [some (.ref 108), some (.int (iI (n : Nat))), v], d', e') := by
    intro n
    induction n with
    | zero => intro _; exact ⟨d, e, none, hA, Kr.refl d, by rw [hq]; congr 1; show q = q + 0; omega, rfl⟩
    | succ n ih =>
      intro hn
      obtain ⟨d1, e1, v, a1, k1, s1, t1⟩ := ih (by omega)
      have pc := passC_ok (wr := wr) (y0 := y0) (y1 := y1) hW n (by omega)
      have ee : passC wr y0 y1 A (n + 1) = catS wr y0 y1 n (passC wr y0 y1 A n) := rfl
      rw [ee]
      generalize passC wr y0 y1 A n = s at a1 s1 t1 pc
      obtain ⟨sw, so, z0, z1⟩ := pc
      have kk : (catS wr y0 y1 n s).1 = if s.1 (12 + 3 * n + 1) = -1 then wanderS s.1 n else afterS wr y0 y1 s.1 n := rfl
      have kk2 : (catS wr y0 y1 n s).2 = if s.1 (12 + 3 * n + 1) = -1 then s.2 else s.2 + tkB s.1 y0 n := rfl
      rw [kk, kk2]
      have b1 := so 1 (by omega) (by omega) (by omega)
      have b3 := so 3 (by omega) (by omega) (by omega)
      have r1 : d1 109 1 = iI (s.1 1) := a1.cell (j := 1) (by omega)
      have wc := sw.2.2.2.2.2.1 n (by omega) (by omega)
      have w0 := sw.1
      have w10 := sw.2.2.2.1
      by_cases h1 : s.1 (12 + 3 * n + 1) = -1
      · rw [if_pos h1, if_pos h1]
        have g0 := mq_wo_y (e := e1) a1 sw (c := n) (by omega)
        obtain ⟨d2, p1, p2, p3⟩ := mq_drawnBy (e := e1) a1 sw
        have o1 : anewS s.1 1 = s.1 1 := anewS_o (by omega)
        unfold wanderS
        by_cases h3 : s.1 10 % 3 = 0
        · rw [if_pos h3]
          refine ⟨d2, e1, some (.int (iI (s.1 10 % 3))), p2, k1.trans (Kr.only p3), by rw [p3 108 (by omega)]; exact s1, t1.trans (a_run_step ?_ rfl)⟩
          show sX11_pass_2 d1 e1 _ v = _
          unfold sX11_pass_2
          simp (disch := omega) only [nI_iI, lN_lJ, iI_0, lJ_0, iI_add, iI_sub, iI_mul, iI_neg, lJ_add, lJ_sub, lJ_mul, lJ_neg, i_l, l_i, iI_cl, iI_inb, iI_eqT, iI_eqF, iI_ltT, iI_ltF, iI_leT, iI_leF, lJ_eqT, lJ_eqF, lJ_cG, lJ_cE, lJ_cL, lJ_cF, lJ_cGE, lJ_cLE, lJ_cNL, lJ_cNG, Int.cast_ofNat_Int, c_0, c_1, Int.natCast_add, Int.add_zero, cond_true, cond_false, Bool.and_self, Bool.and_true, Bool.true_and, Option.bind_some, decide_true, uI_hit, uI_miss, uI_o, uA_o, uA_s, ↓reduceIte, eq_self, true_or, or_true, or_false, false_or, true_and, and_true, false_and, and_false, or_self, and_self, not_false_eq_true, not_true_eq_false, tn_i, r1, g0, p1]
        · rw [if_neg h3]
          obtain ⟨d3, q1, q2, q3⟩ := mq_goNow (e := e1) p2 (anewS_wn sw) (c := n) (by rw [o1]; omega) (decide (s.1 10 % 3 = 1))
          refine ⟨d3, e1, some (.int (iI (s.1 10 % 3))), q2, k1.trans ((Kr.only p3).trans (Kr.only q3)), by rw [q3 108 (by omega), p3 108 (by omega)]; exact s1, t1.trans (a_run_step ?_ rfl)⟩
          show sX11_pass_2 d1 e1 _ v = _
          unfold sX11_pass_2
          by_cases h4 : s.1 10 % 3 = 1
          · rw [decide_eq_true h4] at q1
            have q1' : FX11_goNow d2 e1 (iI n) (iI 1) = some ((), d3, e1) := q1
            simp (disch := omega) only [nI_iI, lN_lJ, iI_0, lJ_0, iI_add, iI_sub, iI_mul, iI_neg, lJ_add, lJ_sub, lJ_mul, lJ_neg, i_l, l_i, iI_cl, iI_inb, iI_eqT, iI_eqF, iI_ltT, iI_ltF, iI_leT, iI_leF, lJ_eqT, lJ_eqF, lJ_cG, lJ_cE, lJ_cL, lJ_cF, lJ_cGE, lJ_cLE, lJ_cNL, lJ_cNG, Int.cast_ofNat_Int, c_0, c_1, Int.natCast_add, Int.add_zero, cond_true, cond_false, Bool.and_self, Bool.and_true, Bool.true_and, Option.bind_some, decide_true, uI_hit, uI_miss, uI_o, uA_o, uA_s, ↓reduceIte, eq_self, true_or, or_true, or_false, false_or, true_and, and_true, false_and, and_false, or_self, and_self, not_false_eq_true, not_true_eq_false, tn_i, r1, g0, p1, q1']
          · rw [decide_eq_false h4] at q1
            have q1' : FX11_goNow d2 e1 (iI n) (iI 0) = some ((), d3, e1) := q1
            simp (disch := omega) only [nI_iI, lN_lJ, iI_0, lJ_0, iI_add, iI_sub, iI_mul, iI_neg, lJ_add, lJ_sub, lJ_mul, lJ_neg, i_l, l_i, iI_cl, iI_inb, iI_eqT, iI_eqF, iI_ltT, iI_ltF, iI_leT, iI_leF, lJ_eqT, lJ_eqF, lJ_cG, lJ_cE, lJ_cL, lJ_cF, lJ_cGE, lJ_cLE, lJ_cNL, lJ_cNG, Int.cast_ofNat_Int, c_0, c_1, Int.natCast_add, Int.add_zero, cond_true, cond_false, Bool.and_self, Bool.and_true, Bool.true_and, Option.bind_some, decide_true, uI_hit, uI_miss, uI_o, uA_o, uA_s, ↓reduceIte, eq_self, true_or, or_true, or_false, false_or, true_and, and_true, false_and, and_false, or_self, and_self, not_false_eq_true, not_true_eq_false, tn_i, r1, g0, p1, q1']
      · rw [if_neg h1, if_neg h1]
        have g0 := mq_wo_n (e := e1) a1 sw (c := n) (by omega)
        obtain ⟨d2, e2, p1, p2, p3, p4⟩ := mq_takeNow (e := e1) (wr := wr) (q := q + s.2) (c := n) a1 sw (by rw [b3]; exact hX.of (k1.1 111 (by omega) (by omega) (by omega))) (by rw [k1.2 23 (by omega)]; exact hwr) s1 (by omega) (by omega)
        refine ⟨d2, e2, v, p2, k1.trans p3, by rw [p4]; congr 1; omega, t1.trans (a_run_step ?_ rfl)⟩
        show sX11_pass_2 d1 e1 _ v = _
        unfold sX11_pass_2
        simp (disch := omega) only [nI_iI, lN_lJ, iI_0, lJ_0, iI_add, iI_sub, iI_mul, iI_neg, lJ_add, lJ_sub, lJ_mul, lJ_neg, i_l, l_i, iI_cl, iI_inb, iI_eqT, iI_eqF, iI_ltT, iI_ltF, iI_leT, iI_leF, lJ_eqT, lJ_eqF, lJ_cG, lJ_cE, lJ_cL, lJ_cF, lJ_cGE, lJ_cLE, lJ_cNL, lJ_cNG, Int.cast_ofNat_Int, c_0, c_1, Int.natCast_add, Int.add_zero, cond_true, cond_false, Bool.and_self, Bool.and_true, Bool.true_and, Option.bind_some, decide_true, uI_hit, uI_miss, uI_o, uA_o, uA_s, ↓reduceIte, eq_self, true_or, or_true, or_false, false_or, true_and, and_true, false_and, and_false, or_self, and_self, not_false_eq_true, not_true_eq_false, tn_i, r1, g0, p1]
  obtain ⟨d1, e1, v, a1, k1, s1, t1⟩ := key (A 1).toNat (by omega)
  have pc := passC_ok (wr := wr) (y0 := y0) (y1 := y1) hW (A 1).toNat (by omega)
  unfold passA passN
  generalize passC wr y0 y1 A (A 1).toNat = s at a1 s1 t1 pc
  obtain ⟨sw, so, z0, z1⟩ := pc
  have b1 := so 1 (by omega) (by omega) (by omega)
  have b9 := so 9 (by omega) (by omega) (by omega)
  have r1 : d1 109 1 = iI (s.1 1) := a1.cell (j := 1) (by omega)
  have r9 : d1 109 9 = iI (s.1 9) := a1.cell (j := 9) (by omega)
  rw [b1] at r1
  rw [b9] at r9
  have w9 := hW.2.2.1
  refine ⟨uI d1 109 9 (iI (A 9 + 1)), e1, ?_, a1.put rfl, k1.trans (Kr.only (fun k hk => uI_o hk)), by rw [uI_o (by omega)]; exact s1⟩
  unfold FX11_pass
  rw [a_run_step (st := stX11_pass) (p := (0, [some (.ref 108), none, none], d, e)) (p2 := (2, [some (.ref 108), some (.int (iI (0 : Nat))), none], d, e)) rfl rfl, t1, a_run_step (st := stX11_pass) (p2 := (100000, [], uI d1 109 9 (iI (A 9 + 1)), e1)) (by
    show sX11_pass_2 d1 e1 _ v = _
    unfold sX11_pass_2
    simp (disch := omega) only [nI_iI, lN_lJ, iI_0, lJ_0, iI_add, iI_sub, iI_mul, iI_neg, lJ_add, lJ_sub, lJ_mul, lJ_neg, i_l, l_i, iI_cl, iI_inb, iI_eqT, iI_eqF, iI_ltT, iI_ltF, iI_leT, iI_leF, lJ_eqT, lJ_eqF, lJ_cG, lJ_cE, lJ_cL, lJ_cF, lJ_cGE, lJ_cLE, lJ_cNL, lJ_cNG, Int.cast_ofNat_Int, c_0, c_1, Int.natCast_add, Int.add_zero, cond_true, cond_false, Bool.and_self, Bool.and_true, Bool.true_and, Option.bind_some, decide_true, uI_hit, uI_miss, uI_o, uA_o, uA_s, ↓reduceIte, eq_self, true_or, or_true, or_false, false_or, true_and, and_true, false_and, and_false, or_self, and_self, not_false_eq_true, not_true_eq_false, tn_i, r1, r9]) rfl, a_run_end]
  rfl
