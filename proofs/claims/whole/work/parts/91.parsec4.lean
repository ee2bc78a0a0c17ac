/-! ===== the class reads: asks, choices, what is opened ===== -/
theorem pNt_run {Fo : aI → aJ → Int32 → Option (Unit × aI × aJ)} {e : aJ} {tp : Nat → Int} {L N : Nat} {s : Int} {k a : Nat} (hk : k ≤ 8) : ∀ (r m i : Nat) (d : aI), m + r = 9 → (m = 0 ∨ k + m ≤ 8) → CS d tp L N s i a → ∃ d', a_run (stX5_ask Fo) (2, [some (.ref 83), some (.int (iI (k : Nat))), some (.int (iI (m : Nat))), none, none], d, e) = a_run (stX5_ask Fo) (2, [some (.ref 83), some (.int (iI (k : Nat))), some (.int (iI ((pNt (KT tp L) k r i m).2 : Nat))), none, none], d', e) ∧ CS d' tp L N s (pNt (KT tp L) k r i m).1 a ∧ KC d d' ∧ d' 92 = d 92 ∧ m ≤ (pNt (KT tp L) k r i m).2 ∧ psT tp L i + ((pNt (KT tp L) k r i m).2 - m) ≤ psT tp L (pNt (KT tp L) k r i m).1 ∧ i ≤ (pNt (KT tp L) k r i m).1 ∧ ((pNt (KT tp L) k r i m).2 = 0 ∨ k + (pNt (KT tp L) k r i m).2 ≤ 8) ∧ ¬(KT tp L (pNt (KT tp L) k r i m).1 = 320 ∧ k + (pNt (KT tp L) k r i m).2 < 8)
  | 0, m, i, d, hm, hkm, cs => by
    refine ⟨d, rfl, cs, KC.refl d, rfl, Nat.le_refl _, ?_, Nat.le_refl _, hkm, fun z => ?_⟩
    · show psT tp L i + (m - m) ≤ psT tp L i; omega
    · have z2 : k + m < 8 := z.2
      omega
  | r + 1, m, i, d, hm, hkm, cs => by
    have e1 : pNt (KT tp L) k (r + 1) i m = if KT tp L i = 320 ∧ k + m < 8 then pNt (KT tp L) k r (i + 1) (m + 1) else (i, m) := rfl
    rw [e1]
    by_cases q : KT tp L i = 320 ∧ k + m < 8
    · rw [if_pos q]
      have hi : i < N := (cs.1.lt.1).mp (by omega)
      have lt := cs.1.lt.2.1 hi
      have k10 := cs.1.2.2.2.2.2.2.1
      rw [q.1] at k10
      obtain ⟨d1, n1, n2, n3, n4⟩ := cs.next (e := e) hi
      obtain ⟨d2, x1, x2, x3, x4, x5, x6, x7, x8, x9⟩ := pNt_run (Fo := Fo) (e := e) hk r (m + 1) (i + 1) d1 (by omega) (by omega) n2
      have kk := q.2
      refine ⟨d2, (a_run_step (st := stX5_ask Fo) ?_ rfl).trans x1, x2, n3.trans x3, x4.trans n4, by omega, by omega, by omega, x8, x9⟩
      show sX5_ask_2 Fo d e _ _ none none = _
      unfold sX5_ask_2
      simp (disch := omega) only [nI_iI, lN_lJ, iI_0, lJ_0, iI_add, iI_sub, iI_mul, iI_neg, lJ_add, lJ_sub, lJ_mul, lJ_neg, i_l, l_i, iI_cl, iI_inb, iI_eqT, iI_eqF, iI_ltT, iI_ltF, iI_leT, iI_leF, lJ_eqT, lJ_eqF, lJ_cG, lJ_cE, lJ_cL, lJ_cF, lJ_cGE, lJ_cLE, lJ_cNL, lJ_cNG, Int.cast_ofNat_Int, c_0, c_1, Int.natCast_add, Int.add_zero, cond_true, cond_false, Bool.and_self, Bool.and_true, Bool.true_and, Option.bind_some, decide_true, uI_hit, uI_miss, uI_o, uA_o, uA_s, ↓reduceIte, eq_self, true_or, or_true, or_false, false_or, true_and, and_true, false_and, and_false, or_self, and_self, not_false_eq_true, not_true_eq_false, tn_i, k10, n1]
    · rw [if_neg q]
      exact ⟨d, rfl, cs, KC.refl d, rfl, Nat.le_refl _, by show psT tp L i + (m - m) ≤ psT tp L i; omega, Nat.le_refl _, hkm, q⟩
theorem c5_ask {tp : Nat → Int} {L N : Nat} {s : Int} {n : Nat} {Fo : aI → aJ → Int32 → Option (Unit × aI × aJ)} {opd : Nat → Nat → Rs Fn} (ho : HO tp L N s n Fo opd) (hs : s = 0 ∨ s = 1) {k : Nat} (hk : k ≤ 8) (hkn : 8 ≤ k + n) : CSim (fun (g : Gn) v => tv (g v)) tp L N s (1 + 5 * (8 - (k : Int)) + 3) (fun d e => FX5_ask Fo d e (iI (k : Nat))) (pAsk (KT tp L) (VT tp L) s opd k) ∧ CF tp L N (fun d e => FX5_ask Fo d e (iI (k : Nat))) := by
  -- behind a fault in the first sum
  have tail : ∀ (d : aI) (e : aJ) (m : Nat) (n' : Int) (p : Nat), m ≤ 9 → k + m ≤ 8 → FS d tp L N n' p → ∃ (x : Option (Nat × aL × aI × aJ)) (d' : aI), ((FX5_isComparison d e (d 83 10)).bind fun q6 => if q6.1 = 0 then (FX5_blame q6.2.1 q6.2.2 (nI 1)).bind fun q8 => some (100000, ([] : aL), q8.2.1, q8.2.2) else (FX5_next q6.2.1 q6.2.2).bind fun q9 => (FX5_sum Fo q9.2.1 q9.2.2 (iI ((k : Int) + (m : Int)))).bind fun q10 => (FX7_put q10.2.1 q10.2.2 (d 83 10)).bind fun q11 => some (94, [some (.ref 83), some (.int (iI (k : Nat))), some (.int (iI (m : Nat))), some (.int (d 83 10)), some (.int (nI 0))], q11.2.1, q11.2.2)) = x ∧ (∀ p0 : aP, stX5_ask Fo p0 = x → Nat.beq p0.1 100000 = false → a_run (stX5_ask Fo) p0 = some ([], d', e)) ∧ FS d' tp L N n' p ∧ KC d d' := by
    intro d e m n' p hm9 hm fs
    obtain ⟨ii, uu, x1, x2, x3, x4⟩ := id fs
    have kr := KT_in x1.2.1 (L := L) ii
    have k10 := x1.2.2.2.2.2.2.1
    have isc := c5_isc (d := d) (e := e) (c := KT tp L ii) ⟨kr.1, kr.2.1⟩
    by_cases cm : cmT (KT tp L ii)
    · rw [if_pos cm] at isc
      have hi : ii < N := (x1.lt.1).mp (by omega)
      obtain ⟨d1, n1, n2, n3⟩ := FS.next (e := e) x1 x2 x3 x4 hi
      obtain ⟨d2, s1, s2, s3⟩ := (c5_sum ho hs (k := k + m) (by omega) (by omega)).2 d1 e n' p n2
      have s1' : FX5_sum Fo d1 e (iI ((k : Int) + (m : Int))) = some ((), d2, e) := s1
      obtain ⟨d3, rr, p1, p2, p3, p4, p5⟩ := FS.put (e := e) (x := iI (KT tp L ii)) s2
      obtain ⟨d4, y1, y2, y3⟩ := (c5_nots (Fo := Fo) (e := e) (k := iI (k : Nat)) (m := iI (m : Nat)) (x3 := iI (KT tp L ii)) rfl (by omega)).1 m 0 d3 n' p (by omega) p4
      refine ⟨_, d4, rfl, fun p0 hp hb => ?_, y2, n3.trans (s3.trans (p5.trans y3))⟩
      refine (a_run_step (hp.trans ?_) hb).trans y1
      generalize KT tp L ii = c at *
      simp (disch := omega) only [nI_iI, lN_lJ, iI_0, lJ_0, iI_add, iI_sub, iI_mul, iI_neg, lJ_add, lJ_sub, lJ_mul, lJ_neg, i_l, l_i, iI_cl, iI_inb, iI_eqT, iI_eqF, iI_ltT, iI_ltF, iI_leT, iI_leF, lJ_eqT, lJ_eqF, lJ_cG, lJ_cE, lJ_cL, lJ_cF, lJ_cGE, lJ_cLE, lJ_cNL, lJ_cNG, Int.cast_ofNat_Int, c_0, c_1, Int.natCast_add, Int.add_zero, cond_true, cond_false, Bool.and_self, Bool.and_true, Bool.true_and, Option.bind_some, decide_true, uI_hit, uI_miss, uI_o, uA_o, uA_s, ↓reduceIte, eq_self, true_or, or_true, or_false, false_or, true_and, and_true, false_and, and_false, or_self, and_self, not_false_eq_true, not_true_eq_false, tn_i, k10, isc, n1, s1', p1]
    · rw [if_neg cm] at isc
      have bl := c5_blameF (e := e) (m := 1) x2 x4
      refine ⟨_, d, rfl, fun p0 hp hb => ?_, fs, KC.refl d⟩
      refine (a_run_step (p2 := (100000, [], d, e)) (hp.trans ?_) hb).trans a_run_end
      generalize KT tp L ii = c at *
      simp (disch := omega) only [nI_iI, lN_lJ, iI_0, lJ_0, iI_add, iI_sub, iI_mul, iI_neg, lJ_add, lJ_sub, lJ_mul, lJ_neg, i_l, l_i, iI_cl, iI_inb, iI_eqT, iI_eqF, iI_ltT, iI_ltF, iI_leT, iI_leF, lJ_eqT, lJ_eqF, lJ_cG, lJ_cE, lJ_cL, lJ_cF, lJ_cGE, lJ_cLE, lJ_cNL, lJ_cNG, Int.cast_ofNat_Int, c_0, c_1, Int.natCast_add, Int.add_zero, cond_true, cond_false, Bool.and_self, Bool.and_true, Bool.true_and, Option.bind_some, decide_true, uI_hit, uI_miss, uI_o, uA_o, uA_s, ↓reduceIte, eq_self, true_or, or_true, or_false, false_or, true_and, and_true, false_and, and_false, or_self, and_self, not_false_eq_true, not_true_eq_false, tn_i, k10, isc, bl]
  constructor
  · intro d e i a cs0
    obtain ⟨d1, r1, cs, r3, r4, r5, r6, r7, r8, r9⟩ := pNt_run (Fo := Fo) (e := e) hk 9 0 i d rfl (Or.inl rfl) cs0
    show ∃ d', FX5_ask Fo d e (iI (k : Nat)) = some ((), d', e) ∧ CR _ tp L N s _ d d' i a (pAsk (KT tp L) (VT tp L) s opd k i) ∧ KC d d'
    unfold pAsk
    have ap := cs0.2.2.2
    obtain ⟨i', m, hq⟩ : ∃ i' m, pNt (KT tp L) k 9 i 0 = (i', m) := ⟨_, _, rfl⟩
    rw [hq] at r1 cs r5 r6 r7 r8 r9 ⊢
    have cs' : CS d1 tp L N s i' a := cs
    have r6' : psT tp L i + (m - 0) ≤ psT tp L i' := r6
    have r7' : i ≤ i' := r7
    have r8' : m = 0 ∨ k + m ≤ 8 := r8
    have r9' : ¬(KT tp L i' = 320 ∧ k + m < 8) := r9
    have start : FX5_ask Fo d e (iI (k : Nat)) = (a_run (stX5_ask Fo) (2, [some (.ref 83), some (.int (iI (k : Nat))), some (.int (iI (m : Nat))), none, none], d1, e)).bind a_xV := by
      unfold FX5_ask
      rw [a_run_step (st := stX5_ask Fo) (p := (0, [some (.ref 83), some (.int (iI (k : Nat))), none, none, none], d, e)) (p2 := (2, [some (.ref 83), some (.int (iI (k : Nat))), some (.int (iI (0 : Nat))), none, none], d, e)) rfl rfl, r1]
    have k10 := cs'.1.2.2.2.2.2.2.1
    have kr := KT_in cs'.1.2.1 (L := L) i'
    show ∃ d', FX5_ask Fo d e (iI (k : Nat)) = some ((), d', e) ∧ CR _ tp L N s _ d d' i a (if KT tp L i' = 320 then .inl (3, i') else pAsk2 (KT tp L) (VT tp L) s opd (k + m) m i') ∧ KC d d'
    by_cases q : KT tp L i' = 320
    · rw [if_pos q]
      have m8 : ¬k + m < 8 := fun z => r9' ⟨q, z⟩
      obtain ⟨d2, x, y, z⟩ := c5_blame (e := e) (n := 3) cs'.1 cs'.2.1 (by omega)
      refine ⟨d2, ?_, y, r3.trans z⟩
      rw [q] at k10
      rw [start, a_run_step (st := stX5_ask Fo) (p2 := (100000, [], d2, e)) (by
        show sX5_ask_2 Fo d1 e _ _ none none = _
        unfold sX5_ask_2
        simp (disch := omega) only [nI_iI, lN_lJ, iI_0, lJ_0, iI_add, iI_sub, iI_mul, iI_neg, lJ_add, lJ_sub, lJ_mul, lJ_neg, i_l, l_i, iI_cl, iI_inb, iI_eqT, iI_eqF, iI_ltT, iI_ltF, iI_leT, iI_leF, lJ_eqT, lJ_eqF, lJ_cG, lJ_cE, lJ_cL, lJ_cF, lJ_cGE, lJ_cLE, lJ_cNL, lJ_cNG, Int.cast_ofNat_Int, c_0, c_1, Int.natCast_add, Int.add_zero, cond_true, cond_false, Bool.and_self, Bool.and_true, Bool.true_and, Option.bind_some, decide_true, uI_hit, uI_miss, uI_o, uA_o, uA_s, ↓reduceIte, eq_self, true_or, or_true, or_false, false_or, true_and, and_true, false_and, and_false, or_self, and_self, not_false_eq_true, not_true_eq_false, tn_i, k10, x]) rfl, a_run_end]
      rfl
    · rw [if_neg q]
      have km : k + m ≤ 8 := by omega
      obtain ⟨d2, s1, s2, s3⟩ := (c5_sum ho hs (k := k + m) km (by omega)).1 d1 e i' a cs'
      have s1' : FX5_sum Fo d1 e (iI ((k : Int) + (m : Int))) = some ((), d2, e) := s1
      -- the step as far as the first sum
      have stp : stX5_ask Fo (2, [some (.ref 83), some (.int (iI (k : Nat))), some (.int (iI (m : Nat))), none, none], d1, e) = ((FX5_isComparison d2 e (d2 83 10)).bind fun q6 => if q6.1 = 0 then (FX5_blame q6.2.1 q6.2.2 (nI 1)).bind fun q8 => some (100000, ([] : aL), q8.2.1, q8.2.2) else (FX5_next q6.2.1 q6.2.2).bind fun q9 => (FX5_sum Fo q9.2.1 q9.2.2 (iI ((k : Int) + (m : Int)))).bind fun q10 => (FX7_put q10.2.1 q10.2.2 (d2 83 10)).bind fun q11 => some (94, [some (.ref 83), some (.int (iI (k : Nat))), some (.int (iI (m : Nat))), some (.int (d2 83 10)), some (.int (nI 0))], q11.2.1, q11.2.2)) := by
        show sX5_ask_2 Fo d1 e _ _ none none = _
        unfold sX5_ask_2
        generalize KT tp L i' = c at *
        have nq : ¬(d1 83 10 = nI 320) := by
          rw [k10]
          intro z
          have z2 : iI c = iI 320 := z
          rw [iI_eq (by omega)] at z2
          exact q z2
        rw [if_neg nq, if_neg nq]
        have e2 : iI (k : Nat) + iI (m : Nat) = iI ((k : Int) + (m : Int)) := iI_add _ _
        rw [e2]
        exact bind_at s1' _
      unfold pAsk2
      cases hsum : pSum (KT tp L) (VT tp L) s opd (k + m) i' with
      | inl bd =>
        rw [hsum] at s2
        obtain ⟨x, d', t1, t2, t3, t4⟩ := tail d2 e m bd.1 (psT tp L bd.2) (by omega) km s2
        refine ⟨d', ?_, t3, r3.trans (s3.trans t4)⟩
        rw [start, t2 _ (stp.trans t1) rfl]
        rfl
      | inr w =>
        rw [hsum] at s2
        obtain ⟨C, b, t1, t2, t3, t4, t5, t6⟩ := s2
        have kr2 := KT_in t1.1.2.1 (L := L) w.1
        have k102 := t1.1.2.2.2.2.2.2.1
        have isc := c5_isc (d := d2) (e := e) (c := KT tp L w.1) ⟨kr2.1, kr2.2.1⟩
        have ab := t2.2.1
        show ∃ d', FX5_ask Fo d e (iI (k : Nat)) = some ((), d', e) ∧ CR _ tp L N s _ d d' i a (if cmT (KT tp L w.1) then (match pSum (KT tp L) (VT tp L) s opd (k + m) (w.1 + 1) with | .inl b => .inl b | .inr p => .inr (p.1, fun v => ntB m (cmpS (KT tp L w.1) (w.2 v) (p.2 v)))) else .inl (1, w.1)) ∧ KC d d'
        by_cases cm : cmT (KT tp L w.1)
        · rw [if_pos cm] at isc ⊢
          have hi : w.1 < N := (t1.1.lt.1).mp (by omega)
          have lt := t1.1.lt.2.1 hi
          obtain ⟨d3, n1, n2, n3, n4⟩ := t1.next (e := e) hi
          obtain ⟨d4, u1, u2, u3⟩ := (c5_sum ho hs (k := k + m) km (by omega)).1 d3 e (w.1 + 1) b n2
          have u1' : FX5_sum Fo d3 e (iI ((k : Int) + (m : Int))) = some ((), d4, e) := u1
          cases hsum2 : pSum (KT tp L) (VT tp L) s opd (k + m) (w.1 + 1) with
          | inl bd =>
            rw [hsum2] at u2
            obtain ⟨d5, rr, p1, p2, p3, p4, p5⟩ := FS.put (e := e) (x := iI (KT tp L w.1)) u2
            obtain ⟨d6, y1, y2, y3⟩ := (c5_nots (Fo := Fo) (e := e) (k := iI (k : Nat)) (m := iI (m : Nat)) (x3 := iI (KT tp L w.1)) rfl (by omega)).1 m 0 d5 bd.1 (psT tp L bd.2) (by omega) p4
            refine ⟨d6, ?_, y2, r3.trans (s3.trans (n3.trans (u3.trans (p5.trans y3))))⟩
            rw [start, a_run_step (st := stX5_ask Fo) (stp.trans (c := some (94, [some (.ref 83), some (.int (iI (k : Nat))), some (.int (iI (m : Nat))), some (.int (iI (KT tp L w.1))), some (.int (iI (0 : Nat)))], d5, e)) (by
              generalize KT tp L w.1 = c at *
              simp (disch := omega) only [nI_iI, lN_lJ, iI_0, lJ_0, iI_add, iI_sub, iI_mul, iI_neg, lJ_add, lJ_sub, lJ_mul, lJ_neg, i_l, l_i, iI_cl, iI_inb, iI_eqT, iI_eqF, iI_ltT, iI_ltF, iI_leT, iI_leF, lJ_eqT, lJ_eqF, lJ_cG, lJ_cE, lJ_cL, lJ_cF, lJ_cGE, lJ_cLE, lJ_cNL, lJ_cNG, Int.cast_ofNat_Int, c_0, c_1, Int.natCast_add, Int.add_zero, cond_true, cond_false, Bool.and_self, Bool.and_true, Bool.true_and, Option.bind_some, decide_true, uI_hit, uI_miss, uI_o, uA_o, uA_s, ↓reduceIte, eq_self, true_or, or_true, or_false, false_or, true_and, and_true, false_and, and_false, or_self, and_self, not_false_eq_true, not_true_eq_false, tn_i, k102, isc, n1, u1', p1])) rfl, y1]
            rfl
          | inr w2 =>
            rw [hsum2] at u2
            obtain ⟨C2, b2, v1, v2, v3, v4, v5, v6⟩ := u2
            have ab2 := v2.2.1
            have P3 := v1.1.lt.2.2
            obtain ⟨p1, p2, p3⟩ := v1.put (e := e) (x := iI (KT tp L w.1)) (by omega)
            have c1 : CV s (fun z : Int => if z < b then C z else if z < b2 then C2 z else KT tp L w.1) a b (1 + 5 * (8 - ((k + m : Nat) : Int)) + 2) w.2 := t2.ext (fun z z1 z2 => if_pos z2)
            have c2 : CV s (fun z : Int => if z < b then C z else if z < b2 then C2 z else KT tp L w.1) b b2 (1 + 5 * (8 - ((k + m : Nat) : Int)) + 2) w2.2 := v2.ext (fun z z1 z2 => by
              show (if z < b then C z else if z < b2 then C2 z else KT tp L w.1) = C2 z
              rw [if_neg (by omega), if_pos z2])
            have c3 := CV.cmp c1 c2 (show (if (b2 : Int) < b then C b2 else if (b2 : Int) < b2 then C2 b2 else KT tp L w.1) = KT tp L w.1 by rw [if_neg (by omega), if_neg (by omega)]) cm (1 + 5 * (8 - (k : Int)) + 3) (by omega)
            obtain ⟨d6, C6, y1, y2, y3, y4, y5, y6⟩ := (c5_nots (Fo := Fo) (e := e) (k := iI (k : Nat)) (m := iI (m : Nat)) (x3 := iI (KT tp L w.1)) (tp := tp) (L := L) (N := N) rfl (by omega)).2 m 0 _ s (1 + 5 * (8 - (k : Int)) + 3) w2.1 a (b2 + 1) _ (fun v => cmpS (KT tp L w.1) (w.2 v) (w2.2 v)) (by omega) p2 (by omega) c3 (fun z z1 z2 => by
              rw [uI_o (by omega)]
              by_cases w1 : z = b2
              · rw [w1, uI_hit rfl]
                show _ = iI (if ((b2 : Nat) : Int) < b then C b2 else if ((b2 : Nat) : Int) < b2 then C2 b2 else KT tp L w.1)
                rw [if_neg (by omega), if_neg (by omega)]
              · rw [uI_miss w1]
                show _ = iI (if (z : Int) < b then C z else if (z : Int) < b2 then C2 z else KT tp L w.1)
                by_cases w2 : z < b
                · rw [if_pos (by omega), v4 z w2, n4]; exact t3 z z1 w2
                · rw [if_neg (by omega), if_pos (by omega)]; exact v3 z (by omega) (by omega))
            refine ⟨d6, ?_, ⟨C6, b2 + 1 + m, y2, y3, y4, fun z hz => ?_, ?_, ?_⟩, r3.trans (s3.trans (n3.trans (u3.trans (p3.trans y6))))⟩
            · rw [start, a_run_step (st := stX5_ask Fo) (stp.trans (c := some (94, [some (.ref 83), some (.int (iI (k : Nat))), some (.int (iI (m : Nat))), some (.int (iI (KT tp L w.1))), some (.int (iI (0 : Nat)))], uI (uI d4 92 b2 (iI (KT tp L w.1))) 88 5 (iI (b2 + 1 : Nat)), e)) (by
                generalize KT tp L w.1 = c at *
                simp (disch := omega) only [nI_iI, lN_lJ, iI_0, lJ_0, iI_add, iI_sub, iI_mul, iI_neg, lJ_add, lJ_sub, lJ_mul, lJ_neg, i_l, l_i, iI_cl, iI_inb, iI_eqT, iI_eqF, iI_ltT, iI_ltF, iI_leT, iI_leF, lJ_eqT, lJ_eqF, lJ_cG, lJ_cE, lJ_cL, lJ_cF, lJ_cGE, lJ_cLE, lJ_cNL, lJ_cNG, Int.cast_ofNat_Int, c_0, c_1, Int.natCast_add, Int.add_zero, cond_true, cond_false, Bool.and_self, Bool.and_true, Bool.true_and, Option.bind_some, decide_true, uI_hit, uI_miss, uI_o, uA_o, uA_s, ↓reduceIte, eq_self, true_or, or_true, or_false, false_or, true_and, and_true, false_and, and_false, or_self, and_self, not_false_eq_true, not_true_eq_false, tn_i, k102, isc, n1, u1', p1])) rfl, y1]
              rfl
            · rw [y5 z hz, uI_o (by omega), uI_miss (by omega), v4 z (by omega), n4, t4 z hz, r4]
            · show b2 + 1 + m + psT tp L i ≤ a + psT tp L w2.1; omega
            · show i < w2.1; omega
        · rw [if_neg cm] at isc ⊢
          obtain ⟨d3, x, y, z⟩ := c5_blame (e := e) (n := 1) t1.1 t1.2.1 (by omega)
          refine ⟨d3, ?_, y, r3.trans (s3.trans z)⟩
          rw [start, a_run_step (st := stX5_ask Fo) (stp.trans (c := some (100000, [], d3, e)) (by
            generalize KT tp L w.1 = c at *
            simp (disch := omega) only [nI_iI, lN_lJ, iI_0, lJ_0, iI_add, iI_sub, iI_mul, iI_neg, lJ_add, lJ_sub, lJ_mul, lJ_neg, i_l, l_i, iI_cl, iI_inb, iI_eqT, iI_eqF, iI_ltT, iI_ltF, iI_leT, iI_leF, lJ_eqT, lJ_eqF, lJ_cG, lJ_cE, lJ_cL, lJ_cF, lJ_cGE, lJ_cLE, lJ_cNL, lJ_cNG, Int.cast_ofNat_Int, c_0, c_1, Int.natCast_add, Int.add_zero, cond_true, cond_false, Bool.and_self, Bool.and_true, Bool.true_and, Option.bind_some, decide_true, uI_hit, uI_miss, uI_o, uA_o, uA_s, ↓reduceIte, eq_self, true_or, or_true, or_false, false_or, true_and, and_true, false_and, and_false, or_self, and_self, not_false_eq_true, not_true_eq_false, tn_i, k102, isc, x])) rfl, a_run_end]
          rfl
  · -- it stands faulted
    intro d e n' p fs
    have goN : ∀ (r m : Nat) (d : aI), m + r = 9 → (m = 0 ∨ k + m ≤ 8) → FS d tp L N n' p → ∃ d', a_run (stX5_ask Fo) (2, [some (.ref 83), some (.int (iI (k : Nat))), some (.int (iI (m : Nat))), none, none], d, e) = some ([], d', e) ∧ FS d' tp L N n' p ∧ KC d d' := by
      intro r
      induction r with
      | zero => intro m d hm hkm fs; omega
      | succ r ih =>
        intro m d hm hkm fs
        obtain ⟨ii, uu, x1, x2, x3, x4⟩ := id fs
        have kr := KT_in x1.2.1 (L := L) ii
        have k10 := x1.2.2.2.2.2.2.1
        by_cases q : KT tp L ii = 320
        · by_cases q2 : k + m < 8
          · have hi : ii < N := (x1.lt.1).mp (by omega)
            obtain ⟨d1, n1, n2, n3⟩ := FS.next (e := e) x1 x2 x3 x4 hi
            obtain ⟨d2, y1, y2, y3⟩ := ih (m + 1) d1 (by omega) (by omega) n2
            refine ⟨d2, (a_run_step (st := stX5_ask Fo) ?_ rfl).trans y1, y2, n3.trans y3⟩
            rw [q] at k10
            show sX5_ask_2 Fo d e _ _ none none = _
            unfold sX5_ask_2
            simp (disch := omega) only [nI_iI, lN_lJ, iI_0, lJ_0, iI_add, iI_sub, iI_mul, iI_neg, lJ_add, lJ_sub, lJ_mul, lJ_neg, i_l, l_i, iI_cl, iI_inb, iI_eqT, iI_eqF, iI_ltT, iI_ltF, iI_leT, iI_leF, lJ_eqT, lJ_eqF, lJ_cG, lJ_cE, lJ_cL, lJ_cF, lJ_cGE, lJ_cLE, lJ_cNL, lJ_cNG, Int.cast_ofNat_Int, c_0, c_1, Int.natCast_add, Int.add_zero, cond_true, cond_false, Bool.and_self, Bool.and_true, Bool.true_and, Option.bind_some, decide_true, uI_hit, uI_miss, uI_o, uA_o, uA_s, ↓reduceIte, eq_self, true_or, or_true, or_false, false_or, true_and, and_true, false_and, and_false, or_self, and_self, not_false_eq_true, not_true_eq_false, tn_i, k10, n1]
          · have bl := c5_blameF (e := e) (m := 3) x2 x4
            refine ⟨d, ?_, fs, KC.refl d⟩
            rw [q] at k10
            rw [a_run_step (st := stX5_ask Fo) (p2 := (100000, [], d, e)) (by
              show sX5_ask_2 Fo d e _ _ none none = _
              unfold sX5_ask_2
              simp (disch := omega) only [nI_iI, lN_lJ, iI_0, lJ_0, iI_add, iI_sub, iI_mul, iI_neg, lJ_add, lJ_sub, lJ_mul, lJ_neg, i_l, l_i, iI_cl, iI_inb, iI_eqT, iI_eqF, iI_ltT, iI_ltF, iI_leT, iI_leF, lJ_eqT, lJ_eqF, lJ_cG, lJ_cE, lJ_cL, lJ_cF, lJ_cGE, lJ_cLE, lJ_cNL, lJ_cNG, Int.cast_ofNat_Int, c_0, c_1, Int.natCast_add, Int.add_zero, cond_true, cond_false, Bool.and_self, Bool.and_true, Bool.true_and, Option.bind_some, decide_true, uI_hit, uI_miss, uI_o, uA_o, uA_s, ↓reduceIte, eq_self, true_or, or_true, or_false, false_or, true_and, and_true, false_and, and_false, or_self, and_self, not_false_eq_true, not_true_eq_false, tn_i, k10, bl]) rfl, a_run_end]
        · have km : k + m ≤ 8 := by omega
          obtain ⟨d2, s1, s2, s3⟩ := (c5_sum ho hs (k := k + m) km (by omega)).2 d e n' p fs
          have s1' : FX5_sum Fo d e (iI ((k : Int) + (m : Int))) = some ((), d2, e) := s1
          obtain ⟨x, d', t1, t2, t3, t4⟩ := tail d2 e m n' p (by omega) km s2
          refine ⟨d', t2 _ (Eq.trans ?_ t1) rfl, t3, s3.trans t4⟩
          show sX5_ask_2 Fo d e _ _ none none = _
          unfold sX5_ask_2
          generalize KT tp L ii = c at *
          have nq : ¬(d 83 10 = nI 320) := by
            rw [k10]
            intro z
            have z2 : iI c = iI 320 := z
            rw [iI_eq (by omega)] at z2
            exact q z2
          rw [if_neg nq, if_neg nq]
          have e2 : iI (k : Nat) + iI (m : Nat) = iI ((k : Int) + (m : Int)) := iI_add _ _
          rw [e2]
          exact bind_at s1' _
    obtain ⟨d', x, y, z⟩ := goN 9 0 d rfl (Or.inl rfl) fs
    refine ⟨d', ?_, y, z⟩
    show FX5_ask Fo d e (iI (k : Nat)) = _
    unfold FX5_ask
    rw [a_run_step (st := stX5_ask Fo) (p := (0, [some (.ref 83), some (.int (iI (k : Nat))), none, none, none], d, e)) (p2 := (2, [some (.ref 83), some (.int (iI (k : Nat))), some (.int (iI (0 : Nat))), none, none], d, e)) rfl rfl, x]
    rfl
