/-! ===== an hour ===== -/
def tkB (A : Int → Int) (y0 : Option (En → Int)) (c : Int) : Int := biteS A (A (12 + 3 * c + 1)) (takesS A y0 c (A (12 + 3 * c + 1)))
def tkA (A : Int → Int) (y0 : Option (En → Int)) (c : Int) : Int → Int := takeS A c (A (12 + 3 * c + 1)) (takesS A y0 c (A (12 + 3 * c + 1)))
/-- an hour of one cat: the table and what is taken -/
def catS (wr : Bool) (y0 y1 : Option (En → Int)) (k : Nat) (s : (Int → Int) × Int) : (Int → Int) × Int :=
  (if s.1 (12 + 3 * k + 1) = -1 then wanderS s.1 k else if 0 < goesS (tkA s.1 y0 k) y1 k then outW wr (tkA s.1 y0 k) k 2 else tkA s.1 y0 k, if s.1 (12 + 3 * k + 1) = -1 then s.2 else s.2 + tkB s.1 y0 k)
def passC (wr : Bool) (y0 y1 : Option (En → Int)) (A : Int → Int) (n : Nat) : (Int → Int) × Int := itr (catS wr y0 y1) n (A, 0)
def passA (wr : Bool) (y0 y1 : Option (En → Int)) (A : Int → Int) : Int → Int := aU (passC wr y0 y1 A (A 1).toNat).1 9 (A 9 + 1)
def passN (wr : Bool) (y0 y1 : Option (En → Int)) (A : Int → Int) : Int := (passC wr y0 y1 A (A 1).toNat).2
theorem anewS_o {A : Int → Int} {j : Int} (h : j ≠ 10) : anewS A j = A j := aU_miss h
theorem moveS_o {A : Int → Int} {c : Int} {up : Bool} {j : Int} (h : j ≠ 12 + 3 * c) : moveS A c up j = A j := aU_miss h
theorem wanderS_o {A : Int → Int} {c j : Int} (h : j ≠ 10 ∧ j ≠ 12 + 3 * c) : wanderS A c j = A j := by
  unfold wanderS
  split
  · exact anewS_o h.1
  · rw [moveS_o h.2, anewS_o h.1]
theorem takeS_o {A : Int → Int} {c h t j : Int} (hj : j ≠ 30 + 2 * h ∧ j ≠ 12 + 3 * c + 2) : takeS A c h t j = A j := by
  unfold takeS
  rw [aU_miss hj.2, aU_miss hj.1]
theorem outS_o {A : Int → Int} {c w j : Int} (h : j < 1936 ∧ j ≠ 11 ∧ 0 ≤ A 11 ∧ j ≠ 12 + 3 * c ∧ j ≠ 12 + 3 * c + 1 ∧ 0 ≤ c) : outS A c w j = A j := by
  unfold outS
  rw [noteS_o (by rw [aU_miss (by omega), aU_miss (by omega)]; omega), aU_miss (by omega), aU_miss (by omega)]
theorem outW_o {b : Bool} {A : Int → Int} {c w j : Int} (h : j < 1936 ∧ j ≠ 11 ∧ 0 ≤ A 11 ∧ j ≠ 12 + 3 * c ∧ j ≠ 12 + 3 * c + 1 ∧ 0 ≤ c) : outW b A c w j = A j := by
  unfold outW
  cases b
  · rw [if_neg (by decide), aU_miss (by omega), aU_miss (by omega)]
  · rw [if_pos rfl]
    exact outS_o h
theorem outW_wn {b : Bool} {A : Int → Int} (hW : WN A) {c w : Int} (hc : 0 ≤ c ∧ c < A 1) (hi : 0 ≤ A (12 + 3 * c + 1)) (hw : 0 ≤ w ∧ w < 3) : WN (outW b A c w) := by
  cases b
  · have wc := hW.2.2.2.2.2.1 c hc.1 hc.2
    have wh := hW.2.2.2.2.2.2.1 (A (12 + 3 * c + 1)) hi wc.2.1.2
    have w0 := hW.1
    have w1 := hW.2.1
    show WN (aU (aU A (12 + 3 * c) (A (42 + A (12 + 3 * c + 1)))) (12 + 3 * c + 1) (-1))
    refine hW.cat hc (fun j a b x => by rw [aU_miss b, aU_miss a]) (by rw [aU_miss (by omega), aU_hit rfl]; exact wh.2.2.1) (by rw [aU_hit rfl]; omega) (by rw [aU_miss (by omega), aU_miss (by omega)]; exact wc.2.2.1) (fun q => by rw [aU_hit rfl] at q; omega)
  · exact outS_wn hW hc hi hw
theorem catS_ok {wr : Bool} {y0 y1 : Option (En → Int)} {k : Nat} {s : (Int → Int) × Int} (hW : WN s.1) (hk : (k : Int) < s.1 1) : WN (catS wr y0 y1 k s).1 ∧ (∀ j : Int, j ≠ 10 → j ≠ 11 → (j < 12 ∨ (42 ≤ j ∧ j < 1936)) → (catS wr y0 y1 k s).1 j = s.1 j) ∧ s.2 ≤ (catS wr y0 y1 k s).2 ∧ (catS wr y0 y1 k s).2 ≤ s.2 + 999 := by
  have w0 := hW.1
  have w1 := hW.2.1
  have w11 := hW.2.2.2.2.1
  have wc := hW.2.2.2.2.2.1 k (by omega) hk
  have key : (catS wr y0 y1 k s).1 = if s.1 (12 + 3 * k + 1) = -1 then wanderS s.1 k else if 0 < goesS (tkA s.1 y0 k) y1 k then outW wr (tkA s.1 y0 k) k 2 else tkA s.1 y0 k := rfl
  have key2 : (catS wr y0 y1 k s).2 = if s.1 (12 + 3 * k + 1) = -1 then s.2 else s.2 + tkB s.1 y0 k := rfl
  rw [key, key2]
  by_cases h1 : s.1 (12 + 3 * k + 1) = -1
  · rw [if_pos h1, if_pos h1]
    exact ⟨wanderS_wn hW (by omega) h1, fun j a b x => wanderS_o (by omega), by omega, by omega⟩
  · rw [if_neg h1, if_neg h1]
    have ht := takesS_in hW (y := y0) (c := k) (h := s.1 (12 + 3 * k + 1)) (by omega)
    have wh := hW.2.2.2.2.2.2.1 (s.1 (12 + 3 * k + 1)) (by omega) (by omega)
    have tw : WN (tkA s.1 y0 k) := takeS_wn hW (by omega) (by omega) ht
    have to : ∀ j : Int, j ≠ 30 + 2 * s.1 (12 + 3 * k + 1) → j ≠ 12 + 3 * k + 2 → tkA s.1 y0 k j = s.1 j := fun j a b => takeS_o ⟨a, b⟩
    have hb : 0 ≤ tkB s.1 y0 k ∧ tkB s.1 y0 k ≤ 999 := by unfold tkB biteS; split <;> omega
    refine ⟨?_, ?_, by omega, by omega⟩
    · split
      · exact outW_wn tw (by rw [to 1 (by omega) (by omega)]; omega) (by rw [to _ (by omega) (by omega)]; omega) (by omega)
      · exact tw
    · intro j a b x
      split
      · rw [outW_o (by rw [to 11 (by omega) (by omega)]; omega), to j (by omega) (by omega)]
      · exact to j (by omega) (by omega)
theorem passC_ok {wr : Bool} {y0 y1 : Option (En → Int)} {A : Int → Int} (hW : WN A) (n : Nat) (hn : (n : Int) ≤ A 1) : WN (passC wr y0 y1 A n).1 ∧ (∀ j : Int, j ≠ 10 → j ≠ 11 → (j < 12 ∨ (42 ≤ j ∧ j < 1936)) → (passC wr y0 y1 A n).1 j = A j) ∧ 0 ≤ (passC wr y0 y1 A n).2 ∧ (passC wr y0 y1 A n).2 ≤ 999 * n := by
  induction n with
  | zero => exact ⟨hW, fun _ _ _ _ => rfl, Int.le_refl _, Int.le_refl _⟩
  | succ n ih =>
    obtain ⟨i1, i2, i3, i4⟩ := ih (by omega)
    have c := catS_ok (wr := wr) (y0 := y0) (y1 := y1) (k := n) (s := passC wr y0 y1 A n) i1 (by rw [i2 1 (by omega) (by omega) (by omega)]; omega)
    have e : passC wr y0 y1 A (n + 1) = catS wr y0 y1 n (passC wr y0 y1 A n) := rfl
    rw [e]
    refine ⟨c.1, fun j a b x => by rw [c.2.1 j a b x, i2 j a b x], by omega, by omega⟩
theorem passA_ok {wr : Bool} {y0 y1 : Option (En → Int)} {A : Int → Int} (hW : WN A) (h9 : A 9 < 9999) : WN (passA wr y0 y1 A) ∧ (∀ j : Int, j ≠ 9 → j ≠ 10 → j ≠ 11 → (j < 12 ∨ (42 ≤ j ∧ j < 1936)) → passA wr y0 y1 A j = A j) ∧ passA wr y0 y1 A 9 = A 9 + 1 ∧ 0 ≤ passN wr y0 y1 A ∧ passN wr y0 y1 A ≤ 5994 := by
  have w1 := hW.2.1
  have w9 := hW.2.2.1
  have c := passC_ok (wr := wr) (y0 := y0) (y1 := y1) hW (A 1).toNat (by omega)
  unfold passA passN
  refine ⟨c.1.rest (fun j a b x y => aU_miss a) (by rw [aU_hit rfl]; omega) (by rw [aU_miss (by omega)]; exact c.1.2.2.2.1) (by rw [aU_miss (by omega)]; exact c.1.2.2.2.2.1) (fun i i0 i1 => ?_), fun j a b x y => by rw [aU_miss a]; exact c.2.1 j b x y, aU_hit rfl, c.2.2.1, by omega⟩
  rw [aU_miss (by omega)] at i1 ⊢
  exact c.1.2.2.2.2.2.2.2 i i0 i1
/-- an hour in the class: objects that it leaves -/
def Kx (d d' : aI) : Prop := ∀ k, (k < 2 ∨ (10 < k ∧ k ≠ 93 ∧ k ≠ 94)) → d' k = d k
theorem Kx.refl (d : aI) : Kx d d := fun _ _ => rfl
theorem Kx.trans {d d1 d2 : aI} (h : Kx d d1) (h2 : Kx d1 d2) : Kx d d2 := fun k a => (h2 k a).trans (h k a)
theorem Kn.kx {d d' : aI} (h : Kn d d') : Kx d d' := fun k a => h k (by omega)
theorem SameX.kx {d d' : aI} (h : SameX d d') : Kx d d' := fun k a => h k (by omega) (by omega)
theorem cq_passC {d : aI} {e : aJ} {A : Int → Int} {y0 y1 : Option (En → Int)} {x1 : Int32} (hC : CN d 1 A) (hW : WN A) (hR : RU d A y0 y1) (n : Nat) (hn : (n : Int) ≤ A 1) : ∃ d' v, CN d' 1 (passC true y0 y1 A n).1 ∧ Kx d d' ∧ a_run stX10_pass (30, [some (.ref 0), some (.int x1), some (.ref 2), some (.int (iI 0)), some (.int (iI (0 : Nat))), none], d, e) = a_run stX10_pass (30, [some (.ref 0), some (.int x1), some (.ref 2), some (.int (iI (passC true y0 y1 A n).2)), some (.int (iI (n : Nat))), v], d', e) := by
  induction n with
  | zero => exact ⟨d, none, hC, Kx.refl d, rfl⟩
  | succ n ih =>
    obtain ⟨d1, v, c1, f1, t1⟩ := ih (by omega)
    have pc := passC_ok (wr := true) (y0 := y0) (y1 := y1) hW n (by omega)
    have e1 : passC true y0 y1 A (n + 1) = catS true y0 y1 n (passC true y0 y1 A n) := rfl
    rw [e1]
    generalize passC true y0 y1 A n = s at c1 t1 pc
    obtain ⟨sw, so, s0, s1⟩ := pc
    have hR1 : RU d1 s.1 y0 y1 := hR.of (fun k hk => f1 k (by omega)) (so 2 (by omega) (by omega) (by omega)) (so 3 (by omega) (by omega) (by omega))
    have a1 := so 1 (by omega) (by omega) (by omega)
    have w1 := hW.2.1
    have key : (catS true y0 y1 n s).1 = if s.1 (12 + 3 * n + 1) = -1 then wanderS s.1 n else if 0 < goesS (tkA s.1 y0 n) y1 n then outW true (tkA s.1 y0 n) n 2 else tkA s.1 y0 n := rfl
    have key2 : (catS true y0 y1 n s).2 = if s.1 (12 + 3 * n + 1) = -1 then s.2 else s.2 + tkB s.1 y0 n := rfl
    rw [key, key2]
    have hcc := c1
    have k9 : d1 2 9 = iI (s.1 1) := c1.2.1
    have w0 := sw.1
    have wc := sw.2.2.2.2.2.1 n (by omega) (by omega)
    have m8 : d1 8 n = iI (s.1 (12 + 3 * n + 1)) := c1.2.2.2.2.2.2.2.2.2.2.1 n (by omega)
    by_cases h1 : s.1 (12 + 3 * n + 1) = -1
    · rw [if_pos h1, if_pos h1]
      obtain ⟨d2, r1, r2, r3⟩ := cq_wander (e := e) hcc sw (c := n) (by omega)
      refine ⟨d2, some (.int (iI (-1))), r2, f1.trans r3.kx, t1.trans (a_run_step ?_ rfl)⟩
      show sX10_pass_30 d1 e _ _ _ v = _
      unfold sX10_pass_30
      simp (disch := omega) only [nI_iI, lN_lJ, iI_0, lJ_0, iI_add, iI_sub, iI_mul, iI_neg, lJ_add, lJ_sub, lJ_mul, lJ_neg, i_l, l_i, iI_cl, iI_inb, iI_eqT, iI_eqF, iI_ltT, iI_ltF, iI_leT, iI_leF, lJ_eqT, lJ_eqF, lJ_cG, lJ_cE, lJ_cL, lJ_cF, lJ_cGE, lJ_cLE, lJ_cNL, lJ_cNG, Int.cast_ofNat_Int, c_0, c_1, Int.natCast_add, Int.add_zero, cond_true, cond_false, Bool.and_self, Bool.and_true, Bool.true_and, Option.bind_some, decide_true, uI_hit, uI_miss, uI_o, uA_o, uA_s, ↓reduceIte, eq_self, true_or, or_true, or_false, false_or, true_and, and_true, false_and, and_false, or_self, and_self, not_false_eq_true, not_true_eq_false, tn_i, k9, m8, h1, r1, Int.toNat_natCast]
    · rw [if_neg h1, if_neg h1]
      have ht := takesS_in sw (y := y0) (c := n) (h := s.1 (12 + 3 * n + 1)) (by omega)
      have wh := sw.2.2.2.2.2.2.1 (s.1 (12 + 3 * n + 1)) (by omega) (by omega)
      have tw : WN (tkA s.1 y0 n) := takeS_wn sw (by omega) (by omega) ht
      have to : ∀ j : Int, j ≠ 30 + 2 * s.1 (12 + 3 * n + 1) → j ≠ 12 + 3 * n + 2 → tkA s.1 y0 n j = s.1 j := fun j a b => takeS_o ⟨a, b⟩
      have hb : 0 ≤ tkB s.1 y0 n ∧ tkB s.1 y0 n ≤ 999 := by unfold tkB biteS; split <;> omega
      obtain ⟨o, p1, p2, p3, p4⟩ := cq_rule (e := e) hR1
      obtain ⟨d2, r1, r2⟩ := cq_taking (e := e) hcc sw p2 p3 (c := n) (h := s.1 (12 + 3 * n + 1)) (by omega) (by omega)
      have c2 : CN d2 1 s.1 := hcc.of (fun k a b => r2 k (by omega) (by omega))
      obtain ⟨d3, q1, q2, q3⟩ := cq_take (e := e) c2 sw (c := n) (h := s.1 (12 + 3 * n + 1)) (t := takesS s.1 y0 n (s.1 (12 + 3 * n + 1))) (by omega) (by omega) ht
      have hR3 : RU d3 (tkA s.1 y0 n) y0 y1 := hR1.of (fun k hk => by rw [q3 k (by omega), r2 k (by omega) (by omega)]) (to 2 (by omega) (by omega)) (to 3 (by omega) (by omega))
      obtain ⟨o2, u1, u2, u3, u4⟩ := cq_rule (e := e) hR3
      obtain ⟨d4, v1, v2⟩ := cq_going (e := e) q2 tw u2 u4 (c := n) (by show 0 ≤ (n : Int) ∧ (n : Int) < tkA s.1 y0 n 1; rw [to 1 (by omega) (by omega)]; omega)
      have c4 : CN d4 1 (tkA s.1 y0 n) := CN.of q2 (fun k a b => v2 k (by omega) (by omega))
      have hq1 : FX2_take d2 e (iI n) (iI (s.1 (12 + 3 * n + 1))) (iI (takesS s.1 y0 n (s.1 (12 + 3 * n + 1)))) = some (iI (tkB s.1 y0 n), d3, e) := q1
      have hv1 : FX1_going d3 e o2 (iI n) = some (iI (goesS (tkA s.1 y0 n) y1 n), d4, e) := v1
      have hg := goesS_in (A := tkA s.1 y0 n) (y := y1) (c := n)
      have f4 : Kx d1 d4 := (r2.kx.trans q3.kx).trans v2.kx
      by_cases h2 : 0 < goesS (tkA s.1 y0 n) y1 n
      · rw [if_pos h2]
        have hin : tkA s.1 y0 n (12 + 3 * n + 1) = s.1 (12 + 3 * n + 1) := to _ (by omega) (by omega)
        obtain ⟨d5, x1', x2, x3⟩ := cq_leave (e := e) c4 tw (c := n) (w := 2) (by rw [to 1 (by omega) (by omega)]; omega) (by rw [hin]; omega) (by omega)
        rw [hin] at x1'
        refine ⟨d5, some (.int (iI (s.1 (12 + 3 * n + 1)))), x2, (f1.trans f4).trans x3.kx, t1.trans (a_run_step ?_ rfl)⟩
        show sX10_pass_30 d1 e _ _ _ v = _
        unfold sX10_pass_30
        simp (disch := omega) only [nI_iI, lN_lJ, iI_0, lJ_0, iI_add, iI_sub, iI_mul, iI_neg, lJ_add, lJ_sub, lJ_mul, lJ_neg, i_l, l_i, iI_cl, iI_inb, iI_eqT, iI_eqF, iI_ltT, iI_ltF, iI_leT, iI_leF, lJ_eqT, lJ_eqF, lJ_cG, lJ_cE, lJ_cL, lJ_cF, lJ_cGE, lJ_cLE, lJ_cNL, lJ_cNG, Int.cast_ofNat_Int, c_0, c_1, Int.natCast_add, Int.add_zero, cond_true, cond_false, Bool.and_self, Bool.and_true, Bool.true_and, Option.bind_some, decide_true, uI_hit, uI_miss, uI_o, uA_o, uA_s, ↓reduceIte, eq_self, true_or, or_true, or_false, false_or, true_and, and_true, false_and, and_false, or_self, and_self, not_false_eq_true, not_true_eq_false, tn_i, k9, m8, p1, r1, hq1, u1, hv1, x1', Int.toNat_natCast]
      · rw [if_neg h2]
        refine ⟨d4, some (.int (iI (s.1 (12 + 3 * n + 1)))), c4, f1.trans f4, t1.trans (a_run_step ?_ rfl)⟩
        show sX10_pass_30 d1 e _ _ _ v = _
        unfold sX10_pass_30
        simp (disch := omega) only [nI_iI, lN_lJ, iI_0, lJ_0, iI_add, iI_sub, iI_mul, iI_neg, lJ_add, lJ_sub, lJ_mul, lJ_neg, i_l, l_i, iI_cl, iI_inb, iI_eqT, iI_eqF, iI_ltT, iI_ltF, iI_leT, iI_leF, lJ_eqT, lJ_eqF, lJ_cG, lJ_cE, lJ_cL, lJ_cF, lJ_cGE, lJ_cLE, lJ_cNL, lJ_cNG, Int.cast_ofNat_Int, c_0, c_1, Int.natCast_add, Int.add_zero, cond_true, cond_false, Bool.and_self, Bool.and_true, Bool.true_and, Option.bind_some, decide_true, uI_hit, uI_miss, uI_o, uA_o, uA_s, ↓reduceIte, eq_self, true_or, or_true, or_false, false_or, true_and, and_true, false_and, and_false, or_self, and_self, not_false_eq_true, not_true_eq_false, tn_i, k9, m8, p1, r1, hq1, u1, hv1, Int.toNat_natCast]
theorem cq_passB {d : aI} {e : aJ} {A : Int → Int} {y0 y1 : Option (En → Int)} {x1 : Int32} (hC : CN d 1 A) (hW : WN A) (hR : RU d A y0 y1) : ∃ d', CN d' 1 (passA true y0 y1 A) ∧ Kx d d' ∧ a_run stX10_pass (30, [some (.ref 0), some (.int x1), some (.ref 2), some (.int (iI 0)), some (.int (iI (0 : Nat))), none], d, e) = some ([some (.int (iI (passN true y0 y1 A)))], d', e) := by
  have w1 := hW.2.1
  have pc := passC_ok (wr := true) (y0 := y0) (y1 := y1) hW (A 1).toNat (by omega)
  obtain ⟨d1, v, c1, f1, t1⟩ := cq_passC (e := e) (x1 := x1) hC hW hR (A 1).toNat (by omega)
  unfold passA passN
  generalize passC true y0 y1 A (A 1).toNat = s at c1 t1 pc
  obtain ⟨sw, so, s0, s1⟩ := pc
  have a1 := so 1 (by omega) (by omega) (by omega)
  have a9 := so 9 (by omega) (by omega) (by omega)
  have k9 : d1 2 9 = iI (s.1 1) := c1.2.1
  have k11 : d1 2 11 = iI (s.1 9) := c1.2.2.2.1
  rw [a1] at k9
  rw [a9] at k11
  have w9 := hW.2.2.1
  refine ⟨uI d1 2 11 (iI (A 9 + 1)), ?_, f1.trans (fun k hk => uI_o (by omega)), ?_⟩
  · have hcc := c1
    obtain ⟨q8, q9, q10, q11, q12, q3, q4, q5, q6, q7, qh, qt, qb⟩ := c1
    refine hcc.upd sw (fun j hj => aU_miss (by omega)) (uI_miss (by omega)) (uI_miss (by omega)) ?_ ?_ ?_ (uI_o (by omega)) (uI_o (by omega)) (fun j hj => ?_) (fun j hj => ?_) (fun j hj => ?_) (fun j hj => ?_) (fun j hj => ?_) (fun j hj => ?_)
    · rw [uI_miss (by omega), aU_miss (by omega)]; exact q10
    · rw [uI_hit rfl, aU_hit rfl]
    · rw [uI_miss (by omega), aU_miss (by omega)]; exact q12
    · rw [uI_o (by omega), aU_miss (by omega)]; exact q4 j hj
    · rw [uI_o (by omega), aU_miss (by omega)]; exact q5 j hj
    · rw [uI_o (by omega), aU_miss (by omega)]; exact q7 j hj
    · rw [uI_o (by omega), aU_miss (by omega)]; exact qh j hj
    · rw [uI_o (by omega), aU_miss (by omega)]; exact qt j hj
    · rw [aU_miss (by omega)] at hj
      rw [uI_o (by omega), aU_miss (by omega)]; exact qb j hj
  · rw [t1, a_run_step (st := stX10_pass) (p2 := (100000, [some (.int (iI s.2))], uI d1 2 11 (iI (A 9 + 1)), e)) (by
      show sX10_pass_30 d1 e _ _ _ v = _
      unfold sX10_pass_30
      simp (disch := omega) only [nI_iI, lN_lJ, iI_0, lJ_0, iI_add, iI_sub, iI_mul, iI_neg, lJ_add, lJ_sub, lJ_mul, lJ_neg, i_l, l_i, iI_cl, iI_inb, iI_eqT, iI_eqF, iI_ltT, iI_ltF, iI_leT, iI_leF, lJ_eqT, lJ_eqF, lJ_cG, lJ_cE, lJ_cL, lJ_cF, lJ_cGE, lJ_cLE, lJ_cNL, lJ_cNG, Int.cast_ofNat_Int, c_0, c_1, Int.natCast_add, Int.add_zero, cond_true, cond_false, Bool.and_self, Bool.and_true, Bool.true_and, Option.bind_some, decide_true, uI_hit, uI_miss, uI_o, uA_o, uA_s, ↓reduceIte, eq_self, true_or, or_true, or_false, false_or, true_and, and_true, false_and, and_false, or_self, and_self, not_false_eq_true, not_true_eq_false, tn_i, k9, k11]) rfl, a_run_end]
theorem cq_pass_n {d : aI} {e : aJ} {A : Int → Int} {x1 : Int32} (hC : CN d 1 A) (h9 : A 9 = 9999) : FX10_pass d e x1 = some (iI (-1), d, e) := by
  have k11 : d 2 11 = iI (A 9) := hC.2.2.2.1
  rw [h9] at k11
  unfold FX10_pass
  rw [a_run_step (st := stX10_pass) (p := (0, [some (.ref 0), some (.int x1), none, none, none, none], d, e)) (p2 := (100000, [some (.int (iI (-1)))], d, e)) (by
    show sX10_pass_0 d e x1 = _
    unfold sX10_pass_0
    simp (disch := omega) only [nI_iI, lN_lJ, iI_0, lJ_0, iI_add, iI_sub, iI_mul, iI_neg, lJ_add, lJ_sub, lJ_mul, lJ_neg, i_l, l_i, iI_cl, iI_inb, iI_eqT, iI_eqF, iI_ltT, iI_ltF, iI_leT, iI_leF, lJ_eqT, lJ_eqF, lJ_cG, lJ_cE, lJ_cL, lJ_cF, lJ_cGE, lJ_cLE, lJ_cNL, lJ_cNG, Int.cast_ofNat_Int, c_0, c_1, Int.natCast_add, Int.add_zero, cond_true, cond_false, Bool.and_self, Bool.and_true, Bool.true_and, Option.bind_some, decide_true, uI_hit, uI_miss, uI_o, uA_o, uA_s, ↓reduceIte, eq_self, true_or, or_true, or_false, false_or, true_and, and_true, false_and, and_false, or_self, and_self, not_false_eq_true, not_true_eq_false, tn_i, k11]) rfl, a_run_end]
  rfl
theorem cq_pass0 {d : aI} {e : aJ} {A : Int → Int} {y0 y1 : Option (En → Int)} (hC : CN d 1 A) (hW : WN A) (hR : RU d A y0 y1) (h9 : A 9 < 9999) : ∃ d', FX10_pass d e (iI 0) = some (iI (passN true y0 y1 A), d', e) ∧ CN d' 1 (passA true y0 y1 A) ∧ Kx d d' := by
  have k11 : d 2 11 = iI (A 9) := hC.2.2.2.1
  have w9 := hW.2.2.1
  obtain ⟨d', c1, f1, t1⟩ := cq_passB (e := e) (x1 := iI 0) hC hW hR
  refine ⟨d', ?_, c1, f1⟩
  unfold FX10_pass
  rw [a_run_step (st := stX10_pass) (p := (0, [some (.ref 0), some (.int (iI 0)), none, none, none, none], d, e)) (p2 := (30, [some (.ref 0), some (.int (iI 0)), some (.ref 2), some (.int (iI 0)), some (.int (iI (0 : Nat))), none], d, e)) (by
    show sX10_pass_0 d e (iI 0) = _
    unfold sX10_pass_0 FX10_keepIf
    simp (disch := omega) only [nI_iI, lN_lJ, iI_0, lJ_0, iI_add, iI_sub, iI_mul, iI_neg, lJ_add, lJ_sub, lJ_mul, lJ_neg, i_l, l_i, iI_cl, iI_inb, iI_eqT, iI_eqF, iI_ltT, iI_ltF, iI_leT, iI_leF, lJ_eqT, lJ_eqF, lJ_cG, lJ_cE, lJ_cL, lJ_cF, lJ_cGE, lJ_cLE, lJ_cNL, lJ_cNG, Int.cast_ofNat_Int, c_0, c_1, Int.natCast_add, Int.add_zero, cond_true, cond_false, Bool.and_self, Bool.and_true, Bool.true_and, Option.bind_some, decide_true, uI_hit, uI_miss, uI_o, uA_o, uA_s, ↓reduceIte, eq_self, true_or, or_true, or_false, false_or, true_and, and_true, false_and, and_false, or_self, and_self, not_false_eq_true, not_true_eq_false, tn_i, k11]) rfl, t1]
  rfl
theorem cq_pass1 {d : aI} {e : aJ} {A : Int → Int} {y0 y1 : Option (En → Int)} (hC : CN d 1 A) (hG : RG d 1 A) (hS : SI A) (hR : RU d A y0 y1) (h9 : A 9 < 9999) : ∃ d', FX10_pass d e (iI 1) = some (iI (passN true y0 y1 (keepS A)), d', e) ∧ CN d' 1 (passA true y0 y1 (keepS A)) ∧ RG d' 1 (keepS A) ∧ (∀ k, (k < 2 ∨ (12 < k ∧ k ≠ 93 ∧ k ≠ 94)) → d' k = d k) := by
  have k11 : d 2 11 = iI (A 9) := hC.2.2.2.1
  have hK := keepS_si hS
  have w9 := hS.1.2.2.1
  have h4 := hS.2.1
  obtain ⟨d1, q1, q2, q3⟩ := cq_keep (e := e) hC hG hS
  have c1 : CN d1 1 (keepS A) := (hC.of (fun k a b => q3 k (by omega) (by omega))).ag hS.1 (keepS_ag h4).symm
  have hR1 : RU d1 (keepS A) y0 y1 := hR.of (fun k hk => q3 k (by omega) (by omega)) (keepS_o h4 (by omega)) (keepS_o h4 (by omega))
  obtain ⟨d', c2, f1, t1⟩ := cq_passB (e := e) (x1 := iI 1) c1 hK.1 hR1
  refine ⟨d', ?_, c2, q2.of (fun k a b => f1 k (by omega)), fun k hk => by rw [f1 k (by omega), q3 k (by omega) (by omega)]⟩
  unfold FX10_pass
  rw [a_run_step (st := stX10_pass) (p := (0, [some (.ref 0), some (.int (iI 1)), none, none, none, none], d, e)) (p2 := (30, [some (.ref 0), some (.int (iI 1)), some (.ref 2), some (.int (iI 0)), some (.int (iI (0 : Nat))), none], d1, e)) (by
    show sX10_pass_0 d e (iI 1) = _
    unfold sX10_pass_0 FX10_keepIf
    simp (disch := omega) only [nI_iI, lN_lJ, iI_0, lJ_0, iI_add, iI_sub, iI_mul, iI_neg, lJ_add, lJ_sub, lJ_mul, lJ_neg, i_l, l_i, iI_cl, iI_inb, iI_eqT, iI_eqF, iI_ltT, iI_ltF, iI_leT, iI_leF, lJ_eqT, lJ_eqF, lJ_cG, lJ_cE, lJ_cL, lJ_cF, lJ_cGE, lJ_cLE, lJ_cNL, lJ_cNG, Int.cast_ofNat_Int, c_0, c_1, Int.natCast_add, Int.add_zero, cond_true, cond_false, Bool.and_self, Bool.and_true, Bool.true_and, Option.bind_some, decide_true, uI_hit, uI_miss, uI_o, uA_o, uA_s, ↓reduceIte, eq_self, true_or, or_true, or_false, false_or, true_and, and_true, false_and, and_false, or_self, and_self, not_false_eq_true, not_true_eq_false, tn_i, k11, q1]) rfl, t1]
  rfl
