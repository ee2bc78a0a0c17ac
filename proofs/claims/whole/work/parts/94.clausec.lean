/-! ===== the class reads clauses ===== -/
/-- a deed of two numbers -/
noncomputable def twD (d : aI) (e : aJ) (c hi mid hi2 : Int32) : Option (Unit × aI × aJ) := (FX5_number d e (nI 0) hi).bind fun q2 => (FX5_expect q2.2.1 q2.2.2 mid).bind fun q3 => (FX5_number q3.2.1 q3.2.2 (nI 0) hi2).bind fun q4 => (FX7_add q4.2.1 q4.2.2 c q2.1 q4.1).bind fun q5 => some ((), q5.2.1, q5.2.2)
noncomputable def unD (d : aI) (e : aJ) (c lo hi : Int32) : Option (Unit × aI × aJ) := (FX5_number d e lo hi).bind fun q17 => (FX7_add q17.2.1 q17.2.2 c q17.1 (nI 0)).bind fun q18 => some ((), q18.2.1, q18.2.2)
/-- what comes of a deed -/
def DD (tp : Nat → Int) (L N : Nat) (s : Int) (d : aI) (e : aJ) (n : Nat) (c : Int) (F : Option (Unit × aI × aJ)) (i u : Nat) (x : Rs (Int × Int)) : Prop := match x with
  | .inl b => ∃ d', F = some ((), d', e) ∧ FS d' tp L N b.1 (psT tp L b.2) ∧ KD d d'
  | .inr q => ∃ d1, F = some ((), adD d1 n (iI c) (iI q.2.1) (iI q.2.2), e) ∧ CS d1 tp L N s q.1 u ∧ KC d d1 ∧ d1 92 = d 92 ∧ i < q.1
theorem c5_two {d : aI} {e : aJ} {tp : Nat → Int} {L N i u n : Nat} {s c hi mid hi2 : Int} (h : CS d tp L N s i u) (h4 : d 88 4 = iI (n : Nat)) (hn : n < 24) (h1 : 0 ≤ hi ∧ hi ≤ 9999) (h2 : 0 ≤ hi2 ∧ hi2 ≤ 9999) (hm : 1 ≤ mid ∧ mid ≤ 325) : DD tp L N s d e n c (twD d e (iI c) (iI hi) (iI mid) (iI hi2)) i u (pTwo (KT tp L) (VT tp L) hi mid hi2 i) := by
  have k4 : ∀ {d' : aI}, KC d d' → d' 88 4 = iI (n : Nat) := fun g => by rw [g 88 4 (by omega) (by omega) (by omega)]; exact h4
  obtain ⟨nu1, nu2, nu3⟩ := c5_number (e := e) (lo := 0) (hi := hi) h (by omega)
  -- faulted at the first number
  have flt1 : ∀ (d1 : aI) (r : Int32) (m : Int) (p : Nat), FX5_number d e (iI 0) (iI hi) = some (r, d1, e) → FS d1 tp L N m p → KC d d1 → ∃ d', twD d e (iI c) (iI hi) (iI mid) (iI hi2) = some ((), d', e) ∧ FS d' tp L N m p ∧ KD d d' := by
    intro d1 r m p x y z
    obtain ⟨d2, x2, y2, z2⟩ := c5_expF (e := e) (c := mid) y hm
    obtain ⟨d3, r3, x3, y3, z3⟩ := c5_numF (e := e) (lo := 0) (hi := hi2) y2 (by omega)
    have ad := c5_add (e := e) (x1 := iI c) (x2 := r) (x3 := r3) (k4 (z.trans (z2.trans z3))) hn
    exact ⟨_, (bind_at x _).trans ((bind_at x2 _).trans ((bind_at x3 _).trans (bind_at ad _))), y3.add, ((z.trans (z2.trans z3)).kd).trans adD_kd⟩
  unfold pTwo pNum
  by_cases q1 : KT tp L i = 1
  · rw [if_pos q1]
    by_cases v1 : 0 ≤ VT tp L i ∧ VT tp L i ≤ hi
    · rw [if_pos v1]
      obtain ⟨d1, x1, x2, x3, x4, x5⟩ := nu1 ⟨q1, v1⟩
      obtain ⟨ex1, ex2⟩ := c5_exp (e := e) (c := mid) x2 hm
      show DD tp L N s d e n c _ i u (if KT tp L (i + 1) = mid then (match (if KT tp L (i + 1 + 1) = 1 then (if 0 ≤ VT tp L (i + 1 + 1) ∧ VT tp L (i + 1 + 1) ≤ hi2 then .inr (i + 1 + 1 + 1, VT tp L (i + 1 + 1)) else .inl (2, i + 1 + 1)) else .inl (1, i + 1 + 1) : Rs Int) with | .inl b => .inl b | .inr p => .inr (p.1, (VT tp L i, p.2))) else .inl (1, i + 1))
      by_cases q2 : KT tp L (i + 1) = mid
      · rw [if_pos q2]
        obtain ⟨d2, y1, y2, y3, y4, y5⟩ := ex1 q2
        obtain ⟨nv1, nv2, nv3⟩ := c5_number (e := e) (lo := 0) (hi := hi2) y2 (by omega)
        by_cases q3 : KT tp L (i + 1 + 1) = 1
        · rw [if_pos q3]
          by_cases v2 : 0 ≤ VT tp L (i + 1 + 1) ∧ VT tp L (i + 1 + 1) ≤ hi2
          · rw [if_pos v2]
            obtain ⟨d3, z1, z2, z3, z4, z5⟩ := nv1 ⟨q3, v2⟩
            have ad := c5_add (e := e) (x1 := iI c) (x2 := iI (VT tp L i)) (x3 := iI (VT tp L (i + 1 + 1))) (k4 (x3.trans (y3.trans z3))) hn
            exact ⟨d3, (bind_at x1 _).trans ((bind_at y1 _).trans ((bind_at z1 _).trans (bind_at ad _))), z2, x3.trans (y3.trans z3), z4.trans (y4.trans x4), by show i < i + 1 + 1 + 1; omega⟩
          · rw [if_neg v2]
            obtain ⟨d3, z1, z2, z3⟩ := nv2 q3 v2
            have ad := c5_add (e := e) (x1 := iI c) (x2 := iI (VT tp L i)) (x3 := iI 0) (k4 (x3.trans (y3.trans z3))) hn
            exact ⟨_, (bind_at x1 _).trans ((bind_at y1 _).trans ((bind_at z1 _).trans (bind_at ad _))), z2.add, ((x3.trans (y3.trans z3)).kd).trans adD_kd⟩
        · rw [if_neg q3]
          obtain ⟨d3, z1, z2, z3⟩ := nv3 q3
          have ad := c5_add (e := e) (x1 := iI c) (x2 := iI (VT tp L i)) (x3 := iI 0) (k4 (x3.trans (y3.trans z3))) hn
          exact ⟨_, (bind_at x1 _).trans ((bind_at y1 _).trans ((bind_at z1 _).trans (bind_at ad _))), z2.add, ((x3.trans (y3.trans z3)).kd).trans adD_kd⟩
      · rw [if_neg q2]
        obtain ⟨d2, y1, y2, y3⟩ := ex2 q2
        obtain ⟨d3, r3, z1, z2, z3⟩ := c5_numF (e := e) (lo := 0) (hi := hi2) y2 (by omega)
        have ad := c5_add (e := e) (x1 := iI c) (x2 := iI (VT tp L i)) (x3 := r3) (k4 (x3.trans (y3.trans z3))) hn
        exact ⟨_, (bind_at x1 _).trans ((bind_at y1 _).trans ((bind_at z1 _).trans (bind_at ad _))), z2.add, ((x3.trans (y3.trans z3)).kd).trans adD_kd⟩
    · rw [if_neg v1]
      obtain ⟨d1, x1, x2, x3⟩ := nu2 q1 v1
      exact flt1 d1 _ _ _ x1 x2 x3
  · rw [if_neg q1]
    obtain ⟨d1, x1, x2, x3⟩ := nu3 q1
    exact flt1 d1 _ _ _ x1 x2 x3
theorem c5_uno {d : aI} {e : aJ} {tp : Nat → Int} {L N i u n : Nat} {s c lo hi : Int} (h : CS d tp L N s i u) (h4 : d 88 4 = iI (n : Nat)) (hn : n < 24) (h1 : 0 ≤ lo ∧ lo ≤ hi ∧ hi ≤ 9999) : DD tp L N s d e n c (unD d e (iI c) (iI lo) (iI hi)) i u (pUno (KT tp L) (VT tp L) lo hi i) := by
  have k4 : ∀ {d' : aI}, KC d d' → d' 88 4 = iI (n : Nat) := fun g => by rw [g 88 4 (by omega) (by omega) (by omega)]; exact h4
  obtain ⟨nu1, nu2, nu3⟩ := c5_number (e := e) (lo := lo) (hi := hi) h h1
  unfold pUno pNum
  by_cases q1 : KT tp L i = 1
  · rw [if_pos q1]
    by_cases v1 : lo ≤ VT tp L i ∧ VT tp L i ≤ hi
    · rw [if_pos v1]
      obtain ⟨d1, x1, x2, x3, x4, x5⟩ := nu1 ⟨q1, v1⟩
      have ad := c5_add (e := e) (x1 := iI c) (x2 := iI (VT tp L i)) (x3 := iI 0) (k4 x3) hn
      exact ⟨d1, (bind_at x1 _).trans (bind_at ad _), x2, x3, x4, by show i < i + 1; omega⟩
    · rw [if_neg v1]
      obtain ⟨d1, x1, x2, x3⟩ := nu2 q1 v1
      have ad := c5_add (e := e) (x1 := iI c) (x2 := iI lo) (x3 := iI 0) (k4 x3) hn
      exact ⟨_, (bind_at x1 _).trans (bind_at ad _), x2.add, (x3.kd).trans adD_kd⟩
  · rw [if_neg q1]
    obtain ⟨d1, x1, x2, x3⟩ := nu3 q1
    have ad := c5_add (e := e) (x1 := iI c) (x2 := iI lo) (x3 := iI 0) (k4 x3) hn
    exact ⟨_, (bind_at x1 _).trans (bind_at ad _), x2.add, (x3.kd).trans adD_kd⟩
theorem c5_deed {d : aI} {e : aJ} {tp : Nat → Int} {L N i u n : Nat} {s c : Int} (h : CS d tp L N s i u) (h4 : d 88 4 = iI (n : Nat)) (hn : n < 24) (hc : 302 ≤ c ∧ c ≤ 308) : DD tp L N s d e n c (FX5_deed d e (iI c)) i u (pDeed (KT tp L) (VT tp L) c i) := by
  unfold pDeed
  rcases (show c = 302 ∨ c = 303 ∨ c = 304 ∨ c = 305 ∨ c = 306 ∨ c = 307 ∨ c = 308 by omega) with z | z | z | z | z | z | z
  · subst z
    rw [if_pos rfl]
    have e1 : FX5_deed d e (iI 302) = twD d e (iI 302) (iI 9) (iI 309) (iI 999) := by
      unfold FX5_deed
      rw [if_pos (show iI 302 = nI 302 from rfl)]
      rfl
    rw [e1]
    exact c5_two h h4 hn (by omega) (by omega) (by omega)
  · subst z
    rw [if_neg (by omega), if_pos rfl]
    have e1 : FX5_deed d e (iI 303) = twD d e (iI 303) (iI 9) (iI 310) (iI 9) := by
      unfold FX5_deed
      rw [if_neg (show ¬(iI 303 = nI 302) by decide), if_pos (show iI 303 = nI 303 from rfl)]
      rfl
    rw [e1]
    exact c5_two h h4 hn (by omega) (by omega) (by omega)
  · subst z
    rw [if_neg (by omega), if_neg (by omega), if_pos rfl]
    have e1 : FX5_deed d e (iI 304) = twD d e (iI 304) (iI 5) (iI 311) (iI 5) := by
      unfold FX5_deed
      rw [if_neg (show ¬(iI 304 = nI 302) by decide), if_neg (show ¬(iI 304 = nI 303) by decide), if_pos (show iI 304 = nI 304 from rfl)]
      rfl
    rw [e1]
    exact c5_two h h4 hn (by omega) (by omega) (by omega)
  · subst z
    rw [if_neg (by omega), if_neg (by omega), if_neg (by omega), if_neg (by omega)]
    have e1 : FX5_deed d e (iI 305) = unD d e (iI 305) (iI 0) (iI 5) := by
      unfold FX5_deed
      rw [if_neg (show ¬(iI 305 = nI 302) by decide), if_neg (show ¬(iI 305 = nI 303) by decide), if_neg (show ¬(iI 305 = nI 304) by decide), if_pos (show iI 305 = nI 305 from rfl)]
      rfl
    rw [e1]
    exact c5_uno h h4 hn (by omega)
  · subst z
    rw [if_neg (by omega), if_neg (by omega), if_neg (by omega), if_neg (by omega)]
    have e1 : FX5_deed d e (iI 306) = unD d e (iI 306) (iI 0) (iI 5) := by
      unfold FX5_deed
      rw [if_neg (show ¬(iI 306 = nI 302) by decide), if_neg (show ¬(iI 306 = nI 303) by decide), if_neg (show ¬(iI 306 = nI 304) by decide), if_neg (show ¬(iI 306 = nI 305) by decide), if_pos (show iI 306 = nI 306 from rfl)]
      rfl
    rw [e1]
    exact c5_uno h h4 hn (by omega)
  · subst z
    rw [if_neg (by omega), if_neg (by omega), if_neg (by omega), if_neg (by omega)]
    have e1 : FX5_deed d e (iI 307) = unD d e (iI 307) (iI 0) (iI 5) := by
      unfold FX5_deed
      rw [if_neg (show ¬(iI 307 = nI 302) by decide), if_neg (show ¬(iI 307 = nI 303) by decide), if_neg (show ¬(iI 307 = nI 304) by decide), if_neg (show ¬(iI 307 = nI 305) by decide), if_neg (show ¬(iI 307 = nI 306) by decide), if_pos (show iI 307 = nI 307 from rfl)]
      rfl
    rw [e1]
    exact c5_uno h h4 hn (by omega)
  · subst z
    rw [if_neg (by omega), if_neg (by omega), if_neg (by omega), if_pos rfl]
    have e1 : FX5_deed d e (iI 308) = unD d e (iI 308) (iI 1) (iI 60) := by
      unfold FX5_deed
      rw [if_neg (show ¬(iI 308 = nI 302) by decide), if_neg (show ¬(iI 308 = nI 303) by decide), if_neg (show ¬(iI 308 = nI 304) by decide), if_neg (show ¬(iI 308 = nI 305) by decide), if_neg (show ¬(iI 308 = nI 306) by decide), if_neg (show ¬(iI 308 = nI 307) by decide), if_pos (show iI 308 = nI 308 from rfl)]
      rfl
    rw [e1]
    exact c5_uno h h4 hn (by omega)
theorem FS.fld {d : aI} {tp : Nat → Int} {L N : Nat} {n : Int} {p : Nat} {j : Nat} {v : Int32} (h : FS d tp L N n p) (hj : j ≠ 5) : FS (uI d 88 j v) tp L N n p := by
  obtain ⟨i, u, ⟨a1, a2, a3, a4, a5, a6, a7, a8⟩, h2, h3, h4⟩ := h
  refine ⟨i, u, ⟨a1.ofD (KD.put (by omega)), a2, a3, a4, a5, ?_, ?_, ?_⟩, ?_, ?_, h4⟩
  · rw [uI_o (by omega)]; exact a6
  · rw [uI_o (by omega)]; exact a7
  · rw [uI_miss (by omega)]; exact a8
  · rw [uI_o (by omega)]; exact h2
  · rw [uI_o (by omega)]; exact h3
/-- a law and its fields -/
theorem c5_lawOf {d : aI} {e : aJ} {tp : Nat → Int} {L N i u : Nat} {s s0 : Int} {st : Rd} (h : CS d tp L N s0 i u) (hs : s = 0 ∨ s = 1) (hd : DR d st u) (hn : st.2.1 < 24) (h0 : (s = 0 ∧ st.1.1 = none) ∨ (s = 1 ∧ st.1.2 = none)) : match pSum (KT tp L) (VT tp L) s (pOpd (KT tp L) (VT tp L) s 12) 0 i with
    | .inl b => ∃ d', FX5_lawOf d e (iI (300 + s)) = some ((), d', e) ∧ FS d' tp L N b.1 (psT tp L b.2) ∧ KD d d'
    | .inr q => ∃ d' b, FX5_lawOf d e (iI (300 + s)) = some ((), d', e) ∧ CX d' tp L N q.1 b ∧ d' 83 3 = iI 0 ∧ b ≤ psT tp L q.1 ∧ DR d' (addR st (if s = 0 then (some q.2, st.1.2) else (st.1.1, some q.2)) (s, 0, 0)) b ∧ KD d d' ∧ i < q.1 ∧ d' 83 4 = iI (-1) := by
  have u5 := h.1.2.2.2.2.2.2.2
  have cs := h.law (s2 := s)
  obtain ⟨d2, s1, s2, s3⟩ := (c5_sum (c5_opd (tp := tp) (L := L) (N := N) hs 12) hs (k := 0) (by omega) (by omega)).1 _ e i u cs
  have s1' : FX5_sum (FX5_opened 12) (uI d 83 11 (iI (300 + s))) e (iI 0) = some ((), d2, e) := s1
  have kd1 : KD d (uI d 83 11 (iI (300 + s))) := KD.put (by omega)
  have k4 : d2 88 4 = iI (st.2.1 : Nat) := by rw [s3 88 4 (by omega) (by omega) (by omega), uI_o (by omega)]; exact hd.2.2.1
  have kdd := kd1.trans s3.kd
  cases hq : pSum (KT tp L) (VT tp L) s (pOpd (KT tp L) (VT tp L) s 12) 0 i with
  | inl bd =>
    rw [hq] at s2
    have s2' : FS d2 tp L N bd.1 (psT tp L bd.2) := s2
    show ∃ d', FX5_lawOf d e (iI (300 + s)) = some ((), d', e) ∧ FS d' tp L N bd.1 (psT tp L bd.2) ∧ KD d d'
    obtain ⟨ii, uu, ⟨a1, a2, a3, a4, a5, a6, a7, a8⟩, _⟩ := id s2'
    rcases hs with rfl | rfl
    · have ad := c5_add (d := uI (uI d2 88 6 (iI (u : Nat))) 88 7 (iI (uu : Nat))) (e := e) (x1 := iI 300) (x2 := iI 0) (x3 := iI 0) (by rw [uI_miss (by omega), uI_miss (by omega)]; exact k4) hn
      refine ⟨_, ?_, ((s2'.fld (v := iI (u : Nat)) (show 6 ≠ 5 by omega)).fld (v := iI (uu : Nat)) (show 7 ≠ 5 by omega)).add (n := st.2.1) (x1 := iI 300) (x2 := iI 0) (x3 := iI 0), ?_⟩
      · have s1'' : FX5_sum (FX5_opened 12) (uI d 83 11 (iI 300)) e (iI 0) = some ((), d2, e) := s1'
        show FX5_lawOf d e (iI 300) = _
        unfold FX5_lawOf
        simp (disch := omega) only [nI_iI, lN_lJ, iI_0, lJ_0, iI_add, iI_sub, iI_mul, iI_neg, lJ_add, lJ_sub, lJ_mul, lJ_neg, i_l, l_i, iI_cl, iI_inb, iI_eqT, iI_eqF, iI_ltT, iI_ltF, iI_leT, iI_leF, lJ_eqT, lJ_eqF, lJ_cG, lJ_cE, lJ_cL, lJ_cF, lJ_cGE, lJ_cLE, lJ_cNL, lJ_cNG, Int.cast_ofNat_Int, c_0, c_1, Int.natCast_add, Int.add_zero, cond_true, cond_false, Bool.and_self, Bool.and_true, Bool.true_and, Option.bind_some, decide_true, uI_hit, uI_miss, uI_o, uA_o, uA_s, ↓reduceIte, eq_self, true_or, or_true, or_false, false_or, true_and, and_true, false_and, and_false, or_self, and_self, not_false_eq_true, not_true_eq_false, tn_i, s1'', u5, a8, ad]
      · exact kdd.trans ((KD.put (by omega)).trans ((KD.put (by omega)).trans adD_kd))
    · have ad := c5_add (d := uI (uI d2 88 8 (iI (u : Nat))) 88 9 (iI (uu : Nat))) (e := e) (x1 := iI 301) (x2 := iI 0) (x3 := iI 0) (by rw [uI_miss (by omega), uI_miss (by omega)]; exact k4) hn
      refine ⟨_, ?_, ((s2'.fld (v := iI (u : Nat)) (show 8 ≠ 5 by omega)).fld (v := iI (uu : Nat)) (show 9 ≠ 5 by omega)).add (n := st.2.1) (x1 := iI 301) (x2 := iI 0) (x3 := iI 0), ?_⟩
      · have s1'' : FX5_sum (FX5_opened 12) (uI d 83 11 (iI 301)) e (iI 0) = some ((), d2, e) := s1'
        show FX5_lawOf d e (iI 301) = _
        unfold FX5_lawOf
        simp (disch := omega) only [nI_iI, lN_lJ, iI_0, lJ_0, iI_add, iI_sub, iI_mul, iI_neg, lJ_add, lJ_sub, lJ_mul, lJ_neg, i_l, l_i, iI_cl, iI_inb, iI_eqT, iI_eqF, iI_ltT, iI_ltF, iI_leT, iI_leF, lJ_eqT, lJ_eqF, lJ_cG, lJ_cE, lJ_cL, lJ_cF, lJ_cGE, lJ_cLE, lJ_cNL, lJ_cNG, Int.cast_ofNat_Int, c_0, c_1, Int.natCast_add, Int.add_zero, cond_true, cond_false, Bool.and_self, Bool.and_true, Bool.true_and, Option.bind_some, decide_true, uI_hit, uI_miss, uI_o, uA_o, uA_s, ↓reduceIte, eq_self, true_or, or_true, or_false, false_or, true_and, and_true, false_and, and_false, or_self, and_self, not_false_eq_true, not_true_eq_false, tn_i, s1'', u5, a8, ad]
      · exact kdd.trans ((KD.put (by omega)).trans ((KD.put (by omega)).trans adD_kd))
  | inr q =>
    rw [hq] at s2
    obtain ⟨C, b, t1, t2, t3, t4, t5, t6⟩ := s2
    have ab := t2.2.1
    have b5 := t1.1.2.2.2.2.2.2.2
    have cells : ∀ z, z < u → d2 92 z = d 92 z := fun z hz => by rw [t4 z hz, uI_o (by omega)]
    show ∃ d' b', FX5_lawOf d e (iI (300 + s)) = some ((), d', e) ∧ CX d' tp L N q.1 b' ∧ d' 83 3 = iI 0 ∧ b' ≤ psT tp L q.1 ∧ DR d' (addR st (if s = 0 then (some q.2, st.1.2) else (st.1.1, some q.2)) (s, 0, 0)) b' ∧ KD d d' ∧ i < q.1 ∧ d' 83 4 = iI (-1)
    have f88 : ∀ j, j ≠ 5 → d2 88 j = d 88 j := fun j hj => by rw [s3 88 j (by omega) (by omega) (by omega), uI_o (by omega)]
    have f89 : ∀ o, 89 ≤ o → o ≤ 91 → d2 o = d o := fun o h1 h2 => by rw [s3.obj (o := o) (by omega) (by omega) (by omega), uI_o (by omega)]
    rcases hs with rfl | rfl
    · have ad := c5_add (d := uI (uI d2 88 6 (iI (u : Nat))) 88 7 (iI (b : Nat))) (e := e) (x1 := iI 300) (x2 := iI 0) (x3 := iI 0) (by rw [uI_miss (by omega), uI_miss (by omega)]; exact k4) hn
      have kd2 : KD d2 (adD (uI (uI d2 88 6 (iI (u : Nat))) 88 7 (iI (b : Nat))) st.2.1 (iI 300) (iI 0) (iI 0)) := (KD.put (by omega)).trans ((KD.put (by omega)).trans adD_kd)
      refine ⟨adD (uI (uI d2 88 6 (iI (u : Nat))) 88 7 (iI (b : Nat))) st.2.1 (iI 300) (iI 0) (iI 0), b, ?_, ?_, ?_, t1.2.2.2, ?_, kdd.trans kd2, t6, by rw [adD_o (by omega), uI_o (by omega), uI_o (by omega)]; exact t1.2.2.1.2⟩
      · have s1'' : FX5_sum (FX5_opened 12) (uI d 83 11 (iI 300)) e (iI 0) = some ((), d2, e) := s1'
        show FX5_lawOf d e (iI 300) = _
        unfold FX5_lawOf
        simp (disch := omega) only [nI_iI, lN_lJ, iI_0, lJ_0, iI_add, iI_sub, iI_mul, iI_neg, lJ_add, lJ_sub, lJ_mul, lJ_neg, i_l, l_i, iI_cl, iI_inb, iI_eqT, iI_eqF, iI_ltT, iI_ltF, iI_leT, iI_leF, lJ_eqT, lJ_eqF, lJ_cG, lJ_cE, lJ_cL, lJ_cF, lJ_cGE, lJ_cLE, lJ_cNL, lJ_cNG, Int.cast_ofNat_Int, c_0, c_1, Int.natCast_add, Int.add_zero, cond_true, cond_false, Bool.and_self, Bool.and_true, Bool.true_and, Option.bind_some, decide_true, uI_hit, uI_miss, uI_o, uA_o, uA_s, ↓reduceIte, eq_self, true_or, or_true, or_false, false_or, true_and, and_true, false_and, and_false, or_self, and_self, not_false_eq_true, not_true_eq_false, tn_i, s1'', u5, b5, ad]
      · obtain ⟨⟨a1, a2, a3, a4, a5, a6, a7, a8⟩, _⟩ := t1
        refine ⟨a1.ofD kd2, a2, a3, a4, a5, ?_, ?_, ?_⟩
        · rw [adD_o (by omega), uI_o (by omega), uI_o (by omega)]; exact a6
        · rw [adD_o (by omega), uI_o (by omega), uI_o (by omega)]; exact a7
        · rw [adD_o (by omega), uI_miss (by omega), uI_miss (by omega)]; exact a8
      · rw [adD_o (by omega), uI_o (by omega), uI_o (by omega)]; exact t1.2.1
      · rw [if_pos rfl]
        refine DR.add (d := d) (u := u) hd (fun k hk => ?_) ?_ ?_ (fun z => by have z2 : (2 : Int) ≤ 0 := z; omega) hn ?_ ?_
        · unfold adD
          rw [uI_o (by omega), uI_o (by omega), uI_o (by omega), uI_miss hk, uI_o (by omega), uI_o (by omega), uI_o (by omega), uI_o (by omega), uI_miss hk, uI_o (by omega), uI_o (by omega), uI_o (by omega), uI_o (by omega), uI_miss hk, uI_o (by omega), uI_o (by omega), uI_o (by omega), uI_o (by omega), f89 89 (by omega) (by omega), f89 90 (by omega) (by omega), f89 91 (by omega) (by omega)]
          exact ⟨rfl, rfl, rfl⟩
        · unfold adD; rw [uI_hit rfl]
        · unfold adD; rw [uI_o (by omega), uI_o (by omega), uI_o (by omega), uI_hit rfl]; rfl
        · exact ⟨C, u, b, by rw [adD_o (by omega), uI_miss (by omega), uI_hit rfl], by rw [adD_o (by omega), uI_hit rfl], t2.more (by omega), Nat.le_refl _, fun z z1 z2 => by rw [adD_o (by omega), uI_o (by omega), uI_o (by omega)]; exact t3 z z1 z2⟩
        · exact hd.2.1.of (by rw [adD_o (by omega), uI_miss (by omega), uI_miss (by omega), f88 8 (by omega)]) (by rw [adD_o (by omega), uI_miss (by omega), uI_miss (by omega), f88 9 (by omega)]) (fun z hz => by rw [adD_o (by omega), uI_o (by omega), uI_o (by omega), cells z hz]) (by omega)
    · have ad := c5_add (d := uI (uI d2 88 8 (iI (u : Nat))) 88 9 (iI (b : Nat))) (e := e) (x1 := iI 301) (x2 := iI 0) (x3 := iI 0) (by rw [uI_miss (by omega), uI_miss (by omega)]; exact k4) hn
      have kd2 : KD d2 (adD (uI (uI d2 88 8 (iI (u : Nat))) 88 9 (iI (b : Nat))) st.2.1 (iI 301) (iI 0) (iI 0)) := (KD.put (by omega)).trans ((KD.put (by omega)).trans adD_kd)
      refine ⟨adD (uI (uI d2 88 8 (iI (u : Nat))) 88 9 (iI (b : Nat))) st.2.1 (iI 301) (iI 0) (iI 0), b, ?_, ?_, ?_, t1.2.2.2, ?_, kdd.trans kd2, t6, by rw [adD_o (by omega), uI_o (by omega), uI_o (by omega)]; exact t1.2.2.1.2⟩
      · have s1'' : FX5_sum (FX5_opened 12) (uI d 83 11 (iI 301)) e (iI 0) = some ((), d2, e) := s1'
        show FX5_lawOf d e (iI 301) = _
        unfold FX5_lawOf
        simp (disch := omega) only [nI_iI, lN_lJ, iI_0, lJ_0, iI_add, iI_sub, iI_mul, iI_neg, lJ_add, lJ_sub, lJ_mul, lJ_neg, i_l, l_i, iI_cl, iI_inb, iI_eqT, iI_eqF, iI_ltT, iI_ltF, iI_leT, iI_leF, lJ_eqT, lJ_eqF, lJ_cG, lJ_cE, lJ_cL, lJ_cF, lJ_cGE, lJ_cLE, lJ_cNL, lJ_cNG, Int.cast_ofNat_Int, c_0, c_1, Int.natCast_add, Int.add_zero, cond_true, cond_false, Bool.and_self, Bool.and_true, Bool.true_and, Option.bind_some, decide_true, uI_hit, uI_miss, uI_o, uA_o, uA_s, ↓reduceIte, eq_self, true_or, or_true, or_false, false_or, true_and, and_true, false_and, and_false, or_self, and_self, not_false_eq_true, not_true_eq_false, tn_i, s1'', u5, b5, ad]
      · obtain ⟨⟨a1, a2, a3, a4, a5, a6, a7, a8⟩, _⟩ := t1
        refine ⟨a1.ofD kd2, a2, a3, a4, a5, ?_, ?_, ?_⟩
        · rw [adD_o (by omega), uI_o (by omega), uI_o (by omega)]; exact a6
        · rw [adD_o (by omega), uI_o (by omega), uI_o (by omega)]; exact a7
        · rw [adD_o (by omega), uI_miss (by omega), uI_miss (by omega)]; exact a8
      · rw [adD_o (by omega), uI_o (by omega), uI_o (by omega)]; exact t1.2.1
      · rw [if_neg (by omega)]
        refine DR.add (d := d) (u := u) hd (fun k hk => ?_) ?_ ?_ (fun z => by have z2 : (2 : Int) ≤ 1 := z; omega) hn ?_ ?_
        · unfold adD
          rw [uI_o (by omega), uI_o (by omega), uI_o (by omega), uI_miss hk, uI_o (by omega), uI_o (by omega), uI_o (by omega), uI_o (by omega), uI_miss hk, uI_o (by omega), uI_o (by omega), uI_o (by omega), uI_o (by omega), uI_miss hk, uI_o (by omega), uI_o (by omega), uI_o (by omega), uI_o (by omega), f89 89 (by omega) (by omega), f89 90 (by omega) (by omega), f89 91 (by omega) (by omega)]
          exact ⟨rfl, rfl, rfl⟩
        · unfold adD; rw [uI_hit rfl]
        · unfold adD; rw [uI_o (by omega), uI_o (by omega), uI_o (by omega), uI_hit rfl]; rfl
        · exact hd.1.of (by rw [adD_o (by omega), uI_miss (by omega), uI_miss (by omega), f88 6 (by omega)]) (by rw [adD_o (by omega), uI_miss (by omega), uI_miss (by omega), f88 7 (by omega)]) (fun z hz => by rw [adD_o (by omega), uI_o (by omega), uI_o (by omega), cells z hz]) (by omega)
        · exact ⟨C, u, b, by rw [adD_o (by omega), uI_miss (by omega), uI_hit rfl], by rw [adD_o (by omega), uI_hit rfl], t2.more (by omega), Nat.le_refl _, fun z z1 z2 => by rw [adD_o (by omega), uI_o (by omega), uI_o (by omega)]; exact t3 z z1 z2⟩
theorem CX.cs {d : aI} {tp : Nat → Int} {L N i u : Nat} (h : CX d tp L N i u) (h3 : d 83 3 = iI 0) (hu : u ≤ psT tp L i) (h4 : d 83 4 = iI (-1)) : ∃ s, CS d tp L N s i u := by
  obtain ⟨z, hz, _⟩ := iI_ex (d 83 11)
  exact ⟨z - 300, h, h3, ⟨by rw [hz, show 300 + (z - 300) = z by omega], h4⟩, hu⟩
theorem c5_hasT {d : aI} {e : aJ} {x : Option Fn} {u : Nat} (h : CLu d 6 0 x u) (hu : u ≤ 300) : FX7_hasTakes d e 88 = some (iI (if x.isSome = true then 1 else 0), d, e) := by
  unfold FX7_hasTakes
  cases x with
  | none =>
    have h' : d 88 6 = iI (-1) := h
    have e1 : (if (none : Option Fn).isSome = true then (1 : Int) else 0) = 0 := rfl
    rw [e1]
    simp (disch := omega) only [nI_iI, lN_lJ, iI_0, lJ_0, iI_add, iI_sub, iI_mul, iI_neg, lJ_add, lJ_sub, lJ_mul, lJ_neg, i_l, l_i, iI_cl, iI_inb, iI_eqT, iI_eqF, iI_ltT, iI_ltF, iI_leT, iI_leF, lJ_eqT, lJ_eqF, lJ_cG, lJ_cE, lJ_cL, lJ_cF, lJ_cGE, lJ_cLE, lJ_cNL, lJ_cNG, Int.cast_ofNat_Int, c_0, c_1, Int.natCast_add, Int.add_zero, cond_true, cond_false, Bool.and_self, Bool.and_true, Bool.true_and, Option.bind_some, decide_true, uI_hit, uI_miss, uI_o, uA_o, uA_s, ↓reduceIte, eq_self, true_or, or_true, or_false, false_or, true_and, and_true, false_and, and_false, or_self, and_self, not_false_eq_true, not_true_eq_false, tn_i, h']
  | some f =>
    obtain ⟨C, a, b, h1, h2, h3, h4, h5⟩ := h
    have ab := h3.2.1
    have e1 : (if (some f : Option Fn).isSome = true then (1 : Int) else 0) = 1 := rfl
    rw [e1]
    simp (disch := omega) only [nI_iI, lN_lJ, iI_0, lJ_0, iI_add, iI_sub, iI_mul, iI_neg, lJ_add, lJ_sub, lJ_mul, lJ_neg, i_l, l_i, iI_cl, iI_inb, iI_eqT, iI_eqF, iI_ltT, iI_ltF, iI_leT, iI_leF, lJ_eqT, lJ_eqF, lJ_cG, lJ_cE, lJ_cL, lJ_cF, lJ_cGE, lJ_cLE, lJ_cNL, lJ_cNG, Int.cast_ofNat_Int, c_0, c_1, Int.natCast_add, Int.add_zero, cond_true, cond_false, Bool.and_self, Bool.and_true, Bool.true_and, Option.bind_some, decide_true, uI_hit, uI_miss, uI_o, uA_o, uA_s, ↓reduceIte, eq_self, true_or, or_true, or_false, false_or, true_and, and_true, false_and, and_false, or_self, and_self, not_false_eq_true, not_true_eq_false, tn_i, h1]
theorem c5_hasG {d : aI} {e : aJ} {x : Option Fn} {u : Nat} (h : CLu d 8 1 x u) (hu : u ≤ 300) : FX7_hasGoes d e 88 = some (iI (if x.isSome = true then 1 else 0), d, e) := by
  unfold FX7_hasGoes
  cases x with
  | none =>
    have h' : d 88 8 = iI (-1) := h
    have e1 : (if (none : Option Fn).isSome = true then (1 : Int) else 0) = 0 := rfl
    rw [e1]
    simp (disch := omega) only [nI_iI, lN_lJ, iI_0, lJ_0, iI_add, iI_sub, iI_mul, iI_neg, lJ_add, lJ_sub, lJ_mul, lJ_neg, i_l, l_i, iI_cl, iI_inb, iI_eqT, iI_eqF, iI_ltT, iI_ltF, iI_leT, iI_leF, lJ_eqT, lJ_eqF, lJ_cG, lJ_cE, lJ_cL, lJ_cF, lJ_cGE, lJ_cLE, lJ_cNL, lJ_cNG, Int.cast_ofNat_Int, c_0, c_1, Int.natCast_add, Int.add_zero, cond_true, cond_false, Bool.and_self, Bool.and_true, Bool.true_and, Option.bind_some, decide_true, uI_hit, uI_miss, uI_o, uA_o, uA_s, ↓reduceIte, eq_self, true_or, or_true, or_false, false_or, true_and, and_true, false_and, and_false, or_self, and_self, not_false_eq_true, not_true_eq_false, tn_i, h']
  | some f =>
    obtain ⟨C, a, b, h1, h2, h3, h4, h5⟩ := h
    have ab := h3.2.1
    have e1 : (if (some f : Option Fn).isSome = true then (1 : Int) else 0) = 1 := rfl
    rw [e1]
    simp (disch := omega) only [nI_iI, lN_lJ, iI_0, lJ_0, iI_add, iI_sub, iI_mul, iI_neg, lJ_add, lJ_sub, lJ_mul, lJ_neg, i_l, l_i, iI_cl, iI_inb, iI_eqT, iI_eqF, iI_ltT, iI_ltF, iI_leT, iI_leF, lJ_eqT, lJ_eqF, lJ_cG, lJ_cE, lJ_cL, lJ_cF, lJ_cGE, lJ_cLE, lJ_cNL, lJ_cNG, Int.cast_ofNat_Int, c_0, c_1, Int.natCast_add, Int.add_zero, cond_true, cond_false, Bool.and_self, Bool.and_true, Bool.true_and, Option.bind_some, decide_true, uI_hit, uI_miss, uI_o, uA_o, uA_s, ↓reduceIte, eq_self, true_or, or_true, or_false, false_or, true_and, and_true, false_and, and_false, or_self, and_self, not_false_eq_true, not_true_eq_false, tn_i, h1]
theorem c5_clause {d : aI} {e : aJ} {tp : Nat → Int} {L N i u : Nat} {st : Rd} (h : CB d tp L N i u st) (h83 : d 83 4 = iI (-1)) (hK : KT tp L i ≠ 0) : match pCla (KT tp L) (VT tp L) st i with
    | .inl b => ∃ d', FX5_clause d e = some ((), d', e) ∧ FS d' tp L N b.1 (psT tp L b.2) ∧ KD d d'
    | .inr q => ∃ d' u', FX5_clause d e = some ((), d', e) ∧ CB d' tp L N q.1 u' q.2 ∧ KD d d' ∧ i < q.1 ∧ d' 83 4 = iI (-1) := by
  obtain ⟨cx, h3, hu, hd⟩ := h
  obtain ⟨s0, cs⟩ := cx.cs h3 hu h83
  have kr := KT_in cx.2.1 (L := L) i
  have k10 := cx.2.2.2.2.2.2.1
  have u3 := cx.2.2.2.2.1
  have hT := c5_hasT (e := e) hd.1 u3
  have hG := c5_hasG (e := e) hd.2.1 u3
  have h4 := hd.2.2.1
  have n24 := hd.2.2.2.1
  have hi : i < N := (cx.lt.1).mp hK
  -- a fault at once
  have bad : ∀ n : Int, 1 ≤ n ∧ n ≤ 6 → (∀ d', FX5_blame d e (iI n) = some ((), d', e) → FX5_clause d e = some ((), d', e)) → ∃ d', FX5_clause d e = some ((), d', e) ∧ FS d' tp L N n (psT tp L i) ∧ KD d d' := by
    intro n hn hf
    obtain ⟨d', x, y, z⟩ := c5_blame (e := e) (n := n) cx h3 hn
    exact ⟨d', hf d' x, y, z.kd⟩
  unfold pCla
  by_cases q1 : KT tp L i < 300 ∨ 308 < KT tp L i
  · rw [if_pos q1]
    refine bad 1 (by omega) (fun d' x => ?_)
    generalize KT tp L i = c at *
    unfold FX5_clause
    by_cases l : c < 300
    · simp (config := {maxSteps := 4000000}) (disch := omega) only [nI_iI, lN_lJ, iI_0, lJ_0, iI_add, iI_sub, iI_mul, iI_neg, lJ_add, lJ_sub, lJ_mul, lJ_neg, i_l, l_i, iI_cl, iI_inb, iI_eqT, iI_eqF, iI_ltT, iI_ltF, iI_leT, iI_leF, lJ_eqT, lJ_eqF, lJ_cG, lJ_cE, lJ_cL, lJ_cF, lJ_cGE, lJ_cLE, lJ_cNL, lJ_cNG, Int.cast_ofNat_Int, c_0, c_1, Int.natCast_add, Int.add_zero, cond_true, cond_false, Bool.and_self, Bool.and_true, Bool.true_and, Option.bind_some, decide_true, uI_hit, uI_miss, uI_o, uA_o, uA_s, ↓reduceIte, eq_self, true_or, or_true, or_false, false_or, true_and, and_true, false_and, and_false, or_self, and_self, not_false_eq_true, not_true_eq_false, tn_i, k10, x]
    · simp (config := {maxSteps := 4000000}) (disch := omega) only [nI_iI, lN_lJ, iI_0, lJ_0, iI_add, iI_sub, iI_mul, iI_neg, lJ_add, lJ_sub, lJ_mul, lJ_neg, i_l, l_i, iI_cl, iI_inb, iI_eqT, iI_eqF, iI_ltT, iI_ltF, iI_leT, iI_leF, lJ_eqT, lJ_eqF, lJ_cG, lJ_cE, lJ_cL, lJ_cF, lJ_cGE, lJ_cLE, lJ_cNL, lJ_cNG, Int.cast_ofNat_Int, c_0, c_1, Int.natCast_add, Int.add_zero, cond_true, cond_false, Bool.and_self, Bool.and_true, Bool.true_and, Option.bind_some, decide_true, uI_hit, uI_miss, uI_o, uA_o, uA_s, ↓reduceIte, eq_self, true_or, or_true, or_false, false_or, true_and, and_true, false_and, and_false, or_self, and_self, not_false_eq_true, not_true_eq_false, tn_i, k10, x]
  · rw [if_neg q1]
    by_cases q2 : (KT tp L i = 300 ∧ st.1.1.isSome = true) ∨ (KT tp L i = 301 ∧ st.1.2.isSome = true)
    · rw [if_pos q2]
      refine bad 4 (by omega) (fun d' x => ?_)
      rcases q2 with ⟨a, b⟩ | ⟨a, b⟩
      · rw [a] at k10
        rw [if_pos b] at hT
        unfold FX5_clause
        simp (config := {maxSteps := 4000000}) (disch := omega) only [nI_iI, lN_lJ, iI_0, lJ_0, iI_add, iI_sub, iI_mul, iI_neg, lJ_add, lJ_sub, lJ_mul, lJ_neg, i_l, l_i, iI_cl, iI_inb, iI_eqT, iI_eqF, iI_ltT, iI_ltF, iI_leT, iI_leF, lJ_eqT, lJ_eqF, lJ_cG, lJ_cE, lJ_cL, lJ_cF, lJ_cGE, lJ_cLE, lJ_cNL, lJ_cNG, Int.cast_ofNat_Int, c_0, c_1, Int.natCast_add, Int.add_zero, cond_true, cond_false, Bool.and_self, Bool.and_true, Bool.true_and, Option.bind_some, decide_true, uI_hit, uI_miss, uI_o, uA_o, uA_s, ↓reduceIte, eq_self, true_or, or_true, or_false, false_or, true_and, and_true, false_and, and_false, or_self, and_self, not_false_eq_true, not_true_eq_false, tn_i, k10, hT, x]
      · rw [a] at k10
        rw [if_pos b] at hG
        unfold FX5_clause
        simp (config := {maxSteps := 4000000}) (disch := omega) only [nI_iI, lN_lJ, iI_0, lJ_0, iI_add, iI_sub, iI_mul, iI_neg, lJ_add, lJ_sub, lJ_mul, lJ_neg, i_l, l_i, iI_cl, iI_inb, iI_eqT, iI_eqF, iI_ltT, iI_ltF, iI_leT, iI_leF, lJ_eqT, lJ_eqF, lJ_cG, lJ_cE, lJ_cL, lJ_cF, lJ_cGE, lJ_cLE, lJ_cNL, lJ_cNG, Int.cast_ofNat_Int, c_0, c_1, Int.natCast_add, Int.add_zero, cond_true, cond_false, Bool.and_self, Bool.and_true, Bool.true_and, Option.bind_some, decide_true, uI_hit, uI_miss, uI_o, uA_o, uA_s, ↓reduceIte, eq_self, true_or, or_true, or_false, false_or, true_and, and_true, false_and, and_false, or_self, and_self, not_false_eq_true, not_true_eq_false, tn_i, k10, hG, x]
    · rw [if_neg q2]
      by_cases q3 : 24 ≤ st.2.1
      · rw [if_pos q3]
        refine bad 6 (by omega) (fun d' x => ?_)
        by_cases a : KT tp L i = 300
        · have b : ¬st.1.1.isSome = true := fun z => q2 (Or.inl ⟨a, z⟩)
          rw [a] at k10
          rw [if_neg b] at hT
          unfold FX5_clause
          simp (config := {maxSteps := 4000000}) (disch := omega) only [nI_iI, lN_lJ, iI_0, lJ_0, iI_add, iI_sub, iI_mul, iI_neg, lJ_add, lJ_sub, lJ_mul, lJ_neg, i_l, l_i, iI_cl, iI_inb, iI_eqT, iI_eqF, iI_ltT, iI_ltF, iI_leT, iI_leF, lJ_eqT, lJ_eqF, lJ_cG, lJ_cE, lJ_cL, lJ_cF, lJ_cGE, lJ_cLE, lJ_cNL, lJ_cNG, Int.cast_ofNat_Int, c_0, c_1, Int.natCast_add, Int.add_zero, cond_true, cond_false, Bool.and_self, Bool.and_true, Bool.true_and, Option.bind_some, decide_true, uI_hit, uI_miss, uI_o, uA_o, uA_s, ↓reduceIte, eq_self, true_or, or_true, or_false, false_or, true_and, and_true, false_and, and_false, or_self, and_self, not_false_eq_true, not_true_eq_false, tn_i, k10, hT, h4, x]
        · by_cases a2 : KT tp L i = 301
          · have b : ¬st.1.2.isSome = true := fun z => q2 (Or.inr ⟨a2, z⟩)
            rw [a2] at k10
            rw [if_neg b] at hG
            unfold FX5_clause
            simp (config := {maxSteps := 4000000}) (disch := omega) only [nI_iI, lN_lJ, iI_0, lJ_0, iI_add, iI_sub, iI_mul, iI_neg, lJ_add, lJ_sub, lJ_mul, lJ_neg, i_l, l_i, iI_cl, iI_inb, iI_eqT, iI_eqF, iI_ltT, iI_ltF, iI_leT, iI_leF, lJ_eqT, lJ_eqF, lJ_cG, lJ_cE, lJ_cL, lJ_cF, lJ_cGE, lJ_cLE, lJ_cNL, lJ_cNG, Int.cast_ofNat_Int, c_0, c_1, Int.natCast_add, Int.add_zero, cond_true, cond_false, Bool.and_self, Bool.and_true, Bool.true_and, Option.bind_some, decide_true, uI_hit, uI_miss, uI_o, uA_o, uA_s, ↓reduceIte, eq_self, true_or, or_true, or_false, false_or, true_and, and_true, false_and, and_false, or_self, and_self, not_false_eq_true, not_true_eq_false, tn_i, k10, hG, h4, x]
          · generalize KT tp L i = c at *
            unfold FX5_clause
            simp (config := {maxSteps := 4000000}) (disch := omega) only [nI_iI, lN_lJ, iI_0, lJ_0, iI_add, iI_sub, iI_mul, iI_neg, lJ_add, lJ_sub, lJ_mul, lJ_neg, i_l, l_i, iI_cl, iI_inb, iI_eqT, iI_eqF, iI_ltT, iI_ltF, iI_leT, iI_leF, lJ_eqT, lJ_eqF, lJ_cG, lJ_cE, lJ_cL, lJ_cF, lJ_cGE, lJ_cLE, lJ_cNL, lJ_cNG, Int.cast_ofNat_Int, c_0, c_1, Int.natCast_add, Int.add_zero, cond_true, cond_false, Bool.and_self, Bool.and_true, Bool.true_and, Option.bind_some, decide_true, uI_hit, uI_miss, uI_o, uA_o, uA_s, ↓reduceIte, eq_self, true_or, or_true, or_false, false_or, true_and, and_true, false_and, and_false, or_self, and_self, not_false_eq_true, not_true_eq_false, tn_i, k10, h4, x]
      · rw [if_neg q3]
        obtain ⟨d1, n1, n2, n3, n4⟩ := cs.next (e := e) hi
        have f88 : ∀ o, 88 ≤ o → o ≤ 91 → ∀ j, (o ≠ 88 ∨ j ≠ 5) → d1 o j = d o j := fun o o1 o2 j hj => n3 o j (by omega) (by omega) (by omega)
        have hd1 : DR d1 st u := hd.of (fun j hj => f88 88 (by omega) (by omega) j (by omega)) (by funext j; exact f88 89 (by omega) (by omega) j (by omega)) (by funext j; exact f88 90 (by omega) (by omega) j (by omega)) (by funext j; exact f88 91 (by omega) (by omega) j (by omega)) (fun z hz => by rw [n4]) (Nat.le_refl _)
        -- the body, then ;
        have fin : ∀ (F : Option (Unit × aI × aJ)), (∀ d2 d3, F = some ((), d2, e) → FX5_expect d2 e (iI 59) = some ((), d3, e) → FX5_clause d e = some ((), d3, e)) → (match pBody (KT tp L) (VT tp L) st i with | .inl b => ∃ d', F = some ((), d', e) ∧ FS d' tp L N b.1 (psT tp L b.2) ∧ KD d d' | .inr q => ∃ d' b, F = some ((), d', e) ∧ CX d' tp L N q.1 b ∧ d' 83 3 = iI 0 ∧ b ≤ psT tp L q.1 ∧ DR d' q.2 b ∧ KD d d' ∧ i < q.1 ∧ d' 83 4 = iI (-1)) → (match (match pBody (KT tp L) (VT tp L) st i with | .inl b => .inl b | .inr q => if KT tp L q.1 = 59 then .inr (q.1 + 1, q.2) else .inl (1, q.1) : Rs Rd) with | .inl b => ∃ d', FX5_clause d e = some ((), d', e) ∧ FS d' tp L N b.1 (psT tp L b.2) ∧ KD d d' | .inr q => ∃ d' u', FX5_clause d e = some ((), d', e) ∧ CB d' tp L N q.1 u' q.2 ∧ KD d d' ∧ i < q.1 ∧ d' 83 4 = iI (-1)) := by
          intro F hF hB
          cases hb : pBody (KT tp L) (VT tp L) st i with
          | inl b =>
            rw [hb] at hB
            obtain ⟨d2, x, y, z⟩ := hB
            obtain ⟨d3, x2, y2, z2⟩ := c5_expF (e := e) (c := 59) y (by omega)
            exact ⟨d3, hF d2 d3 x x2, y2, z.trans z2.kd⟩
          | inr q =>
            rw [hb] at hB
            obtain ⟨d2, b, x, y, z3, z4, z5, z6, z7, z8⟩ := hB
            obtain ⟨s2, cs2⟩ := y.cs z3 z4 z8
            obtain ⟨ex1, ex2⟩ := c5_exp (e := e) (c := 59) cs2 (by omega)
            show (match (if KT tp L q.1 = 59 then .inr (q.1 + 1, q.2) else .inl (1, q.1) : Rs Rd) with | .inl b => ∃ d', FX5_clause d e = some ((), d', e) ∧ FS d' tp L N b.1 (psT tp L b.2) ∧ KD d d' | .inr q => ∃ d' u', FX5_clause d e = some ((), d', e) ∧ CB d' tp L N q.1 u' q.2 ∧ KD d d' ∧ i < q.1 ∧ d' 83 4 = iI (-1))
            by_cases k : KT tp L q.1 = 59
            · rw [if_pos k]
              obtain ⟨d3, x2, y2, w2, w3, w4⟩ := ex1 k
              have g88 : ∀ o, 88 ≤ o → o ≤ 91 → ∀ j, (o ≠ 88 ∨ j ≠ 5) → d3 o j = d2 o j := fun o o1 o2 j hj => w2 o j (by omega) (by omega) (by omega)
              exact ⟨d3, b, hF d2 d3 x x2, ⟨y2.1, y2.2.1, y2.2.2.2, z5.of (fun j hj => g88 88 (by omega) (by omega) j (by omega)) (by funext j; exact g88 89 (by omega) (by omega) j (by omega)) (by funext j; exact g88 90 (by omega) (by omega) j (by omega)) (by funext j; exact g88 91 (by omega) (by omega) j (by omega)) (fun z hz => by rw [w3]) (Nat.le_refl _)⟩, z6.trans w2.kd, by show i < q.1 + 1; omega, y2.2.2.1.2⟩
            · rw [if_neg k]
              obtain ⟨d3, x2, y2, w2⟩ := ex2 k
              exact ⟨d3, hF d2 d3 x x2, y2, z6.trans w2.kd⟩
        by_cases a : KT tp L i = 300
        · have b : ¬st.1.1.isSome = true := fun z => q2 (Or.inl ⟨a, z⟩)
          have b2 : st.1.1 = none := by
            cases hh : st.1.1 with
            | none => rfl
            | some f => rw [hh] at b; exact absurd rfl b
          rw [a] at k10
          rw [if_neg b] at hT
          have la := c5_lawOf (e := e) (s := 0) n2 (Or.inl rfl) hd1 (by omega) (Or.inl ⟨rfl, b2⟩)
          refine fin (FX5_lawOf d1 e (iI 300)) (fun d2 d3 x y => ?_) ?_
          · unfold FX5_clause
            simp (config := {maxSteps := 4000000}) (disch := omega) only [nI_iI, lN_lJ, iI_0, lJ_0, iI_add, iI_sub, iI_mul, iI_neg, lJ_add, lJ_sub, lJ_mul, lJ_neg, i_l, l_i, iI_cl, iI_inb, iI_eqT, iI_eqF, iI_ltT, iI_ltF, iI_leT, iI_leF, lJ_eqT, lJ_eqF, lJ_cG, lJ_cE, lJ_cL, lJ_cF, lJ_cGE, lJ_cLE, lJ_cNL, lJ_cNG, Int.cast_ofNat_Int, c_0, c_1, Int.natCast_add, Int.add_zero, cond_true, cond_false, Bool.and_self, Bool.and_true, Bool.true_and, Option.bind_some, decide_true, uI_hit, uI_miss, uI_o, uA_o, uA_s, ↓reduceIte, eq_self, true_or, or_true, or_false, false_or, true_and, and_true, false_and, and_false, or_self, and_self, not_false_eq_true, not_true_eq_false, tn_i, k10, hT, h4, n1, x, y]
          · unfold pBody
            rw [if_pos a]
            cases hp : pSum (KT tp L) (VT tp L) 0 (pOpd (KT tp L) (VT tp L) 0 12) 0 (i + 1) with
            | inl bd =>
              rw [hp] at la
              obtain ⟨d2, x, y, z⟩ := la
              exact ⟨d2, x, y, (n3.kd).trans z⟩
            | inr q =>
              rw [hp] at la
              obtain ⟨d2, b', x, y1, y2, y3, y4, y5, y6, y7⟩ := la
              rw [if_pos rfl] at y4
              exact ⟨d2, b', x, y1, y2, y3, y4, (n3.kd).trans y5, by show i < q.1; omega, y7⟩
        · by_cases a2 : KT tp L i = 301
          · have b : ¬st.1.2.isSome = true := fun z => q2 (Or.inr ⟨a2, z⟩)
            have b2 : st.1.2 = none := by
              cases hh : st.1.2 with
              | none => rfl
              | some f => rw [hh] at b; exact absurd rfl b
            rw [a2] at k10
            rw [if_neg b] at hG
            have la := c5_lawOf (e := e) (s := 1) n2 (Or.inr rfl) hd1 (by omega) (Or.inr ⟨rfl, b2⟩)
            refine fin (FX5_lawOf d1 e (iI 301)) (fun d2 d3 x y => ?_) ?_
            · unfold FX5_clause
              simp (config := {maxSteps := 4000000}) (disch := omega) only [nI_iI, lN_lJ, iI_0, lJ_0, iI_add, iI_sub, iI_mul, iI_neg, lJ_add, lJ_sub, lJ_mul, lJ_neg, i_l, l_i, iI_cl, iI_inb, iI_eqT, iI_eqF, iI_ltT, iI_ltF, iI_leT, iI_leF, lJ_eqT, lJ_eqF, lJ_cG, lJ_cE, lJ_cL, lJ_cF, lJ_cGE, lJ_cLE, lJ_cNL, lJ_cNG, Int.cast_ofNat_Int, c_0, c_1, Int.natCast_add, Int.add_zero, cond_true, cond_false, Bool.and_self, Bool.and_true, Bool.true_and, Option.bind_some, decide_true, uI_hit, uI_miss, uI_o, uA_o, uA_s, ↓reduceIte, eq_self, true_or, or_true, or_false, false_or, true_and, and_true, false_and, and_false, or_self, and_self, not_false_eq_true, not_true_eq_false, tn_i, k10, hG, h4, n1, x, y]
            · unfold pBody
              rw [if_neg a, if_pos a2]
              cases hp : pSum (KT tp L) (VT tp L) 1 (pOpd (KT tp L) (VT tp L) 1 12) 0 (i + 1) with
              | inl bd =>
                rw [hp] at la
                obtain ⟨d2, x, y, z⟩ := la
                exact ⟨d2, x, y, (n3.kd).trans z⟩
              | inr q =>
                rw [hp] at la
                obtain ⟨d2, b', x, y1, y2, y3, y4, y5, y6, y7⟩ := la
                rw [if_neg (by omega)] at y4
                exact ⟨d2, b', x, y1, y2, y3, y4, (n3.kd).trans y5, by show i < q.1; omega, y7⟩
          · have de := c5_deed (e := e) (n := st.2.1) (c := KT tp L i) n2 hd1.2.2.1 (by omega) (by omega)
            refine fin (FX5_deed d1 e (iI (KT tp L i))) (fun d2 d3 x y => ?_) ?_
            · generalize KT tp L i = c at *
              unfold FX5_clause
              simp (config := {maxSteps := 4000000}) (disch := omega) only [nI_iI, lN_lJ, iI_0, lJ_0, iI_add, iI_sub, iI_mul, iI_neg, lJ_add, lJ_sub, lJ_mul, lJ_neg, i_l, l_i, iI_cl, iI_inb, iI_eqT, iI_eqF, iI_ltT, iI_ltF, iI_leT, iI_leF, lJ_eqT, lJ_eqF, lJ_cG, lJ_cE, lJ_cL, lJ_cF, lJ_cGE, lJ_cLE, lJ_cNL, lJ_cNG, Int.cast_ofNat_Int, c_0, c_1, Int.natCast_add, Int.add_zero, cond_true, cond_false, Bool.and_self, Bool.and_true, Bool.true_and, Option.bind_some, decide_true, uI_hit, uI_miss, uI_o, uA_o, uA_s, ↓reduceIte, eq_self, true_or, or_true, or_false, false_or, true_and, and_true, false_and, and_false, or_self, and_self, not_false_eq_true, not_true_eq_false, tn_i, k10, h4, n1, x, y]
            · unfold pBody
              rw [if_neg a, if_neg a2]
              cases hp : pDeed (KT tp L) (VT tp L) (KT tp L i) (i + 1) with
              | inl bd =>
                rw [hp] at de
                obtain ⟨d2, x, y, z⟩ := de
                exact ⟨d2, x, y, (n3.kd).trans z⟩
              | inr q =>
                rw [hp] at de
                obtain ⟨d2, x, y1, y2, y3, y4⟩ := de
                have g88 : ∀ o, 88 ≤ o → o ≤ 91 → ∀ j, (o ≠ 88 ∨ j ≠ 5) → d2 o j = d1 o j := fun o o1 o2 j hj => y2 o j (by omega) (by omega) (by omega)
                have hd2 : DR d2 st u := hd1.of (fun j hj => g88 88 (by omega) (by omega) j (by omega)) (by funext j; exact g88 89 (by omega) (by omega) j (by omega)) (by funext j; exact g88 90 (by omega) (by omega) j (by omega)) (by funext j; exact g88 91 (by omega) (by omega) j (by omega)) (fun z hz => by rw [y3]) (Nat.le_refl _)
                refine ⟨adD d2 st.2.1 (iI (KT tp L i)) (iI q.2.1) (iI q.2.2), u, x, ?_, ?_, y1.2.2.2, ?_, (n3.kd).trans ((y2.kd).trans adD_kd), by show i < q.1; omega, by rw [adD_o (by omega)]; exact y1.2.2.1.2⟩
                · obtain ⟨⟨a1, a2, a3, a4, a5, a6, a7, a8⟩, _⟩ := y1
                  exact ⟨a1.ofD adD_kd, a2, a3, a4, a5, by rw [adD_o (by omega)]; exact a6, by rw [adD_o (by omega)]; exact a7, by rw [adD_o (by omega)]; exact a8⟩
                · rw [adD_o (by omega)]; exact y1.2.1
                · refine DR.add (d := d2) (u := u) hd2 (fun k hk => ?_) ?_ ?_ (fun _ => ?_) (by omega) ?_ ?_
                  · unfold adD
                    rw [uI_o (by omega), uI_o (by omega), uI_o (by omega), uI_miss hk, uI_o (by omega), uI_o (by omega), uI_miss hk, uI_o (by omega), uI_o (by omega), uI_miss hk, uI_o (by omega), uI_o (by omega)]
                    exact ⟨rfl, rfl, rfl⟩
                  · unfold adD; rw [uI_hit rfl]
                  · unfold adD; rw [uI_o (by omega), uI_o (by omega), uI_o (by omega), uI_hit rfl, show 300 + (KT tp L i - 300) = KT tp L i by omega]
                  · unfold adD
                    constructor
                    · rw [uI_o (by omega), uI_o (by omega), uI_hit rfl]
                    · rw [uI_o (by omega), uI_hit rfl]
                  · exact hd2.1.of (by rw [adD_o (by omega)]) (by rw [adD_o (by omega)]) (fun z hz => by rw [adD_o (by omega)]) (Nat.le_refl _)
                  · exact hd2.2.1.of (by rw [adD_o (by omega)]) (by rw [adD_o (by omega)]) (fun z hz => by rw [adD_o (by omega)]) (Nat.le_refl _)
-- the whole tape
def KE (d d' : aI) : Prop := ∀ o j, (o < 85 ∨ 92 < o) → (o ≠ 83 ∨ (j ≠ 3 ∧ j ≠ 4 ∧ j ≠ 8 ∧ j ≠ 9 ∧ j ≠ 10 ∧ j ≠ 11)) → d' o j = d o j
theorem KE.trans {d d1 d2 : aI} (h : KE d d1) (h2 : KE d1 d2) : KE d d2 := fun o j a b => (h2 o j a b).trans (h o j a b)
theorem KD.ke {d d' : aI} (h : KD d d') : KE d d' := fun o j a b => h o j (by omega) (by omega)
def rd0 : Rd := ((none, none), 0, fun _ => (0, 0, 0))
theorem c5_read {d : aI} {e : aJ} {tp : Nat → Int} {L : Nat} (hT : TPE d tp L) : match pRd (KT tp L) (VT tp L) 300 rd0 0 with
    | .inl b => ∃ d', FX5_read d e = some (iI 0, d', e) ∧ d' 83 3 = iI b.1 ∧ d' 83 4 = iI (psT tp L b.2 : Nat) ∧ (1 ≤ b.1 ∧ b.1 ≤ 6) ∧ KE d d'
    | .inr q => ∃ d' u, FX5_read d e = some (iI 1, d', e) ∧ d' 83 3 = iI 0 ∧ d' 83 4 = iI (-1) ∧ DR d' q.2 u ∧ u ≤ 300 ∧ KE d d' := by
  -- the loop
  have loop : ∀ (r cnt i u : Nat) (d1 : aI) (st : Rd) (N : Nat), cnt + r = 300 → N ≤ i + r → CB d1 tp L N i u st → d1 83 4 = iI (-1) → match pRd (KT tp L) (VT tp L) r st i with
      | .inl b => ∃ d', a_run stX5_read (23, [some (.ref 83), some (.int (iI (cnt : Nat)))], d1, e) = some ([some (.int (iI 0))], d', e) ∧ d' 83 3 = iI b.1 ∧ d' 83 4 = iI (psT tp L b.2 : Nat) ∧ (1 ≤ b.1 ∧ b.1 ≤ 6) ∧ KD d1 d'
      | .inr q => ∃ d' u, a_run stX5_read (23, [some (.ref 83), some (.int (iI (cnt : Nat)))], d1, e) = some ([some (.int (iI 1))], d', e) ∧ d' 83 3 = iI 0 ∧ d' 83 4 = iI (-1) ∧ DR d' q.2 u ∧ u ≤ 300 ∧ KD d1 d' := by
    intro r
    induction r with
    | zero =>
      intro cnt i u d1 st N hc hN cb h83
      have h3 := cb.2.1
      refine ⟨d1, u, ?_, h3, h83, cb.2.2.2, cb.1.2.2.2.2.1, KD.refl d1⟩
      rw [a_run_step (st := stX5_read) (p2 := (100000, [some (.int (iI 1))], d1, e)) (by
        show sX5_read_23 d1 e _ = _
        unfold sX5_read_23
        simp (disch := omega) only [nI_iI, lN_lJ, iI_0, lJ_0, iI_add, iI_sub, iI_mul, iI_neg, lJ_add, lJ_sub, lJ_mul, lJ_neg, i_l, l_i, iI_cl, iI_inb, iI_eqT, iI_eqF, iI_ltT, iI_ltF, iI_leT, iI_leF, lJ_eqT, lJ_eqF, lJ_cG, lJ_cE, lJ_cL, lJ_cF, lJ_cGE, lJ_cLE, lJ_cNL, lJ_cNG, Int.cast_ofNat_Int, c_0, c_1, Int.natCast_add, Int.add_zero, cond_true, cond_false, Bool.and_self, Bool.and_true, Bool.true_and, Option.bind_some, decide_true, uI_hit, uI_miss, uI_o, uA_o, uA_s, ↓reduceIte, eq_self, true_or, or_true, or_false, false_or, true_and, and_true, false_and, and_false, or_self, and_self, not_false_eq_true, not_true_eq_false, tn_i, h3]) rfl, a_run_end]
    | succ r ih =>
      intro cnt i u d1 st N hc hN cb h83
      have h3 := cb.2.1
      have k10 := cb.1.2.2.2.2.2.2.1
      have kr := KT_in cb.1.2.1 (L := L) i
      have e1 : pRd (KT tp L) (VT tp L) (r + 1) st i = if KT tp L i = 0 then .inr (i, st) else match pCla (KT tp L) (VT tp L) st i with | .inl b => .inl b | .inr q => pRd (KT tp L) (VT tp L) r q.2 q.1 := rfl
      rw [e1]
      by_cases q : KT tp L i = 0
      · rw [if_pos q]
        rw [q] at k10
        refine ⟨d1, u, ?_, h3, h83, cb.2.2.2, cb.1.2.2.2.2.1, KD.refl d1⟩
        rw [a_run_step (st := stX5_read) (p2 := (100000, [some (.int (iI 1))], d1, e)) (by
          show sX5_read_23 d1 e _ = _
          unfold sX5_read_23
          simp (disch := omega) only [nI_iI, lN_lJ, iI_0, lJ_0, iI_add, iI_sub, iI_mul, iI_neg, lJ_add, lJ_sub, lJ_mul, lJ_neg, i_l, l_i, iI_cl, iI_inb, iI_eqT, iI_eqF, iI_ltT, iI_ltF, iI_leT, iI_leF, lJ_eqT, lJ_eqF, lJ_cG, lJ_cE, lJ_cL, lJ_cF, lJ_cGE, lJ_cLE, lJ_cNL, lJ_cNG, Int.cast_ofNat_Int, c_0, c_1, Int.natCast_add, Int.add_zero, cond_true, cond_false, Bool.and_self, Bool.and_true, Bool.true_and, Option.bind_some, decide_true, uI_hit, uI_miss, uI_o, uA_o, uA_s, ↓reduceIte, eq_self, true_or, or_true, or_false, false_or, true_and, and_true, false_and, and_false, or_self, and_self, not_false_eq_true, not_true_eq_false, tn_i, h3, k10]) rfl, a_run_end]
      · rw [if_neg q]
        have cl := c5_clause (e := e) cb h83 q
        have stp : ∀ d2, FX5_clause d1 e = some ((), d2, e) → stX5_read (23, [some (.ref 83), some (.int (iI (cnt : Nat)))], d1, e) = some (23, [some (.ref 83), some (.int (iI (cnt + 1 : Nat)))], d2, e) := by
          intro d2 x
          show sX5_read_23 d1 e _ = _
          unfold sX5_read_23
          generalize KT tp L i = c at *
          simp (disch := omega) only [nI_iI, lN_lJ, iI_0, lJ_0, iI_add, iI_sub, iI_mul, iI_neg, lJ_add, lJ_sub, lJ_mul, lJ_neg, i_l, l_i, iI_cl, iI_inb, iI_eqT, iI_eqF, iI_ltT, iI_ltF, iI_leT, iI_leF, lJ_eqT, lJ_eqF, lJ_cG, lJ_cE, lJ_cL, lJ_cF, lJ_cGE, lJ_cLE, lJ_cNL, lJ_cNG, Int.cast_ofNat_Int, c_0, c_1, Int.natCast_add, Int.add_zero, cond_true, cond_false, Bool.and_self, Bool.and_true, Bool.true_and, Option.bind_some, decide_true, uI_hit, uI_miss, uI_o, uA_o, uA_s, ↓reduceIte, eq_self, true_or, or_true, or_false, false_or, true_and, and_true, false_and, and_false, or_self, and_self, not_false_eq_true, not_true_eq_false, tn_i, h3, k10, x]
        cases hp : pCla (KT tp L) (VT tp L) st i with
        | inl b =>
          rw [hp] at cl
          obtain ⟨d2, x, y, z⟩ := cl
          obtain ⟨ii, uu, y1, y2, y3, y4⟩ := y
          refine ⟨d2, ?_, y2, y3, y4, z⟩
          rw [a_run_step (stp d2 x) rfl, a_run_step (st := stX5_read) (p2 := (100000, [some (.int (iI 0))], d2, e)) (by
            show sX5_read_23 d2 e _ = _
            unfold sX5_read_23
            by_cases w : 300 ≤ cnt + 1
            · simp (disch := omega) only [nI_iI, lN_lJ, iI_0, lJ_0, iI_add, iI_sub, iI_mul, iI_neg, lJ_add, lJ_sub, lJ_mul, lJ_neg, i_l, l_i, iI_cl, iI_inb, iI_eqT, iI_eqF, iI_ltT, iI_ltF, iI_leT, iI_leF, lJ_eqT, lJ_eqF, lJ_cG, lJ_cE, lJ_cL, lJ_cF, lJ_cGE, lJ_cLE, lJ_cNL, lJ_cNG, Int.cast_ofNat_Int, c_0, c_1, Int.natCast_add, Int.add_zero, cond_true, cond_false, Bool.and_self, Bool.and_true, Bool.true_and, Option.bind_some, decide_true, uI_hit, uI_miss, uI_o, uA_o, uA_s, ↓reduceIte, eq_self, true_or, or_true, or_false, false_or, true_and, and_true, false_and, and_false, or_self, and_self, not_false_eq_true, not_true_eq_false, tn_i, y2]
            · simp (disch := omega) only [nI_iI, lN_lJ, iI_0, lJ_0, iI_add, iI_sub, iI_mul, iI_neg, lJ_add, lJ_sub, lJ_mul, lJ_neg, i_l, l_i, iI_cl, iI_inb, iI_eqT, iI_eqF, iI_ltT, iI_ltF, iI_leT, iI_leF, lJ_eqT, lJ_eqF, lJ_cG, lJ_cE, lJ_cL, lJ_cF, lJ_cGE, lJ_cLE, lJ_cNL, lJ_cNG, Int.cast_ofNat_Int, c_0, c_1, Int.natCast_add, Int.add_zero, cond_true, cond_false, Bool.and_self, Bool.and_true, Bool.true_and, Option.bind_some, decide_true, uI_hit, uI_miss, uI_o, uA_o, uA_s, ↓reduceIte, eq_self, true_or, or_true, or_false, false_or, true_and, and_true, false_and, and_false, or_self, and_self, not_false_eq_true, not_true_eq_false, tn_i, y2]) rfl, a_run_end]
        | inr w =>
          rw [hp] at cl
          obtain ⟨d2, u2, x, y, z, z2, z3⟩ := cl
          have nx := ih (cnt + 1) w.1 u2 d2 w.2 N (by omega) (by omega) y z3
          show match pRd (KT tp L) (VT tp L) r w.2 w.1 with | .inl b => _ | .inr q => _
          cases hr : pRd (KT tp L) (VT tp L) r w.2 w.1 with
          | inl b =>
            rw [hr] at nx
            obtain ⟨d3, a1, a2, a3, a4, a5⟩ := nx
            exact ⟨d3, (a_run_step (stp d2 x) rfl).trans a1, a2, a3, a4, z.trans a5⟩
          | inr q2 =>
            rw [hr] at nx
            obtain ⟨d3, u3, a1, a2, a3, a4, a5, a6⟩ := nx
            exact ⟨d3, u3, (a_run_step (stp d2 x) rfl).trans a1, a2, a3, a4, a5, z.trans a6⟩
  -- its start
  have put : ∀ (d : aI) (o t : Nat) (v : Int32) (o' j : Nat), ((o' ≠ o) ∨ j ≠ t) → uI d o t v o' j = d o' j := fun d o t v o' j h => by
    by_cases q : o' = o
    · rw [q, uI_miss (by omega)]
    · rw [uI_o q]
  obtain ⟨w, hw⟩ : ∃ w, w = uI (uI (uI (uI (uI (uI d 88 4 (iI 0)) 88 5 (iI 0)) 88 6 (iI (-1))) 88 7 (iI (-1))) 88 8 (iI (-1))) 88 9 (iI (-1)) := ⟨_, rfl⟩
  have w1 : FX7_wipe d e = some ((), w, e) := by
    rw [hw]
    unfold FX7_wipe
    simp (disch := omega) only [nI_iI, lN_lJ, iI_0, lJ_0, iI_add, iI_sub, iI_mul, iI_neg, lJ_add, lJ_sub, lJ_mul, lJ_neg, i_l, l_i, iI_cl, iI_inb, iI_eqT, iI_eqF, iI_ltT, iI_ltF, iI_leT, iI_leF, lJ_eqT, lJ_eqF, lJ_cG, lJ_cE, lJ_cL, lJ_cF, lJ_cGE, lJ_cLE, lJ_cNL, lJ_cNG, Int.cast_ofNat_Int, c_0, c_1, Int.natCast_add, Int.add_zero, cond_true, cond_false, Bool.and_self, Bool.and_true, Bool.true_and, Option.bind_some, decide_true, uI_hit, uI_miss, uI_o, uA_o, uA_s, ↓reduceIte, eq_self, true_or, or_true, or_false, false_or, true_and, and_true, false_and, and_false, or_self, and_self, not_false_eq_true, not_true_eq_false, tn_i]
  have wo : ∀ o j, o ≠ 88 → w o j = d o j := fun o j h => by rw [hw, uI_o h, uI_o h, uI_o h, uI_o h, uI_o h, uI_o h]
  have hT1 : TPE (uI (uI w 83 3 (iI 0)) 83 4 (iI (-1))) tp L := hT.of (by rw [uI_miss (by omega), uI_miss (by omega), wo 83 2 (by omega)]) (by funext j; rw [uI_o (by omega), uI_o (by omega), wo 84 j (by omega)])
  obtain ⟨d1, N, s1, s2, s3, s4, s5⟩ := c5_scan (e := e) hT1
  have st0 : stX5_read (0, [some (.ref 83), none], d, e) = some (23, [some (.ref 83), some (.int (iI (0 : Nat)))], d1, e) := by
    show sX5_read_0 d e = _
    unfold sX5_read_0
    simp (disch := omega) only [nI_iI, lN_lJ, iI_0, lJ_0, iI_add, iI_sub, iI_mul, iI_neg, lJ_add, lJ_sub, lJ_mul, lJ_neg, i_l, l_i, iI_cl, iI_inb, iI_eqT, iI_eqF, iI_ltT, iI_ltF, iI_leT, iI_leF, lJ_eqT, lJ_eqF, lJ_cG, lJ_cE, lJ_cL, lJ_cF, lJ_cGE, lJ_cLE, lJ_cNL, lJ_cNG, Int.cast_ofNat_Int, c_0, c_1, Int.natCast_add, Int.add_zero, cond_true, cond_false, Bool.and_self, Bool.and_true, Bool.true_and, Option.bind_some, decide_true, uI_hit, uI_miss, uI_o, uA_o, uA_s, ↓reduceIte, eq_self, true_or, or_true, or_false, false_or, true_and, and_true, false_and, and_false, or_self, and_self, not_false_eq_true, not_true_eq_false, tn_i, w1, s1]
  have k88 : ∀ j, d1 88 j = w 88 j := fun j => by rw [s5 88 j (by omega) (by omega) (by omega) (by omega), uI_o (by omega), uI_o (by omega)]
  have cb : CB d1 tp L N 0 0 rd0 := by
    refine ⟨⟨s2, hT.2.2.2, hT.2.1, Nat.zero_le _, Nat.zero_le _, s3, s4, ?_⟩, ?_, Nat.zero_le _, ?_, ?_, ?_, Nat.zero_le _, fun k hk => absurd hk (Nat.not_lt_zero k)⟩
    · rw [k88, hw, uI_miss (by omega), uI_miss (by omega), uI_miss (by omega), uI_miss (by omega), uI_hit rfl]; rfl
    · rw [s5 83 3 (by omega) (by omega) (by omega) (by omega), uI_miss (by omega), uI_hit rfl]
    · show d1 88 6 = iI (-1)
      rw [k88, hw, uI_miss (by omega), uI_miss (by omega), uI_miss (by omega), uI_hit rfl]
    · show d1 88 8 = iI (-1)
      rw [k88, hw, uI_miss (by omega), uI_hit rfl]
    · rw [k88, hw, uI_miss (by omega), uI_miss (by omega), uI_miss (by omega), uI_miss (by omega), uI_miss (by omega), uI_hit rfl]; rfl
  have h83 : d1 83 4 = iI (-1) := by rw [s5 83 4 (by omega) (by omega) (by omega) (by omega), uI_hit rfl]
  have ke : KE d d1 := fun o j a b => by
    by_cases z : o = 83
    · subst z
      rw [s5 83 j (by omega) (by omega) (by omega) (by omega), uI_miss (by omega), uI_miss (by omega), wo 83 j (by omega)]
    · rw [s5 o j (by omega) (by omega) (by omega) (by omega), uI_o z, uI_o z, wo o j (by omega)]
  have lp := loop 300 0 0 0 d1 rd0 N rfl (by have := s2.1; omega) cb h83
  cases hr : pRd (KT tp L) (VT tp L) 300 rd0 0 with
  | inl b =>
    rw [hr] at lp
    obtain ⟨d3, a1, a2, a3, a4, a5⟩ := lp
    refine ⟨d3, ?_, a2, a3, a4, ke.trans a5.ke⟩
    unfold FX5_read
    rw [a_run_step st0 rfl, a1]
    rfl
  | inr q2 =>
    rw [hr] at lp
    obtain ⟨d3, u3, a1, a2, a3, a4, a5, a6⟩ := lp
    refine ⟨d3, u3, ?_, a2, a3, a4, a5, ke.trans a6.ke⟩
    unfold FX5_read
    rw [a_run_step st0 rfl, a1]
    rfl
