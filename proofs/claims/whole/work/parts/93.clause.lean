/-! ===== clauses (pure), and the class reads them ===== -/
abbrev Rd : Type := (Option Fn × Option Fn) × Nat × (Nat → Int × Int × Int)
def addR (st : Rd) (l : Option Fn × Option Fn) (x : Int × Int × Int) : Rd := (l, st.2.1 + 1, fun k => if k = st.2.1 then x else st.2.2 k)
def pNum (K V : Nat → Int) (lo hi : Int) (i : Nat) : Rs Int := if K i = 1 then (if lo ≤ V i ∧ V i ≤ hi then .inr (i + 1, V i) else .inl (2, i)) else .inl (1, i)
def pTwo (K V : Nat → Int) (hi mid hi2 : Int) (i : Nat) : Rs (Int × Int) := match pNum K V 0 hi i with
  | .inl b => .inl b
  | .inr q => if K q.1 = mid then (match pNum K V 0 hi2 (q.1 + 1) with
    | .inl b => .inl b
    | .inr p => .inr (p.1, (q.2, p.2))) else .inl (1, q.1)
def pUno (K V : Nat → Int) (lo hi : Int) (i : Nat) : Rs (Int × Int) := match pNum K V lo hi i with
  | .inl b => .inl b
  | .inr q => .inr (q.1, (q.2, 0))
def pDeed (K V : Nat → Int) (c : Int) (i : Nat) : Rs (Int × Int) :=
  if c = 302 then pTwo K V 9 309 999 i else if c = 303 then pTwo K V 9 310 9 i else if c = 304 then pTwo K V 5 311 5 i else if c = 308 then pUno K V 1 60 i else pUno K V 0 5 i
def pBody (K V : Nat → Int) (st : Rd) (i : Nat) : Rs Rd :=
  if K i = 300 then (match pSum K V 0 (pOpd K V 0 12) 0 (i + 1) with
    | .inl b => .inl b
    | .inr q => .inr (q.1, addR st (some q.2, st.1.2) (0, 0, 0)))
  else if K i = 301 then (match pSum K V 1 (pOpd K V 1 12) 0 (i + 1) with
    | .inl b => .inl b
    | .inr q => .inr (q.1, addR st (st.1.1, some q.2) (1, 0, 0)))
  else (match pDeed K V (K i) (i + 1) with
    | .inl b => .inl b
    | .inr q => .inr (q.1, addR st st.1 (K i - 300, q.2.1, q.2.2)))
def pCla (K V : Nat → Int) (st : Rd) (i : Nat) : Rs Rd :=
  if K i < 300 ∨ 308 < K i then .inl (1, i)
  else if (K i = 300 ∧ st.1.1.isSome = true) ∨ (K i = 301 ∧ st.1.2.isSome = true) then .inl (4, i)
  else if 24 ≤ st.2.1 then .inl (6, i)
  else (match pBody K V st i with
    | .inl b => .inl b
    | .inr q => if K q.1 = 59 then .inr (q.1 + 1, q.2) else .inl (1, q.1))
def pRd (K V : Nat → Int) : Nat → Rd → Nat → Rs Rd
  | 0, st, i => .inr (i, st)
  | r + 1, st, i => if K i = 0 then .inr (i, st) else match pCla K V st i with
    | .inl b => .inl b
    | .inr q => pRd K V r q.2 q.1
-- the draft
def CLu (d : aI) (j : Nat) (s : Int) (x : Option Fn) (u : Nat) : Prop := match x with
  | none => d 88 j = iI (-1)
  | some f => ∃ (C : Int → Int) (a b : Nat), d 88 j = iI (a : Nat) ∧ d 88 (j + 1) = iI (b : Nat) ∧ CV s C a b 64 f ∧ b ≤ u ∧ (∀ i : Nat, a ≤ i → i < b → d 92 i = iI (C i))
def DR (d : aI) (st : Rd) (u : Nat) : Prop := CLu d 6 0 st.1.1 u ∧ CLu d 8 1 st.1.2 u ∧ d 88 4 = iI (st.2.1 : Nat) ∧ st.2.1 ≤ 24 ∧ ∀ k, k < st.2.1 → d 89 k = iI (300 + (st.2.2 k).1) ∧ (2 ≤ (st.2.2 k).1 → d 90 k = iI (st.2.2 k).2.1 ∧ d 91 k = iI (st.2.2 k).2.2)
theorem CLu.of {d d' : aI} {j u u' : Nat} {s : Int} {x : Option Fn} (h : CLu d j s x u) (g1 : d' 88 j = d 88 j) (g2 : d' 88 (j + 1) = d 88 (j + 1)) (g : ∀ z, z < u → d' 92 z = d 92 z) (hu : u ≤ u') : CLu d' j s x u' := by
  cases x with
  | none =>
    show d' 88 j = iI (-1)
    rw [g1]; exact h
  | some f =>
    obtain ⟨C, a, b, h1, h2, h3, h4, h5⟩ := h
    exact ⟨C, a, b, by rw [g1]; exact h1, by rw [g2]; exact h2, h3, by omega, fun i i1 i2 => by rw [g i (by omega)]; exact h5 i i1 i2⟩
theorem DR.of {d d' : aI} {st : Rd} {u u' : Nat} (h : DR d st u) (g1 : ∀ j, j ≠ 5 → d' 88 j = d 88 j) (g2 : d' 89 = d 89) (g3 : d' 90 = d 90) (g4 : d' 91 = d 91) (g : ∀ z, z < u → d' 92 z = d 92 z) (hu : u ≤ u') : DR d' st u' := by
  obtain ⟨a, b, c, c2, f⟩ := h
  exact ⟨a.of (g1 6 (by omega)) (g1 7 (by omega)) g hu, b.of (g1 8 (by omega)) (g1 9 (by omega)) g hu, by rw [g1 4 (by omega)]; exact c, c2, fun k hk => by rw [g2, g3, g4]; exact f k hk⟩
/-- between two clauses -/
def CB (d : aI) (tp : Nat → Int) (L N i u : Nat) (st : Rd) : Prop := CX d tp L N i u ∧ d 83 3 = iI 0 ∧ u ≤ psT tp L i ∧ DR d st u
def KD (d d' : aI) : Prop := ∀ o j, (o < 88 ∨ 92 < o) → (o ≠ 83 ∨ (j ≠ 3 ∧ j ≠ 4 ∧ j ≠ 9 ∧ j ≠ 10 ∧ j ≠ 11)) → d' o j = d o j
theorem KD.refl (d : aI) : KD d d := fun _ _ _ _ => rfl
theorem KD.trans {d d1 d2 : aI} (h : KD d d1) (h2 : KD d1 d2) : KD d d2 := fun o j a b => (h2 o j a b).trans (h o j a b)
theorem KC.kd {d d' : aI} (h : KC d d') : KD d d' := fun o j a b => h o j (by omega) (by omega) (by omega)
theorem KD.put {d : aI} {o j : Nat} {v : Int32} (ho : (88 ≤ o ∧ o ≤ 92) ∨ (o = 83 ∧ (j = 3 ∨ j = 4 ∨ j = 9 ∨ j = 10 ∨ j = 11))) : KD d (uI d o j v) := fun o2 j2 a b => by
  by_cases q : o2 = o
  · rw [q, uI_miss (by omega)]
  · rw [uI_o q]
theorem TKC.ofD {d d' : aI} {tp : Nat → Int} {L N : Nat} (h : TKC d tp L N) (g : KD d d') : TKC d' tp L N := by
  obtain ⟨a, b, c, f, k, m⟩ := h
  refine ⟨a, b, c, fun t ht => ?_, fun t ht hf => ?_, ?_⟩
  · rw [g 85 t (by omega) (by omega), g 86 t (by omega) (by omega)]; exact f t ht
  · rw [g 87 t (by omega) (by omega)]; exact k t ht hf
  · rw [g 83 8 (by omega) (by omega)]; exact m
/-- add to the draft: what it leaves -/
def adD (d : aI) (n : Nat) (x1 x2 x3 : Int32) : aI := uI (uI (uI (uI d 89 n x1) 90 n x2) 91 n x3) 88 4 (iI (n + 1 : Nat))
theorem c5_add {d : aI} {e : aJ} {n : Nat} {x1 x2 x3 : Int32} (h : d 88 4 = iI (n : Nat)) (hn : n < 24) : FX7_add d e x1 x2 x3 = some ((), adD d n x1 x2 x3, e) := by
  unfold FX7_add adD
  simp (disch := omega) only [nI_iI, lN_lJ, iI_0, lJ_0, iI_add, iI_sub, iI_mul, iI_neg, lJ_add, lJ_sub, lJ_mul, lJ_neg, i_l, l_i, iI_cl, iI_inb, iI_eqT, iI_eqF, iI_ltT, iI_ltF, iI_leT, iI_leF, lJ_eqT, lJ_eqF, lJ_cG, lJ_cE, lJ_cL, lJ_cF, lJ_cGE, lJ_cLE, lJ_cNL, lJ_cNG, Int.cast_ofNat_Int, c_0, c_1, Int.natCast_add, Int.add_zero, cond_true, cond_false, Bool.and_self, Bool.and_true, Bool.true_and, Option.bind_some, decide_true, uI_hit, uI_miss, uI_o, uA_o, uA_s, ↓reduceIte, eq_self, true_or, or_true, or_false, false_or, true_and, and_true, false_and, and_false, or_self, and_self, not_false_eq_true, not_true_eq_false, tn_i, Int.toNat_natCast, h]
theorem adD_o {d : aI} {n : Nat} {x1 x2 x3 : Int32} {o j : Nat} (h : o ≠ 89 ∧ o ≠ 90 ∧ o ≠ 91 ∧ (o ≠ 88 ∨ j ≠ 4)) : adD d n x1 x2 x3 o j = d o j := by
  unfold adD
  by_cases q : o = 88
  · rw [q, uI_miss (by omega), uI_o (by omega), uI_o (by omega), uI_o (by omega)]
  · rw [uI_o q, uI_o h.2.2.1, uI_o h.2.1, uI_o h.1]
theorem adD_kd {d : aI} {n : Nat} {x1 x2 x3 : Int32} : KD d (adD d n x1 x2 x3) := fun o j a _ => adD_o (by omega)
theorem FS.add {d : aI} {tp : Nat → Int} {L N n : Nat} {m : Int} {p : Nat} {x1 x2 x3 : Int32} (h : FS d tp L N m p) : FS (adD d n x1 x2 x3) tp L N m p := by
  obtain ⟨i, u, ⟨a1, a2, a3, a4, a5, a6, a7, a8⟩, h2, h3, h4⟩ := h
  refine ⟨i, u, ⟨a1.ofD adD_kd, a2, a3, a4, a5, ?_, ?_, ?_⟩, ?_, ?_, h4⟩
  · rw [adD_o (by omega)]; exact a6
  · rw [adD_o (by omega)]; exact a7
  · rw [adD_o (by omega)]; exact a8
  · rw [adD_o (by omega)]; exact h2
  · rw [adD_o (by omega)]; exact h3
/-- a clause is added -/
theorem DR.add {d d' : aI} {st : Rd} {u u' : Nat} {x : Int × Int × Int} {l : Option Fn × Option Fn} (h : DR d st u) (g : ∀ k, k ≠ st.2.1 → d' 89 k = d 89 k ∧ d' 90 k = d 90 k ∧ d' 91 k = d 91 k) (g4 : d' 88 4 = iI (st.2.1 + 1 : Nat)) (g1 : d' 89 st.2.1 = iI (300 + x.1)) (g2 : 2 ≤ x.1 → d' 90 st.2.1 = iI x.2.1 ∧ d' 91 st.2.1 = iI x.2.2) (hn : st.2.1 < 24) (l1 : CLu d' 6 0 l.1 u') (l2 : CLu d' 8 1 l.2 u') : DR d' (addR st l x) u' := by
  obtain ⟨a, b, c, c2, f⟩ := h
  refine ⟨l1, l2, g4, by show st.2.1 + 1 ≤ 24; omega, fun k hk => ?_⟩
  have hk2 : k < st.2.1 + 1 := hk
  show d' 89 k = iI (300 + (if k = st.2.1 then x else st.2.2 k).1) ∧ (2 ≤ (if k = st.2.1 then x else st.2.2 k).1 → d' 90 k = iI (if k = st.2.1 then x else st.2.2 k).2.1 ∧ d' 91 k = iI (if k = st.2.1 then x else st.2.2 k).2.2)
  by_cases q : k = st.2.1
  · rw [if_pos q, q]; exact ⟨g1, g2⟩
  · rw [if_neg q, (g k q).1, (g k q).2.1, (g k q).2.2]; exact f k (by omega)
theorem c5_numF {d : aI} {e : aJ} {tp : Nat → Int} {L N : Nat} {n lo hi : Int} {p : Nat} (h : FS d tp L N n p) (hl : 0 ≤ lo ∧ lo ≤ hi ∧ hi ≤ 9999) : ∃ d' r, FX5_number d e (iI lo) (iI hi) = some (r, d', e) ∧ FS d' tp L N n p ∧ KC d d' := by
  obtain ⟨i, u, h1, h2, h3, h4⟩ := id h
  have kr := KT_in h1.2.1 (L := L) i
  have k10 := h1.2.2.2.2.2.2.1
  have k9 := h1.2.2.2.2.2.1
  have n3 := h1.1.1
  have iN := h1.2.2.2.1
  have vi := VT_in (tp := tp) (L := L) (t := i)
  have b1 := c5_blameF (e := e) (m := 1) h2 h4
  have b2 := c5_blameF (e := e) (m := 2) h2 h4
  by_cases q : KT tp L i = 1
  · have hiN : i < N := (h1.lt.1).mp (by omega)
    have v7 := h1.1.2.2.2.2.1 i hiN (kr.2.2.2 q)
    rw [q] at k10
    by_cases v : lo ≤ VT tp L i ∧ VT tp L i ≤ hi
    · obtain ⟨d', x, y, z⟩ := FS.next (e := e) h1 h2 h3 h4 hiN
      refine ⟨d', iI (VT tp L i), ?_, y, z⟩
      unfold FX5_number
      simp (disch := omega) only [nI_iI, lN_lJ, iI_0, lJ_0, iI_add, iI_sub, iI_mul, iI_neg, lJ_add, lJ_sub, lJ_mul, lJ_neg, i_l, l_i, iI_cl, iI_inb, iI_eqT, iI_eqF, iI_ltT, iI_ltF, iI_leT, iI_leF, lJ_eqT, lJ_eqF, lJ_cG, lJ_cE, lJ_cL, lJ_cF, lJ_cGE, lJ_cLE, lJ_cNL, lJ_cNG, Int.cast_ofNat_Int, c_0, c_1, Int.natCast_add, Int.add_zero, cond_true, cond_false, Bool.and_self, Bool.and_true, Bool.true_and, Option.bind_some, decide_true, uI_hit, uI_miss, uI_o, uA_o, uA_s, ↓reduceIte, eq_self, true_or, or_true, or_false, false_or, true_and, and_true, false_and, and_false, or_self, and_self, not_false_eq_true, not_true_eq_false, tn_i, Int.toNat_natCast, k10, k9, v7, x]
    · refine ⟨d, iI lo, ?_, h, KC.refl d⟩
      unfold FX5_number
      by_cases l : VT tp L i < lo
      · simp (disch := omega) only [nI_iI, lN_lJ, iI_0, lJ_0, iI_add, iI_sub, iI_mul, iI_neg, lJ_add, lJ_sub, lJ_mul, lJ_neg, i_l, l_i, iI_cl, iI_inb, iI_eqT, iI_eqF, iI_ltT, iI_ltF, iI_leT, iI_leF, lJ_eqT, lJ_eqF, lJ_cG, lJ_cE, lJ_cL, lJ_cF, lJ_cGE, lJ_cLE, lJ_cNL, lJ_cNG, Int.cast_ofNat_Int, c_0, c_1, Int.natCast_add, Int.add_zero, cond_true, cond_false, Bool.and_self, Bool.and_true, Bool.true_and, Option.bind_some, decide_true, uI_hit, uI_miss, uI_o, uA_o, uA_s, ↓reduceIte, eq_self, true_or, or_true, or_false, false_or, true_and, and_true, false_and, and_false, or_self, and_self, not_false_eq_true, not_true_eq_false, tn_i, Int.toNat_natCast, k10, k9, v7, b2]
      · simp (disch := omega) only [nI_iI, lN_lJ, iI_0, lJ_0, iI_add, iI_sub, iI_mul, iI_neg, lJ_add, lJ_sub, lJ_mul, lJ_neg, i_l, l_i, iI_cl, iI_inb, iI_eqT, iI_eqF, iI_ltT, iI_ltF, iI_leT, iI_leF, lJ_eqT, lJ_eqF, lJ_cG, lJ_cE, lJ_cL, lJ_cF, lJ_cGE, lJ_cLE, lJ_cNL, lJ_cNG, Int.cast_ofNat_Int, c_0, c_1, Int.natCast_add, Int.add_zero, cond_true, cond_false, Bool.and_self, Bool.and_true, Bool.true_and, Option.bind_some, decide_true, uI_hit, uI_miss, uI_o, uA_o, uA_s, ↓reduceIte, eq_self, true_or, or_true, or_false, false_or, true_and, and_true, false_and, and_false, or_self, and_self, not_false_eq_true, not_true_eq_false, tn_i, Int.toNat_natCast, k10, k9, v7, b2]
  · refine ⟨d, iI lo, ?_, h, KC.refl d⟩
    unfold FX5_number
    simp (disch := omega) only [nI_iI, lN_lJ, iI_0, lJ_0, iI_add, iI_sub, iI_mul, iI_neg, lJ_add, lJ_sub, lJ_mul, lJ_neg, i_l, l_i, iI_cl, iI_inb, iI_eqT, iI_eqF, iI_ltT, iI_ltF, iI_leT, iI_leF, lJ_eqT, lJ_eqF, lJ_cG, lJ_cE, lJ_cL, lJ_cF, lJ_cGE, lJ_cLE, lJ_cNL, lJ_cNG, Int.cast_ofNat_Int, c_0, c_1, Int.natCast_add, Int.add_zero, cond_true, cond_false, Bool.and_self, Bool.and_true, Bool.true_and, Option.bind_some, decide_true, uI_hit, uI_miss, uI_o, uA_o, uA_s, ↓reduceIte, eq_self, true_or, or_true, or_false, false_or, true_and, and_true, false_and, and_false, or_self, and_self, not_false_eq_true, not_true_eq_false, tn_i, k10, b1]
theorem CS.law {d : aI} {tp : Nat → Int} {L N i u : Nat} {s s2 : Int} (h : CS d tp L N s i u) : CS (uI d 83 11 (iI (300 + s2))) tp L N s2 i u := by
  have kd : KD d (uI d 83 11 (iI (300 + s2))) := KD.put (by omega)
  obtain ⟨⟨a1, a2, a3, a4, a5, a6, a7, a8⟩, b, c, f⟩ := h
  refine ⟨⟨a1.ofD kd, a2, a3, a4, a5, ?_, ?_, ?_⟩, ?_, ⟨uI_hit rfl, by rw [uI_miss (by omega)]; exact c.2⟩, f⟩
  · rw [uI_miss (by omega)]; exact a6
  · rw [uI_miss (by omega)]; exact a7
  · rw [uI_o (by omega)]; exact a8
  · rw [uI_miss (by omega)]; exact b
