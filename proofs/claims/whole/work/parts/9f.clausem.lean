/-! ===== the reference reads: a law's clause, a clause ===== -/
theorem smr_v {d : aI} {e : aJ} {v : Option Value} {q : aL × aI × aJ} (h : SMR d e = some q) : a_run stX11_summed (15, [some (.ref 108), v], d, e) = some q := by
  unfold SMR at h
  obtain ⟨n, hn⟩ := a_run_ex h
  cases n with
  | zero => cases hn
  | succ n => exact a_run_of (n := n + 1) hn
theorem m_lawc {d : aI} {e : aJ} {tp : Nat → Int} {L N i T x a : Nat} {s : Int} (tn : TN tp L N) (hN : N ≤ 300) (hT : TPM d tp L) (h : RT d e tp L i) (h12 : d 108 12 = iI ((681 * T : Nat) : Int)) (hT4 : T < 4) (h13 : d 108 13 = iI (a : Nat)) (ha : a ≤ psT tp L i) (h14 : d 108 14 = iI s) (hs : s = 0 ∨ s = 1) (hx : 681 * T ≤ x ∧ x + 2 < 681 * T + 73) : match pSum (KT tp L) (VT tp L) s (pOpd (KT tp L) (VT tp L) s 12) 0 i with
    | .inl b => ∃ d' e', FX11_lawClause d e (iI (x : Nat)) = some (iI b.1, d', e') ∧ (1 ≤ b.1 ∧ b.1 ≤ 6) ∧ d' 108 8 = iI (psT tp L b.2 : Nat) ∧ Kv (fun j => j = x + 1 ∨ j = x + 2 ∨ (681 * T + 73 ≤ j ∧ j < 681 * T + 681)) d d' e e'
    | .inr q => ∃ d' e' b O V, FX11_lawClause d e (iI (x : Nat)) = some (iI 0, d', e') ∧ TPM d' tp L ∧ RT d' e' tp L q.1 ∧ d' 108 13 = iI (b : Nat) ∧ b ≤ psT tp L q.1 ∧ d' 111 (x + 1) = iI (a : Nat) ∧ d' 111 (x + 2) = iI (b : Nat) ∧ RV s O V a b q.2 ∧ (∀ i : Nat, a ≤ i → i < b → d' 111 (681 * T + 73 + 2 * i) = iI (O i) ∧ d' 111 (681 * T + 73 + 2 * i + 1) = iI (V i)) ∧ (∀ j, 681 * T + 73 ≤ j → j < 681 * T + 73 + 2 * a → d' 111 j = d 111 j) ∧ Kv (fun j => j = x + 1 ∨ j = x + 2 ∨ (681 * T + 73 ≤ j ∧ j < 681 * T + 681)) d d' e e' ∧ i < q.1 := by
  have l3 := tn.1
  have pi := tn.2.2 i
  have x1n : ((x : Int) + 1).toNat = x + 1 := by omega
  have x2n : ((x : Int) + 2).toNat = x + 2 := by omega
  obtain ⟨d1, hd1⟩ : ∃ d1, d1 = uI (uI (uI (uI d 111 (x + 1) (iI (a : Nat))) 108 16 (iI 0)) 108 17 (iI 0)) 108 18 (iI 0) := ⟨_, rfl⟩
  have c108 : ∀ j, j ≠ 16 → j ≠ 17 → j ≠ 18 → d1 108 j = d 108 j := fun j j1 j2 j3 => by rw [hd1, uI_miss j3, uI_miss j2, uI_miss j1, uI_o (by omega)]
  have c111 : ∀ j, j ≠ x + 1 → d1 111 j = d 111 j := fun j j1 => by rw [hd1, uI_o (by omega), uI_o (by omega), uI_o (by omega), uI_miss j1]
  have k1 : Kv (fun j => j = x + 1 ∨ j = x + 2 ∨ (681 * T + 73 ≤ j ∧ j < 681 * T + 681)) d d1 e e := by
    rw [hd1]
    exact (Kv.put (Or.inl ⟨rfl, Or.inl rfl⟩)).trans ((Kv.put (by omega)).trans ((Kv.put (by omega)).trans (Kv.put (by omega))))
  have kmv : ∀ {d2 d3 : aI} {e2 e3 : aJ}, KM T d2 d3 e2 e3 → Kv (fun j => j = x + 1 ∨ j = x + 2 ∨ (681 * T + 73 ≤ j ∧ j < 681 * T + 681)) d2 d3 e2 e3 := fun k => ⟨fun o j a1 b1 c1 => k.1 o j a1 (by
    rcases b1 with z | z
    · exact Or.inl z
    · exact Or.inr (by omega)) (by omega), k.2⟩
  have ms : MS d1 e T s tp L i [] a 0 false (fun z => (d 111 (681 * T + 73 + 2 * z.toNat)).toInt) (fun z => (d 111 (681 * T + 73 + 2 * z.toNat + 1)).toInt) := by
    refine ⟨hT.of (c108 4 (by omega) (by omega) (by omega)) (by rw [hd1, uI_o (by omega), uI_o (by omega), uI_o (by omega), uI_o (by omega)]), h.of (fun j hj => c108 j (by omega) (by omega) (by omega)), ⟨by rw [c108 12 (by omega) (by omega) (by omega)]; exact h12, hT4⟩, ⟨by rw [c108 13 (by omega) (by omega) (by omega)]; exact h13, by omega⟩, ⟨by rw [c108 14 (by omega) (by omega) (by omega)]; exact h14, hs⟩, ⟨?_, by show 0 ≤ 100; omega⟩, ⟨trivial, fun o ho => (List.not_mem_nil ho).elim⟩, ⟨?_, by omega⟩, ?_, fun z hz => ?_⟩
    · rw [hd1, uI_miss (by omega), uI_miss (by omega), uI_hit rfl]; rfl
    · rw [hd1, uI_miss (by omega), uI_hit rfl]; rfl
    · rw [hd1, uI_hit rfl]; rfl
    · show d1 111 _ = Int32.ofInt ((d 111 (681 * T + 73 + 2 * ((z : Int)).toNat)).toInt) ∧ d1 111 _ = Int32.ofInt ((d 111 (681 * T + 73 + 2 * ((z : Int)).toNat + 1)).toInt)
      rw [Int.toNat_natCast, Int32.ofInt_toInt, Int32.ofInt_toInt, c111 _ (by omega), c111 _ (by omega)]
      exact ⟨rfl, rfl⟩
  have sm := m_sum (k := 0) (n := 12) tn hN (m_opd tn hN 12) (by omega) (by omega) d1 e i [] a _ _ ms ⟨fun _ => rfl, fun o r hr => by cases hr⟩ (by show 0 ≤ _; omega) ha
  have st0 : ∀ q, SMR d1 e = some q → a_run stX11_summed (0, [some (.ref 108), none], uI d 111 (x + 1) (iI (a : Nat)), e) = some q := by
    intro q hq
    rw [a_run_step (st := stX11_summed) (p2 := (15, [some (.ref 108), none], d1, e)) (by
      show sX11_summed_0 _ _ = _
      rw [hd1]
      unfold sX11_summed_0
      simp (disch := omega) only [nI_iI, lN_lJ, iI_0, lJ_0, iI_add, iI_sub, iI_mul, iI_neg, lJ_add, lJ_sub, lJ_mul, lJ_neg, i_l, l_i, iI_cl, iI_inb, iI_eqT, iI_eqF, iI_ltT, iI_ltF, iI_leT, iI_leF, lJ_eqT, lJ_eqF, lJ_cG, lJ_cE, lJ_cL, lJ_cF, lJ_cGE, lJ_cLE, lJ_cNL, lJ_cNG, Int.cast_ofNat_Int, c_0, c_1, Int.natCast_add, Int.add_zero, cond_true, cond_false, Bool.and_self, Bool.and_true, Bool.true_and, Option.bind_some, decide_true, uI_hit, uI_miss, uI_o, uA_o, uA_s, ↓reduceIte, eq_self, true_or, or_true, or_false, false_or, true_and, and_true, false_and, and_false, or_self, and_self, not_false_eq_true, not_true_eq_false, tn_i, decide_eq_true]) rfl]
    exact smr_v hq
  cases hp : pSum (KT tp L) (VT tp L) s (pOpd (KT tp L) (VT tp L) s 12) 0 i with
  | inl b =>
    rw [hp] at sm
    obtain ⟨b16, d2, e2, x1, x2, x3⟩ := sm
    have fs : FX11_summed (uI d 111 (x + 1) (iI (a : Nat))) e = some (iI b.1, d2, e2) := by
      unfold FX11_summed
      rw [st0 _ x1]; rfl
    refine ⟨uI d2 111 (x + 2) (d2 108 13), e2, ?_, b16, by rw [uI_o (by omega)]; exact x2, k1.trans ((kmv x3).trans (Kv.put (Or.inl ⟨rfl, Or.inr (Or.inl rfl)⟩)))⟩
    unfold FX11_lawClause
    simp (disch := omega) only [nI_iI, lN_lJ, iI_0, lJ_0, iI_add, iI_sub, iI_mul, iI_neg, lJ_add, lJ_sub, lJ_mul, lJ_neg, i_l, l_i, iI_cl, iI_inb, iI_eqT, iI_eqF, iI_ltT, iI_ltF, iI_leT, iI_leF, lJ_eqT, lJ_eqF, lJ_cG, lJ_cE, lJ_cL, lJ_cF, lJ_cGE, lJ_cLE, lJ_cNL, lJ_cNG, Int.cast_ofNat_Int, c_0, c_1, Int.natCast_add, Int.add_zero, cond_true, cond_false, Bool.and_self, Bool.and_true, Bool.true_and, Option.bind_some, decide_true, uI_hit, uI_miss, uI_o, uA_o, uA_s, ↓reduceIte, eq_self, true_or, or_true, or_false, false_or, true_and, and_true, false_and, and_false, or_self, and_self, not_false_eq_true, not_true_eq_false, tn_i, x1n, x2n, h13, fs]
  | inr q =>
    rw [hp] at sm
    obtain ⟨d2, e2, O2, V2, b, pend, y1, y2, y3, y4, y5, y6, y7, y8, y9, y10, y11⟩ := sm
    have pq := tn.2.2 q.1
    have y41 : ∀ o, o ∈ pend → 1 ≤ rkO o := fun o hx => by have := y4 o hx; omega
    have on : opN (pend ++ []) = -1 := opN_app pend [] y41
    have bt := btO_n (pl := pend ++ []) y11.1.2 y11.2
    rw [on, if_neg (by decide)] at bt
    have pt : ptO (KT tp L q.1) (pend ++ []) = -1 := by
      unfold ptO
      rw [on, if_neg (by decide), if_neg (by decide), if_neg (by decide), if_neg (by decide)]
    have no := h_no y2 bt pt
    have onw := y2.on.1
    rw [on] at onw
    obtain ⟨d3, O3, V3, z1, z2, z3, z4, z5, z6⟩ := MS.settle (k := 0) (lvl := 1) (by omega) y2 (fun o r hr => by cases hr) y41 (by omega)
    have re := run_e (v := some (.int (iI 0))) y2.w1 no onw z1
    have sm2 : SMR d1 e = some ([some (.int (iI 0))], d3, e2) := y1.trans re
    have fs : FX11_summed (uI d 111 (x + 1) (iI (a : Nat))) e = some (iI 0, d3, e2) := by
      unfold FX11_summed
      rw [st0 _ sm2]; rfl
    have c13 : d3 108 13 = iI ((b : Int) + (pend.length : Int)) := z2.2.2.2.1.1
    have k3 := k1.trans ((kmv y7).trans (kmv z3))
    have cells := z2.2.2.2.2.2.2.2.2.2
    have rv : RV s O3 V3 a (b + pend.length : Nat) q.2 := pd_rv y3 z4 z5 (fun _ _ => ⟨rfl, rfl⟩)
    have ab := rv.2.1
    have c0 : ∀ z : Nat, z < a → d3 111 (681 * T + 73 + 2 * z) = d 111 (681 * T + 73 + 2 * z) ∧ d3 111 (681 * T + 73 + 2 * z + 1) = d 111 (681 * T + 73 + 2 * z + 1) := fun z hz => by
      have u1 := cells z (by omega)
      have u2 := z4 z (by omega)
      have u3 := y6 z (by omega)
      rw [u2.1, u2.2, u3.1, u3.2] at u1
      have u4 : d3 111 (681 * T + 73 + 2 * z) = Int32.ofInt ((d 111 (681 * T + 73 + 2 * ((z : Int)).toNat)).toInt) ∧ d3 111 (681 * T + 73 + 2 * z + 1) = Int32.ofInt ((d 111 (681 * T + 73 + 2 * ((z : Int)).toNat + 1)).toInt) := u1
      rw [Int.toNat_natCast, Int32.ofInt_toInt, Int32.ofInt_toInt] at u4
      exact u4
    refine ⟨uI d3 111 (x + 2) (iI ((b : Int) + (pend.length : Int))), e2, b + pend.length, O3, V3, ?_, z2.1.of (by rw [uI_o (by omega)]) (by rw [uI_o (by omega)]), z2.2.1.of (fun j hj => by rw [uI_o (by omega)]), by rw [uI_o (by omega)]; exact c13, by omega, ?_, uI_hit rfl, rv, fun z z7 z8 => ?_, fun j j1 j2 => ?_, k3.trans (Kv.put (Or.inl ⟨rfl, Or.inr (Or.inl rfl)⟩)), y8⟩
    · unfold FX11_lawClause
      simp (disch := omega) only [nI_iI, lN_lJ, iI_0, lJ_0, iI_add, iI_sub, iI_mul, iI_neg, lJ_add, lJ_sub, lJ_mul, lJ_neg, i_l, l_i, iI_cl, iI_inb, iI_eqT, iI_eqF, iI_ltT, iI_ltF, iI_leT, iI_leF, lJ_eqT, lJ_eqF, lJ_cG, lJ_cE, lJ_cL, lJ_cF, lJ_cGE, lJ_cLE, lJ_cNL, lJ_cNG, Int.cast_ofNat_Int, c_0, c_1, Int.natCast_add, Int.add_zero, cond_true, cond_false, Bool.and_self, Bool.and_true, Bool.true_and, Option.bind_some, decide_true, uI_hit, uI_miss, uI_o, uA_o, uA_s, ↓reduceIte, eq_self, true_or, or_true, or_false, false_or, true_and, and_true, false_and, and_false, or_self, and_self, not_false_eq_true, not_true_eq_false, tn_i, x1n, x2n, h13, fs, c13]
    · rw [uI_miss (by omega), z3.1 111 (x + 1) (by omega) (Or.inr (by omega)) (Or.inl (by omega)), y7.1 111 (x + 1) (by omega) (Or.inr (by omega)) (Or.inl (by omega)), hd1, uI_o (by omega), uI_o (by omega), uI_o (by omega), uI_hit rfl]
    · rw [uI_miss (by omega), uI_miss (by omega)]
      exact cells z (by omega)
    · rw [uI_miss (by omega)]
      have u := c0 ((j - (681 * T + 73)) / 2) (by omega)
      by_cases ev : (j - (681 * T + 73)) % 2 = 0
      · have u1 := u.1
        rw [show 681 * T + 73 + 2 * ((j - (681 * T + 73)) / 2) = j by omega] at u1
        exact u1
      · have u1 := u.2
        rw [show 681 * T + 73 + 2 * ((j - (681 * T + 73)) / 2) + 1 = j by omega] at u1
        exact u1
/-- the draft, by the reference -/
def MLu (d : aI) (T : Nat) (s : Int) (st : Rd) (u : Nat) (y : Option Fn) : Prop := match y with
  | none => ∀ k, k < st.2.1 → (st.2.2 k).1 ≠ s
  | some f => ∃ (k a b : Nat) (O V : Int → Int), (k < st.2.1 ∧ (st.2.2 k).1 = s) ∧ (∀ j, j < k → (st.2.2 j).1 ≠ s) ∧ d 111 (681 * T + 1 + 3 * k + 1) = iI (a : Nat) ∧ d 111 (681 * T + 1 + 3 * k + 2) = iI (b : Nat) ∧ RV s O V a b f ∧ b ≤ u ∧ (∀ i : Nat, a ≤ i → i < b → d 111 (681 * T + 73 + 2 * i) = iI (O i) ∧ d 111 (681 * T + 73 + 2 * i + 1) = iI (V i))
def MDR (d : aI) (T : Nat) (st : Rd) (u : Nat) : Prop := MLu d T 0 st u st.1.1 ∧ MLu d T 1 st u st.1.2 ∧ d 111 (681 * T) = iI (st.2.1 : Nat) ∧ st.2.1 ≤ 24 ∧ ∀ k, k < st.2.1 → d 111 (681 * T + 1 + 3 * k) = iI (st.2.2 k).1 ∧ (2 ≤ (st.2.2 k).1 → d 111 (681 * T + 1 + 3 * k + 1) = iI (st.2.2 k).2.1 ∧ (((st.2.2 k).1 = 2 ∨ (st.2.2 k).1 = 3 ∨ (st.2.2 k).1 = 4) → d 111 (681 * T + 1 + 3 * k + 2) = iI (st.2.2 k).2.2))
theorem MLu.keep {d d' : aI} {T u u' : Nat} {s : Int} {st : Rd} {y : Option Fn} {l : Option Fn × Option Fn} {x : Int × Int × Int} (h : MLu d T s st u y) (h24 : st.2.1 ≤ 24) (g1 : ∀ j, 681 * T + 1 ≤ j → j < 681 * T + 1 + 3 * st.2.1 → d' 111 j = d 111 j) (g2 : ∀ j, 681 * T + 73 ≤ j → j < 681 * T + 73 + 2 * u → d' 111 j = d 111 j) (hx : x.1 ≠ s) (hu : u ≤ u') : MLu d' T s (addR st l x) u' y := by
  have ne : ∀ k, k < st.2.1 → ((addR st l x).2.2 k) = st.2.2 k := fun k hk => by
    show (if k = st.2.1 then x else st.2.2 k) = _
    rw [if_neg (by omega)]
  cases y with
  | none =>
    intro k hk
    have hk2 : k < st.2.1 + 1 := hk
    by_cases q : k = st.2.1
    · show (if k = st.2.1 then x else st.2.2 k).1 ≠ s
      rw [if_pos q]; exact hx
    · rw [ne k (by omega)]
      exact h k (by omega)
  | some f =>
    obtain ⟨k, a, b, O, V, ⟨h1, h2⟩, h3, h4, h5, h6, h7, h8⟩ := h
    refine ⟨k, a, b, O, V, ⟨by show k < st.2.1 + 1; omega, by rw [ne k h1]; exact h2⟩, fun j hj => by rw [ne j (by omega)]; exact h3 j hj, by rw [g1 _ (by omega) (by omega)]; exact h4, by rw [g1 _ (by omega) (by omega)]; exact h5, h6, by omega, fun i i1 i2 => ?_⟩
    rw [g2 _ (by omega) (by omega), g2 _ (by omega) (by omega)]
    exact h8 i i1 i2
theorem MDR.add {d d' : aI} {T u u' : Nat} {st : Rd} {l : Option Fn × Option Fn} {x : Int × Int × Int} (h : MDR d T st u) (g1 : ∀ j, 681 * T + 1 ≤ j → j < 681 * T + 1 + 3 * st.2.1 → d' 111 j = d 111 j) (hn : st.2.1 < 24) (h0 : d' 111 (681 * T) = iI (st.2.1 + 1 : Nat)) (hx : d' 111 (681 * T + 1 + 3 * st.2.1) = iI x.1) (h2 : 2 ≤ x.1 → d' 111 (681 * T + 1 + 3 * st.2.1 + 1) = iI x.2.1 ∧ ((x.1 = 2 ∨ x.1 = 3 ∨ x.1 = 4) → d' 111 (681 * T + 1 + 3 * st.2.1 + 2) = iI x.2.2)) (l1 : MLu d' T 0 (addR st l x) u' l.1) (l2 : MLu d' T 1 (addR st l x) u' l.2) : MDR d' T (addR st l x) u' := by
  obtain ⟨a, b, c, c2, f⟩ := h
  refine ⟨l1, l2, h0, by show st.2.1 + 1 ≤ 24; omega, fun k hk => ?_⟩
  have hk2 : k < st.2.1 + 1 := hk
  show d' 111 (681 * T + 1 + 3 * k) = iI (if k = st.2.1 then x else st.2.2 k).1 ∧ (2 ≤ (if k = st.2.1 then x else st.2.2 k).1 → d' 111 (681 * T + 1 + 3 * k + 1) = iI (if k = st.2.1 then x else st.2.2 k).2.1 ∧ (((if k = st.2.1 then x else st.2.2 k).1 = 2 ∨ (if k = st.2.1 then x else st.2.2 k).1 = 3 ∨ (if k = st.2.1 then x else st.2.2 k).1 = 4) → d' 111 (681 * T + 1 + 3 * k + 2) = iI (if k = st.2.1 then x else st.2.2 k).2.2))
  by_cases q : k = st.2.1
  · rw [if_pos q, q]; exact ⟨hx, h2⟩
  · rw [if_neg q, g1 _ (by omega) (by omega), g1 _ (by omega) (by omega), g1 _ (by omega) (by omega)]
    exact f k (by omega)
noncomputable def clT (d : aI) (e : aJ) (x1 n : Int32) : Option (Int32 × aI × aJ) := ((FX11_nextToken d e).bind fun q7 => (bif ((a_inb (((q7.2.1 108 12) + (nI 1)) + ((nI 3) * n)) 2724)) then ((FX11_body (uI q7.2.1 111 ((((q7.2.1 108 12) + (nI 1)) + ((nI 3) * n))).toNatClampNeg x1) q7.2.2 x1 (((q7.2.1 108 12) + (nI 1)) + ((nI 3) * n))).bind fun q9 => (if q9.1 = 0 then (bif ((a_inb (q9.2.1 108 12) 2724) && (a_inb (q9.2.1 108 12) 2724)) then (if (q9.2.1 108 9) = (nI 59) then ((FX11_nextToken (uI q9.2.1 111 ((q9.2.1 108 12)).toNatClampNeg ((q9.2.1 111 ((q9.2.1 108 12)).toNatClampNeg) + (nI 1))) q9.2.2).bind fun q13 => (some ((nI 0), q13.2.1, q13.2.2))) else (some ((nI 1), (uI q9.2.1 111 ((q9.2.1 108 12)).toNatClampNeg ((q9.2.1 111 ((q9.2.1 108 12)).toNatClampNeg) + (nI 1))), q9.2.2))) else none) else (some (q9.1, q9.2.1, q9.2.2)))) else none))
theorem cl_eq {d : aI} {e : aJ} : FX11_clause d e = (FX11_sortOf d e).bind fun q1 => (if 0 ≤ q1.1 then (if (nI 1) < q1.1 then (bif (a_inb (q1.2.1 108 12) 2724) then (if (q1.2.1 111 ((q1.2.1 108 12)).toNatClampNeg) = (nI 24) then (some ((nI 6), q1.2.1, q1.2.2)) else (if (nI 1) < q1.1 then clT (uI q1.2.1 108 14 q1.1) q1.2.2 q1.1 (q1.2.1 111 ((q1.2.1 108 12)).toNatClampNeg) else clT (uI (uI q1.2.1 108 19 ((q1.2.1 108 19) ||| (a_shl (nI 1) q1.1))) 108 14 q1.1) q1.2.2 q1.1 (q1.2.1 111 ((q1.2.1 108 12)).toNatClampNeg))) else none) else ((FX11_has q1.2.1 q1.2.2 (q1.2.1 108 19) q1.1).bind fun q21 => (if q21.1 = 0 then (bif (a_inb (q21.2.1 108 12) 2724) then (if (q21.2.1 111 ((q21.2.1 108 12)).toNatClampNeg) = (nI 24) then (some ((nI 6), q21.2.1, q21.2.2)) else (if (nI 1) < q1.1 then clT (uI q21.2.1 108 14 q1.1) q21.2.2 q1.1 (q21.2.1 111 ((q21.2.1 108 12)).toNatClampNeg) else clT (uI (uI q21.2.1 108 19 ((q21.2.1 108 19) ||| (a_shl (nI 1) q1.1))) 108 14 q1.1) q21.2.2 q1.1 (q21.2.1 111 ((q21.2.1 108 12)).toNatClampNeg))) else none) else (some ((nI 4), q21.2.1, q21.2.2))))) else (some ((nI 1), q1.2.1, q1.2.2))) := rfl
/-- a clause but its beginning -/
theorem m_clT {d d1 : aI} {e e1 : aJ} {T n x : Nat} {s : Int} (n1 : FX11_nextToken d e = some ((), d1, e1)) (h12 : d1 108 12 = iI ((681 * T : Nat) : Int)) (hT : T < 4) (hn : n < 24) (hx : x = 681 * T + 1 + 3 * n) :
    (∀ f d2 e2, 1 ≤ f ∧ f ≤ 6 → FX11_body (uI d1 111 x (iI s)) e1 (iI s) (iI (x : Nat)) = some (iI f, d2, e2) → clT d e (iI s) (iI (n : Nat)) = some (iI f, d2, e2)) ∧
    (∀ d2 e2, FX11_body (uI d1 111 x (iI s)) e1 (iI s) (iI (x : Nat)) = some (iI 0, d2, e2) → d2 108 12 = iI ((681 * T : Nat) : Int) → d2 111 (681 * T) = iI (n : Nat) → (∀ r, d2 108 9 = iI r → 0 ≤ r ∧ r ≤ 62 → (r = 59 → ∀ d3 e3, FX11_nextToken (uI d2 111 (681 * T) (iI (n + 1 : Nat))) e2 = some ((), d3, e3) → clT d e (iI s) (iI (n : Nat)) = some (iI 0, d3, e3)) ∧ (r ≠ 59 → clT d e (iI s) (iI (n : Nat)) = some (iI 1, uI d2 111 (681 * T) (iI (n + 1 : Nat)), e2)))) := by
  have hX : 681 * T < 2724 := by omega
  have hx2 : (x : Int) = ((681 * T : Nat) : Int) + 1 + 3 * (n : Int) := by omega
  have hxl : x < 2724 := by omega
  have t1 : (((681 * T : Nat) : Int) + 1 + 3 * (n : Int)).toNat = x := by omega
  clear hx
  generalize 681 * T = Y at *
  refine ⟨fun f d2 e2 hf hb => ?_, fun d2 e2 hb g12 g111 r hr hr2 => ⟨fun h59 d3 e3 n3 => ?_, fun h59 => ?_⟩⟩
  · rw [hx2] at hb
    unfold clT
    simp (disch := omega) only [nI_iI, lN_lJ, iI_0, lJ_0, iI_add, iI_sub, iI_mul, iI_neg, lJ_add, lJ_sub, lJ_mul, lJ_neg, i_l, l_i, iI_cl, iI_inb, iI_eqT, iI_eqF, iI_ltT, iI_ltF, iI_leT, iI_leF, lJ_eqT, lJ_eqF, lJ_cG, lJ_cE, lJ_cL, lJ_cF, lJ_cGE, lJ_cLE, lJ_cNL, lJ_cNG, Int.cast_ofNat_Int, c_0, c_1, Int.natCast_add, Int.add_zero, cond_true, cond_false, Bool.and_self, Bool.and_true, Bool.true_and, Option.bind_some, decide_true, uI_hit, uI_miss, uI_o, uA_o, uA_s, ↓reduceIte, eq_self, true_or, or_true, or_false, false_or, true_and, and_true, false_and, and_false, or_self, and_self, not_false_eq_true, not_true_eq_false, tn_i, Int.toNat_natCast, n1, h12, t1, hb]
  · rw [hx2] at hb
    have n3' : FX11_nextToken (uI d2 111 Y (iI ((n : Int) + 1))) e2 = some ((), d3, e3) := n3
    rw [h59] at hr
    unfold clT
    simp (disch := omega) only [nI_iI, lN_lJ, iI_0, lJ_0, iI_add, iI_sub, iI_mul, iI_neg, lJ_add, lJ_sub, lJ_mul, lJ_neg, i_l, l_i, iI_cl, iI_inb, iI_eqT, iI_eqF, iI_ltT, iI_ltF, iI_leT, iI_leF, lJ_eqT, lJ_eqF, lJ_cG, lJ_cE, lJ_cL, lJ_cF, lJ_cGE, lJ_cLE, lJ_cNL, lJ_cNG, Int.cast_ofNat_Int, c_0, c_1, Int.natCast_add, Int.add_zero, cond_true, cond_false, Bool.and_self, Bool.and_true, Bool.true_and, Option.bind_some, decide_true, uI_hit, uI_miss, uI_o, uA_o, uA_s, ↓reduceIte, eq_self, true_or, or_true, or_false, false_or, true_and, and_true, false_and, and_false, or_self, and_self, not_false_eq_true, not_true_eq_false, tn_i, Int.toNat_natCast, n1, h12, t1, hb, g12, g111, hr, n3']
  · show clT d e (iI s) (iI (n : Nat)) = some (iI 1, uI d2 111 Y (iI ((n : Int) + 1)), e2)
    rw [hx2] at hb
    unfold clT
    simp (disch := omega) only [nI_iI, lN_lJ, iI_0, lJ_0, iI_add, iI_sub, iI_mul, iI_neg, lJ_add, lJ_sub, lJ_mul, lJ_neg, i_l, l_i, iI_cl, iI_inb, iI_eqT, iI_eqF, iI_ltT, iI_ltF, iI_leT, iI_leF, lJ_eqT, lJ_eqF, lJ_cG, lJ_cE, lJ_cL, lJ_cF, lJ_cGE, lJ_cLE, lJ_cNL, lJ_cNG, Int.cast_ofNat_Int, c_0, c_1, Int.natCast_add, Int.add_zero, cond_true, cond_false, Bool.and_self, Bool.and_true, Bool.true_and, Option.bind_some, decide_true, uI_hit, uI_miss, uI_o, uA_o, uA_s, ↓reduceIte, eq_self, true_or, or_true, or_false, false_or, true_and, and_true, false_and, and_false, or_self, and_self, not_false_eq_true, not_true_eq_false, tn_i, Int.toNat_natCast, n1, h12, t1, hb, g12, g111, hr]
