/-! ===== what a step leaves ===== -/
theorem CN.ag {d : aI} {w : Nat} {A B : Int → Int} (h : CN d w A) (hW : WN A) (g : Ag A B) : CN d w B := by
  obtain ⟨q8, q9, q10, q11, q12, q3, q4, q5, q6, q7, qh, qt, qb⟩ := h
  have w0 := hW.1
  have w1 := hW.2.1
  have w11 := hW.2.2.2.2.1
  have g0 := g 0 (by omega)
  have g1 := g 1 (by omega)
  have g11 := g 11 (by omega)
  unfold CN
  rw [← g0, ← g1, ← g 9 (by omega), ← g 10 (by omega), ← g11]
  refine ⟨q8, q9, q10, q11, q12, fun j hj => ?_, fun j hj => ?_, fun j hj => ?_, fun j hj => ?_, fun j hj => ?_, fun j hj => ?_, fun j hj => ?_, fun j hj => ?_⟩
  · rw [← g (42 + j) (by omega)]; exact q3 j hj
  · rw [← g (30 + 2 * j) (by omega)]; exact q4 j hj
  · rw [← g (30 + 2 * j + 1) (by omega)]; exact q5 j hj
  · rw [← g (54 + j) (by omega)]; exact q6 j hj
  · rw [← g (12 + 3 * j) (by omega)]; exact q7 j hj
  · rw [← g (12 + 3 * j + 1) (by omega)]; exact qh j hj
  · rw [← g (12 + 3 * j + 2) (by omega)]; exact qt j hj
  · rw [← g (1936 + j) (by omega)]; exact qb j hj
theorem row_ag {A B : Int → Int} (g : ∀ j : Int, 42 ≤ j → j < 1936 → A j = B j) {s : Int} (hs : 0 ≤ s ∧ s < 30) : Ag (rowT A s) (rowT B s) := by
  intro j hj
  by_cases h0 : j = 0
  · subst h0
    rw [rowT_0, rowT_0, g _ (by omega) (by omega)]
  · by_cases h1 : j = 1
    · subst h1
      rw [rowT_1, rowT_1, g _ (by omega) (by omega)]
    · by_cases h9 : 9 ≤ j ∧ j < 42
      · rw [rowT_n h9, rowT_n h9, g _ (by omega) (by omega)]
      · by_cases hb : 1936 ≤ j ∧ j < 1961
        · rw [rowT_b hb, rowT_b hb, g _ (by omega) (by omega)]
        · rw [rowT_o (by omega), rowT_o (by omega), g _ (by omega) (by omega)]
theorem RG.ag {d : aI} {w : Nat} {A B : Int → Int} (h : RG d w A) (h4 : B 4 = A 4) (h30 : A 4 ≤ 30) (hr : ∀ s : Int, 0 ≤ s → s < A 4 → WN (rowT A s)) (g : ∀ j : Int, 42 ≤ j → j < 1936 → A j = B j) : RG d w B := by
  obtain ⟨f, f0, f1, g1, g2, gr⟩ := h
  refine ⟨f, f0, f1, g1, by rw [h4]; exact g2, fun s s0 s1 => ?_⟩
  rw [h4] at s1
  have y := hr s s0 s1
  have y0 := y.1
  have y1 := y.2.1
  have y11 := y.2.2.2.2.1
  exact (gr s s0 s1).ag (row_ag g (by omega)) (by omega)
theorem SI.step {A A' : Int → Int} (hS : SI A) (hW : WN A') (ho : ∀ j : Int, ((0 ≤ j ∧ j < 9) ∨ (42 ≤ j ∧ j < 1936)) → A' j = keepS A j) : SI A' := by
  have hK := keepS_si hS
  have h4 := hS.2.1
  have hk := kp_in h4
  have e4 : keepS A 4 = kpN A + 1 := by unfold keepS; rw [if_pos rfl]
  obtain ⟨kw, k4, k2, k3, kr, kn⟩ := hK
  have o0 := ho 0 (by omega)
  have o1 := ho 1 (by omega)
  have w0 := kw.1
  have w1 := kw.2.1
  refine ⟨hW, by rw [ho 4 (by omega)]; exact k4, by rw [ho 2 (by omega)]; exact k2, by rw [ho 3 (by omega), ho 2 (by omega)]; exact k3, fun s s0 s1 => ?_, ?_⟩
  · rw [ho 4 (by omega)] at s1
    obtain ⟨r1, r2⟩ := kr s s0 s1
    have g := row_ag (A := keepS A) (B := A') (fun j a b => (ho j (by omega)).symm) (s := s) (by omega)
    have y0 := r1.1
    have y1 := r1.2.1
    refine ⟨r1.ag g, ?_⟩
    unfold stT at r2 ⊢
    rw [ho 4 (by omega)]
    by_cases h : s + 1 < keepS A 4
    · rw [if_pos h] at r2 ⊢
      have y2 := (kr (s + 1) (by omega) h).1.1
      have y3 := (kr (s + 1) (by omega) h).1.2.1
      exact r2.ag g (row_ag (fun j a b => (ho j (by omega)).symm) (by omega)) (by omega)
    · rw [if_neg h]
      have ek : s = kpN A := by omega
      have n0 := keepS_new h4 0 (by omega)
      have n1 := keepS_new h4 1 (by omega)
      rw [← ek] at n0 n1
      have c0 : keepS A 0 = A 0 := keepS_o h4 (by omega)
      have c1 : keepS A 1 = A 1 := keepS_o h4 (by omega)
      have u0 := g 0 (by omega)
      have u1 := g 1 (by omega)
      exact ⟨by omega, by omega, fun c a b => by omega, fun h a b => by omega⟩
  · rw [ho 5 (by omega), ho 6 (by omega), ho 7 (by omega), ho 8 (by omega), o0, o1]
    obtain ⟨n5, n6, n7, n8⟩ := kn
    refine ⟨⟨n5.1, fun i a b => ?_⟩, ⟨n6.1, fun i a b => ?_⟩, ⟨n7.1, fun i a b => ?_⟩, ⟨n8.1, fun i a b => ?_⟩⟩
    · rw [ho _ (by omega), ho _ (by omega)]; exact n5.2 i a b
    · rw [ho _ (by omega), ho _ (by omega)]; exact n6.2 i a b
    · rw [ho _ (by omega), ho _ (by omega)]; exact n7.2 i a b
    · rw [ho _ (by omega), ho _ (by omega), ho _ (by omega)]; exact n8.2 i a b
theorem NT.ag {d : aI} {o : Nat} {A B : Int → Int} {cnt base wid most : Int} (h : NT d o A cnt base wid most) (h0 : B cnt = A cnt) (hb : ∀ j : Nat, (j : Int) < A cnt → B (base + wid * j) = A (base + wid * j) ∧ B (base + wid * j + 1) = A (base + wid * j + 1)) : NT d o B cnt base wid most := by
  obtain ⟨a, b, c, e⟩ := h
  unfold NT
  rw [h0]
  exact ⟨a, b, fun j hj => by rw [(hb j hj).1]; exact c j hj, fun j hj => by rw [(hb j hj).2]; exact e j hj⟩
theorem CW.step {d d' : aI} {A A' : Int → Int} (h : CW d 1 A) (hS : SI A) (hC : CN d' 1 A') (hG : RG d' 1 (keepS A)) (hf : ∀ k, k = 1 ∨ (13 ≤ k ∧ k < 29) → d' k = d k) (ho : ∀ j : Int, ((0 ≤ j ∧ j < 9) ∨ (42 ≤ j ∧ j < 1936)) → A' j = keepS A j) : CW d' 1 A' := by
  obtain ⟨c1, c2, c3, c4, c5, c6, c7, c8, c9⟩ := h
  have h4 := hS.2.1
  have hn := hS.2.2.2.2.2
  have hK := keepS_si hS
  have q : ∀ j : Int, ((0 ≤ j ∧ j < 9 ∧ j ≠ 4) ∨ (42 ≤ j ∧ j < 136)) → A' j = A j := fun j hj => (ho j (by omega)).trans (keepS_o h4 (by omega))
  refine ⟨hC, hG.ag (ho 4 (by omega)) hK.2.1.2 (fun s a b => (hK.2.2.2.2.1 s a b).1) (fun j a b => (ho j (by omega)).symm), ?_, ?_, ?_, ?_, ?_, ?_, ?_⟩
  · rw [hf 1 (by omega), q 2 (by omega)]; exact c3
  · rw [hf 1 (by omega), q 3 (by omega)]; exact c4
  · exact (c5.of (fun k a b => hf k (by omega))).ag (q 5 (by omega)) (fun j hj => ⟨q _ (by omega), q _ (by omega)⟩)
  · exact (c6.of (fun k a b => hf k (by omega))).ag (q 6 (by omega)) (fun j hj => ⟨q _ (by omega), q _ (by omega)⟩)
  · exact (c7.of (fun k a b => hf k (by omega))).ag (q 7 (by omega)) (fun j hj => ⟨q _ (by omega), q _ (by omega)⟩)
  · exact (c8.of (fun k a b => hf k (by omega))).ag (q 8 (by omega)) (fun j hj => ⟨q _ (by omega), q _ (by omega)⟩)
  · rw [hf 28 (by omega), q 8 (by omega)]
    intro j hj
    rw [q _ (by omega)]
    exact c9 j hj
theorem CI.step {d d' : aI} {S : aS} {A' : Int → Int} (h : CI d S) (hC : CW d' 1 A') (hf : ∀ k, 29 ≤ k → k < 85 → d' k = d k) (h2 : A' 2 = S.1 2) (hs : S.1 2 ≤ 4) : CI d' (A', S.2) := by
  obtain ⟨h1, h2', h3, h4, h5, h6, h7, h8⟩ := h
  refine ⟨hC, h2'.of (fun k a b => hf k (by omega) (by omega)), fun t ht => ?_, ?_, ?_, ?_, ?_, ?_⟩
  · have ht2 : (t : Int) < S.1 2 := by rw [← h2]; exact ht
    exact (h3 t ht2).of (fun k a b => hf k (by omega) (by omega))
  · rw [hf 78 (by omega) (by omega)]; exact h4
  · rw [hf 83 (by omega) (by omega)]; exact h5
  · rw [hf 83 (by omega) (by omega)]; exact h6
  · rw [hf 83 (by omega) (by omega)]; exact h7
  · rw [hf 84 (by omega) (by omega)]; exact h8
theorem MI.step {d d' : aI} {S : aS} {A' : Int → Int} (h : MI d S) (hA : MA d' 109 A') (hf : Kr d d') (h2 : A' 2 = S.1 2) : MI d' (A', S.2) := by
  obtain ⟨h1, h2', h3, h4, h5, h6, h7, h8⟩ := h
  refine ⟨hA, h2'.of (hf.1 110 (by omega) (by omega) (by omega)), fun t ht => ?_, ?_, ?_, ?_, ?_, ?_⟩
  · have ht2 : (t : Int) < S.1 2 := by rw [← h2]; exact ht
    exact (h3 t ht2).of (hf.1 111 (by omega) (by omega) (by omega))
  · rw [hf.2 4 (by omega)]; exact h4
  · rw [hf.2 5 (by omega)]; exact h5
  · rw [hf.2 6 (by omega)]; exact h6
  · rw [hf.1 112 (by omega) (by omega) (by omega)]; exact h7
  · rw [hf.2 23 (by omega)]; exact h8
theorem sOK.step {S : aS} {A' : Int → Int} (h : sOK S) (hS : SI A') (h2 : A' 2 = S.1 2) : sOK (A', S.2) := by
  obtain ⟨a, b, c, e, f, g⟩ := h
  refine ⟨hS, b, ?_, fun t ht => ?_, f, g⟩
  · show S.2.1 2 ≤ A' 2
    rw [h2]; exact c
  · have ht2 : (t : Int) < S.1 2 := by rw [← h2]; exact ht
    exact e t ht2
/-! which text rules -/
def RU (d : aI) (A : Int → Int) (y0 y1 : Option (En → Int)) : Prop :=
  d 1 6 = iI (A 2) ∧ d 1 7 = iI (A 3) ∧ (0 ≤ A 2 ∧ A 2 ≤ 4) ∧ ((A 3 = -1 ∧ CL d 78 6 0 y0 ∧ CL d 78 8 1 y1) ∨ (0 ≤ A 3 ∧ A 3 < A 2 ∧ CL d (58 + 5 * (A 3).toNat) 6 0 y0 ∧ CL d (58 + 5 * (A 3).toNat) 8 1 y1))
theorem CL.of {d d' : aI} {o j : Nat} {s : Int} {y : Option (En → Int)} (h : CL d o j s y) (g : d' o = d o) (g2 : d' (o + 4) = d (o + 4)) : CL d' o j s y := by
  unfold CL at h ⊢
  rw [g, g2]
  exact h
theorem RU.of {d d' : aI} {A A' : Int → Int} {y0 y1 : Option (En → Int)} (h : RU d A y0 y1) (g : ∀ k, k = 1 ∨ (58 ≤ k ∧ k < 83) → d' k = d k) (h2 : A' 2 = A 2) (h3 : A' 3 = A 3) : RU d' A' y0 y1 := by
  obtain ⟨a, b, c, e⟩ := h
  refine ⟨by rw [g 1 (by omega), h2]; exact a, by rw [g 1 (by omega), h3]; exact b, by rw [h2]; exact c, ?_⟩
  rcases e with ⟨e1, e2, e3⟩ | ⟨e0, e1, e2, e3⟩
  · exact Or.inl ⟨by rw [h3]; exact e1, e2.of (g _ (by omega)) (g _ (by omega)), e3.of (g _ (by omega)) (g _ (by omega))⟩
  · refine Or.inr ⟨by rw [h3]; exact e0, by rw [h3, h2]; exact e1, ?_, ?_⟩
    · rw [h3]; exact e2.of (g _ (by omega)) (g _ (by omega))
    · rw [h3]; exact e3.of (g _ (by omega)) (g _ (by omega))
theorem cq_isText_y {d : aI} {e : aJ} {n t : Int} (h6 : d 1 6 = iI n) (hn : 0 ≤ n ∧ n ≤ 4) (ht : 0 ≤ t ∧ t < n) : FX10_isText d e (iI t) = some (iI 1, d, e) := by
  unfold FX10_isText
  simp (disch := omega) only [nI_iI, lN_lJ, iI_0, lJ_0, iI_add, iI_sub, iI_mul, iI_neg, lJ_add, lJ_sub, lJ_mul, lJ_neg, i_l, l_i, iI_cl, iI_inb, iI_eqT, iI_eqF, iI_ltT, iI_ltF, iI_leT, iI_leF, lJ_eqT, lJ_eqF, lJ_cG, lJ_cE, lJ_cL, lJ_cF, lJ_cGE, lJ_cLE, lJ_cNL, lJ_cNG, Int.cast_ofNat_Int, c_0, c_1, Int.natCast_add, Int.add_zero, cond_true, cond_false, Bool.and_self, Bool.and_true, Bool.true_and, Option.bind_some, decide_true, uI_hit, uI_miss, uI_o, uA_o, uA_s, ↓reduceIte, eq_self, true_or, or_true, or_false, false_or, true_and, and_true, false_and, and_false, or_self, and_self, not_false_eq_true, not_true_eq_false, tn_i, h6, cq_in_y, decide_eq_true, iI_one]
theorem cq_isText_n {d : aI} {e : aJ} {n t : Int} (h6 : d 1 6 = iI n) (hn : 0 ≤ n ∧ n ≤ 4) (ht : (t < 0 ∨ n ≤ t) ∧ -2147483648 ≤ t ∧ t < 2147483648) : FX10_isText d e (iI t) = some (iI 0, d, e) := by
  unfold FX10_isText
  simp (disch := omega) only [nI_iI, lN_lJ, iI_0, lJ_0, iI_add, iI_sub, iI_mul, iI_neg, lJ_add, lJ_sub, lJ_mul, lJ_neg, i_l, l_i, iI_cl, iI_inb, iI_eqT, iI_eqF, iI_ltT, iI_ltF, iI_leT, iI_leF, lJ_eqT, lJ_eqF, lJ_cG, lJ_cE, lJ_cL, lJ_cF, lJ_cGE, lJ_cLE, lJ_cNL, lJ_cNG, Int.cast_ofNat_Int, c_0, c_1, Int.natCast_add, Int.add_zero, cond_true, cond_false, Bool.and_self, Bool.and_true, Bool.true_and, Option.bind_some, decide_true, uI_hit, uI_miss, uI_o, uA_o, uA_s, ↓reduceIte, eq_self, true_or, or_true, or_false, false_or, true_and, and_true, false_and, and_false, or_self, and_self, not_false_eq_true, not_true_eq_false, tn_i, h6, cq_in_n, decide_eq_true, iI_one]
theorem cq_rule {d : aI} {e : aJ} {A : Int → Int} {y0 y1 : Option (En → Int)} (h : RU d A y0 y1) : ∃ o, FX10_rule d e = some (o, d, e) ∧ oT o ∧ CL d o 6 0 y0 ∧ CL d o 8 1 y1 := by
  obtain ⟨a, b, c, e⟩ := h
  unfold FX10_rule
  rcases e with ⟨e1, e2, e3⟩ | ⟨e0, e1, e2, e3⟩
  · refine ⟨78, ?_, by omega, e2, e3⟩
    rw [e1] at b
    simp (disch := omega) only [nI_iI, lN_lJ, iI_0, lJ_0, iI_add, iI_sub, iI_mul, iI_neg, lJ_add, lJ_sub, lJ_mul, lJ_neg, i_l, l_i, iI_cl, iI_inb, iI_eqT, iI_eqF, iI_ltT, iI_ltF, iI_leT, iI_leF, lJ_eqT, lJ_eqF, lJ_cG, lJ_cE, lJ_cL, lJ_cF, lJ_cGE, lJ_cLE, lJ_cNL, lJ_cNG, Int.cast_ofNat_Int, c_0, c_1, Int.natCast_add, Int.add_zero, cond_true, cond_false, Bool.and_self, Bool.and_true, Bool.true_and, Option.bind_some, decide_true, uI_hit, uI_miss, uI_o, uA_o, uA_s, ↓reduceIte, eq_self, true_or, or_true, or_false, false_or, true_and, and_true, false_and, and_false, or_self, and_self, not_false_eq_true, not_true_eq_false, tn_i, b, cq_isText_n a c]
  · refine ⟨58 + 5 * (A 3).toNat, ?_, by omega, e2, e3⟩
    simp (disch := omega) only [nI_iI, lN_lJ, iI_0, lJ_0, iI_add, iI_sub, iI_mul, iI_neg, lJ_add, lJ_sub, lJ_mul, lJ_neg, i_l, l_i, iI_cl, iI_inb, iI_eqT, iI_eqF, iI_ltT, iI_ltF, iI_leT, iI_leF, lJ_eqT, lJ_eqF, lJ_cG, lJ_cE, lJ_cL, lJ_cF, lJ_cGE, lJ_cLE, lJ_cNL, lJ_cNG, Int.cast_ofNat_Int, c_0, c_1, Int.natCast_add, Int.add_zero, cond_true, cond_false, Bool.and_self, Bool.and_true, Bool.true_and, Option.bind_some, decide_true, uI_hit, uI_miss, uI_o, uA_o, uA_s, ↓reduceIte, eq_self, true_or, or_true, or_false, false_or, true_and, and_true, false_and, and_false, or_self, and_self, not_false_eq_true, not_true_eq_false, tn_i, b, cq_isText_y a c]
def lawT (S : aS) : Option (En → Int) := if S.1 3 = -1 then none else (S.2.2.1 (S.1 3).toNat).1.1
def lawG (S : aS) : Option (En → Int) := if S.1 3 = -1 then none else (S.2.2.1 (S.1 3).toNat).1.2
theorem CI.ru {d : aI} {S : aS} (h : CI d S) (hS : sOK S) : RU d S.1 (lawT S) (lawG S) := by
  obtain ⟨h1, h2, h3, h4, h5⟩ := h
  have s3 := hS.1.2.2.2.1
  have s2 := hS.1.2.2.1
  refine ⟨h1.2.2.1, h1.2.2.2.1, s2, ?_⟩
  unfold lawT lawG
  by_cases q : S.1 3 = -1
  · rw [if_pos q, if_pos q]
    exact Or.inl ⟨q, h4.1, h4.2⟩
  · rw [if_neg q, if_neg q]
    have t := h3 (S.1 3).toNat (by omega)
    exact Or.inr ⟨by omega, s3.2, t.1, t.2.1⟩
theorem MI.mx {d : aI} {S : aS} (h : MI d S) (hS : sOK S) : MX d (S.1 3) (lawT S) (lawG S) := by
  have s3 := hS.1.2.2.2.1
  have s2 := hS.1.2.2.1
  unfold lawT lawG MX
  by_cases q : S.1 3 = -1
  · rw [if_pos q, if_pos q]
    exact Or.inl ⟨q, rfl, rfl⟩
  · rw [if_neg q, if_neg q]
    have t := h.2.2.1 (S.1 3).toNat (by omega)
    rw [tn_i (by omega)] at t
    exact Or.inr ⟨by omega, by omega, _, hS.2.2.2.1 (S.1 3).toNat (by omega), t, rfl, rfl⟩
