/-! ===== joins: the orders in which the pieces of a dream join ===== -/
def dgJ (n x j : Nat) : Nat := x / 5 ^ (n - 1 - j) % 5
theorem dgJ_lt {n x j : Nat} : dgJ n x j < 5 := Nat.mod_lt _ (by omega)
theorem dgJ_lo {n k j c y : Nat} (hk : k < n) (hj : j < k) (hy : y < 5 * 5 ^ (n - 1 - k)) : dgJ n (c * (5 * 5 ^ (n - 1 - k)) + y) j = dgJ n (c * (5 * 5 ^ (n - 1 - k))) j := by
  unfold dgJ
  obtain ⟨r, hr⟩ : ∃ r, n - 1 - j = (n - 1 - k + 1) + r := ⟨n - 1 - j - (n - 1 - k + 1), by omega⟩
  rw [hr, Nat.pow_add, Nat.pow_succ, Nat.mul_comm (5 ^ (n - 1 - k)) 5]
  generalize 5 ^ (n - 1 - k) = q at hy
  rw [← Nat.div_div_eq_div_mul _ (5 * q) (5 ^ r), ← Nat.div_div_eq_div_mul _ (5 * q) (5 ^ r)]
  have h1 : (c * (5 * q) + y) / (5 * q) = c := by
    rw [Nat.add_comm, Nat.add_mul_div_right _ _ (by omega), Nat.div_eq_of_lt hy, Nat.zero_add]
  have h2 : (c * (5 * q)) / (5 * q) = c := Nat.mul_div_cancel _ (by omega)
  rw [h1, h2]
theorem dgJ_at {n k c y : Nat} (hy : y < 5 * 5 ^ (n - 1 - k)) : dgJ n (c * (5 * 5 ^ (n - 1 - k)) + y) k = y / 5 ^ (n - 1 - k) := by
  unfold dgJ
  generalize 5 ^ (n - 1 - k) = q at hy
  have h1 : (c * (5 * q) + y) / q = y / q + c * 5 := by
    rw [Nat.add_comm, ← Nat.mul_assoc, Nat.add_mul_div_right _ _ (by omega)]
  have h2 : y / q < 5 := Nat.div_lt_of_lt_mul (by rw [Nat.mul_comm]; exact hy)
  rw [h1]
  generalize y / q = z at h2
  omega
abbrev lkJ (A : Int → Int) (a p : Nat) : Prop := (a_shr (iI (A (102 + 2 * p + 1))) (iI (A (102 + 2 * p) - 1)) &&& iI 1) = (iI (A (102 + 2 * a + 1)) &&& iI 1)
abbrev okJ (A : Int → Int) (n x j : Nat) : Prop := dgJ n x j < n ∧ (∀ i, i < j → dgJ n x i ≠ dgJ n x j) ∧ (j = 0 ∨ lkJ A (dgJ n x (j - 1)) (dgJ n x j))
abbrev fuJ (A : Int → Int) (n x : Nat) : Prop := ∀ j, j < n → okJ A n x j
theorem okJ_cg {A : Int → Int} {n x y j : Nat} (h : ∀ i, i ≤ j → dgJ n x i = dgJ n y i) (g : okJ A n x j) : okJ A n y j := by
  obtain ⟨a, b, c⟩ := g
  refine ⟨by rw [← h j (by omega)]; exact a, fun i hi => by rw [← h i (by omega), ← h j (by omega)]; exact b i hi, ?_⟩
  rcases c with c | c
  · exact Or.inl c
  · refine Or.inr ?_
    rw [← h (j - 1) (by omega), ← h j (by omega)]
    exact c
def jnF (A : Int → Int) (n x : Nat) (s : Nat × Nat) : Nat × Nat := if fuJ A n x then (s.1 + 1, if s.1 = 0 then x else s.2) else s
def jnS (A : Int → Int) (n x : Nat) : Nat × Nat := itr (jnF A n) x (0, 0)
theorem jnS_s {A : Int → Int} {n x : Nat} : jnS A n (x + 1) = if fuJ A n x then ((jnS A n x).1 + 1, if (jnS A n x).1 = 0 then x else (jnS A n x).2) else jnS A n x := rfl
theorem jnS_le {A : Int → Int} {n : Nat} (x : Nat) : (jnS A n x).1 ≤ x ∧ ((jnS A n x).1 ≠ 0 → (jnS A n x).2 < x ∧ fuJ A n (jnS A n x).2) := by
  induction x with
  | zero => exact ⟨Nat.le_refl _, fun z => absurd rfl z⟩
  | succ x ih =>
    rw [jnS_s]
    by_cases q : fuJ A n x
    · rw [if_pos q]
      refine ⟨by show (jnS A n x).1 + 1 ≤ x + 1; omega, fun _ => ?_⟩
      show (if (jnS A n x).1 = 0 then x else (jnS A n x).2) < x + 1 ∧ fuJ A n (if (jnS A n x).1 = 0 then x else (jnS A n x).2)
      by_cases w : (jnS A n x).1 = 0
      · rw [if_pos w]; exact ⟨by omega, q⟩
      · rw [if_neg w]; exact ⟨by have := (ih.2 w).1; omega, (ih.2 w).2⟩
    · rw [if_neg q]
      exact ⟨by omega, fun z => ⟨by have := (ih.2 z).1; omega, (ih.2 z).2⟩⟩
theorem jnS_sk {A : Int → Int} {n a : Nat} : ∀ r, (∀ x, a ≤ x → x < a + r → ¬fuJ A n x) → jnS A n (a + r) = jnS A n a
  | 0, _ => rfl
  | r + 1, h => by
    show jnS A n (a + r + 1) = _
    rw [jnS_s, if_neg (h (a + r) (by omega) (by omega))]
    exact jnS_sk r (fun x h1 h2 => h x h1 (by omega))
-- bits
theorem and1_b {y : Int32} : (y &&& iI 1) = iI 1 ↔ y.toBitVec.getLsbD 0 = true := by
  have o : ∀ k, k < 32 → (iI 1).toBitVec.getLsbD k = decide (k = 0) := by decide +kernel
  have e : (y &&& iI 1).toBitVec = y.toBitVec &&& (iI 1).toBitVec := rfl
  constructor
  · intro z
    have b : (y &&& iI 1).toBitVec.getLsbD 0 = true := by rw [z, o 0 (by omega)]; rfl
    rw [e, BitVec.getLsbD_and, Bool.and_eq_true] at b
    exact b.1
  · intro z
    apply Int32.toBitVec_inj.mp
    apply BitVec.eq_of_getLsbD_eq
    intro k hk
    rw [e, BitVec.getLsbD_and, o k hk]
    by_cases w : k = 0
    · rw [w, z]; rfl
    · rw [decide_eq_false w, Bool.and_false]
theorem BM.has {x : Int32} {P : Nat → Prop} {k : Nat} (h : BM x P) (hk : k < 10) : hasP x (k : Nat) ↔ P k := by
  have sm : ∀ k : Nat, k < 10 → ((iI (k : Nat) &&& 31).toBitVec.smod 32).toNat = k := by decide +kernel
  have e : (a_shr x (iI (k : Nat))).toBitVec = x.toBitVec.sshiftRight ((iI (k : Nat) &&& 31).toBitVec.smod 32).toNat := rfl
  show (a_shr x (iI (k : Nat)) &&& iI 1) = iI 1 ↔ P k
  rw [and1_b, e, sm k hk, BitVec.getLsbD_sshiftRight, ← h k (by omega)]
  have g1 : decide (32 ≤ 0) = false := rfl
  rw [g1, Bool.not_false, Bool.true_and, if_pos (by omega), Nat.add_zero]
-- class
def JC (d : aI) (A : Int → Int) (n x : Nat) : Prop := d 103 2 = iI ((jnS A n x).1 : Nat) ∧ ((jnS A n x).1 ≠ 0 → ∀ j, j < n → d 104 j = iI (dgJ n (jnS A n x).2 j : Nat))
def Kj (d d' : aI) : Prop := ∀ o, o ≠ 103 → o ≠ 104 → o ≠ 105 → d' o = d o
theorem Kj.refl (d : aI) : Kj d d := fun _ _ _ _ => rfl
theorem Kj.trans {d d1 d2 : aI} (h : Kj d d1) (h2 : Kj d1 d2) : Kj d d2 := fun o a b c => (h2 o a b c).trans (h o a b c)
theorem cq_follows {d : aI} {e : aJ} {A : Int → Int} (hN : NT d 21 A 7 102 2 5) (h7 : A 7 ≤ 5) {a p : Nat} (ha : (a : Int) < A 7) (hp : (p : Int) < A 7) : FX0_follows d e (iI a) (iI p) = some (iI (if lkJ A a p then 1 else 0), d, e) := by
  have n1 : d 22 p = iI (A (102 + 2 * p)) := hN.2.2.1 p hp
  have n2 : d 23 p = iI (A (102 + 2 * p + 1)) := hN.2.2.2 p hp
  have n3 : d 23 a = iI (A (102 + 2 * a + 1)) := hN.2.2.2 a ha
  by_cases c : lkJ A a p
  · have c2 : (a_shr (iI (A (102 + 2 * p + 1))) (iI (A (102 + 2 * p) - 1)) &&& iI 1) = (iI (A (102 + 2 * a + 1)) &&& iI 1) := c
    rw [if_pos c]
    unfold FX0_follows
    simp (disch := omega) only [nI_iI, lN_lJ, iI_0, lJ_0, iI_add, iI_sub, iI_mul, iI_neg, lJ_add, lJ_sub, lJ_mul, lJ_neg, i_l, l_i, iI_cl, iI_inb, iI_eqT, iI_eqF, iI_ltT, iI_ltF, iI_leT, iI_leF, lJ_eqT, lJ_eqF, lJ_cG, lJ_cE, lJ_cL, lJ_cF, lJ_cGE, lJ_cLE, lJ_cNL, lJ_cNG, Int.cast_ofNat_Int, c_0, c_1, Int.natCast_add, Int.add_zero, cond_true, cond_false, Bool.and_self, Bool.and_true, Bool.true_and, Option.bind_some, decide_true, uI_hit, uI_miss, uI_o, uA_o, uA_s, ↓reduceIte, eq_self, true_or, or_true, or_false, false_or, true_and, and_true, false_and, and_false, or_self, and_self, not_false_eq_true, not_true_eq_false, tn_i, Int.toNat_natCast, n1, n2, n3, c2]
  · have c2 : ¬(a_shr (iI (A (102 + 2 * p + 1))) (iI (A (102 + 2 * p) - 1)) &&& iI 1) = (iI (A (102 + 2 * a + 1)) &&& iI 1) := c
    rw [if_neg c]
    unfold FX0_follows
    simp (disch := omega) only [nI_iI, lN_lJ, iI_0, lJ_0, iI_add, iI_sub, iI_mul, iI_neg, lJ_add, lJ_sub, lJ_mul, lJ_neg, i_l, l_i, iI_cl, iI_inb, iI_eqT, iI_eqF, iI_ltT, iI_ltF, iI_leT, iI_leF, lJ_eqT, lJ_eqF, lJ_cG, lJ_cE, lJ_cL, lJ_cF, lJ_cGE, lJ_cLE, lJ_cNL, lJ_cNG, Int.cast_ofNat_Int, c_0, c_1, Int.natCast_add, Int.add_zero, cond_true, cond_false, Bool.and_self, Bool.and_true, Bool.true_and, Option.bind_some, decide_true, uI_hit, uI_miss, uI_o, uA_o, uA_s, ↓reduceIte, eq_self, true_or, or_true, or_false, false_or, true_and, and_true, false_and, and_false, or_self, and_self, not_false_eq_true, not_true_eq_false, tn_i, Int.toNat_natCast, n1, n2, n3, c2]
theorem cq_extend {e : aJ} {A : Int → Int} {n : Nat} (hn : A 7 = n) (n5 : n ≤ 5) : ∀ (r k c : Nat) (u : Int32) (d : aI) (f : Nat), k + r = n → r < f → c < 100000 → NT d 21 A 7 102 2 5 → (∀ j, j < k → d 105 j = iI (dgJ n (c * 5 ^ (n - k)) j : Nat)) → BM u (fun p => ∃ j, j < k ∧ dgJ n (c * 5 ^ (n - k)) j = p) → (∀ j, j < k → okJ A n (c * 5 ^ (n - k)) j) → (c + 1) * 5 ^ (n - k) ≤ 5 ^ n → JC d A n (c * 5 ^ (n - k)) → ∃ d', FX0_extend f d e (iI (k : Nat)) u = some ((), d', e) ∧ JC d' A n ((c + 1) * 5 ^ (n - k)) ∧ (∀ j, j < k → d' 105 j = d 105 j) ∧ Kj d d'
  | r, k, c, u, d, 0, _, h, _, _, _, _, _, _, _ => by omega
  | 0, k, c, u, d, f + 1, hk, hf, hc, hN, ho, hu, hok, hb, hj => by
    have hkn : k = n := by omega
    subst hkn
    rw [Nat.sub_self, Nat.pow_zero, Nat.mul_one] at ho hu hok hb hj ⊢
    have n4 : d 21 4 = iI (k : Int) := by rw [← hn]; exact hN.2.1
    have fu : fuJ A k c := fun j h => hok j h
    have le := jnS_le (A := A) (n := k) c
    have p3 : 5 ^ k ≤ 5 ^ 5 := Nat.pow_le_pow_right (by omega) n5
    have r2 := hj.1
    unfold FX0_extend FX0_extendB
    by_cases w : (jnS A k c).1 = 0
    · have e1 : jnS A k (c + 1) = (1, c) := by rw [jnS_s, if_pos fu, if_pos w, w]
      rw [w] at r2
      refine ⟨uI (uA d 104 (va_cpy (d 105) (d 104) 0 0 5)) 103 2 (iI 1), ?_, ⟨?_, fun _ j hj => ?_⟩, fun j hj => ?_, fun o a b c => ?_⟩
      · rw [a_run_step (st := stX0_extend (FX0_extend f)) (p2 := (100000, [], uI (uA d 104 (va_cpy (d 105) (d 104) 0 0 5)) 103 2 (iI 1), e)) (by
          show sX0_extend_0 (FX0_extend f) d e _ _ = _
          unfold sX0_extend_0
          simp (disch := omega) only [nI_iI, lN_lJ, iI_0, lJ_0, iI_add, iI_sub, iI_mul, iI_neg, lJ_add, lJ_sub, lJ_mul, lJ_neg, i_l, l_i, iI_cl, iI_inb, iI_eqT, iI_eqF, iI_ltT, iI_ltF, iI_leT, iI_leF, lJ_eqT, lJ_eqF, lJ_cG, lJ_cE, lJ_cL, lJ_cF, lJ_cGE, lJ_cLE, lJ_cNL, lJ_cNG, Int.cast_ofNat_Int, c_0, c_1, Int.natCast_add, Int.add_zero, cond_true, cond_false, Bool.and_self, Bool.and_true, Bool.true_and, Option.bind_some, decide_true, uI_hit, uI_miss, uI_o, uA_o, uA_s, ↓reduceIte, eq_self, true_or, or_true, or_false, false_or, true_and, and_true, false_and, and_false, or_self, and_self, not_false_eq_true, not_true_eq_false, tn_i, n4, r2, Int.zero_add, decide_eq_true]) rfl, a_run_end]
        rfl
      · rw [e1, uI_hit rfl]; rfl
      · rw [e1]
        show uI (uA d 104 (va_cpy (d 105) (d 104) 0 0 5)) 103 2 (iI 1) 104 j = iI (dgJ k c j : Nat)
        rw [uI_o (by omega), uA_s, cpy_in (by omega), show 0 + (j - 0) = j by omega]
        exact ho j hj
      · rw [uI_o (by omega), uA_o (by omega)]
      · rw [uI_o a, uA_o b]
    · have e1 : jnS A k (c + 1) = ((jnS A k c).1 + 1, (jnS A k c).2) := by rw [jnS_s, if_pos fu, if_neg w]
      refine ⟨uI d 103 2 (iI (((jnS A k c).1 + 1 : Nat) : Int)), ?_, ⟨?_, fun _ j hj2 => ?_⟩, fun j hj => ?_, fun o a b c => ?_⟩
      · rw [a_run_step (st := stX0_extend (FX0_extend f)) (p2 := (100000, [], uI d 103 2 (iI (((jnS A k c).1 + 1 : Nat) : Int)), e)) (by
          show sX0_extend_0 (FX0_extend f) d e _ _ = _
          unfold sX0_extend_0
          simp (disch := omega) only [nI_iI, lN_lJ, iI_0, lJ_0, iI_add, iI_sub, iI_mul, iI_neg, lJ_add, lJ_sub, lJ_mul, lJ_neg, i_l, l_i, iI_cl, iI_inb, iI_eqT, iI_eqF, iI_ltT, iI_ltF, iI_leT, iI_leF, lJ_eqT, lJ_eqF, lJ_cG, lJ_cE, lJ_cL, lJ_cF, lJ_cGE, lJ_cLE, lJ_cNL, lJ_cNG, Int.cast_ofNat_Int, c_0, c_1, Int.natCast_add, Int.add_zero, cond_true, cond_false, Bool.and_self, Bool.and_true, Bool.true_and, Option.bind_some, decide_true, uI_hit, uI_miss, uI_o, uA_o, uA_s, ↓reduceIte, eq_self, true_or, or_true, or_false, false_or, true_and, and_true, false_and, and_false, or_self, and_self, not_false_eq_true, not_true_eq_false, tn_i, n4, r2, decide_eq_true]) rfl, a_run_end]
        rfl
      · rw [e1, uI_hit rfl]
      · rw [e1, uI_o (by omega)]; exact hj.2 w j hj2
      · rw [uI_o (by omega)]
      · rw [uI_o a]
  | r + 1, k, c, u, d, f + 1, hk, hf, hc, hN, ho, hu, hok, hb, hj => by
    have hkn : k < n := by omega
    have hQ : 5 ^ (n - k) = 5 * 5 ^ (n - 1 - k) := by rw [show n - k = (n - 1 - k) + 1 by omega, Nat.pow_succ, Nat.mul_comm]
    have hq0 : 0 < 5 ^ (n - 1 - k) := Nat.pow_pos (by omega)
    have p3 : 5 ^ n ≤ 5 ^ 5 := Nat.pow_le_pow_right (by omega) n5
    rw [hQ] at ho hu hok hb hj ⊢
    have ih := fun c u d => cq_extend (e := e) hn n5 r (k + 1) c u d f (by omega) (by omega)
    rw [show n - (k + 1) = n - 1 - k by omega] at ih
    have lo := fun j y (h1 : j < k) (h2 : y < 5 * 5 ^ (n - 1 - k)) => dgJ_lo (n := n) (c := c) hkn h1 h2
    have at_ := fun y (h2 : y < 5 * 5 ^ (n - 1 - k)) => dgJ_at (n := n) (k := k) (c := c) h2
    generalize hq : 5 ^ (n - 1 - k) = q at *
    have cq : c * (5 * q) = (5 * c) * q := by rw [← Nat.mul_assoc, Nat.mul_comm c 5]
    have c1 : (c + 1) * (5 * q) = c * (5 * q) + 5 * q := Nat.succ_mul _ _
    have mono : ∀ a b : Nat, a ≤ b → a * q ≤ b * q := fun a b h => Nat.mul_le_mul_right q h
    have sm : ∀ a : Nat, (a + 1) * q = a * q + q := fun a => Nat.succ_mul a q
    have hB : c * (5 * q) + 5 * q ≤ 5 ^ 5 := by rw [c1] at hb; omega
    have c5 : 5 * c + 5 ≤ 5 ^ 5 := by
      have : (5 * c + 5) * 1 ≤ (5 * c + 5) * q := Nat.mul_le_mul_left _ hq0
      have e5 : (5 * c + 5) * q = c * (5 * q) + 5 * q := by rw [Nat.add_mul, cq]
      omega
    -- a child's digits
    have dl : ∀ p y, p < 5 → p * q ≤ y → y < (p + 1) * q → y < 5 * q ∧ dgJ n (c * (5 * q) + y) k = p := by
      intro p y h1 h2 h3
      have m := mono (p + 1) 5 (by omega)
      have e : y / q = p := by
        have a1 : p ≤ y / q := (Nat.le_div_iff_mul_le hq0).mpr h2
        have a2 : y / q < p + 1 := (Nat.div_lt_iff_lt_mul hq0).mpr h3
        omega
      exact ⟨by omega, by rw [at_ y (by omega), e]⟩
    have same : ∀ p y, p < 5 → p * q ≤ y → y < (p + 1) * q → ∀ i, i ≤ k → dgJ n (c * (5 * q) + y) i = dgJ n (c * (5 * q) + p * q) i := by
      intro p y h1 h2 h3 i hi
      have a := dl p y h1 h2 h3
      have b := dl p (p * q) h1 (Nat.le_refl _) (by rw [sm p]; omega)
      by_cases w : i = k
      · rw [w, a.2, b.2]
      · rw [lo i y (by omega) a.1, lo i (p * q) (by omega) b.1]
    have skip : ∀ p, p < 5 → ¬okJ A n (c * (5 * q) + p * q) k → jnS A n (c * (5 * q) + (p + 1) * q) = jnS A n (c * (5 * q) + p * q) := by
      intro p h1 h2
      rw [sm p, ← Nat.add_assoc]
      refine jnS_sk q (fun x h3 h4 z => h2 ?_)
      obtain ⟨y, rfl⟩ : ∃ y, x = c * (5 * q) + y := ⟨x - c * (5 * q), by omega⟩
      exact okJ_cg (same p y h1 (by omega) (by rw [sm p]; omega)) (z k hkn)
    have loop : ∀ (t p : Nat) (d : aI), p + t = n → NT d 21 A 7 102 2 5 → (∀ j, j < k → d 105 j = iI (dgJ n (c * (5 * q)) j : Nat)) → JC d A n (c * (5 * q) + p * q) → ∃ d', a_run (stX0_extend (FX0_extend f)) (43, [some (.ref 103), some (.ref 21), some (.int (iI (k : Nat))), some (.int u), some (.int (iI (p : Nat)))], d, e) = some ([], d', e) ∧ JC d' A n ((c + 1) * (5 * q)) ∧ (∀ j, j < k → d' 105 j = d 105 j) ∧ Kj d d' := by
      intro t
      induction t with
      | zero =>
        intro p d hp hN ho hj
        have hpn : p = n := by omega
        subst hpn
        have n4 : d 21 4 = iI (p : Int) := by rw [← hn]; exact hN.2.1
        have e1 : jnS A p ((c + 1) * (5 * q)) = jnS A p (c * (5 * q) + p * q) := by
          have m := mono p 5 n5
          rw [c1, show c * (5 * q) + 5 * q = c * (5 * q) + p * q + (5 * q - p * q) by omega]
          refine jnS_sk _ (fun x h3 h4 z => ?_)
          obtain ⟨y, rfl⟩ : ∃ y, x = c * (5 * q) + y := ⟨x - c * (5 * q), by omega⟩
          have d1 := at_ y (by omega)
          have d2 := (z k hkn).1
          have d3 : p ≤ y / q := (Nat.le_div_iff_mul_le hq0).mpr (by omega)
          omega
        refine ⟨d, ?_, ?_, fun _ _ => rfl, Kj.refl d⟩
        · rw [a_run_step (st := stX0_extend (FX0_extend f)) (p2 := (100000, [], d, e)) (by
            show sX0_extend_43 (FX0_extend f) d e _ _ _ = _
            unfold sX0_extend_43
            simp (disch := omega) only [nI_iI, lN_lJ, iI_0, lJ_0, iI_add, iI_sub, iI_mul, iI_neg, lJ_add, lJ_sub, lJ_mul, lJ_neg, i_l, l_i, iI_cl, iI_inb, iI_eqT, iI_eqF, iI_ltT, iI_ltF, iI_leT, iI_leF, lJ_eqT, lJ_eqF, lJ_cG, lJ_cE, lJ_cL, lJ_cF, lJ_cGE, lJ_cLE, lJ_cNL, lJ_cNG, Int.cast_ofNat_Int, c_0, c_1, Int.natCast_add, Int.add_zero, cond_true, cond_false, Bool.and_self, Bool.and_true, Bool.true_and, Option.bind_some, decide_true, uI_hit, uI_miss, uI_o, uA_o, uA_s, ↓reduceIte, eq_self, true_or, or_true, or_false, false_or, true_and, and_true, false_and, and_false, or_self, and_self, not_false_eq_true, not_true_eq_false, tn_i, n4]) rfl, a_run_end]
        · unfold JC
          rw [e1]
          exact hj
      | succ t iht =>
        intro p d hp hN ho hj
        have n4 : d 21 4 = iI (n : Int) := by rw [← hn]; exact hN.2.1
        have p5 : p < 5 := by omega
        have dp := dl p (p * q) p5 (Nat.le_refl _) (by rw [sm p]; omega)
        have ij : ∀ j, j < k → dgJ n (c * (5 * q) + p * q) j = dgJ n (c * (5 * q)) j := fun j h => lo j (p * q) h dp.1
        have no : stX0_extend (FX0_extend f) (43, [some (.ref 103), some (.ref 21), some (.int (iI (k : Nat))), some (.int u), some (.int (iI (p : Nat)))], d, e) = some (43, [some (.ref 103), some (.ref 21), some (.int (iI (k : Nat))), some (.int u), some (.int (iI (p + 1 : Nat)))], d, e) → ¬okJ A n (c * (5 * q) + p * q) k → ∃ d', a_run (stX0_extend (FX0_extend f)) (43, [some (.ref 103), some (.ref 21), some (.int (iI (k : Nat))), some (.int u), some (.int (iI (p : Nat)))], d, e) = some ([], d', e) ∧ JC d' A n ((c + 1) * (5 * q)) ∧ (∀ j, j < k → d' 105 j = d 105 j) ∧ Kj d d' := by
          intro st z
          obtain ⟨d', X, g⟩ := iht (p + 1) d (by omega) hN ho (by unfold JC; rw [skip p p5 z]; exact hj)
          exact ⟨d', (a_run_step st rfl).trans X, g⟩
        have hp1 := hu.has (k := p) (by omega)
        by_cases U : hasP u (p : Nat)
        · obtain ⟨j, j1, j2⟩ := hp1.mp U
          refine no ?_ (fun z => z.2.1 j j1 (by rw [ij j j1, dp.2]; exact j2))
          show sX0_extend_43 (FX0_extend f) d e _ _ _ = _
          unfold sX0_extend_43
          simp (disch := omega) only [nI_iI, lN_lJ, iI_0, lJ_0, iI_add, iI_sub, iI_mul, iI_neg, lJ_add, lJ_sub, lJ_mul, lJ_neg, i_l, l_i, iI_cl, iI_inb, iI_eqT, iI_eqF, iI_ltT, iI_ltF, iI_leT, iI_leF, lJ_eqT, lJ_eqF, lJ_cG, lJ_cE, lJ_cL, lJ_cF, lJ_cGE, lJ_cLE, lJ_cNL, lJ_cNG, Int.cast_ofNat_Int, c_0, c_1, Int.natCast_add, Int.add_zero, cond_true, cond_false, Bool.and_self, Bool.and_true, Bool.true_and, Option.bind_some, decide_true, uI_hit, uI_miss, uI_o, uA_o, uA_s, ↓reduceIte, eq_self, true_or, or_true, or_false, false_or, true_and, and_true, false_and, and_false, or_self, and_self, not_false_eq_true, not_true_eq_false, tn_i, n4, cq_has_y U]
        · have nu : ∀ i, i < k → dgJ n (c * (5 * q)) i ≠ p := fun i h1 h2 => U (hp1.mpr ⟨i, h1, h2⟩)
          -- it goes there
          have yes : okJ A n (c * (5 * q) + p * q) k → (∀ d2, FX0_extend f (uI d 105 k (iI p)) e (iI ((k : Int) + 1)) (u ||| a_shl (iI 1) (iI (p : Nat))) = some ((), d2, e) → stX0_extend (FX0_extend f) (43, [some (.ref 103), some (.ref 21), some (.int (iI (k : Nat))), some (.int u), some (.int (iI (p : Nat)))], d, e) = some (43, [some (.ref 103), some (.ref 21), some (.int (iI (k : Nat))), some (.int u), some (.int (iI (p + 1 : Nat)))], d2, e)) → ∃ d', a_run (stX0_extend (FX0_extend f)) (43, [some (.ref 103), some (.ref 21), some (.int (iI (k : Nat))), some (.int u), some (.int (iI (p : Nat)))], d, e) = some ([], d', e) ∧ JC d' A n ((c + 1) * (5 * q)) ∧ (∀ j, j < k → d' 105 j = d 105 j) ∧ Kj d d' := by
            intro z stp
            have cp : (5 * c + p) * q = c * (5 * q) + p * q := by rw [Nat.add_mul, cq]
            have cp1 : (5 * c + p + 1) * q = c * (5 * q) + (p + 1) * q := by rw [Nat.add_assoc, Nat.add_mul, cq]
            have m := mono (p + 1) 5 (by omega)
            have step := ih (5 * c + p) (u ||| a_shl (iI 1) (iI (p : Nat))) (uI d 105 k (iI p)) (by omega) (hN.of (fun o a b => uI_o (by omega)))
            rw [cp, cp1] at step
            have step2 := step (fun j hj => ?_) ((hu.or (by omega)).cg (fun i hi => ⟨fun w => ?_, fun w => ?_⟩)) (fun j hj => ?_) (by omega) ⟨by rw [uI_o (by omega)]; exact hj.1, fun w j h => by rw [uI_o (by omega)]; exact hj.2 w j h⟩
            · obtain ⟨d2, X, g1, g2, g3⟩ := step2
              rw [show ((k + 1 : Nat) : Int) = (k : Int) + 1 from by omega] at X
              have fr : Kj d d2 := fun o a b c => by rw [g3 o a b c, uI_o c]
              have cell : ∀ j, j < k → d2 105 j = d 105 j := fun j h => by rw [g2 j (by omega), uI_miss (by omega)]
              obtain ⟨d', X2, k1, k2, k3⟩ := iht (p + 1) d2 (by omega) (hN.of (fun o a b => fr o (by omega) (by omega) (by omega))) (fun j h => by rw [cell j h]; exact ho j h) g1
              exact ⟨d', (a_run_step (stp d2 X) rfl).trans X2, k1, fun j h => (k2 j h).trans (cell j h), fr.trans k3⟩
            · by_cases w : j = k
              · rw [uI_hit w, w, dp.2]
              · rw [uI_miss w, ij j (by omega)]; exact ho j (by omega)
            · rcases w with ⟨j, j1, j2⟩ | w
              · exact ⟨j, by omega, by rw [ij j j1]; exact j2⟩
              · exact ⟨k, by omega, by rw [dp.2]; exact w.symm⟩
            · obtain ⟨j, j1, j2⟩ := w
              by_cases w2 : j = k
              · rw [w2, dp.2] at j2; exact Or.inr j2.symm
              · exact Or.inl ⟨j, by omega, by rw [← ij j (by omega)]; exact j2⟩
            · by_cases w : j = k
              · rw [w]; exact z
              · exact okJ_cg (fun i hi => (ij i (by omega)).symm) (hok j (by omega))
          by_cases k0 : k = 0
          · refine yes ⟨by rw [dp.2]; omega, fun i hi => by omega, Or.inl k0⟩ (fun d2 X => ?_)
            show sX0_extend_43 (FX0_extend f) d e _ _ _ = _
            unfold sX0_extend_43
            simp (disch := omega) only [nI_iI, lN_lJ, iI_0, lJ_0, iI_add, iI_sub, iI_mul, iI_neg, lJ_add, lJ_sub, lJ_mul, lJ_neg, i_l, l_i, iI_cl, iI_inb, iI_eqT, iI_eqF, iI_ltT, iI_ltF, iI_leT, iI_leF, lJ_eqT, lJ_eqF, lJ_cG, lJ_cE, lJ_cL, lJ_cF, lJ_cGE, lJ_cLE, lJ_cNL, lJ_cNG, Int.cast_ofNat_Int, c_0, c_1, Int.natCast_add, Int.add_zero, cond_true, cond_false, Bool.and_self, Bool.and_true, Bool.true_and, Option.bind_some, decide_true, uI_hit, uI_miss, uI_o, uA_o, uA_s, ↓reduceIte, eq_self, true_or, or_true, or_false, false_or, true_and, and_true, false_and, and_false, or_self, and_self, not_false_eq_true, not_true_eq_false, tn_i, Int.toNat_natCast, n4, cq_has_n U, X]
          · have k1 : d 105 (k - 1) = iI (dgJ n (c * (5 * q)) (k - 1) : Nat) := ho (k - 1) (by omega)
            have tn : ((k : Int) - 1).toNat = k - 1 := by omega
            have lt := (hok (k - 1) (by omega)).1
            have fo := cq_follows (e := e) hN (by omega) (a := dgJ n (c * (5 * q)) (k - 1)) (p := p) (by omega) (by omega)
            by_cases L : lkJ A (dgJ n (c * (5 * q)) (k - 1)) p
            · rw [if_pos L] at fo
              refine yes ⟨by rw [dp.2]; omega, fun i hi => by rw [ij i hi, dp.2]; exact nu i hi, Or.inr (by rw [ij (k - 1) (by omega), dp.2]; exact L)⟩ (fun d2 X => ?_)
              show sX0_extend_43 (FX0_extend f) d e _ _ _ = _
              unfold sX0_extend_43
              simp (disch := omega) only [nI_iI, lN_lJ, iI_0, lJ_0, iI_add, iI_sub, iI_mul, iI_neg, lJ_add, lJ_sub, lJ_mul, lJ_neg, i_l, l_i, iI_cl, iI_inb, iI_eqT, iI_eqF, iI_ltT, iI_ltF, iI_leT, iI_leF, lJ_eqT, lJ_eqF, lJ_cG, lJ_cE, lJ_cL, lJ_cF, lJ_cGE, lJ_cLE, lJ_cNL, lJ_cNG, Int.cast_ofNat_Int, c_0, c_1, Int.natCast_add, Int.add_zero, cond_true, cond_false, Bool.and_self, Bool.and_true, Bool.true_and, Option.bind_some, decide_true, uI_hit, uI_miss, uI_o, uA_o, uA_s, ↓reduceIte, eq_self, true_or, or_true, or_false, false_or, true_and, and_true, false_and, and_false, or_self, and_self, not_false_eq_true, not_true_eq_false, tn_i, Int.toNat_natCast, n4, cq_has_n U, X, tn, k1, fo]
            · rw [if_neg L] at fo
              refine no ?_ (fun z => ?_)
              · show sX0_extend_43 (FX0_extend f) d e _ _ _ = _
                unfold sX0_extend_43
                simp (disch := omega) only [nI_iI, lN_lJ, iI_0, lJ_0, iI_add, iI_sub, iI_mul, iI_neg, lJ_add, lJ_sub, lJ_mul, lJ_neg, i_l, l_i, iI_cl, iI_inb, iI_eqT, iI_eqF, iI_ltT, iI_ltF, iI_leT, iI_leF, lJ_eqT, lJ_eqF, lJ_cG, lJ_cE, lJ_cL, lJ_cF, lJ_cGE, lJ_cLE, lJ_cNL, lJ_cNG, Int.cast_ofNat_Int, c_0, c_1, Int.natCast_add, Int.add_zero, cond_true, cond_false, Bool.and_self, Bool.and_true, Bool.true_and, Option.bind_some, decide_true, uI_hit, uI_miss, uI_o, uA_o, uA_s, ↓reduceIte, eq_self, true_or, or_true, or_false, false_or, true_and, and_true, false_and, and_false, or_self, and_self, not_false_eq_true, not_true_eq_false, tn_i, Int.toNat_natCast, n4, cq_has_n U, tn, k1, fo]
              · rcases z.2.2 with z | z
                · exact k0 z
                · rw [ij (k - 1) (by omega), dp.2] at z
                  exact L z
    obtain ⟨d', X, g1, g2, g3⟩ := loop n 0 d (by omega) hN ho (by rw [Nat.zero_mul, Nat.add_zero]; exact hj)
    refine ⟨d', ?_, g1, g2, g3⟩
    have n4 : d 21 4 = iI (n : Int) := by rw [← hn]; exact hN.2.1
    unfold FX0_extend FX0_extendB
    rw [a_run_step (st := stX0_extend (FX0_extend f)) (p2 := (43, [some (.ref 103), some (.ref 21), some (.int (iI (k : Nat))), some (.int u), some (.int (iI (0 : Nat)))], d, e)) (by
      show sX0_extend_0 (FX0_extend f) d e _ _ = _
      unfold sX0_extend_0
      simp (disch := omega) only [nI_iI, lN_lJ, iI_0, lJ_0, iI_add, iI_sub, iI_mul, iI_neg, lJ_add, lJ_sub, lJ_mul, lJ_neg, i_l, l_i, iI_cl, iI_inb, iI_eqT, iI_eqF, iI_ltT, iI_ltF, iI_leT, iI_leF, lJ_eqT, lJ_eqF, lJ_cG, lJ_cE, lJ_cL, lJ_cF, lJ_cGE, lJ_cLE, lJ_cNL, lJ_cNG, Int.cast_ofNat_Int, c_0, c_1, Int.natCast_add, Int.add_zero, cond_true, cond_false, Bool.and_self, Bool.and_true, Bool.true_and, Option.bind_some, decide_true, uI_hit, uI_miss, uI_o, uA_o, uA_s, ↓reduceIte, eq_self, true_or, or_true, or_false, false_or, true_and, and_true, false_and, and_false, or_self, and_self, not_false_eq_true, not_true_eq_false, tn_i, n4]) rfl, X]
    rfl
theorem cq_join {d : aI} {e : aJ} {A : Int → Int} (hN : NT d 21 A 7 102 2 5) {n : Nat} (hn : A 7 = n) (n5 : n ≤ 5) : ∃ d', FX0_join d e = some ((), d', e) ∧ JC d' A n (5 ^ n) ∧ Kj d d' := by
  have w := cq_extend (e := e) hn n5 n 0 0 (iI 0) (uI d 103 2 (iI 0)) 7 (by omega) (by omega) (by omega) (hN.of (fun o a b => uI_o (by omega))) (fun j hj => by omega) (BM.zero (fun k z => by obtain ⟨j, j1, _⟩ := z; omega)) (fun j hj => by omega) (by rw [Nat.sub_zero, Nat.zero_add, Nat.one_mul]; exact Nat.le_refl _) ⟨by rw [Nat.zero_mul, uI_hit rfl]; rfl, fun z => by rw [Nat.zero_mul] at z; exact absurd rfl z⟩
  rw [Nat.sub_zero, Nat.zero_add, Nat.one_mul] at w
  obtain ⟨d', X, g1, _, g3⟩ := w
  refine ⟨d', ?_, g1, fun o a b c => by rw [g3 o a b c, uI_o a]⟩
  have X2 : FX0_extend 7 (uI d 103 2 (iI 0)) e (iI 0) (iI 0) = some ((), d', e) := X
  unfold FX0_join
  simp (disch := omega) only [nI_iI, lN_lJ, iI_0, lJ_0, iI_add, iI_sub, iI_mul, iI_neg, lJ_add, lJ_sub, lJ_mul, lJ_neg, i_l, l_i, iI_cl, iI_inb, iI_eqT, iI_eqF, iI_ltT, iI_ltF, iI_leT, iI_leF, lJ_eqT, lJ_eqF, lJ_cG, lJ_cE, lJ_cL, lJ_cF, lJ_cGE, lJ_cLE, lJ_cNL, lJ_cNG, Int.cast_ofNat_Int, c_0, c_1, Int.natCast_add, Int.add_zero, cond_true, cond_false, Bool.and_self, Bool.and_true, Bool.true_and, Option.bind_some, decide_true, uI_hit, uI_miss, uI_o, uA_o, uA_s, ↓reduceIte, eq_self, true_or, or_true, or_false, false_or, true_and, and_true, false_and, and_false, or_self, and_self, not_false_eq_true, not_true_eq_false, tn_i, X2]
-- reference
theorem mq_pieceBy {d : aI} {e : aJ} {A : Int → Int} (hA : MA d 109 A) {n : Nat} (hn : A 7 = n) (n5 : n ≤ 5) {x k : Nat} (hx : x < 3125) (hk : k < n) : FX11_pieceBy d e (iI (x : Nat)) (iI (k : Nat)) = some (iI (dgJ n x k : Nat), d, e) := by
  have n7 : d 109 7 = iI (n : Int) := by rw [← hn]; exact hA.cell (j := 7) (by omega)
  have key := run_invR (st := stX11_pieceBy) (fun t p => ∃ z : Nat, z = x / 5 ^ t ∧ p = (13, [some (.ref 108), some (.int (iI (x : Nat))), some (.int (iI (k : Nat))), some (.int (iI (z : Nat))), some (.int (iI ((n : Int) - 1 - t)))], d, e)) (n - 1 - k) (p0 := (13, [some (.ref 108), some (.int (iI (x : Nat))), some (.int (iI (k : Nat))), some (.int (iI (x : Nat))), some (.int (iI ((n : Int) - 1 - (0 : Nat))))], d, e)) ⟨x, by rw [Nat.pow_zero, Nat.div_one], rfl⟩ ?_
  · obtain ⟨p, ⟨z, hz, rfl⟩, t1⟩ := key
    have zl : z < 3125 := by rw [hz]; exact Nat.lt_of_le_of_lt (Nat.div_le_self _ _) hx
    have e1 : dgJ n x k = z % 5 := by unfold dgJ; rw [hz]
    have st0 : stX11_pieceBy (0, [some (.ref 108), some (.int (iI (x : Nat))), some (.int (iI (k : Nat))), none, none], d, e) = some (13, [some (.ref 108), some (.int (iI (x : Nat))), some (.int (iI (k : Nat))), some (.int (iI (x : Nat))), some (.int (iI ((n : Int) - 1 - (0 : Nat))))], d, e) := by
      show sX11_pieceBy_0 d e _ _ = _
      unfold sX11_pieceBy_0
      rw [show (n : Int) - 1 - (0 : Nat) = (n : Int) - 1 from by omega]
      simp (disch := omega) only [nI_iI, lN_lJ, iI_0, lJ_0, iI_add, iI_sub, iI_mul, iI_neg, lJ_add, lJ_sub, lJ_mul, lJ_neg, i_l, l_i, iI_cl, iI_inb, iI_eqT, iI_eqF, iI_ltT, iI_ltF, iI_leT, iI_leF, lJ_eqT, lJ_eqF, lJ_cG, lJ_cE, lJ_cL, lJ_cF, lJ_cGE, lJ_cLE, lJ_cNL, lJ_cNG, Int.cast_ofNat_Int, c_0, c_1, Int.natCast_add, Int.add_zero, cond_true, cond_false, Bool.and_self, Bool.and_true, Bool.true_and, Option.bind_some, decide_true, uI_hit, uI_miss, uI_o, uA_o, uA_s, ↓reduceIte, eq_self, true_or, or_true, or_false, false_or, true_and, and_true, false_and, and_false, or_self, and_self, not_false_eq_true, not_true_eq_false, tn_i, n7]
    rw [e1]
    have e2 : ((z % 5 : Nat) : Int) = (z : Int) % 5 := by omega
    rw [e2]
    unfold FX11_pieceBy
    rw [a_run_step st0 rfl, t1, a_run_step (st := stX11_pieceBy) (p2 := (100000, [some (.int (iI ((z : Int) % 5)))], d, e)) (by
      show sX11_pieceBy_13 d e _ _ _ _ = _
      unfold sX11_pieceBy_13
      simp (disch := omega) only [nI_iI, lN_lJ, iI_0, lJ_0, iI_add, iI_sub, iI_mul, iI_neg, lJ_add, lJ_sub, lJ_mul, lJ_neg, i_l, l_i, iI_cl, iI_inb, iI_eqT, iI_eqF, iI_ltT, iI_ltF, iI_leT, iI_leF, lJ_eqT, lJ_eqF, lJ_cG, lJ_cE, lJ_cL, lJ_cF, lJ_cGE, lJ_cLE, lJ_cNL, lJ_cNG, Int.cast_ofNat_Int, c_0, c_1, Int.natCast_add, Int.add_zero, cond_true, cond_false, Bool.and_self, Bool.and_true, Bool.true_and, Option.bind_some, decide_true, uI_hit, uI_miss, uI_o, uA_o, uA_s, ↓reduceIte, eq_self, true_or, or_true, or_false, false_or, true_and, and_true, false_and, and_false, or_self, and_self, not_false_eq_true, not_true_eq_false, tn_i, iI_rem, decide_eq_true]) rfl, a_run_end]
    rfl
  · rintro t p ht ⟨z, hz, rfl⟩
    have zl : z < 3125 := by rw [hz]; exact Nat.lt_of_le_of_lt (Nat.div_le_self _ _) hx
    refine ⟨(13, [some (.ref 108), some (.int (iI (x : Nat))), some (.int (iI (k : Nat))), some (.int (iI ((z / 5 : Nat) : Int))), some (.int (iI ((n : Int) - 1 - (t + 1 : Nat))))], d, e), a_run_step ?_ rfl, z / 5, by rw [hz, Nat.pow_succ, Nat.div_div_eq_div_mul], rfl⟩
    have e2 : ((z / 5 : Nat) : Int) = (z : Int) / 5 := by omega
    rw [e2, show (n : Int) - 1 - (t + 1 : Nat) = (n : Int) - 1 - (t : Nat) + -1 from by omega]
    show sX11_pieceBy_13 d e _ _ _ _ = _
    unfold sX11_pieceBy_13
    simp (disch := omega) only [nI_iI, lN_lJ, iI_0, lJ_0, iI_add, iI_sub, iI_mul, iI_neg, lJ_add, lJ_sub, lJ_mul, lJ_neg, i_l, l_i, iI_cl, iI_inb, iI_eqT, iI_eqF, iI_ltT, iI_ltF, iI_leT, iI_leF, lJ_eqT, lJ_eqF, lJ_cG, lJ_cE, lJ_cL, lJ_cF, lJ_cGE, lJ_cLE, lJ_cNL, lJ_cNG, Int.cast_ofNat_Int, c_0, c_1, Int.natCast_add, Int.add_zero, cond_true, cond_false, Bool.and_self, Bool.and_true, Bool.true_and, Option.bind_some, decide_true, uI_hit, uI_miss, uI_o, uA_o, uA_s, ↓reduceIte, eq_self, true_or, or_true, or_false, false_or, true_and, and_true, false_and, and_false, or_self, and_self, not_false_eq_true, not_true_eq_false, tn_i, iI_div, decide_eq_true]
def usJ (n x : Nat) : Nat → Int32
  | 0 => iI 0
  | k + 1 => usJ n x k ||| a_shl (iI 1) (iI (dgJ n x k : Nat))
theorem usJ_b {n x : Nat} (k : Nat) : BM (usJ n x k) (fun p => ∃ j, j < k ∧ dgJ n x j = p) := by
  induction k with
  | zero => exact BM.zero (fun k z => by obtain ⟨j, j1, _⟩ := z; omega)
  | succ k ih =>
    have l := dgJ_lt (n := n) (x := x) (j := k)
    refine (ih.or (i := dgJ n x k) (by omega)).cg (fun i hi => ⟨fun w => ?_, fun w => ?_⟩)
    · rcases w with ⟨j, j1, j2⟩ | w
      · exact ⟨j, by omega, j2⟩
      · exact ⟨k, by omega, w.symm⟩
    · obtain ⟨j, j1, j2⟩ := w
      by_cases w2 : j = k
      · rw [w2] at j2; exact Or.inr j2.symm
      · exact Or.inl ⟨j, by omega, j2⟩
theorem mq_firstBit {d : aI} {e : aJ} {A : Int → Int} (hA : MA d 109 A) {p : Nat} (hp : p < 5) : FX11_firstBit d e (iI (p : Nat)) = some (a_shr (iI (A (102 + 2 * p + 1))) (iI (A (102 + 2 * p) - 1)) &&& iI 1, d, e) := by
  have n1 : d 109 (102 + 2 * (p : Int)).toNat = iI (A (102 + 2 * p)) := hA.cell (by omega)
  have n2 : d 109 (102 + 2 * (p : Int) + 1).toNat = iI (A (102 + 2 * p + 1)) := hA.cell (by omega)
  unfold FX11_firstBit
  simp (disch := omega) only [nI_iI, lN_lJ, iI_0, lJ_0, iI_add, iI_sub, iI_mul, iI_neg, lJ_add, lJ_sub, lJ_mul, lJ_neg, i_l, l_i, iI_cl, iI_inb, iI_eqT, iI_eqF, iI_ltT, iI_ltF, iI_leT, iI_leF, lJ_eqT, lJ_eqF, lJ_cG, lJ_cE, lJ_cL, lJ_cF, lJ_cGE, lJ_cLE, lJ_cNL, lJ_cNG, Int.cast_ofNat_Int, c_0, c_1, Int.natCast_add, Int.add_zero, cond_true, cond_false, Bool.and_self, Bool.and_true, Bool.true_and, Option.bind_some, decide_true, uI_hit, uI_miss, uI_o, uA_o, uA_s, ↓reduceIte, eq_self, true_or, or_true, or_false, false_or, true_and, and_true, false_and, and_false, or_self, and_self, not_false_eq_true, not_true_eq_false, tn_i, n1, n2]
theorem mq_areJoined {d : aI} {e : aJ} {A : Int → Int} (hA : MA d 109 A) {n : Nat} (hn : A 7 = n) (n5 : n ≤ 5) {x : Nat} (hx : x < 3125) : FX11_areJoined d e (iI (x : Nat)) = some (iI (if fuJ A n x then 1 else 0), d, e) := by
  have n7 : d 109 7 = iI (n : Int) := by rw [← hn]; exact hA.cell (j := 7) (by omega)
  have key := run_fndX (st := stX11_areJoined) (V := Option Value) (fun k v => (4, [some (.ref 108), some (.int (iI (x : Nat))), some (.int (usJ n x k)), some (.int (iI (k : Nat))), v], d, e)) (fun r _ => some ([some (.int (iI (if r = -1 then 1 else 0)))], d, e)) (fun k => ¬okJ A n x k) n ?_ ?_ ?_ none
  · obtain ⟨_, key⟩ := key
    have st : FX11_areJoined d e (iI (x : Nat)) = some (iI (if fnd (fun k => ¬okJ A n x k) n = -1 then 1 else 0), d, e) := by
      unfold FX11_areJoined
      rw [a_run_step (st := stX11_areJoined) (p := (0, [some (.ref 108), some (.int (iI (x : Nat))), none, none, none], d, e)) (p2 := (4, [some (.ref 108), some (.int (iI (x : Nat))), some (.int (usJ n x 0)), some (.int (iI (0 : Nat))), none], d, e)) rfl rfl]
      refine (congrArg (fun z => z.bind a_xI) key).trans ?_
      rfl
    rw [st]
    by_cases f : fnd (fun k => ¬okJ A n x k) n = -1
    · rw [if_pos f, if_pos (fun j hj => Classical.byContradiction (fun z => (fnd_no f j hj) z))]
    · rw [if_neg f, if_neg (fun z => by
        have y := fnd_yes f
        have l := fnd_le (p := fun k => ¬okJ A n x k) n
        exact y (z _ (by omega)))]
  · intro k v hk hp
    have ok : okJ A n x k := Classical.byContradiction hp
    have l5 := dgJ_lt (n := n) (x := x) (j := k)
    have l1 := ok.1
    have q1 := mq_pieceBy (e := e) hA hn n5 hx hk
    have us := (usJ_b (n := n) (x := x) k).has (k := dgJ n x k) (by omega)
    have nu : ¬hasP (usJ n x k) (dgJ n x k : Nat) := fun z => by
      obtain ⟨j, j1, j2⟩ := us.mp z
      exact ok.2.1 j j1 j2
    refine ⟨some (.int (iI (dgJ n x k : Nat))), a_run_step ?_ rfl⟩
    show sX11_areJoined_4 d e _ _ _ v = some (4, [some (.ref 108), some (.int (iI (x : Nat))), some (.int (usJ n x k ||| a_shl (iI 1) (iI (dgJ n x k : Nat)))), some (.int (iI (k + 1 : Nat))), some (.int (iI (dgJ n x k : Nat)))], d, e)
    unfold sX11_areJoined_4
    by_cases k0 : k = 0
    · simp (disch := omega) only [nI_iI, lN_lJ, iI_0, lJ_0, iI_add, iI_sub, iI_mul, iI_neg, lJ_add, lJ_sub, lJ_mul, lJ_neg, i_l, l_i, iI_cl, iI_inb, iI_eqT, iI_eqF, iI_ltT, iI_ltF, iI_leT, iI_leF, lJ_eqT, lJ_eqF, lJ_cG, lJ_cE, lJ_cL, lJ_cF, lJ_cGE, lJ_cLE, lJ_cNL, lJ_cNG, Int.cast_ofNat_Int, c_0, c_1, Int.natCast_add, Int.add_zero, cond_true, cond_false, Bool.and_self, Bool.and_true, Bool.true_and, Option.bind_some, decide_true, uI_hit, uI_miss, uI_o, uA_o, uA_s, ↓reduceIte, eq_self, true_or, or_true, or_false, false_or, true_and, and_true, false_and, and_false, or_self, and_self, not_false_eq_true, not_true_eq_false, tn_i, n7, q1, mq_has_n nu]
    · have L : lkJ A (dgJ n x (k - 1)) (dgJ n x k) := ok.2.2.resolve_left k0
      have L2 : (iI (A (102 + 2 * (dgJ n x (k - 1)) + 1)) &&& iI 1) = (a_shr (iI (A (102 + 2 * (dgJ n x k) + 1))) (iI (A (102 + 2 * (dgJ n x k)) - 1)) &&& iI 1) := L.symm
      have q2 := mq_pieceBy (d := d) (e := e) hA hn n5 hx (k := k - 1) (by omega)
      rw [show ((k - 1 : Nat) : Int) = (k : Int) - 1 from by omega] at q2
      have l6 := dgJ_lt (n := n) (x := x) (j := k - 1)
      have n2 : d 109 (102 + 2 * (dgJ n x (k - 1) : Int) + 1).toNat = iI (A (102 + 2 * (dgJ n x (k - 1)) + 1)) := hA.cell (by omega)
      have q3 := mq_firstBit (e := e) hA (p := dgJ n x k) (by omega)
      simp (disch := omega) only [nI_iI, lN_lJ, iI_0, lJ_0, iI_add, iI_sub, iI_mul, iI_neg, lJ_add, lJ_sub, lJ_mul, lJ_neg, i_l, l_i, iI_cl, iI_inb, iI_eqT, iI_eqF, iI_ltT, iI_ltF, iI_leT, iI_leF, lJ_eqT, lJ_eqF, lJ_cG, lJ_cE, lJ_cL, lJ_cF, lJ_cGE, lJ_cLE, lJ_cNL, lJ_cNG, Int.cast_ofNat_Int, c_0, c_1, Int.natCast_add, Int.add_zero, cond_true, cond_false, Bool.and_self, Bool.and_true, Bool.true_and, Option.bind_some, decide_true, uI_hit, uI_miss, uI_o, uA_o, uA_s, ↓reduceIte, eq_self, true_or, or_true, or_false, false_or, true_and, and_true, false_and, and_false, or_self, and_self, not_false_eq_true, not_true_eq_false, tn_i, n7, q1, mq_has_n nu, q2, n2, q3, L2]
  · intro k v hk hp
    have l5 := dgJ_lt (n := n) (x := x) (j := k)
    have q1 := mq_pieceBy (e := e) hA hn n5 hx hk
    have us := (usJ_b (n := n) (x := x) k).has (k := dgJ n x k) (by omega)
    refine ⟨none, ?_⟩
    rw [if_neg (by omega), a_run_step (st := stX11_areJoined) (p2 := (100000, [some (.int (iI 0))], d, e)) ?_ rfl, a_run_end]
    show sX11_areJoined_4 d e _ _ _ v = _
    unfold sX11_areJoined_4
    by_cases l1 : dgJ n x k < n
    · by_cases nu : hasP (usJ n x k) (dgJ n x k : Nat)
      · simp (disch := omega) only [nI_iI, lN_lJ, iI_0, lJ_0, iI_add, iI_sub, iI_mul, iI_neg, lJ_add, lJ_sub, lJ_mul, lJ_neg, i_l, l_i, iI_cl, iI_inb, iI_eqT, iI_eqF, iI_ltT, iI_ltF, iI_leT, iI_leF, lJ_eqT, lJ_eqF, lJ_cG, lJ_cE, lJ_cL, lJ_cF, lJ_cGE, lJ_cLE, lJ_cNL, lJ_cNG, Int.cast_ofNat_Int, c_0, c_1, Int.natCast_add, Int.add_zero, cond_true, cond_false, Bool.and_self, Bool.and_true, Bool.true_and, Option.bind_some, decide_true, uI_hit, uI_miss, uI_o, uA_o, uA_s, ↓reduceIte, eq_self, true_or, or_true, or_false, false_or, true_and, and_true, false_and, and_false, or_self, and_self, not_false_eq_true, not_true_eq_false, tn_i, n7, q1, mq_has_y nu]
      · have nu2 : ∀ i, i < k → dgJ n x i ≠ dgJ n x k := fun i h1 h2 => nu (us.mpr ⟨i, h1, h2⟩)
        by_cases k0 : k = 0
        · exact absurd ⟨l1, nu2, Or.inl k0⟩ hp
        · have L2 : ¬(iI (A (102 + 2 * (dgJ n x (k - 1)) + 1)) &&& iI 1) = (a_shr (iI (A (102 + 2 * (dgJ n x k) + 1))) (iI (A (102 + 2 * (dgJ n x k)) - 1)) &&& iI 1) := fun z => hp ⟨l1, nu2, Or.inr z.symm⟩
          have q2 := mq_pieceBy (d := d) (e := e) hA hn n5 hx (k := k - 1) (by omega)
          rw [show ((k - 1 : Nat) : Int) = (k : Int) - 1 from by omega] at q2
          have l6 := dgJ_lt (n := n) (x := x) (j := k - 1)
          have n2 : d 109 (102 + 2 * (dgJ n x (k - 1) : Int) + 1).toNat = iI (A (102 + 2 * (dgJ n x (k - 1)) + 1)) := hA.cell (by omega)
          have q3 := mq_firstBit (e := e) hA (p := dgJ n x k) (by omega)
          simp (disch := omega) only [nI_iI, lN_lJ, iI_0, lJ_0, iI_add, iI_sub, iI_mul, iI_neg, lJ_add, lJ_sub, lJ_mul, lJ_neg, i_l, l_i, iI_cl, iI_inb, iI_eqT, iI_eqF, iI_ltT, iI_ltF, iI_leT, iI_leF, lJ_eqT, lJ_eqF, lJ_cG, lJ_cE, lJ_cL, lJ_cF, lJ_cGE, lJ_cLE, lJ_cNL, lJ_cNG, Int.cast_ofNat_Int, c_0, c_1, Int.natCast_add, Int.add_zero, cond_true, cond_false, Bool.and_self, Bool.and_true, Bool.true_and, Option.bind_some, decide_true, uI_hit, uI_miss, uI_o, uA_o, uA_s, ↓reduceIte, eq_self, true_or, or_true, or_false, false_or, true_and, and_true, false_and, and_false, or_self, and_self, not_false_eq_true, not_true_eq_false, tn_i, n7, q1, mq_has_n nu, q2, n2, q3, L2]
    · simp (disch := omega) only [nI_iI, lN_lJ, iI_0, lJ_0, iI_add, iI_sub, iI_mul, iI_neg, lJ_add, lJ_sub, lJ_mul, lJ_neg, i_l, l_i, iI_cl, iI_inb, iI_eqT, iI_eqF, iI_ltT, iI_ltF, iI_leT, iI_leF, lJ_eqT, lJ_eqF, lJ_cG, lJ_cE, lJ_cL, lJ_cF, lJ_cGE, lJ_cLE, lJ_cNL, lJ_cNG, Int.cast_ofNat_Int, c_0, c_1, Int.natCast_add, Int.add_zero, cond_true, cond_false, Bool.and_self, Bool.and_true, Bool.true_and, Option.bind_some, decide_true, uI_hit, uI_miss, uI_o, uA_o, uA_s, ↓reduceIte, eq_self, true_or, or_true, or_false, false_or, true_and, and_true, false_and, and_false, or_self, and_self, not_false_eq_true, not_true_eq_false, tn_i, n7, q1]
  · intro v
    refine ⟨none, ?_⟩
    rw [if_pos rfl, a_run_step (st := stX11_areJoined) (p2 := (100000, [some (.int (iI 1))], d, e)) (by
      show sX11_areJoined_4 d e _ _ _ v = _
      unfold sX11_areJoined_4
      simp (disch := omega) only [nI_iI, lN_lJ, iI_0, lJ_0, iI_add, iI_sub, iI_mul, iI_neg, lJ_add, lJ_sub, lJ_mul, lJ_neg, i_l, l_i, iI_cl, iI_inb, iI_eqT, iI_eqF, iI_ltT, iI_ltF, iI_leT, iI_leF, lJ_eqT, lJ_eqF, lJ_cG, lJ_cE, lJ_cL, lJ_cF, lJ_cGE, lJ_cLE, lJ_cNL, lJ_cNG, Int.cast_ofNat_Int, c_0, c_1, Int.natCast_add, Int.add_zero, cond_true, cond_false, Bool.and_self, Bool.and_true, Bool.true_and, Option.bind_some, decide_true, uI_hit, uI_miss, uI_o, uA_o, uA_s, ↓reduceIte, eq_self, true_or, or_true, or_false, false_or, true_and, and_true, false_and, and_false, or_self, and_self, not_false_eq_true, not_true_eq_false, tn_i, n7]) rfl, a_run_end]
/-- how the reference keeps it -/
def JM (d : aI) (A : Int → Int) (n x : Nat) : Prop := d 108 31 = iI ((jnS A n x).1 : Nat) ∧ d 108 30 = iI (if (jnS A n x).1 = 0 then -1 else ((jnS A n x).2 : Nat))
def Kl (d d' : aI) : Prop := ∀ o j, (o ≠ 108 ∨ (j ≠ 30 ∧ j ≠ 31)) → d' o j = d o j
theorem Kl.refl (d : aI) : Kl d d := fun _ _ _ => rfl
theorem Kl.trans {d d1 d2 : aI} (h : Kl d d1) (h2 : Kl d1 d2) : Kl d d2 := fun o j a => (h2 o j a).trans (h o j a)
theorem Kl.obj {d d' : aI} (h : Kl d d') {o : Nat} (ho : o ≠ 108) : d' o = d o := by funext j; exact h o j (Or.inl ho)
theorem Kl.km {d d' : aI} (h : Kl d d') : Km d d' := ⟨fun k _ b => h.obj b, fun j a => h 108 j (by omega)⟩
theorem Kl.put {d : aI} {j : Nat} {v : Int32} (hj : j = 30 ∨ j = 31) : Kl d (uI d 108 j v) := fun o i a => by
  by_cases q : o = 108
  · rw [q, uI_miss (by omega)]
  · rw [uI_o q]
theorem mq_layJoins {d : aI} {e : aJ} {A : Int → Int} (hA : MA d 109 A) {n : Nat} (hn : A 7 = n) (n5 : n ≤ 5) : ∃ d', FX11_layJoins d e = some ((), d', e) ∧ JM d' A n (5 ^ n) ∧ Kl d d' := by
  have n7 : ∀ {d : aI}, MA d 109 A → d 109 7 = iI (n : Int) := fun h => by rw [← hn]; exact h.cell (j := 7) (by omega)
  have n7d := n7 hA
  have p3 : 5 ^ n ≤ 5 ^ 5 := Nat.pow_le_pow_right (by omega) n5
  have l1 := run_invR (st := stX11_layJoins) (fun k p => p = (4, [some (.ref 108), some (.int (iI (5 ^ k : Nat))), some (.int (iI (k : Nat)))], d, e)) n (p0 := (4, [some (.ref 108), some (.int (iI (5 ^ 0 : Nat))), some (.int (iI (0 : Nat)))], d, e)) rfl ?_
  rotate_left
  · rintro k p hk rfl
    refine ⟨_, a_run_step (p2 := (4, [some (.ref 108), some (.int (iI (5 ^ (k + 1) : Nat))), some (.int (iI (k + 1 : Nat)))], d, e)) ?_ rfl, rfl⟩
    have pk : 5 ^ k ≤ 5 ^ 5 := Nat.pow_le_pow_right (by omega) (by omega)
    rw [Nat.pow_succ]
    generalize 5 ^ k = z at pk
    have e1 : ((z * 5 : Nat) : Int) = (z : Int) * 5 := by omega
    rw [e1]
    show sX11_layJoins_4 d e _ _ = _
    unfold sX11_layJoins_4
    simp (disch := omega) only [nI_iI, lN_lJ, iI_0, lJ_0, iI_add, iI_sub, iI_mul, iI_neg, lJ_add, lJ_sub, lJ_mul, lJ_neg, i_l, l_i, iI_cl, iI_inb, iI_eqT, iI_eqF, iI_ltT, iI_ltF, iI_leT, iI_leF, lJ_eqT, lJ_eqF, lJ_cG, lJ_cE, lJ_cL, lJ_cF, lJ_cGE, lJ_cLE, lJ_cNL, lJ_cNG, Int.cast_ofNat_Int, c_0, c_1, Int.natCast_add, Int.add_zero, cond_true, cond_false, Bool.and_self, Bool.and_true, Bool.true_and, Option.bind_some, decide_true, uI_hit, uI_miss, uI_o, uA_o, uA_s, ↓reduceIte, eq_self, true_or, or_true, or_false, false_or, true_and, and_true, false_and, and_false, or_self, and_self, not_false_eq_true, not_true_eq_false, tn_i, n7d]
  obtain ⟨p, rfl, t1⟩ := l1
  generalize hz : 5 ^ n = N at *
  have st1 : stX11_layJoins (4, [some (.ref 108), some (.int (iI (N : Nat))), some (.int (iI (n : Nat)))], d, e) = some (37, [some (.ref 108), some (.int (iI (N : Nat))), some (.int (iI (0 : Nat)))], uI (uI d 108 30 (iI (-1))) 108 31 (iI 0), e) := by
    show sX11_layJoins_4 d e _ _ = _
    unfold sX11_layJoins_4
    simp (disch := omega) only [nI_iI, lN_lJ, iI_0, lJ_0, iI_add, iI_sub, iI_mul, iI_neg, lJ_add, lJ_sub, lJ_mul, lJ_neg, i_l, l_i, iI_cl, iI_inb, iI_eqT, iI_eqF, iI_ltT, iI_ltF, iI_leT, iI_leF, lJ_eqT, lJ_eqF, lJ_cG, lJ_cE, lJ_cL, lJ_cF, lJ_cGE, lJ_cLE, lJ_cNL, lJ_cNG, Int.cast_ofNat_Int, c_0, c_1, Int.natCast_add, Int.add_zero, cond_true, cond_false, Bool.and_self, Bool.and_true, Bool.true_and, Option.bind_some, decide_true, uI_hit, uI_miss, uI_o, uA_o, uA_s, ↓reduceIte, eq_self, true_or, or_true, or_false, false_or, true_and, and_true, false_and, and_false, or_self, and_self, not_false_eq_true, not_true_eq_false, tn_i, n7d]
  have k0 : Kl d (uI (uI d 108 30 (iI (-1))) 108 31 (iI 0)) := (Kl.put (Or.inl rfl)).trans (Kl.put (Or.inr rfl))
  have l2 := run_invR (st := stX11_layJoins) (fun k p => ∃ d', p = (37, [some (.ref 108), some (.int (iI (N : Nat))), some (.int (iI (k : Nat)))], d', e) ∧ JM d' A n k ∧ Kl d d') N (p0 := (37, [some (.ref 108), some (.int (iI (N : Nat))), some (.int (iI (0 : Nat)))], uI (uI d 108 30 (iI (-1))) 108 31 (iI 0), e)) ⟨_, rfl, ⟨uI_hit rfl, by rw [uI_miss (by omega), uI_hit rfl]; rfl⟩, k0⟩ ?_
  rotate_left
  · rintro k p hk ⟨d', rfl, ⟨j1, j2⟩, g⟩
    have hA' := hA.of (g.obj (o := 109) (by omega))
    have q := mq_areJoined (e := e) hA' hn n5 (x := k) (by omega)
    have le := jnS_le (A := A) (n := n) k
    by_cases f : fuJ A n k
    · rw [if_pos f] at q
      by_cases w : (jnS A n k).1 = 0
      · rw [w] at j1
        rw [if_pos w] at j2
        refine ⟨_, a_run_step (p2 := (37, [some (.ref 108), some (.int (iI (N : Nat))), some (.int (iI (k + 1 : Nat)))], uI (uI d' 108 30 (iI (k : Nat))) 108 31 (iI 1), e)) ?_ rfl, _, rfl, ⟨?_, ?_⟩, g.trans ((Kl.put (Or.inl rfl)).trans (Kl.put (Or.inr rfl)))⟩
        · show sX11_layJoins_37 d' e _ _ = _
          unfold sX11_layJoins_37
          simp (disch := omega) only [nI_iI, lN_lJ, iI_0, lJ_0, iI_add, iI_sub, iI_mul, iI_neg, lJ_add, lJ_sub, lJ_mul, lJ_neg, i_l, l_i, iI_cl, iI_inb, iI_eqT, iI_eqF, iI_ltT, iI_ltF, iI_leT, iI_leF, lJ_eqT, lJ_eqF, lJ_cG, lJ_cE, lJ_cL, lJ_cF, lJ_cGE, lJ_cLE, lJ_cNL, lJ_cNG, Int.cast_ofNat_Int, c_0, c_1, Int.natCast_add, Int.add_zero, cond_true, cond_false, Bool.and_self, Bool.and_true, Bool.true_and, Option.bind_some, decide_true, uI_hit, uI_miss, uI_o, uA_o, uA_s, ↓reduceIte, eq_self, true_or, or_true, or_false, false_or, true_and, and_true, false_and, and_false, or_self, and_self, not_false_eq_true, not_true_eq_false, tn_i, q, j1, j2, Int.zero_add]
        · rw [uI_hit rfl, jnS_s, if_pos f, w]; rfl
        · rw [uI_miss (by omega), uI_hit rfl, jnS_s, if_pos f, w]; rfl
      · rw [if_neg w] at j2
        have l2 := (le.2 w).1
        refine ⟨_, a_run_step (p2 := (37, [some (.ref 108), some (.int (iI (N : Nat))), some (.int (iI (k + 1 : Nat)))], uI d' 108 31 (iI (((jnS A n k).1 + 1 : Nat) : Int)), e)) ?_ rfl, _, rfl, ⟨?_, ?_⟩, g.trans (Kl.put (Or.inr rfl))⟩
        · show sX11_layJoins_37 d' e _ _ = _
          unfold sX11_layJoins_37
          simp (disch := omega) only [nI_iI, lN_lJ, iI_0, lJ_0, iI_add, iI_sub, iI_mul, iI_neg, lJ_add, lJ_sub, lJ_mul, lJ_neg, i_l, l_i, iI_cl, iI_inb, iI_eqT, iI_eqF, iI_ltT, iI_ltF, iI_leT, iI_leF, lJ_eqT, lJ_eqF, lJ_cG, lJ_cE, lJ_cL, lJ_cF, lJ_cGE, lJ_cLE, lJ_cNL, lJ_cNG, Int.cast_ofNat_Int, c_0, c_1, Int.natCast_add, Int.add_zero, cond_true, cond_false, Bool.and_self, Bool.and_true, Bool.true_and, Option.bind_some, decide_true, uI_hit, uI_miss, uI_o, uA_o, uA_s, ↓reduceIte, eq_self, true_or, or_true, or_false, false_or, true_and, and_true, false_and, and_false, or_self, and_self, not_false_eq_true, not_true_eq_false, tn_i, q, j1, j2, Int.zero_add]
        · rw [uI_hit rfl, jnS_s, if_pos f]
        · rw [uI_miss (by omega), j2, jnS_s, if_pos f]
          show _ = iI (if (jnS A n k).1 + 1 = 0 then -1 else ((if (jnS A n k).1 = 0 then k else (jnS A n k).2 : Nat) : Int))
          rw [if_neg w, if_neg (by omega)]
    · rw [if_neg f] at q
      refine ⟨_, a_run_step (p2 := (37, [some (.ref 108), some (.int (iI (N : Nat))), some (.int (iI (k + 1 : Nat)))], d', e)) ?_ rfl, d', rfl, ?_, g⟩
      · show sX11_layJoins_37 d' e _ _ = _
        unfold sX11_layJoins_37
        simp (disch := omega) only [nI_iI, lN_lJ, iI_0, lJ_0, iI_add, iI_sub, iI_mul, iI_neg, lJ_add, lJ_sub, lJ_mul, lJ_neg, i_l, l_i, iI_cl, iI_inb, iI_eqT, iI_eqF, iI_ltT, iI_ltF, iI_leT, iI_leF, lJ_eqT, lJ_eqF, lJ_cG, lJ_cE, lJ_cL, lJ_cF, lJ_cGE, lJ_cLE, lJ_cNL, lJ_cNG, Int.cast_ofNat_Int, c_0, c_1, Int.natCast_add, Int.add_zero, cond_true, cond_false, Bool.and_self, Bool.and_true, Bool.true_and, Option.bind_some, decide_true, uI_hit, uI_miss, uI_o, uA_o, uA_s, ↓reduceIte, eq_self, true_or, or_true, or_false, false_or, true_and, and_true, false_and, and_false, or_self, and_self, not_false_eq_true, not_true_eq_false, tn_i, q]
      · unfold JM
        rw [jnS_s, if_neg f]
        exact ⟨j1, j2⟩
  obtain ⟨p, ⟨d2, rfl, j, g⟩, t2⟩ := l2
  refine ⟨d2, ?_, j, g⟩
  unfold FX11_layJoins
  rw [a_run_step (st := stX11_layJoins) (p := (0, [some (.ref 108), none, none], d, e)) (p2 := (4, [some (.ref 108), some (.int (iI (5 ^ 0 : Nat))), some (.int (iI (0 : Nat)))], d, e)) rfl rfl, t1, a_run_step st1 rfl, t2, a_run_step (st := stX11_layJoins) (p2 := (100000, [], d2, e)) (by
    show sX11_layJoins_37 d2 e _ _ = _
    unfold sX11_layJoins_37
    simp (disch := omega) only [nI_iI, lN_lJ, iI_0, lJ_0, iI_add, iI_sub, iI_mul, iI_neg, lJ_add, lJ_sub, lJ_mul, lJ_neg, i_l, l_i, iI_cl, iI_inb, iI_eqT, iI_eqF, iI_ltT, iI_ltF, iI_leT, iI_leF, lJ_eqT, lJ_eqF, lJ_cG, lJ_cE, lJ_cL, lJ_cF, lJ_cGE, lJ_cLE, lJ_cNL, lJ_cNG, Int.cast_ofNat_Int, c_0, c_1, Int.natCast_add, Int.add_zero, cond_true, cond_false, Bool.and_self, Bool.and_true, Bool.true_and, Option.bind_some, decide_true, uI_hit, uI_miss, uI_o, uA_o, uA_s, ↓reduceIte, eq_self, true_or, or_true, or_false, false_or, true_and, and_true, false_and, and_false, or_self, and_self, not_false_eq_true, not_true_eq_false, tn_i]) rfl, a_run_end]
  rfl
theorem o_joins (x : Int32) : Op (fun d e => FX10_joins d e x) (fun d e => FX11_joins d e x) := by
  obtain ⟨i, rfl, i1, i2⟩ := iI_ex x
  refine Op.quest (fun S hS => ?_)
  have hSI := hS.1
  have b7 := hSI.nts.2.2.1.1
  obtain ⟨n, hn⟩ := Int.eq_ofNat_of_zero_le (show 0 ≤ S.1 7 by omega)
  have n5 : n ≤ 5 := by omega
  have p3 : 5 ^ n ≤ 5 ^ 5 := Nat.pow_le_pow_right (by omega) n5
  have le := jnS_le (A := S.1) (n := n) (5 ^ n)
  have cls : ∀ d e, CI d S → ∃ d', FX0_join d e = some ((), d', e) ∧ JC d' S.1 n (5 ^ n) ∧ Kj d d' := fun d e hC => cq_join (e := e) hC.nt.2.2.1 hn n5
  have ref : ∀ d e, MI d S → ∃ d', FX11_layJoins d e = some ((), d', e) ∧ JM d' S.1 n (5 ^ n) ∧ Kl d d' := fun d e hM => mq_layJoins (e := e) hM.1 hn n5
  have kc : ∀ d d', Kj d d' → Kc d d' := fun d d' g k a => g k (by omega) (by omega) (by omega)
  generalize hs : jnS S.1 n (5 ^ n) = s at le
  by_cases h1 : i = -1
  · subst h1
    refine ⟨iI (s.1 : Nat), fun d e hC => ?_, fun d e hM => ?_⟩
    · obtain ⟨d', q1, q2, q3⟩ := cls d e hC
      have r := q2.1
      rw [hs] at r
      refine ⟨d', e, ?_, kc d d' q3⟩
      show FX10_joins d e (iI (-1)) = _
      unfold FX10_joins
      simp (disch := omega) only [nI_iI, lN_lJ, iI_0, lJ_0, iI_add, iI_sub, iI_mul, iI_neg, lJ_add, lJ_sub, lJ_mul, lJ_neg, i_l, l_i, iI_cl, iI_inb, iI_eqT, iI_eqF, iI_ltT, iI_ltF, iI_leT, iI_leF, lJ_eqT, lJ_eqF, lJ_cG, lJ_cE, lJ_cL, lJ_cF, lJ_cGE, lJ_cLE, lJ_cNL, lJ_cNG, Int.cast_ofNat_Int, c_0, c_1, Int.natCast_add, Int.add_zero, cond_true, cond_false, Bool.and_self, Bool.and_true, Bool.true_and, Option.bind_some, decide_true, uI_hit, uI_miss, uI_o, uA_o, uA_s, ↓reduceIte, eq_self, true_or, or_true, or_false, false_or, true_and, and_true, false_and, and_false, or_self, and_self, not_false_eq_true, not_true_eq_false, tn_i, q1, r]
    · obtain ⟨d', q1, q2, q3⟩ := ref d e hM
      have r := q2.1
      rw [hs] at r
      refine ⟨d', e, ?_, q3.km⟩
      show FX11_joins d e (iI (-1)) = _
      unfold FX11_joins
      simp (disch := omega) only [nI_iI, lN_lJ, iI_0, lJ_0, iI_add, iI_sub, iI_mul, iI_neg, lJ_add, lJ_sub, lJ_mul, lJ_neg, i_l, l_i, iI_cl, iI_inb, iI_eqT, iI_eqF, iI_ltT, iI_ltF, iI_leT, iI_leF, lJ_eqT, lJ_eqF, lJ_cG, lJ_cE, lJ_cL, lJ_cF, lJ_cGE, lJ_cLE, lJ_cNL, lJ_cNG, Int.cast_ofNat_Int, c_0, c_1, Int.natCast_add, Int.add_zero, cond_true, cond_false, Bool.and_self, Bool.and_true, Bool.true_and, Option.bind_some, decide_true, uI_hit, uI_miss, uI_o, uA_o, uA_s, ↓reduceIte, eq_self, true_or, or_true, or_false, false_or, true_and, and_true, false_and, and_false, or_self, and_self, not_false_eq_true, not_true_eq_false, tn_i, q1, r]
  · by_cases g : s.1 ≠ 0 ∧ (0 ≤ i ∧ i < n)
    · obtain ⟨I, rfl⟩ := Int.eq_ofNat_of_zero_le g.2.1
      have l2 := (le.2 g.1).1
      have hI : I < n := by omega
      refine ⟨iI (dgJ n s.2 I : Nat), fun d e hC => ?_, fun d e hM => ?_⟩
      · obtain ⟨d', q1, q2, q3⟩ := cls d e hC
        have r := q2.1
        have r2 := q2.2 (by rw [hs]; exact g.1) I hI
        have r4 : d' 21 4 = iI (n : Int) := by rw [q3 21 (by omega) (by omega) (by omega), ← hn]; exact hC.nt.2.2.1.2.1
        have s1 := g.1
        rw [hs] at r r2
        refine ⟨d', e, ?_, kc d d' q3⟩
        show FX10_joins d e (iI I) = _
        unfold FX10_joins FX3_has
        simp (disch := omega) only [nI_iI, lN_lJ, iI_0, lJ_0, iI_add, iI_sub, iI_mul, iI_neg, lJ_add, lJ_sub, lJ_mul, lJ_neg, i_l, l_i, iI_cl, iI_inb, iI_eqT, iI_eqF, iI_ltT, iI_ltF, iI_leT, iI_leF, lJ_eqT, lJ_eqF, lJ_cG, lJ_cE, lJ_cL, lJ_cF, lJ_cGE, lJ_cLE, lJ_cNL, lJ_cNG, Int.cast_ofNat_Int, c_0, c_1, Int.natCast_add, Int.add_zero, cond_true, cond_false, Bool.and_self, Bool.and_true, Bool.true_and, Option.bind_some, decide_true, uI_hit, uI_miss, uI_o, uA_o, uA_s, ↓reduceIte, eq_self, true_or, or_true, or_false, false_or, true_and, and_true, false_and, and_false, or_self, and_self, not_false_eq_true, not_true_eq_false, tn_i, Int.toNat_natCast, q1, r, r2, r4, decide_eq_true]
      · obtain ⟨d', q1, q2, q3⟩ := ref d e hM
        obtain ⟨r, r2⟩ := q2
        have hA' := hM.1.of (q3.obj (o := 109) (by omega))
        have n7 : d' 109 7 = iI (n : Int) := by rw [← hn]; exact hA'.cell (j := 7) (by omega)
        have s1 := g.1
        rw [hs] at r r2
        rw [if_neg s1] at r2
        have pb := mq_pieceBy (e := e) hA' hn n5 (x := s.2) (by omega) hI
        refine ⟨d', e, ?_, q3.km⟩
        show FX11_joins d e (iI I) = _
        unfold FX11_joins
        simp (disch := omega) only [nI_iI, lN_lJ, iI_0, lJ_0, iI_add, iI_sub, iI_mul, iI_neg, lJ_add, lJ_sub, lJ_mul, lJ_neg, i_l, l_i, iI_cl, iI_inb, iI_eqT, iI_eqF, iI_ltT, iI_ltF, iI_leT, iI_leF, lJ_eqT, lJ_eqF, lJ_cG, lJ_cE, lJ_cL, lJ_cF, lJ_cGE, lJ_cLE, lJ_cNL, lJ_cNG, Int.cast_ofNat_Int, c_0, c_1, Int.natCast_add, Int.add_zero, cond_true, cond_false, Bool.and_self, Bool.and_true, Bool.true_and, Option.bind_some, decide_true, uI_hit, uI_miss, uI_o, uA_o, uA_s, ↓reduceIte, eq_self, true_or, or_true, or_false, false_or, true_and, and_true, false_and, and_false, or_self, and_self, not_false_eq_true, not_true_eq_false, tn_i, q1, r, r2, n7, mq_in_y, pb]
    · refine ⟨iI (-2), fun d e hC => ?_, fun d e hM => ?_⟩
      · obtain ⟨d', q1, q2, q3⟩ := cls d e hC
        have r := q2.1
        have r4 : d' 21 4 = iI (n : Int) := by rw [q3 21 (by omega) (by omega) (by omega), ← hn]; exact hC.nt.2.2.1.2.1
        rw [hs] at r
        refine ⟨d', e, ?_, kc d d' q3⟩
        show FX10_joins d e (iI i) = _
        unfold FX10_joins FX3_has
        by_cases c : 0 ≤ i ∧ i < n
        · have s1 : s.1 = 0 := Classical.byContradiction (fun z => g ⟨z, c⟩)
          simp (disch := omega) only [nI_iI, lN_lJ, iI_0, lJ_0, iI_add, iI_sub, iI_mul, iI_neg, lJ_add, lJ_sub, lJ_mul, lJ_neg, i_l, l_i, iI_cl, iI_inb, iI_eqT, iI_eqF, iI_ltT, iI_ltF, iI_leT, iI_leF, lJ_eqT, lJ_eqF, lJ_cG, lJ_cE, lJ_cL, lJ_cF, lJ_cGE, lJ_cLE, lJ_cNL, lJ_cNG, Int.cast_ofNat_Int, c_0, c_1, Int.natCast_add, Int.add_zero, cond_true, cond_false, Bool.and_self, Bool.and_true, Bool.true_and, Option.bind_some, decide_true, uI_hit, uI_miss, uI_o, uA_o, uA_s, ↓reduceIte, eq_self, true_or, or_true, or_false, false_or, true_and, and_true, false_and, and_false, or_self, and_self, not_false_eq_true, not_true_eq_false, tn_i, q1, r, r4, decide_eq_true]
        · by_cases c2 : i < 0
          · simp (disch := omega) only [nI_iI, lN_lJ, iI_0, lJ_0, iI_add, iI_sub, iI_mul, iI_neg, lJ_add, lJ_sub, lJ_mul, lJ_neg, i_l, l_i, iI_cl, iI_inb, iI_eqT, iI_eqF, iI_ltT, iI_ltF, iI_leT, iI_leF, lJ_eqT, lJ_eqF, lJ_cG, lJ_cE, lJ_cL, lJ_cF, lJ_cGE, lJ_cLE, lJ_cNL, lJ_cNG, Int.cast_ofNat_Int, c_0, c_1, Int.natCast_add, Int.add_zero, cond_true, cond_false, Bool.and_self, Bool.and_true, Bool.true_and, Option.bind_some, decide_true, uI_hit, uI_miss, uI_o, uA_o, uA_s, ↓reduceIte, eq_self, true_or, or_true, or_false, false_or, true_and, and_true, false_and, and_false, or_self, and_self, not_false_eq_true, not_true_eq_false, tn_i, q1, r, r4, decide_eq_true]
          · simp (disch := omega) only [nI_iI, lN_lJ, iI_0, lJ_0, iI_add, iI_sub, iI_mul, iI_neg, lJ_add, lJ_sub, lJ_mul, lJ_neg, i_l, l_i, iI_cl, iI_inb, iI_eqT, iI_eqF, iI_ltT, iI_ltF, iI_leT, iI_leF, lJ_eqT, lJ_eqF, lJ_cG, lJ_cE, lJ_cL, lJ_cF, lJ_cGE, lJ_cLE, lJ_cNL, lJ_cNG, Int.cast_ofNat_Int, c_0, c_1, Int.natCast_add, Int.add_zero, cond_true, cond_false, Bool.and_self, Bool.and_true, Bool.true_and, Option.bind_some, decide_true, uI_hit, uI_miss, uI_o, uA_o, uA_s, ↓reduceIte, eq_self, true_or, or_true, or_false, false_or, true_and, and_true, false_and, and_false, or_self, and_self, not_false_eq_true, not_true_eq_false, tn_i, q1, r, r4, decide_eq_true]
      · obtain ⟨d', q1, q2, q3⟩ := ref d e hM
        obtain ⟨r, r2⟩ := q2
        have hA' := hM.1.of (q3.obj (o := 109) (by omega))
        have n7 : d' 109 7 = iI (n : Int) := by rw [← hn]; exact hA'.cell (j := 7) (by omega)
        rw [hs] at r r2
        refine ⟨d', e, ?_, q3.km⟩
        show FX11_joins d e (iI i) = _
        unfold FX11_joins
        by_cases s1 : s.1 = 0
        · simp (disch := omega) only [nI_iI, lN_lJ, iI_0, lJ_0, iI_add, iI_sub, iI_mul, iI_neg, lJ_add, lJ_sub, lJ_mul, lJ_neg, i_l, l_i, iI_cl, iI_inb, iI_eqT, iI_eqF, iI_ltT, iI_ltF, iI_leT, iI_leF, lJ_eqT, lJ_eqF, lJ_cG, lJ_cE, lJ_cL, lJ_cF, lJ_cGE, lJ_cLE, lJ_cNL, lJ_cNG, Int.cast_ofNat_Int, c_0, c_1, Int.natCast_add, Int.add_zero, cond_true, cond_false, Bool.and_self, Bool.and_true, Bool.true_and, Option.bind_some, decide_true, uI_hit, uI_miss, uI_o, uA_o, uA_s, ↓reduceIte, eq_self, true_or, or_true, or_false, false_or, true_and, and_true, false_and, and_false, or_self, and_self, not_false_eq_true, not_true_eq_false, tn_i, q1, r, n7]
        · have c : ¬(0 ≤ i ∧ i < n) := fun z => g ⟨s1, z⟩
          simp (disch := omega) only [nI_iI, lN_lJ, iI_0, lJ_0, iI_add, iI_sub, iI_mul, iI_neg, lJ_add, lJ_sub, lJ_mul, lJ_neg, i_l, l_i, iI_cl, iI_inb, iI_eqT, iI_eqF, iI_ltT, iI_ltF, iI_leT, iI_leF, lJ_eqT, lJ_eqF, lJ_cG, lJ_cE, lJ_cL, lJ_cF, lJ_cGE, lJ_cLE, lJ_cNL, lJ_cNG, Int.cast_ofNat_Int, c_0, c_1, Int.natCast_add, Int.add_zero, cond_true, cond_false, Bool.and_self, Bool.and_true, Bool.true_and, Option.bind_some, decide_true, uI_hit, uI_miss, uI_o, uA_o, uA_s, ↓reduceIte, eq_self, true_or, or_true, or_false, false_or, true_and, and_true, false_and, and_false, or_self, and_self, not_false_eq_true, not_true_eq_false, tn_i, q1, r, n7, mq_in_n]
-- the dream
theorem smJ : ∀ f, f < 5 → ((Int32.toInt64 (iI (f : Nat)) &&& 63).toBitVec.smod 64).toNat = f := by decide +kernel
theorem zbJ : ∀ B, B < 16 → ∀ f, f < 5 → ∀ i, i < 64 → f ≤ i → (Int32.toInt64 (iI (B : Nat) &&& (a_shl (iI 1) (iI (f : Nat)) - iI 1))).toBitVec.getLsbD i = false := by decide +kernel
theorem or_add {y : Int64} {f B : Int} (hf : 0 ≤ f ∧ f ≤ 4) (hB : 0 ≤ B ∧ B < 16) : (a_jshl y (iI f) ||| Int32.toInt64 (iI B &&& (a_shl (iI 1) (iI f) - iI 1))) = a_jshl y (iI f) + Int32.toInt64 (iI B &&& (a_shl (iI 1) (iI f) - iI 1)) := by
  obtain ⟨F, rfl⟩ := Int.eq_ofNat_of_zero_le hf.1
  obtain ⟨G, rfl⟩ := Int.eq_ofNat_of_zero_le hB.1
  have zb := zbJ G (by omega) F (by omega)
  generalize Int32.toInt64 (iI (G : Nat) &&& (a_shl (iI 1) (iI (F : Nat)) - iI 1)) = z at zb
  have e : (a_jshl y (iI (F : Nat))).toBitVec = y.toBitVec <<< ((Int32.toInt64 (iI (F : Nat)) &&& 63).toBitVec.smod 64).toNat := rfl
  rw [smJ F (by omega)] at e
  have h : (a_jshl y (iI (F : Nat))).toBitVec &&& z.toBitVec = 0#64 := by
    apply BitVec.eq_of_getLsbD_eq
    intro i hi
    rw [BitVec.getLsbD_and, BitVec.getLsbD_zero]
    by_cases q : F ≤ i
    · rw [zb i hi q, Bool.and_false]
    · rw [e, BitVec.getLsbD_shiftLeft, decide_eq_true (show i < F by omega), Bool.not_true, Bool.and_false, Bool.false_and, Bool.false_and]
  apply Int64.toBitVec_inj.mp
  have a1 := BitVec.add_eq_or_of_and_eq_zero _ _ h
  exact a1.symm
def frJ (A : Int → Int) (n c k : Nat) : Int := if k = 0 then A (102 + 2 * (dgJ n c k : Nat)) else A (102 + 2 * (dgJ n c k : Nat)) - 1
noncomputable def wsJ (A : Int → Int) (n c : Nat) : Nat → Int64
  | 0 => lJ 0
  | k + 1 => a_jshl (wsJ A n c k) (iI (frJ A n c k)) + Int32.toInt64 (iI (A (102 + 2 * (dgJ n c k : Nat) + 1)) &&& (a_shl (iI 1) (iI (frJ A n c k)) - iI 1))
theorem pc_in {A : Int → Int} (hS : SI A) {n c k : Nat} (hn : A 7 = n) (h : dgJ n c k < n) : (1 ≤ A (102 + 2 * (dgJ n c k : Nat)) ∧ A (102 + 2 * (dgJ n c k : Nat)) ≤ 4) ∧ (0 ≤ A (102 + 2 * (dgJ n c k : Nat) + 1) ∧ A (102 + 2 * (dgJ n c k : Nat) + 1) < 16) := by
  have b := hS.nts.2.2.1.2 (dgJ n c k) (by omega) (by omega)
  have p : (2 : Int) ^ (A (102 + 2 * (dgJ n c k : Nat))).toNat ≤ 16 := by
    rcases (show A (102 + 2 * (dgJ n c k : Nat)) = 1 ∨ A (102 + 2 * (dgJ n c k : Nat)) = 2 ∨ A (102 + 2 * (dgJ n c k : Nat)) = 3 ∨ A (102 + 2 * (dgJ n c k : Nat)) = 4 by omega) with h | h | h | h <;> rw [h] <;> decide
  omega
theorem cq_whole {d : aI} {e : aJ} {A : Int → Int} (hN : NT d 21 A 7 102 2 5) (hS : SI A) {n c : Nat} (hn : A 7 = n) (n5 : n ≤ 5) (fu : fuJ A n c) (h4 : ∀ j, j < n → d 104 j = iI (dgJ n c j : Nat)) : FX0_whole d e = some (wsJ A n c n, d, e) := by
  have n4 : d 21 4 = iI (n : Int) := by rw [← hn]; exact hN.2.1
  have key := run_invR (st := stX0_whole) (fun k p => ∃ v5 v6, p = (5, [some (.ref 103), some (.ref 21), some (.long (wsJ A n c k)), none, some (.int (iI (k : Nat))), v5, v6], d, e)) n (p0 := (5, [some (.ref 103), some (.ref 21), some (.long (wsJ A n c 0)), none, some (.int (iI (0 : Nat))), none, none], d, e)) ⟨none, none, rfl⟩ ?_
  · obtain ⟨p, ⟨v5, v6, rfl⟩, t1⟩ := key
    have st0 : stX0_whole (0, [some (.ref 103), some (.ref 21), none, none, none, none, none], d, e) = some (5, [some (.ref 103), some (.ref 21), some (.long (wsJ A n c 0)), none, some (.int (iI (0 : Nat))), none, none], d, e) := rfl
    unfold FX0_whole
    rw [a_run_step st0 rfl, t1, a_run_step (st := stX0_whole) (p2 := (100000, [some (.long (wsJ A n c n))], d, e)) (by
      show sX0_whole_5 d e _ _ v5 v6 = _
      unfold sX0_whole_5
      simp (disch := omega) only [nI_iI, lN_lJ, iI_0, lJ_0, iI_add, iI_sub, iI_mul, iI_neg, lJ_add, lJ_sub, lJ_mul, lJ_neg, i_l, l_i, iI_cl, iI_inb, iI_eqT, iI_eqF, iI_ltT, iI_ltF, iI_leT, iI_leF, lJ_eqT, lJ_eqF, lJ_cG, lJ_cE, lJ_cL, lJ_cF, lJ_cGE, lJ_cLE, lJ_cNL, lJ_cNG, Int.cast_ofNat_Int, c_0, c_1, Int.natCast_add, Int.add_zero, cond_true, cond_false, Bool.and_self, Bool.and_true, Bool.true_and, Option.bind_some, decide_true, uI_hit, uI_miss, uI_o, uA_o, uA_s, ↓reduceIte, eq_self, true_or, or_true, or_false, false_or, true_and, and_true, false_and, and_false, or_self, and_self, not_false_eq_true, not_true_eq_false, tn_i, n4]) rfl, a_run_end]
    rfl
  · rintro k p hk ⟨v5, v6, rfl⟩
    have l := (fu k hk).1
    have i1 := pc_in hS hn l
    have r4 := h4 k hk
    have m1 : d 22 (dgJ n c k) = iI (A (102 + 2 * (dgJ n c k : Nat))) := hN.2.2.1 (dgJ n c k) (by omega)
    have m2 : d 23 (dgJ n c k) = iI (A (102 + 2 * (dgJ n c k : Nat) + 1)) := hN.2.2.2 (dgJ n c k) (by omega)
    have oa := or_add (y := wsJ A n c k) (f := frJ A n c k) (B := A (102 + 2 * (dgJ n c k : Nat) + 1)) (by unfold frJ; split <;> omega) i1.2
    refine ⟨(5, [some (.ref 103), some (.ref 21), some (.long (wsJ A n c (k + 1))), none, some (.int (iI (k + 1 : Nat))), some (.int (iI (dgJ n c k : Nat))), some (.int (iI (frJ A n c k)))], d, e), a_run_step ?_ rfl, _, _, rfl⟩
    show sX0_whole_5 d e _ _ v5 v6 = some (5, [some (.ref 103), some (.ref 21), some (.long (a_jshl (wsJ A n c k) (iI (frJ A n c k)) + Int32.toInt64 (iI (A (102 + 2 * (dgJ n c k : Nat) + 1)) &&& (a_shl (iI 1) (iI (frJ A n c k)) - iI 1)))), none, some (.int (iI (k + 1 : Nat))), some (.int (iI (dgJ n c k : Nat))), some (.int (iI (frJ A n c k)))], d, e)
    rw [← oa]
    unfold frJ
    by_cases k0 : k = 0
    · rw [if_pos k0]
      unfold sX0_whole_5
      simp (disch := omega) only [nI_iI, lN_lJ, iI_0, lJ_0, iI_add, iI_sub, iI_mul, iI_neg, lJ_add, lJ_sub, lJ_mul, lJ_neg, i_l, l_i, iI_cl, iI_inb, iI_eqT, iI_eqF, iI_ltT, iI_ltF, iI_leT, iI_leF, lJ_eqT, lJ_eqF, lJ_cG, lJ_cE, lJ_cL, lJ_cF, lJ_cGE, lJ_cLE, lJ_cNL, lJ_cNG, Int.cast_ofNat_Int, c_0, c_1, Int.natCast_add, Int.add_zero, cond_true, cond_false, Bool.and_self, Bool.and_true, Bool.true_and, Option.bind_some, decide_true, uI_hit, uI_miss, uI_o, uA_o, uA_s, ↓reduceIte, eq_self, true_or, or_true, or_false, false_or, true_and, and_true, false_and, and_false, or_self, and_self, not_false_eq_true, not_true_eq_false, tn_i, Int.toNat_natCast, n4, r4, m1, m2]
    · rw [if_neg k0]
      unfold sX0_whole_5
      simp (disch := omega) only [nI_iI, lN_lJ, iI_0, lJ_0, iI_add, iI_sub, iI_mul, iI_neg, lJ_add, lJ_sub, lJ_mul, lJ_neg, i_l, l_i, iI_cl, iI_inb, iI_eqT, iI_eqF, iI_ltT, iI_ltF, iI_leT, iI_leF, lJ_eqT, lJ_eqF, lJ_cG, lJ_cE, lJ_cL, lJ_cF, lJ_cGE, lJ_cLE, lJ_cNL, lJ_cNG, Int.cast_ofNat_Int, c_0, c_1, Int.natCast_add, Int.add_zero, cond_true, cond_false, Bool.and_self, Bool.and_true, Bool.true_and, Option.bind_some, decide_true, uI_hit, uI_miss, uI_o, uA_o, uA_s, ↓reduceIte, eq_self, true_or, or_true, or_false, false_or, true_and, and_true, false_and, and_false, or_self, and_self, not_false_eq_true, not_true_eq_false, tn_i, Int.toNat_natCast, n4, r4, m1, m2]
theorem o_dream : Op FX10_dream FX11_dream := by
  refine Op.quest (fun S hS => ?_)
  have hSI := hS.1
  have b7 := hSI.nts.2.2.1.1
  obtain ⟨n, hn⟩ := Int.eq_ofNat_of_zero_le (show 0 ≤ S.1 7 by omega)
  have n5 : n ≤ 5 := by omega
  have p3 : 5 ^ n ≤ 5 ^ 5 := Nat.pow_le_pow_right (by omega) n5
  have le := jnS_le (A := S.1) (n := n) (5 ^ n)
  have cls : ∀ d e, CI d S → ∃ d', FX0_join d e = some ((), d', e) ∧ JC d' S.1 n (5 ^ n) ∧ Kj d d' := fun d e hC => cq_join (e := e) hC.nt.2.2.1 hn n5
  have ref : ∀ d e, MI d S → ∃ d', FX11_layJoins d e = some ((), d', e) ∧ JM d' S.1 n (5 ^ n) ∧ Kl d d' := fun d e hM => mq_layJoins (e := e) hM.1 hn n5
  have kc : ∀ d d', Kj d d' → Kc d d' := fun d d' g k a => g k (by omega) (by omega) (by omega)
  generalize hs : jnS S.1 n (5 ^ n) = s at le
  by_cases s1 : s.1 = 0
  · refine ⟨lJ (-1), fun d e hC => ?_, fun d e hM => ?_⟩
    · obtain ⟨d', q1, q2, q3⟩ := cls d e hC
      have r := q2.1
      rw [hs, s1] at r
      refine ⟨d', e, ?_, kc d d' q3⟩
      unfold FX10_dream
      simp (disch := omega) only [nI_iI, lN_lJ, iI_0, lJ_0, iI_add, iI_sub, iI_mul, iI_neg, lJ_add, lJ_sub, lJ_mul, lJ_neg, i_l, l_i, iI_cl, iI_inb, iI_eqT, iI_eqF, iI_ltT, iI_ltF, iI_leT, iI_leF, lJ_eqT, lJ_eqF, lJ_cG, lJ_cE, lJ_cL, lJ_cF, lJ_cGE, lJ_cLE, lJ_cNL, lJ_cNG, Int.cast_ofNat_Int, c_0, c_1, Int.natCast_add, Int.add_zero, cond_true, cond_false, Bool.and_self, Bool.and_true, Bool.true_and, Option.bind_some, decide_true, uI_hit, uI_miss, uI_o, uA_o, uA_s, ↓reduceIte, eq_self, true_or, or_true, or_false, false_or, true_and, and_true, false_and, and_false, or_self, and_self, not_false_eq_true, not_true_eq_false, tn_i, q1, r]
    · obtain ⟨d', q1, q2, q3⟩ := ref d e hM
      have r := q2.1
      rw [hs, s1] at r
      refine ⟨d', e, ?_, q3.km⟩
      unfold FX11_dream
      rw [a_run_step (st := stX11_dream) (p2 := (100000, [some (.long (lJ (-1)))], d', e)) (by
        show sX11_dream_0 d e = _
        unfold sX11_dream_0
        simp (disch := omega) only [nI_iI, lN_lJ, iI_0, lJ_0, iI_add, iI_sub, iI_mul, iI_neg, lJ_add, lJ_sub, lJ_mul, lJ_neg, i_l, l_i, iI_cl, iI_inb, iI_eqT, iI_eqF, iI_ltT, iI_ltF, iI_leT, iI_leF, lJ_eqT, lJ_eqF, lJ_cG, lJ_cE, lJ_cL, lJ_cF, lJ_cGE, lJ_cLE, lJ_cNL, lJ_cNG, Int.cast_ofNat_Int, c_0, c_1, Int.natCast_add, Int.add_zero, cond_true, cond_false, Bool.and_self, Bool.and_true, Bool.true_and, Option.bind_some, decide_true, uI_hit, uI_miss, uI_o, uA_o, uA_s, ↓reduceIte, eq_self, true_or, or_true, or_false, false_or, true_and, and_true, false_and, and_false, or_self, and_self, not_false_eq_true, not_true_eq_false, tn_i, q1, r]) rfl, a_run_end]
      rfl
  · obtain ⟨l2, fu⟩ := le.2 s1
    refine ⟨wsJ S.1 n s.2 n, fun d e hC => ?_, fun d e hM => ?_⟩
    · obtain ⟨d', q1, q2, q3⟩ := cls d e hC
      have r := q2.1
      have r2 := q2.2 (by rw [hs]; exact s1)
      rw [hs] at r r2
      have q := cq_whole (e := e) (hC.nt.2.2.1.of (fun o a b => q3 o (by omega) (by omega) (by omega))) hSI hn n5 fu r2
      refine ⟨d', e, ?_, kc d d' q3⟩
      unfold FX10_dream
      simp (disch := omega) only [nI_iI, lN_lJ, iI_0, lJ_0, iI_add, iI_sub, iI_mul, iI_neg, lJ_add, lJ_sub, lJ_mul, lJ_neg, i_l, l_i, iI_cl, iI_inb, iI_eqT, iI_eqF, iI_ltT, iI_ltF, iI_leT, iI_leF, lJ_eqT, lJ_eqF, lJ_cG, lJ_cE, lJ_cL, lJ_cF, lJ_cGE, lJ_cLE, lJ_cNL, lJ_cNG, Int.cast_ofNat_Int, c_0, c_1, Int.natCast_add, Int.add_zero, cond_true, cond_false, Bool.and_self, Bool.and_true, Bool.true_and, Option.bind_some, decide_true, uI_hit, uI_miss, uI_o, uA_o, uA_s, ↓reduceIte, eq_self, true_or, or_true, or_false, false_or, true_and, and_true, false_and, and_false, or_self, and_self, not_false_eq_true, not_true_eq_false, tn_i, q1, r, q]
    · obtain ⟨d', q1, q2, q3⟩ := ref d e hM
      obtain ⟨r, r2⟩ := q2
      have hA' := hM.1.of (q3.obj (o := 109) (by omega))
      have n7 : d' 109 7 = iI (n : Int) := by rw [← hn]; exact hA'.cell (j := 7) (by omega)
      rw [hs] at r r2
      rw [if_neg s1] at r2
      refine ⟨d', e, ?_, q3.km⟩
      have key := run_invR (st := stX11_dream) (fun k p => ∃ v4 v5, p = (19, [some (.ref 108), some (.long (wsJ S.1 n s.2 k)), none, some (.int (iI (k : Nat))), v4, v5], d', e)) n (p0 := (19, [some (.ref 108), some (.long (wsJ S.1 n s.2 0)), none, some (.int (iI (0 : Nat))), none, none], d', e)) ⟨none, none, rfl⟩ ?_
      · obtain ⟨p, ⟨v4, v5, rfl⟩, t1⟩ := key
        have st0 : stX11_dream (0, [some (.ref 108), none, none, none, none, none], d, e) = some (19, [some (.ref 108), some (.long (wsJ S.1 n s.2 0)), none, some (.int (iI (0 : Nat))), none, none], d', e) := by
          show sX11_dream_0 d e = some (19, [some (.ref 108), some (.long (lJ 0)), none, some (.int (iI (0 : Nat))), none, none], d', e)
          unfold sX11_dream_0
          simp (disch := omega) only [nI_iI, lN_lJ, iI_0, lJ_0, iI_add, iI_sub, iI_mul, iI_neg, lJ_add, lJ_sub, lJ_mul, lJ_neg, i_l, l_i, iI_cl, iI_inb, iI_eqT, iI_eqF, iI_ltT, iI_ltF, iI_leT, iI_leF, lJ_eqT, lJ_eqF, lJ_cG, lJ_cE, lJ_cL, lJ_cF, lJ_cGE, lJ_cLE, lJ_cNL, lJ_cNG, Int.cast_ofNat_Int, c_0, c_1, Int.natCast_add, Int.add_zero, cond_true, cond_false, Bool.and_self, Bool.and_true, Bool.true_and, Option.bind_some, decide_true, uI_hit, uI_miss, uI_o, uA_o, uA_s, ↓reduceIte, eq_self, true_or, or_true, or_false, false_or, true_and, and_true, false_and, and_false, or_self, and_self, not_false_eq_true, not_true_eq_false, tn_i, q1, r]
        unfold FX11_dream
        rw [a_run_step st0 rfl, t1, a_run_step (st := stX11_dream) (p2 := (100000, [some (.long (wsJ S.1 n s.2 n))], d', e)) (by
          show sX11_dream_19 d' e _ _ v4 v5 = _
          unfold sX11_dream_19
          simp (disch := omega) only [nI_iI, lN_lJ, iI_0, lJ_0, iI_add, iI_sub, iI_mul, iI_neg, lJ_add, lJ_sub, lJ_mul, lJ_neg, i_l, l_i, iI_cl, iI_inb, iI_eqT, iI_eqF, iI_ltT, iI_ltF, iI_leT, iI_leF, lJ_eqT, lJ_eqF, lJ_cG, lJ_cE, lJ_cL, lJ_cF, lJ_cGE, lJ_cLE, lJ_cNL, lJ_cNG, Int.cast_ofNat_Int, c_0, c_1, Int.natCast_add, Int.add_zero, cond_true, cond_false, Bool.and_self, Bool.and_true, Bool.true_and, Option.bind_some, decide_true, uI_hit, uI_miss, uI_o, uA_o, uA_s, ↓reduceIte, eq_self, true_or, or_true, or_false, false_or, true_and, and_true, false_and, and_false, or_self, and_self, not_false_eq_true, not_true_eq_false, tn_i, n7]) rfl, a_run_end]
        rfl
      · rintro k p hk ⟨v4, v5, rfl⟩
        have l := (fu k hk).1
        have i1 := pc_in hSI hn l
        have pb := mq_pieceBy (e := e) hA' hn n5 (x := s.2) (by omega) hk
        have m1 : d' 109 (102 + 2 * (dgJ n s.2 k : Int)).toNat = iI (S.1 (102 + 2 * (dgJ n s.2 k : Nat))) := hA'.cell (by omega)
        have m2 : d' 109 (102 + 2 * (dgJ n s.2 k : Int) + 1).toNat = iI (S.1 (102 + 2 * (dgJ n s.2 k : Nat) + 1)) := hA'.cell (by omega)
        refine ⟨(19, [some (.ref 108), some (.long (wsJ S.1 n s.2 (k + 1))), none, some (.int (iI (k + 1 : Nat))), some (.int (iI (dgJ n s.2 k : Nat))), some (.int (iI (frJ S.1 n s.2 k)))], d', e), a_run_step ?_ rfl, _, _, rfl⟩
        show sX11_dream_19 d' e _ _ v4 v5 = some (19, [some (.ref 108), some (.long (a_jshl (wsJ S.1 n s.2 k) (iI (frJ S.1 n s.2 k)) + Int32.toInt64 (iI (S.1 (102 + 2 * (dgJ n s.2 k : Nat) + 1)) &&& (a_shl (iI 1) (iI (frJ S.1 n s.2 k)) - iI 1)))), none, some (.int (iI (k + 1 : Nat))), some (.int (iI (dgJ n s.2 k : Nat))), some (.int (iI (frJ S.1 n s.2 k)))], d', e)
        unfold frJ
        by_cases k0 : k = 0
        · rw [if_pos k0]
          unfold sX11_dream_19
          simp (disch := omega) only [nI_iI, lN_lJ, iI_0, lJ_0, iI_add, iI_sub, iI_mul, iI_neg, lJ_add, lJ_sub, lJ_mul, lJ_neg, i_l, l_i, iI_cl, iI_inb, iI_eqT, iI_eqF, iI_ltT, iI_ltF, iI_leT, iI_leF, lJ_eqT, lJ_eqF, lJ_cG, lJ_cE, lJ_cL, lJ_cF, lJ_cGE, lJ_cLE, lJ_cNL, lJ_cNG, Int.cast_ofNat_Int, c_0, c_1, Int.natCast_add, Int.add_zero, cond_true, cond_false, Bool.and_self, Bool.and_true, Bool.true_and, Option.bind_some, decide_true, uI_hit, uI_miss, uI_o, uA_o, uA_s, ↓reduceIte, eq_self, true_or, or_true, or_false, false_or, true_and, and_true, false_and, and_false, or_self, and_self, not_false_eq_true, not_true_eq_false, tn_i, n7, r2, pb, m1, m2, Int.sub_zero]
        · rw [if_neg k0]
          unfold sX11_dream_19
          simp (disch := omega) only [nI_iI, lN_lJ, iI_0, lJ_0, iI_add, iI_sub, iI_mul, iI_neg, lJ_add, lJ_sub, lJ_mul, lJ_neg, i_l, l_i, iI_cl, iI_inb, iI_eqT, iI_eqF, iI_ltT, iI_ltF, iI_leT, iI_leF, lJ_eqT, lJ_eqF, lJ_cG, lJ_cE, lJ_cL, lJ_cF, lJ_cGE, lJ_cLE, lJ_cNL, lJ_cNG, Int.cast_ofNat_Int, c_0, c_1, Int.natCast_add, Int.add_zero, cond_true, cond_false, Bool.and_self, Bool.and_true, Bool.true_and, Option.bind_some, decide_true, uI_hit, uI_miss, uI_o, uA_o, uA_s, ↓reduceIte, eq_self, true_or, or_true, or_false, false_or, true_and, and_true, false_and, and_false, or_self, and_self, not_false_eq_true, not_true_eq_false, tn_i, n7, r2, pb, m1, m2]
