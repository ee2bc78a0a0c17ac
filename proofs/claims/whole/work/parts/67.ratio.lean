/-! ===== in lowest terms: share, chances ===== -/
theorem gcd_st (p q : Nat) : Nat.gcd p q = Nat.gcd q (p % q) := by
  rw [Nat.gcd_comm p q, Nat.gcd_rec, Nat.gcd_comm]
theorem mod_half {q r m : Nat} (hr : 0 < r) (hq : r ≤ q) (h : q < 2 ^ (m + 1)) : q % r < 2 ^ m := by
  have h1 := Nat.div_add_mod q r
  have h2 : 0 < q / r := Nat.div_pos hq hr
  have h3 : r ≤ r * (q / r) := Nat.le_mul_of_pos_right r h2
  have h4 := Nat.mod_lt q hr
  have h5 : 2 ^ (m + 1) = 2 * 2 ^ m := by rw [Nat.pow_succ, Nat.mul_comm]
  omega
theorem nat_mod (p q : Nat) : ((p % q : Nat) : Int) = (p : Int) % (q : Int) := Int.natCast_emod p q
def lowS (u a : Nat) (low : Bool) : Int := ((if low then (a : Int) else u).tdiv ((Nat.gcd u a : Nat) : Int))
theorem cq_ratio {d : aI} {e : aJ} {u a : Nat} (low : Bool) (hu : u < 2 ^ 20) (ha : 0 < a ∧ a < 2 ^ 20) : FX10_ratio d e (lJ u) (lJ a) (iI (tv low)) = some (lJ (lowS u a low), d, e) := by
  have fin : ∀ (c : Nat) (i : Int) (v w : Option Value), 0 < c → c < 2 ^ 20 → 0 ≤ i → i ≤ 100 → stX10_ratio (9, [some (.long (lJ u)), none, some (.long (lJ a)), none, some (.int (iI (tv low))), some (.long (lJ c)), none, some (.long (lJ ((0 : Nat) : Int))), none, some (.int (iI i)), v, w], d, e) = some (100000, [some (.long (lJ ((if low then (a : Int) else u).tdiv (c : Int))))], d, e) := by
    intro c i v w c0 c1 i0 i1
    show sX10_ratio_9 d e _ _ _ _ _ _ v w = _
    unfold sX10_ratio_9
    by_cases h100 : 100 ≤ i
    · cases low
      · simp only [show tv false = 0 from rfl, Bool.false_eq_true, if_false]
        simp (disch := omega) only [nI_iI, lN_lJ, iI_0, lJ_0, iI_add, iI_sub, iI_mul, iI_neg, lJ_add, lJ_sub, lJ_mul, lJ_neg, i_l, l_i, iI_cl, iI_inb, iI_eqT, iI_eqF, iI_ltT, iI_ltF, iI_leT, iI_leF, lJ_eqT, lJ_eqF, lJ_cG, lJ_cE, lJ_cL, lJ_cF, lJ_cGE, lJ_cLE, lJ_cNL, lJ_cNG, Int.cast_ofNat_Int, c_0, c_1, Int.natCast_add, Int.add_zero, cond_true, cond_false, Bool.and_self, Bool.and_true, Bool.true_and, Option.bind_some, decide_true, uI_hit, uI_miss, uI_o, uA_o, uA_s, ↓reduceIte, eq_self, true_or, or_true, or_false, false_or, true_and, and_true, false_and, and_false, or_self, and_self, not_false_eq_true, not_true_eq_false, tn_i, lJ_div, decide_eq_true]
      · simp only [show tv true = 1 from rfl, if_true]
        simp (disch := omega) only [nI_iI, lN_lJ, iI_0, lJ_0, iI_add, iI_sub, iI_mul, iI_neg, lJ_add, lJ_sub, lJ_mul, lJ_neg, i_l, l_i, iI_cl, iI_inb, iI_eqT, iI_eqF, iI_ltT, iI_ltF, iI_leT, iI_leF, lJ_eqT, lJ_eqF, lJ_cG, lJ_cE, lJ_cL, lJ_cF, lJ_cGE, lJ_cLE, lJ_cNL, lJ_cNG, Int.cast_ofNat_Int, c_0, c_1, Int.natCast_add, Int.add_zero, cond_true, cond_false, Bool.and_self, Bool.and_true, Bool.true_and, Option.bind_some, decide_true, uI_hit, uI_miss, uI_o, uA_o, uA_s, ↓reduceIte, eq_self, true_or, or_true, or_false, false_or, true_and, and_true, false_and, and_false, or_self, and_self, not_false_eq_true, not_true_eq_false, tn_i, lJ_div, decide_eq_true]
    · cases low
      · simp only [show tv false = 0 from rfl, Bool.false_eq_true, if_false]
        simp (disch := omega) only [nI_iI, lN_lJ, iI_0, lJ_0, iI_add, iI_sub, iI_mul, iI_neg, lJ_add, lJ_sub, lJ_mul, lJ_neg, i_l, l_i, iI_cl, iI_inb, iI_eqT, iI_eqF, iI_ltT, iI_ltF, iI_leT, iI_leF, lJ_eqT, lJ_eqF, lJ_cG, lJ_cE, lJ_cL, lJ_cF, lJ_cGE, lJ_cLE, lJ_cNL, lJ_cNG, Int.cast_ofNat_Int, c_0, c_1, Int.natCast_add, Int.add_zero, cond_true, cond_false, Bool.and_self, Bool.and_true, Bool.true_and, Option.bind_some, decide_true, uI_hit, uI_miss, uI_o, uA_o, uA_s, ↓reduceIte, eq_self, true_or, or_true, or_false, false_or, true_and, and_true, false_and, and_false, or_self, and_self, not_false_eq_true, not_true_eq_false, tn_i, lJ_div, decide_eq_true]
      · simp only [show tv true = 1 from rfl, if_true]
        simp (disch := omega) only [nI_iI, lN_lJ, iI_0, lJ_0, iI_add, iI_sub, iI_mul, iI_neg, lJ_add, lJ_sub, lJ_mul, lJ_neg, i_l, l_i, iI_cl, iI_inb, iI_eqT, iI_eqF, iI_ltT, iI_ltF, iI_leT, iI_leF, lJ_eqT, lJ_eqF, lJ_cG, lJ_cE, lJ_cL, lJ_cF, lJ_cGE, lJ_cLE, lJ_cNL, lJ_cNG, Int.cast_ofNat_Int, c_0, c_1, Int.natCast_add, Int.add_zero, cond_true, cond_false, Bool.and_self, Bool.and_true, Bool.true_and, Option.bind_some, decide_true, uI_hit, uI_miss, uI_o, uA_o, uA_s, ↓reduceIte, eq_self, true_or, or_true, or_false, false_or, true_and, and_true, false_and, and_false, or_self, and_self, not_false_eq_true, not_true_eq_false, tn_i, lJ_div, decide_eq_true]
  have step : ∀ (p q : Nat) (i : Int) (v w : Option Value), 0 < q → q < 2 ^ 20 → p < 2 ^ 20 → 0 ≤ i → i < 100 → stX10_ratio (9, [some (.long (lJ u)), none, some (.long (lJ a)), none, some (.int (iI (tv low))), some (.long (lJ p)), none, some (.long (lJ q)), none, some (.int (iI i)), v, w], d, e) = some (9, [some (.long (lJ u)), none, some (.long (lJ a)), none, some (.int (iI (tv low))), some (.long (lJ q)), none, some (.long (lJ ((p % q : Nat) : Int))), none, some (.int (iI (i + 1))), some (.long (lJ ((p % q : Nat) : Int))), none], d, e) := by
    intro p q i v w q0 q1 p1 i0 i1
    show sX10_ratio_9 d e _ _ _ _ _ _ v w = _
    unfold sX10_ratio_9
    rw [nat_mod]
    simp (disch := omega) only [nI_iI, lN_lJ, iI_0, lJ_0, iI_add, iI_sub, iI_mul, iI_neg, lJ_add, lJ_sub, lJ_mul, lJ_neg, i_l, l_i, iI_cl, iI_inb, iI_eqT, iI_eqF, iI_ltT, iI_ltF, iI_leT, iI_leF, lJ_eqT, lJ_eqF, lJ_cG, lJ_cE, lJ_cL, lJ_cF, lJ_cGE, lJ_cLE, lJ_cNL, lJ_cNG, Int.cast_ofNat_Int, c_0, c_1, Int.natCast_add, Int.add_zero, cond_true, cond_false, Bool.and_self, Bool.and_true, Bool.true_and, Option.bind_some, decide_true, uI_hit, uI_miss, uI_o, uA_o, uA_s, ↓reduceIte, eq_self, true_or, or_true, or_false, false_or, true_and, and_true, false_and, and_false, or_self, and_self, not_false_eq_true, not_true_eq_false, tn_i, lJ_rem, decide_eq_true]
  have key : ∀ (m : Nat) (p q : Nat) (i : Int) (v w : Option Value), m ≤ 20 → q < 2 ^ m → 0 < p → p < 2 ^ 20 → 0 ≤ i → i + 2 * m ≤ 90 → a_run stX10_ratio (9, [some (.long (lJ u)), none, some (.long (lJ a)), none, some (.int (iI (tv low))), some (.long (lJ p)), none, some (.long (lJ q)), none, some (.int (iI i)), v, w], d, e) = some ([some (.long (lJ ((if low then (a : Int) else u).tdiv ((Nat.gcd p q : Nat) : Int))))], d, e) := by
    intro m
    induction m with
    | zero =>
      intro p q i v w m0 q0 p0 p1 i0 i1
      have : q = 0 := by omega
      subst this
      rw [a_run_step (fin p i v w p0 p1 i0 (by omega)) rfl, a_run_end, Nat.gcd_zero_right]
    | succ m ih =>
      intro p q i v w m0 q0 p0 p1 i0 i1
      have hq : 2 ^ (m + 1) ≤ 2 ^ 20 := Nat.pow_le_pow_right (by omega) m0
      by_cases hq0 : q = 0
      · subst hq0
        rw [a_run_step (fin p i v w p0 p1 i0 (by omega)) rfl, a_run_end, Nat.gcd_zero_right]
      · have hr := Nat.mod_lt p (show 0 < q by omega)
        rw [a_run_step (step p q i v w (by omega) (by omega) p1 i0 (by omega)) rfl, gcd_st p q]
        by_cases hr0 : p % q = 0
        · rw [hr0, a_run_step (fin q (i + 1) _ _ (by omega) (by omega) (by omega) (by omega)) rfl, a_run_end, Nat.gcd_zero_right]
        · rw [a_run_step (step q (p % q) (i + 1) _ _ (by omega) (by omega) (by omega) (by omega) (by omega)) rfl, gcd_st q (p % q)]
          exact ih (p % q) (q % (p % q)) (i + 1 + 1) _ _ (by omega) (mod_half (by omega) (by omega) q0) (by omega) (by omega) (by omega) (by omega)
  unfold FX10_ratio lowS
  rw [a_run_step (st := stX10_ratio) (p := (0, [some (.long (lJ u)), none, some (.long (lJ a)), none, some (.int (iI (tv low))), none, none, none, none, none, none, none], d, e)) (p2 := (9, [some (.long (lJ u)), none, some (.long (lJ a)), none, some (.int (iI (tv low))), some (.long (lJ a)), none, some (.long (lJ u)), none, some (.int (iI 0)), none, none], d, e)) rfl rfl]
  rw [key 20 a u 0 none none (by omega) hu ha.1 ha.2 (by omega) (by omega), Nat.gcd_comm a u]
  rfl
theorem cq_ratio0 {d : aI} {e : aJ} (low : Bool) : FX10_ratio d e (lJ 0) (lJ 0) (iI (tv low)) = some (lJ (tv low), d, e) := by
  unfold FX10_ratio
  rw [a_run_step (st := stX10_ratio) (p := (0, [some (.long (lJ 0)), none, some (.long (lJ 0)), none, some (.int (iI (tv low))), none, none, none, none, none, none, none], d, e)) (p2 := (9, [some (.long (lJ 0)), none, some (.long (lJ 0)), none, some (.int (iI (tv low))), some (.long (lJ 0)), none, some (.long (lJ 0)), none, some (.int (iI 0)), none, none], d, e)) rfl rfl]
  rw [a_run_step (st := stX10_ratio) (p2 := (100000, [some (.long (lJ (tv low)))], d, e)) (by
    show sX10_ratio_9 d e _ _ _ _ _ _ none none = _
    unfold sX10_ratio_9
    cases low
    · simp only [show tv false = 0 from rfl]
      simp (disch := omega) only [nI_iI, lN_lJ, iI_0, lJ_0, iI_add, iI_sub, iI_mul, iI_neg, lJ_add, lJ_sub, lJ_mul, lJ_neg, i_l, l_i, iI_cl, iI_inb, iI_eqT, iI_eqF, iI_ltT, iI_ltF, iI_leT, iI_leF, lJ_eqT, lJ_eqF, lJ_cG, lJ_cE, lJ_cL, lJ_cF, lJ_cGE, lJ_cLE, lJ_cNL, lJ_cNG, Int.cast_ofNat_Int, c_0, c_1, Int.natCast_add, Int.add_zero, cond_true, cond_false, Bool.and_self, Bool.and_true, Bool.true_and, Option.bind_some, decide_true, uI_hit, uI_miss, uI_o, uA_o, uA_s, ↓reduceIte, eq_self, true_or, or_true, or_false, false_or, true_and, and_true, false_and, and_false, or_self, and_self, not_false_eq_true, not_true_eq_false, tn_i]
    · simp only [show tv true = 1 from rfl]
      simp (disch := omega) only [nI_iI, lN_lJ, iI_0, lJ_0, iI_add, iI_sub, iI_mul, iI_neg, lJ_add, lJ_sub, lJ_mul, lJ_neg, i_l, l_i, iI_cl, iI_inb, iI_eqT, iI_eqF, iI_ltT, iI_ltF, iI_leT, iI_leF, lJ_eqT, lJ_eqF, lJ_cG, lJ_cE, lJ_cL, lJ_cF, lJ_cGE, lJ_cLE, lJ_cNL, lJ_cNG, Int.cast_ofNat_Int, c_0, c_1, Int.natCast_add, Int.add_zero, cond_true, cond_false, Bool.and_self, Bool.and_true, Bool.true_and, Option.bind_some, decide_true, uI_hit, uI_miss, uI_o, uA_o, uA_s, ↓reduceIte, eq_self, true_or, or_true, or_false, false_or, true_and, and_true, false_and, and_false, or_self, and_self, not_false_eq_true, not_true_eq_false, tn_i]) rfl, a_run_end]
  rfl
theorem mq_part {d : aI} {e : aJ} {u a : Nat} (low : Bool) (hu : u < 2 ^ 20) (ha : 0 < a ∧ a < 2 ^ 20) : FX11_part d e (lJ u) (lJ a) (iI (tv low)) = some (lJ (lowS u a low), d, e) := by
  have key : ∀ (n p q : Nat) (v w : Option Value), q ≤ n → (0 < p ∨ 0 < q) → p < 2 ^ 20 → q < 2 ^ 20 → a_run stX11_divisor (6, [some (.long (lJ u)), none, some (.long (lJ a)), none, some (.long (lJ p)), none, some (.long (lJ q)), none, v, w], d, e) = some ([some (.long (lJ ((Nat.gcd p q : Nat) : Int)))], d, e) := by
    intro n
    induction n with
    | zero =>
      intro p q v w h1 h2 h3 h4
      have : q = 0 := by omega
      subst this
      rw [a_run_step (st := stX11_divisor) (p2 := (100000, [some (.long (lJ p))], d, e)) (by
        show sX11_divisor_6 d e _ _ _ _ v w = _
        unfold sX11_divisor_6
        simp (disch := omega) only [nI_iI, lN_lJ, iI_0, lJ_0, iI_add, iI_sub, iI_mul, iI_neg, lJ_add, lJ_sub, lJ_mul, lJ_neg, i_l, l_i, iI_cl, iI_inb, iI_eqT, iI_eqF, iI_ltT, iI_ltF, iI_leT, iI_leF, lJ_eqT, lJ_eqF, lJ_cG, lJ_cE, lJ_cL, lJ_cF, lJ_cGE, lJ_cLE, lJ_cNL, lJ_cNG, Int.cast_ofNat_Int, c_0, c_1, Int.natCast_add, Int.add_zero, cond_true, cond_false, Bool.and_self, Bool.and_true, Bool.true_and, Option.bind_some, decide_true, uI_hit, uI_miss, uI_o, uA_o, uA_s, ↓reduceIte, eq_self, true_or, or_true, or_false, false_or, true_and, and_true, false_and, and_false, or_self, and_self, not_false_eq_true, not_true_eq_false, tn_i]) rfl, a_run_end, Nat.gcd_zero_right]
    | succ n ih =>
      intro p q v w h1 h2 h3 h4
      by_cases hq : q = 0
      · subst hq
        rw [a_run_step (st := stX11_divisor) (p2 := (100000, [some (.long (lJ p))], d, e)) (by
          show sX11_divisor_6 d e _ _ _ _ v w = _
          unfold sX11_divisor_6
          simp (disch := omega) only [nI_iI, lN_lJ, iI_0, lJ_0, iI_add, iI_sub, iI_mul, iI_neg, lJ_add, lJ_sub, lJ_mul, lJ_neg, i_l, l_i, iI_cl, iI_inb, iI_eqT, iI_eqF, iI_ltT, iI_ltF, iI_leT, iI_leF, lJ_eqT, lJ_eqF, lJ_cG, lJ_cE, lJ_cL, lJ_cF, lJ_cGE, lJ_cLE, lJ_cNL, lJ_cNG, Int.cast_ofNat_Int, c_0, c_1, Int.natCast_add, Int.add_zero, cond_true, cond_false, Bool.and_self, Bool.and_true, Bool.true_and, Option.bind_some, decide_true, uI_hit, uI_miss, uI_o, uA_o, uA_s, ↓reduceIte, eq_self, true_or, or_true, or_false, false_or, true_and, and_true, false_and, and_false, or_self, and_self, not_false_eq_true, not_true_eq_false, tn_i]) rfl, a_run_end, Nat.gcd_zero_right]
      · have hr := Nat.mod_lt p (show 0 < q by omega)
        rw [a_run_step (st := stX11_divisor) (p2 := (6, [some (.long (lJ u)), none, some (.long (lJ a)), none, some (.long (lJ q)), none, some (.long (lJ ((p % q : Nat) : Int))), none, some (.long (lJ ((p % q : Nat) : Int))), none], d, e)) (by
          show sX11_divisor_6 d e _ _ _ _ v w = _
          unfold sX11_divisor_6
          rw [nat_mod]
          simp (disch := omega) only [nI_iI, lN_lJ, iI_0, lJ_0, iI_add, iI_sub, iI_mul, iI_neg, lJ_add, lJ_sub, lJ_mul, lJ_neg, i_l, l_i, iI_cl, iI_inb, iI_eqT, iI_eqF, iI_ltT, iI_ltF, iI_leT, iI_leF, lJ_eqT, lJ_eqF, lJ_cG, lJ_cE, lJ_cL, lJ_cF, lJ_cGE, lJ_cLE, lJ_cNL, lJ_cNG, Int.cast_ofNat_Int, c_0, c_1, Int.natCast_add, Int.add_zero, cond_true, cond_false, Bool.and_self, Bool.and_true, Bool.true_and, Option.bind_some, decide_true, uI_hit, uI_miss, uI_o, uA_o, uA_s, ↓reduceIte, eq_self, true_or, or_true, or_false, false_or, true_and, and_true, false_and, and_false, or_self, and_self, not_false_eq_true, not_true_eq_false, tn_i, lJ_rem, decide_eq_true]) rfl, gcd_st p q]
        exact ih q (p % q) _ _ (by omega) (Or.inl (by omega)) h4 (by omega)
  have hd : FX11_divisor d e (lJ u) (lJ a) = some (lJ ((Nat.gcd u a : Nat) : Int), d, e) := by
    unfold FX11_divisor
    rw [a_run_step (st := stX11_divisor) (p := (0, [some (.long (lJ u)), none, some (.long (lJ a)), none, none, none, none, none, none, none], d, e)) (p2 := (6, [some (.long (lJ u)), none, some (.long (lJ a)), none, some (.long (lJ u)), none, some (.long (lJ a)), none, none, none], d, e)) rfl rfl]
    rw [key a u a none none (Nat.le_refl _) (Or.inr ha.1) hu ha.2]
    rfl
  have hg : 0 < Nat.gcd u a := Nat.gcd_pos_of_pos_right u ha.1
  have hg2 : Nat.gcd u a ≤ a := Nat.gcd_le_right u ha.1
  unfold FX11_part lowS
  generalize Nat.gcd u a = G at hd hg hg2
  cases low
  · simp only [show tv false = 0 from rfl, Bool.false_eq_true, if_false]
    simp (disch := omega) only [nI_iI, lN_lJ, iI_0, lJ_0, iI_add, iI_sub, iI_mul, iI_neg, lJ_add, lJ_sub, lJ_mul, lJ_neg, i_l, l_i, iI_cl, iI_inb, iI_eqT, iI_eqF, iI_ltT, iI_ltF, iI_leT, iI_leF, lJ_eqT, lJ_eqF, lJ_cG, lJ_cE, lJ_cL, lJ_cF, lJ_cGE, lJ_cLE, lJ_cNL, lJ_cNG, Int.cast_ofNat_Int, c_0, c_1, Int.natCast_add, Int.add_zero, cond_true, cond_false, Bool.and_self, Bool.and_true, Bool.true_and, Option.bind_some, decide_true, uI_hit, uI_miss, uI_o, uA_o, uA_s, ↓reduceIte, eq_self, true_or, or_true, or_false, false_or, true_and, and_true, false_and, and_false, or_self, and_self, not_false_eq_true, not_true_eq_false, tn_i, hd, lJ_div, decide_eq_true]
  · simp only [show tv true = 1 from rfl, if_true]
    simp (disch := omega) only [nI_iI, lN_lJ, iI_0, lJ_0, iI_add, iI_sub, iI_mul, iI_neg, lJ_add, lJ_sub, lJ_mul, lJ_neg, i_l, l_i, iI_cl, iI_inb, iI_eqT, iI_eqF, iI_ltT, iI_ltF, iI_leT, iI_leF, lJ_eqT, lJ_eqF, lJ_cG, lJ_cE, lJ_cL, lJ_cF, lJ_cGE, lJ_cLE, lJ_cNL, lJ_cNG, Int.cast_ofNat_Int, c_0, c_1, Int.natCast_add, Int.add_zero, cond_true, cond_false, Bool.and_self, Bool.and_true, Bool.true_and, Option.bind_some, decide_true, uI_hit, uI_miss, uI_o, uA_o, uA_s, ↓reduceIte, eq_self, true_or, or_true, or_false, false_or, true_and, and_true, false_and, and_false, or_self, and_self, not_false_eq_true, not_true_eq_false, tn_i, hd, lJ_div, decide_eq_true]
theorem low_in {u a : Nat} {low : Bool} : 0 ≤ lowS u a low ∧ lowS u a low ≤ (u : Int) + a := by
  unfold lowS
  have h : ∀ n g : Nat, 0 ≤ ((n : Int).tdiv (g : Int)) ∧ (n : Int).tdiv (g : Int) ≤ n := fun n g => by
    rw [Int.tdiv_eq_ediv_of_nonneg (by omega), ← Int.natCast_ediv]
    exact ⟨Int.natCast_nonneg _, Int.ofNat_le.mpr (Nat.div_le_self n g)⟩
  cases low
  · have := h u (Nat.gcd u a)
    simp only [Bool.false_eq_true, if_false]
    omega
  · have := h a (Nat.gcd u a)
    simp only [if_true]
    omega
theorem o_share (x y : Int32) (hy : y = 0 ∨ y = 1) : Op (fun d e => FX10_share d e x y) (fun d e => FX11_share d e x y) := by
  obtain ⟨c, rfl, h3, h4⟩ := iI_ex x
  obtain ⟨low, rfl⟩ : ∃ low : Bool, y = iI (tv low) := by
    rcases hy with rfl | rfl
    · exact ⟨false, rfl⟩
    · exact ⟨true, rfl⟩
  refine Op.pure (fun S hS => ?_)
  have hW := hS.1.1
  have w1 := hW.2.1
  by_cases hc : 0 ≤ c ∧ c < S.1 1
  · have wcc := hW.2.2.2.2.2.1 c hc.1 hc.2
    have hT := sum_taken hW (S.1 1).toNat (by omega)
    obtain ⟨T, hTn⟩ := Int.eq_ofNat_of_zero_le hT.1
    obtain ⟨u, hu⟩ := Int.eq_ofNat_of_zero_le wcc.2.2.1.1
    have cl : ∀ (d : aI) (e : aJ), CI d S → d 9 c.toNat = iI (S.1 (12 + 3 * c + 2)) ∧ FX10_total d e 9 (d 2 9) = some (iI T, d, e) := by
      intro d e hC
      have m9 := hC.cn.2.2.2.2.2.2.2.2.2.2.2.1 c.toNat (by omega)
      rw [tn_i (by omega)] at m9
      have t := cq_total_t (e := e) hC.cn hW
      have k9 : d 2 9 = iI (S.1 1) := hC.cn.2.1
      rw [hTn] at t
      exact ⟨m9, by rw [k9]; exact t⟩
    have ml : ∀ (d : aI) (e : aJ), MI d S → FX11_allTaken d e = some (iI T, d, e) := by
      intro d e hM
      have t := mq_allTaken (e := e) hM.1 hW
      rw [hTn] at t
      exact t
    by_cases h0 : T = 0
    · -- nothing taken at all
      have hu0 : u = 0 := by
        have mem : ∀ n : Nat, n ≤ (S.1 1).toNat → ∀ k : Nat, k < n → S.1 (14 + 3 * k) ≤ itr (sumF S.1 14 3) n 0 := by
          intro n
          induction n with
          | zero => intro _ k hk; omega
          | succ n ih =>
            intro hn k hk
            have e1 : itr (sumF S.1 14 3) (n + 1) 0 = itr (sumF S.1 14 3) n 0 + S.1 (14 + 3 * n) := rfl
            have wn := hW.2.2.2.2.2.1 n (by omega) (by omega)
            have sn := sum_taken hW n (by omega)
            rw [show 12 + 3 * (n : Int) + 2 = 14 + 3 * n by omega] at wn
            by_cases hk2 : k = n
            · subst hk2; omega
            · have := ih (by omega) k (by omega)
              omega
        have := mem (S.1 1).toNat (Nat.le_refl _) c.toNat (by omega)
        rw [tn_i (by omega), show 14 + 3 * c = 12 + 3 * c + 2 by omega] at this
        omega
      subst h0
      subst hu0
      refine ⟨iI (tv low), fun d e hC => ?_, fun d e hM => ?_⟩
      · obtain ⟨p1, p2⟩ := cl d e hC
        rw [hu] at p1
        show FX10_share d e (iI c) (iI (tv low)) = _
        unfold FX10_share
        simp (disch := omega) only [nI_iI, lN_lJ, iI_0, lJ_0, iI_add, iI_sub, iI_mul, iI_neg, lJ_add, lJ_sub, lJ_mul, lJ_neg, i_l, l_i, iI_cl, iI_inb, iI_eqT, iI_eqF, iI_ltT, iI_ltF, iI_leT, iI_leF, lJ_eqT, lJ_eqF, lJ_cG, lJ_cE, lJ_cL, lJ_cF, lJ_cGE, lJ_cLE, lJ_cNL, lJ_cNG, Int.cast_ofNat_Int, c_0, c_1, Int.natCast_add, Int.add_zero, cond_true, cond_false, Bool.and_self, Bool.and_true, Bool.true_and, Option.bind_some, decide_true, uI_hit, uI_miss, uI_o, uA_o, uA_s, ↓reduceIte, eq_self, true_or, or_true, or_false, false_or, true_and, and_true, false_and, and_false, or_self, and_self, not_false_eq_true, not_true_eq_false, tn_i, cq_isCat_y hC.cn hW, p1, p2, cq_ratio0 low]
      · have q := ml d e hM
        show FX11_share d e (iI c) (iI (tv low)) = _
        unfold FX11_share
        cases low
        · simp only [show tv false = 0 from rfl]
          simp (disch := omega) only [nI_iI, lN_lJ, iI_0, lJ_0, iI_add, iI_sub, iI_mul, iI_neg, lJ_add, lJ_sub, lJ_mul, lJ_neg, i_l, l_i, iI_cl, iI_inb, iI_eqT, iI_eqF, iI_ltT, iI_ltF, iI_leT, iI_leF, lJ_eqT, lJ_eqF, lJ_cG, lJ_cE, lJ_cL, lJ_cF, lJ_cGE, lJ_cLE, lJ_cNL, lJ_cNG, Int.cast_ofNat_Int, c_0, c_1, Int.natCast_add, Int.add_zero, cond_true, cond_false, Bool.and_self, Bool.and_true, Bool.true_and, Option.bind_some, decide_true, uI_hit, uI_miss, uI_o, uA_o, uA_s, ↓reduceIte, eq_self, true_or, or_true, or_false, false_or, true_and, and_true, false_and, and_false, or_self, and_self, not_false_eq_true, not_true_eq_false, tn_i, mq_isCat_y hM.1 hW, q]
        · simp only [show tv true = 1 from rfl]
          simp (disch := omega) only [nI_iI, lN_lJ, iI_0, lJ_0, iI_add, iI_sub, iI_mul, iI_neg, lJ_add, lJ_sub, lJ_mul, lJ_neg, i_l, l_i, iI_cl, iI_inb, iI_eqT, iI_eqF, iI_ltT, iI_ltF, iI_leT, iI_leF, lJ_eqT, lJ_eqF, lJ_cG, lJ_cE, lJ_cL, lJ_cF, lJ_cGE, lJ_cLE, lJ_cNL, lJ_cNG, Int.cast_ofNat_Int, c_0, c_1, Int.natCast_add, Int.add_zero, cond_true, cond_false, Bool.and_self, Bool.and_true, Bool.true_and, Option.bind_some, decide_true, uI_hit, uI_miss, uI_o, uA_o, uA_s, ↓reduceIte, eq_self, true_or, or_true, or_false, false_or, true_and, and_true, false_and, and_false, or_self, and_self, not_false_eq_true, not_true_eq_false, tn_i, mq_isCat_y hM.1 hW, q]
    · have hT2 := hT.2
      have r1 := fun (d : aI) (e : aJ) => cq_ratio (d := d) (e := e) (u := u) (a := T) low (by omega) (by omega)
      have r2 := fun (d : aI) (e : aJ) => mq_part (d := d) (e := e) (u := u) (a := T) low (by omega) (by omega)
      refine ⟨iI (lowS u T low), fun d e hC => ?_, fun d e hM => ?_⟩
      · obtain ⟨p1, p2⟩ := cl d e hC
        rw [hu] at p1
        show FX10_share d e (iI c) (iI (tv low)) = _
        unfold FX10_share
        simp (disch := omega) only [nI_iI, lN_lJ, iI_0, lJ_0, iI_add, iI_sub, iI_mul, iI_neg, lJ_add, lJ_sub, lJ_mul, lJ_neg, i_l, l_i, iI_cl, iI_inb, iI_eqT, iI_eqF, iI_ltT, iI_ltF, iI_leT, iI_leF, lJ_eqT, lJ_eqF, lJ_cG, lJ_cE, lJ_cL, lJ_cF, lJ_cGE, lJ_cLE, lJ_cNL, lJ_cNG, Int.cast_ofNat_Int, c_0, c_1, Int.natCast_add, Int.add_zero, cond_true, cond_false, Bool.and_self, Bool.and_true, Bool.true_and, Option.bind_some, decide_true, uI_hit, uI_miss, uI_o, uA_o, uA_s, ↓reduceIte, eq_self, true_or, or_true, or_false, false_or, true_and, and_true, false_and, and_false, or_self, and_self, not_false_eq_true, not_true_eq_false, tn_i, cq_isCat_y hC.cn hW, p1, p2, r1]
      · have q := ml d e hM
        have g := mq_get (e := e) hM.1 (c := c) (w := 2) (by omega)
        rw [hu] at g
        show FX11_share d e (iI c) (iI (tv low)) = _
        unfold FX11_share
        simp (disch := omega) only [nI_iI, lN_lJ, iI_0, lJ_0, iI_add, iI_sub, iI_mul, iI_neg, lJ_add, lJ_sub, lJ_mul, lJ_neg, i_l, l_i, iI_cl, iI_inb, iI_eqT, iI_eqF, iI_ltT, iI_ltF, iI_leT, iI_leF, lJ_eqT, lJ_eqF, lJ_cG, lJ_cE, lJ_cL, lJ_cF, lJ_cGE, lJ_cLE, lJ_cNL, lJ_cNG, Int.cast_ofNat_Int, c_0, c_1, Int.natCast_add, Int.add_zero, cond_true, cond_false, Bool.and_self, Bool.and_true, Bool.true_and, Option.bind_some, decide_true, uI_hit, uI_miss, uI_o, uA_o, uA_s, ↓reduceIte, eq_self, true_or, or_true, or_false, false_or, true_and, and_true, false_and, and_false, or_self, and_self, not_false_eq_true, not_true_eq_false, tn_i, mq_isCat_y hM.1 hW, q, g, r2]
  · refine ⟨iI (-1), fun d e hC => ?_, fun d e hM => ?_⟩
    · show FX10_share d e (iI c) (iI (tv low)) = _
      unfold FX10_share
      simp (disch := omega) only [nI_iI, lN_lJ, iI_0, lJ_0, iI_add, iI_sub, iI_mul, iI_neg, lJ_add, lJ_sub, lJ_mul, lJ_neg, i_l, l_i, iI_cl, iI_inb, iI_eqT, iI_eqF, iI_ltT, iI_ltF, iI_leT, iI_leF, lJ_eqT, lJ_eqF, lJ_cG, lJ_cE, lJ_cL, lJ_cF, lJ_cGE, lJ_cLE, lJ_cNL, lJ_cNG, Int.cast_ofNat_Int, c_0, c_1, Int.natCast_add, Int.add_zero, cond_true, cond_false, Bool.and_self, Bool.and_true, Bool.true_and, Option.bind_some, decide_true, uI_hit, uI_miss, uI_o, uA_o, uA_s, ↓reduceIte, eq_self, true_or, or_true, or_false, false_or, true_and, and_true, false_and, and_false, or_self, and_self, not_false_eq_true, not_true_eq_false, tn_i, cq_isCat_n hC.cn hW]
    · show FX11_share d e (iI c) (iI (tv low)) = _
      unfold FX11_share
      simp (disch := omega) only [nI_iI, lN_lJ, iI_0, lJ_0, iI_add, iI_sub, iI_mul, iI_neg, lJ_add, lJ_sub, lJ_mul, lJ_neg, i_l, l_i, iI_cl, iI_inb, iI_eqT, iI_eqF, iI_ltT, iI_ltF, iI_leT, iI_leF, lJ_eqT, lJ_eqF, lJ_cG, lJ_cE, lJ_cL, lJ_cF, lJ_cGE, lJ_cLE, lJ_cNL, lJ_cNG, Int.cast_ofNat_Int, c_0, c_1, Int.natCast_add, Int.add_zero, cond_true, cond_false, Bool.and_self, Bool.and_true, Bool.true_and, Option.bind_some, decide_true, uI_hit, uI_miss, uI_o, uA_o, uA_s, ↓reduceIte, eq_self, true_or, or_true, or_false, false_or, true_and, and_true, false_and, and_false, or_self, and_self, not_false_eq_true, not_true_eq_false, tn_i, mq_isCat_n hM.1 hW]
