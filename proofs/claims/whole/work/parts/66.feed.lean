/-! ===== feed ===== -/
theorem and255 (y : Int32) : y &&& iI 255 = iI ((y.toBitVec.toNat % 256 : Nat) : Int) := by
  apply Int32.toBitVec_inj.mp
  apply BitVec.eq_of_toNat_eq
  have h1 : (y &&& iI 255).toBitVec = y.toBitVec &&& 255#32 := rfl
  have h2 : (iI ((y.toBitVec.toNat % 256 : Nat) : Int)).toBitVec = BitVec.ofNat 32 (y.toBitVec.toNat % 256) := rfl
  rw [h1, h2, BitVec.toNat_and, BitVec.toNat_ofNat, BitVec.toNat_ofNat]
  have h3 : (255 : Nat) % 2 ^ 32 = 2 ^ 8 - 1 := rfl
  rw [h3, Nat.and_two_pow_sub_one_eq_mod]
  have := y.toBitVec.isLt
  omega
/-- a byte of an int, the highest first -/
def byS (x : Int32) (i : Nat) : Int := ((x.toBitVec.toNat / 2 ^ (24 - 8 * i) % 256 : Nat) : Int)
theorem byS_in (x : Int32) (i : Nat) : 0 ≤ byS x i ∧ byS x i ≤ 255 := by
  unfold byS
  omega
theorem by_u (x : Int32) {k : Int} {i : Nat} (h : (k = 24 ∧ i = 0) ∨ (k = 16 ∧ i = 1) ∨ (k = 8 ∧ i = 2) ∨ (k = 0 ∧ i = 3)) : a_ushr x (iI k) &&& iI 255 = iI (byS x i) := by
  rw [and255]
  unfold byS a_ushr
  rcases h with ⟨rfl, rfl⟩ | ⟨rfl, rfl⟩ | ⟨rfl, rfl⟩ | ⟨rfl, rfl⟩
  · rw [pk_ushr x (iI 24) 24 (by decide)]
  · rw [pk_ushr x (iI 16) 16 (by decide)]
  · rw [pk_ushr x (iI 8) 8 (by decide)]
  · rw [pk_ushr x (iI 0) 0 (by decide)]
theorem by_s (x : Int32) {k : Int} {i : Nat} (h : (k = 24 ∧ i = 0) ∨ (k = 16 ∧ i = 1) ∨ (k = 8 ∧ i = 2) ∨ (k = 0 ∧ i = 3)) : a_shr x (iI k) &&& iI 255 = iI (byS x i) := by
  rw [and255]
  unfold byS a_shr
  have t : ∀ (y : Int32), y.toInt = if 2 * y.toBitVec.toNat < 2 ^ 32 then (y.toBitVec.toNat : Int) else (y.toBitVec.toNat : Int) - ((2 ^ 32 : Nat) : Int) := fun y => BitVec.toInt_eq_toNat_cond y.toBitVec
  have tx := t x
  have lx := x.toBitVec.isLt
  rcases h with ⟨rfl, rfl⟩ | ⟨rfl, rfl⟩ | ⟨rfl, rfl⟩ | ⟨rfl, rfl⟩
  · have g := pk_shr x (iI 24 &&& 31) 24 (by decide)
    have ty := t (x >>> (iI 24 &&& 31))
    have ly := (x >>> (iI 24 &&& 31)).toBitVec.isLt
    rw [Int.shiftRight_eq_div_pow] at g
    congr 2
    generalize (x >>> (iI 24 &&& 31)).toBitVec.toNat = Y at ty ly
    generalize (x >>> (iI 24 &&& 31)).toInt = y at ty g
    generalize x.toBitVec.toNat = X at tx lx
    generalize x.toInt = xi at tx g
    split at tx <;> split at ty <;> omega
  · have g := pk_shr x (iI 16 &&& 31) 16 (by decide)
    have ty := t (x >>> (iI 16 &&& 31))
    have ly := (x >>> (iI 16 &&& 31)).toBitVec.isLt
    rw [Int.shiftRight_eq_div_pow] at g
    congr 2
    generalize (x >>> (iI 16 &&& 31)).toBitVec.toNat = Y at ty ly
    generalize (x >>> (iI 16 &&& 31)).toInt = y at ty g
    generalize x.toBitVec.toNat = X at tx lx
    generalize x.toInt = xi at tx g
    split at tx <;> split at ty <;> omega
  · have g := pk_shr x (iI 8 &&& 31) 8 (by decide)
    have ty := t (x >>> (iI 8 &&& 31))
    have ly := (x >>> (iI 8 &&& 31)).toBitVec.isLt
    rw [Int.shiftRight_eq_div_pow] at g
    congr 2
    generalize (x >>> (iI 8 &&& 31)).toBitVec.toNat = Y at ty ly
    generalize (x >>> (iI 8 &&& 31)).toInt = y at ty g
    generalize x.toBitVec.toNat = X at tx lx
    generalize x.toInt = xi at tx g
    split at tx <;> split at ty <;> omega
  · have g := pk_shr x (iI 0 &&& 31) 0 (by decide)
    have ty := t (x >>> (iI 0 &&& 31))
    have ly := (x >>> (iI 0 &&& 31)).toBitVec.isLt
    rw [Int.shiftRight_eq_div_pow] at g
    congr 2
    generalize (x >>> (iI 0 &&& 31)).toBitVec.toNat = Y at ty ly
    generalize (x >>> (iI 0 &&& 31)).toInt = y at ty g
    generalize x.toBitVec.toNat = X at tx lx
    generalize x.toInt = xi at tx g
    split at tx <;> split at ty <;> omega
/-- four bytes behind the tape -/
def tapS (tp : Nat → Int) (n : Nat) (x : Int32) : Nat → Int := fun j => if j = n then byS x 0 else if j = n + 1 then byS x 1 else if j = n + 2 then byS x 2 else if j = n + 3 then byS x 3 else tp j
theorem tapS_in {tp : Nat → Int} (h : ∀ j, 0 ≤ tp j ∧ tp j ≤ 255) (n : Nat) (x : Int32) (j : Nat) : 0 ≤ tapS tp n x j ∧ tapS tp n x j ≤ 255 := by
  have := byS_in x
  unfold tapS
  split
  · exact byS_in x 0
  · split
    · exact byS_in x 1
    · split
      · exact byS_in x 2
      · split
        · exact byS_in x 3
        · exact h j
theorem cq_four {d : aI} {e : aJ} {tp : Nat → Int} {n : Nat} (x : Int32) (h2 : d 83 2 = iI n) (ht : ∀ j : Nat, j < n → d 84 j = iI (tp j)) (hn : n + 4 ≤ 300) : ∃ d', FX5_append d e x = some ((), d', e) ∧ d' 83 2 = iI ((n + 4 : Nat) : Int) ∧ (∀ j : Nat, j < n + 4 → d' 84 j = iI (tapS tp n x j)) ∧ (∀ k, k ≠ 83 → k ≠ 84 → d' k = d k) ∧ (∀ j, j ≠ 2 → d' 83 j = d 83 j) := by
  unfold FX5_append
  have st : ∀ (d' : aI) (k : Int) (m : Nat) (i : Nat), ((k = 24 ∧ i = 0) ∨ (k = 16 ∧ i = 1) ∨ (k = 8 ∧ i = 2) ∨ (k = 0 ∧ i = 3)) → d' 83 2 = iI m → m < 300 → stX5_append (3, [some (.ref 83), some (.int x), some (.int (iI k))], d', e) = some (3, [some (.ref 83), some (.int x), some (.int (iI (k + -8)))], uI (uI d' 84 m (iI (byS x i))) 83 2 (iI (m + 1)), e) := by
    intro d' k m i hk hm hl
    have hb := by_u x hk
    show sX5_append_3 d' e x _ = _
    unfold sX5_append_3
    simp (disch := omega) only [nI_iI, lN_lJ, iI_0, lJ_0, iI_add, iI_sub, iI_mul, iI_neg, lJ_add, lJ_sub, lJ_mul, lJ_neg, i_l, l_i, iI_cl, iI_inb, iI_eqT, iI_eqF, iI_ltT, iI_ltF, iI_leT, iI_leF, lJ_eqT, lJ_eqF, lJ_cG, lJ_cE, lJ_cL, lJ_cF, lJ_cGE, lJ_cLE, lJ_cNL, lJ_cNG, Int.cast_ofNat_Int, c_0, c_1, Int.natCast_add, Int.add_zero, cond_true, cond_false, Bool.and_self, Bool.and_true, Bool.true_and, Option.bind_some, decide_true, uI_hit, uI_miss, uI_o, uA_o, uA_s, ↓reduceIte, eq_self, true_or, or_true, or_false, false_or, true_and, and_true, false_and, and_false, or_self, and_self, not_false_eq_true, not_true_eq_false, tn_i, hm, hb, Int.toNat_natCast]
  rw [a_run_step (st := stX5_append) (p := (0, [some (.ref 83), some (.int x), none], d, e)) (p2 := (3, [some (.ref 83), some (.int x), some (.int (iI 24))], d, e)) rfl rfl]
  rw [a_run_step (st d 24 n 0 (by omega) h2 (by omega)) rfl]
  generalize hd1 : uI (uI d 84 n (iI (byS x 0))) 83 2 (iI (n + 1)) = d1
  have a1 : d1 83 2 = iI ((n + 1 : Nat) : Int) := by rw [← hd1, uI_hit rfl]; rfl
  rw [show (24 : Int) + -8 = 16 from rfl, a_run_step (st d1 16 (n + 1) 1 (by omega) a1 (by omega)) rfl]
  generalize hd2 : uI (uI d1 84 (n + 1) (iI (byS x 1))) 83 2 (iI (((n + 1 : Nat) : Int) + 1)) = d2
  have a2 : d2 83 2 = iI ((n + 2 : Nat) : Int) := by rw [← hd2, uI_hit rfl]; rfl
  rw [show (16 : Int) + -8 = 8 from rfl, a_run_step (st d2 8 (n + 2) 2 (by omega) a2 (by omega)) rfl]
  generalize hd3 : uI (uI d2 84 (n + 2) (iI (byS x 2))) 83 2 (iI (((n + 2 : Nat) : Int) + 1)) = d3
  have a3 : d3 83 2 = iI ((n + 3 : Nat) : Int) := by rw [← hd3, uI_hit rfl]; rfl
  rw [show (8 : Int) + -8 = 0 from rfl, a_run_step (st d3 0 (n + 3) 3 (by omega) a3 (by omega)) rfl]
  rw [a_run_step (st := stX5_append) (p2 := (100000, [], uI (uI d3 84 (n + 3) (iI (byS x 3))) 83 2 (iI (((n + 3 : Nat) : Int) + 1)), e)) (by
    show sX5_append_3 _ e x _ = _
    unfold sX5_append_3
    simp (disch := omega) only [nI_iI, lN_lJ, iI_0, lJ_0, iI_add, iI_sub, iI_mul, iI_neg, lJ_add, lJ_sub, lJ_mul, lJ_neg, i_l, l_i, iI_cl, iI_inb, iI_eqT, iI_eqF, iI_ltT, iI_ltF, iI_leT, iI_leF, lJ_eqT, lJ_eqF, lJ_cG, lJ_cE, lJ_cL, lJ_cF, lJ_cGE, lJ_cLE, lJ_cNL, lJ_cNG, Int.cast_ofNat_Int, c_0, c_1, Int.natCast_add, Int.add_zero, cond_true, cond_false, Bool.and_self, Bool.and_true, Bool.true_and, Option.bind_some, decide_true, uI_hit, uI_miss, uI_o, uA_o, uA_s, ↓reduceIte, eq_self, true_or, or_true, or_false, false_or, true_and, and_true, false_and, and_false, or_self, and_self, not_false_eq_true, not_true_eq_false, tn_i]) rfl, a_run_end]
  refine ⟨_, rfl, by rw [uI_hit rfl]; rfl, fun j hj => ?_, fun k k1 k2 => ?_, fun j hj => ?_⟩
  · rw [uI_o (by omega)]
    unfold tapS
    by_cases e3 : j = n + 3
    · rw [uI_hit e3, if_neg (by omega), if_neg (by omega), if_neg (by omega), if_pos e3]
    · rw [uI_miss e3, ← hd3, uI_o (by omega)]
      by_cases e2 : j = n + 2
      · rw [uI_hit e2, if_neg (by omega), if_neg (by omega), if_pos e2]
      · rw [uI_miss e2, ← hd2, uI_o (by omega)]
        by_cases e1 : j = n + 1
        · rw [uI_hit e1, if_neg (by omega), if_pos e1]
        · rw [uI_miss e1, ← hd1, uI_o (by omega)]
          by_cases e0 : j = n
          · rw [uI_hit e0, if_pos e0]
          · rw [uI_miss e0, if_neg e0, if_neg e1, if_neg e2, if_neg e3]
            exact ht j (by omega)
  · rw [uI_o k1, uI_o k2, ← hd3, uI_o k1, uI_o k2, ← hd2, uI_o k1, uI_o k2, ← hd1, uI_o k1, uI_o k2]
  · rw [uI_miss hj, uI_o (by omega), ← hd3, uI_miss hj, uI_o (by omega), ← hd2, uI_miss hj, uI_o (by omega), ← hd1, uI_miss hj, uI_o (by omega)]
theorem mq_four {d : aI} {e : aJ} {tp : Nat → Int} {n : Nat} (x : Int32) (h2 : d 108 4 = iI n) (ht : ∀ j : Nat, j < n → d 112 j = iI (tp j)) (hn : n + 4 ≤ 300) : ∃ d', FX11_four d e x = some ((), d', e) ∧ d' 108 4 = iI ((n + 4 : Nat) : Int) ∧ (∀ j : Nat, j < n + 4 → d' 112 j = iI (tapS tp n x j)) ∧ (∀ k, k ≠ 108 → k ≠ 112 → d' k = d k) ∧ (∀ j, j ≠ 4 → d' 108 j = d 108 j) := by
  unfold FX11_four
  have st : ∀ (d' : aI) (k : Int) (m : Nat) (i : Nat), ((k = 24 ∧ i = 0) ∨ (k = 16 ∧ i = 1) ∨ (k = 8 ∧ i = 2) ∨ (k = 0 ∧ i = 3)) → d' 108 4 = iI m → m < 300 → stX11_four (3, [some (.ref 108), some (.int x), some (.int (iI k))], d', e) = some (3, [some (.ref 108), some (.int x), some (.int (iI (k + -8)))], uI (uI d' 112 m (iI (byS x i))) 108 4 (iI (m + 1)), e) := by
    intro d' k m i hk hm hl
    have hb := by_s x hk
    show sX11_four_3 d' e x _ = _
    unfold sX11_four_3
    simp (disch := omega) only [nI_iI, lN_lJ, iI_0, lJ_0, iI_add, iI_sub, iI_mul, iI_neg, lJ_add, lJ_sub, lJ_mul, lJ_neg, i_l, l_i, iI_cl, iI_inb, iI_eqT, iI_eqF, iI_ltT, iI_ltF, iI_leT, iI_leF, lJ_eqT, lJ_eqF, lJ_cG, lJ_cE, lJ_cL, lJ_cF, lJ_cGE, lJ_cLE, lJ_cNL, lJ_cNG, Int.cast_ofNat_Int, c_0, c_1, Int.natCast_add, Int.add_zero, cond_true, cond_false, Bool.and_self, Bool.and_true, Bool.true_and, Option.bind_some, decide_true, uI_hit, uI_miss, uI_o, uA_o, uA_s, ↓reduceIte, eq_self, true_or, or_true, or_false, false_or, true_and, and_true, false_and, and_false, or_self, and_self, not_false_eq_true, not_true_eq_false, tn_i, hm, hb, Int.toNat_natCast]
  rw [a_run_step (st := stX11_four) (p := (0, [some (.ref 108), some (.int x), none], d, e)) (p2 := (3, [some (.ref 108), some (.int x), some (.int (iI 24))], d, e)) rfl rfl]
  rw [a_run_step (st d 24 n 0 (by omega) h2 (by omega)) rfl]
  generalize hd1 : uI (uI d 112 n (iI (byS x 0))) 108 4 (iI (n + 1)) = d1
  have a1 : d1 108 4 = iI ((n + 1 : Nat) : Int) := by rw [← hd1, uI_hit rfl]; rfl
  rw [show (24 : Int) + -8 = 16 from rfl, a_run_step (st d1 16 (n + 1) 1 (by omega) a1 (by omega)) rfl]
  generalize hd2 : uI (uI d1 112 (n + 1) (iI (byS x 1))) 108 4 (iI (((n + 1 : Nat) : Int) + 1)) = d2
  have a2 : d2 108 4 = iI ((n + 2 : Nat) : Int) := by rw [← hd2, uI_hit rfl]; rfl
  rw [show (16 : Int) + -8 = 8 from rfl, a_run_step (st d2 8 (n + 2) 2 (by omega) a2 (by omega)) rfl]
  generalize hd3 : uI (uI d2 112 (n + 2) (iI (byS x 2))) 108 4 (iI (((n + 2 : Nat) : Int) + 1)) = d3
  have a3 : d3 108 4 = iI ((n + 3 : Nat) : Int) := by rw [← hd3, uI_hit rfl]; rfl
  rw [show (8 : Int) + -8 = 0 from rfl, a_run_step (st d3 0 (n + 3) 3 (by omega) a3 (by omega)) rfl]
  rw [a_run_step (st := stX11_four) (p2 := (100000, [], uI (uI d3 112 (n + 3) (iI (byS x 3))) 108 4 (iI (((n + 3 : Nat) : Int) + 1)), e)) (by
    show sX11_four_3 _ e x _ = _
    unfold sX11_four_3
    simp (disch := omega) only [nI_iI, lN_lJ, iI_0, lJ_0, iI_add, iI_sub, iI_mul, iI_neg, lJ_add, lJ_sub, lJ_mul, lJ_neg, i_l, l_i, iI_cl, iI_inb, iI_eqT, iI_eqF, iI_ltT, iI_ltF, iI_leT, iI_leF, lJ_eqT, lJ_eqF, lJ_cG, lJ_cE, lJ_cL, lJ_cF, lJ_cGE, lJ_cLE, lJ_cNL, lJ_cNG, Int.cast_ofNat_Int, c_0, c_1, Int.natCast_add, Int.add_zero, cond_true, cond_false, Bool.and_self, Bool.and_true, Bool.true_and, Option.bind_some, decide_true, uI_hit, uI_miss, uI_o, uA_o, uA_s, ↓reduceIte, eq_self, true_or, or_true, or_false, false_or, true_and, and_true, false_and, and_false, or_self, and_self, not_false_eq_true, not_true_eq_false, tn_i]) rfl, a_run_end]
  refine ⟨_, rfl, by rw [uI_hit rfl]; rfl, fun j hj => ?_, fun k k1 k2 => ?_, fun j hj => ?_⟩
  · rw [uI_o (by omega)]
    unfold tapS
    by_cases e3 : j = n + 3
    · rw [uI_hit e3, if_neg (by omega), if_neg (by omega), if_neg (by omega), if_pos e3]
    · rw [uI_miss e3, ← hd3, uI_o (by omega)]
      by_cases e2 : j = n + 2
      · rw [uI_hit e2, if_neg (by omega), if_neg (by omega), if_pos e2]
      · rw [uI_miss e2, ← hd2, uI_o (by omega)]
        by_cases e1 : j = n + 1
        · rw [uI_hit e1, if_neg (by omega), if_pos e1]
        · rw [uI_miss e1, ← hd1, uI_o (by omega)]
          by_cases e0 : j = n
          · rw [uI_hit e0, if_pos e0]
          · rw [uI_miss e0, if_neg e0, if_neg e1, if_neg e2, if_neg e3]
            exact ht j (by omega)
  · rw [uI_o k1, uI_o k2, ← hd3, uI_o k1, uI_o k2, ← hd2, uI_o k1, uI_o k2, ← hd1, uI_o k1, uI_o k2]
  · rw [uI_miss hj, uI_o (by omega), ← hd3, uI_miss hj, uI_o (by omega), ← hd2, uI_miss hj, uI_o (by omega), ← hd1, uI_miss hj, uI_o (by omega)]
theorem o_feed (a b c g h : Int32) : Op (fun d e => FX10_feed d e a b c g h) (fun d e => FX11_feed d e a b c g h) := by
  intro S hS
  have s2 := hS.1.2.2.1.2
  obtain ⟨t1, t2, t3, t4, t5, t6⟩ := hS
  obtain ⟨n, hn⟩ := Int.eq_ofNat_of_zero_le t6.1
  by_cases hl : n + 20 ≤ 300
  · refine ⟨(S.1, S.2.1, S.2.2.1, tapS (tapS (tapS (tapS (tapS S.2.2.2.1 n a) (n + 4) b) (n + 4 + 4) c) (n + 4 + 4 + 4) g) (n + 4 + 4 + 4 + 4) h, ((n + 4 + 4 + 4 + 4 + 4 : Nat) : Int), S.2.2.2.2.2), iI ((n + 4 + 4 + 4 + 4 + 4 : Nat) : Int), ⟨t1, t2, t3, t4, fun j => tapS_in (tapS_in (tapS_in (tapS_in (tapS_in t5 _ _) _ _) _ _) _ _) _ _ j, by show 0 ≤ ((n + 4 + 4 + 4 + 4 + 4 : Nat) : Int) ∧ ((n + 4 + 4 + 4 + 4 + 4 : Nat) : Int) ≤ 300; omega⟩, fun d e hC => ?_, fun d e hM => ?_⟩
    · obtain ⟨h1, h2, h3, h4, h5, h6, h7, h8⟩ := hC
      rw [hn] at h5 h8
      obtain ⟨d1, p1, q1, r1, u1, v1⟩ := cq_four (e := e) a h5 (fun j hj => h8 j (by omega)) (by omega)
      obtain ⟨d2, p2, q2, r2, u2, v2⟩ := cq_four (e := e) b q1 r1 (by omega)
      obtain ⟨d3, p3, q3, r3, u3, v3⟩ := cq_four (e := e) c q2 r2 (by omega)
      obtain ⟨d4, p4, q4, r4, u4, v4⟩ := cq_four (e := e) g q3 r3 (by omega)
      obtain ⟨d5, p5, q5, r5, u5, v5⟩ := cq_four (e := e) h q4 r4 (by omega)
      have fr : ∀ k, k ≠ 83 → k ≠ 84 → d5 k = d k := fun k x y => by rw [u5 k x y, u4 k x y, u3 k x y, u2 k x y, u1 k x y]
      have fv : ∀ j, j ≠ 2 → d5 83 j = d 83 j := fun j x => by rw [v5 j x, v4 j x, v3 j x, v2 j x, v1 j x]
      refine ⟨d5, e, ?_, ⟨h1.of (fun k x y => fr k (by omega) (by omega)), h2.of (fun k x y => fr k (by omega) (by omega)), fun t ht => (h3 t ht).of (fun k x y => fr k (by have ht2 : (t : Int) < S.1 2 := ht; omega) (by have ht2 : (t : Int) < S.1 2 := ht; omega)), ?_, q5, ?_, ?_, fun j hj => r5 j (by have hj2 : (j : Int) < ((n + 4 + 4 + 4 + 4 + 4 : Nat) : Int) := hj; omega)⟩, fun k x => fr k (by omega) (by omega)⟩
      · show FX10_feed d e a b c g h = _
        unfold FX10_feed
        simp (disch := omega) only [nI_iI, lN_lJ, iI_0, lJ_0, iI_add, iI_sub, iI_mul, iI_neg, lJ_add, lJ_sub, lJ_mul, lJ_neg, i_l, l_i, iI_cl, iI_inb, iI_eqT, iI_eqF, iI_ltT, iI_ltF, iI_leT, iI_leF, lJ_eqT, lJ_eqF, lJ_cG, lJ_cE, lJ_cL, lJ_cF, lJ_cGE, lJ_cLE, lJ_cNL, lJ_cNG, Int.cast_ofNat_Int, c_0, c_1, Int.natCast_add, Int.add_zero, cond_true, cond_false, Bool.and_self, Bool.and_true, Bool.true_and, Option.bind_some, decide_true, uI_hit, uI_miss, uI_o, uA_o, uA_s, ↓reduceIte, eq_self, true_or, or_true, or_false, false_or, true_and, and_true, false_and, and_false, or_self, and_self, not_false_eq_true, not_true_eq_false, tn_i, h5, p1, p2, p3, p4, p5, q5]
      · rw [fr 78 (by omega) (by omega)]; exact h4
      · rw [fv 3 (by omega)]; exact h6
      · rw [fv 4 (by omega)]; exact h7
    · obtain ⟨h1, h2, h3, h4, h5, h6, h7, h8⟩ := hM
      rw [hn] at h4 h7
      obtain ⟨d1, p1, q1, r1, u1, v1⟩ := mq_four (e := e) a h4 (fun j hj => h7 j (by omega)) (by omega)
      obtain ⟨d2, p2, q2, r2, u2, v2⟩ := mq_four (e := e) b q1 r1 (by omega)
      obtain ⟨d3, p3, q3, r3, u3, v3⟩ := mq_four (e := e) c q2 r2 (by omega)
      obtain ⟨d4, p4, q4, r4, u4, v4⟩ := mq_four (e := e) g q3 r3 (by omega)
      obtain ⟨d5, p5, q5, r5, u5, v5⟩ := mq_four (e := e) h q4 r4 (by omega)
      have fr : ∀ k, k ≠ 108 → k ≠ 112 → d5 k = d k := fun k x y => by rw [u5 k x y, u4 k x y, u3 k x y, u2 k x y, u1 k x y]
      have fv : ∀ j, j ≠ 4 → d5 108 j = d 108 j := fun j x => by rw [v5 j x, v4 j x, v3 j x, v2 j x, v1 j x]
      refine ⟨d5, e, ?_, ⟨h1.of (fr 109 (by omega) (by omega)), h2.of (fr 110 (by omega) (by omega)), fun t ht => (h3 t ht).of (fr 111 (by omega) (by omega)), q5, ?_, ?_, fun j hj => r5 j (by have hj2 : (j : Int) < ((n + 4 + 4 + 4 + 4 + 4 : Nat) : Int) := hj; omega), ?_⟩, fun k x => fr k (by omega) (by omega)⟩
      · show FX11_feed d e a b c g h = _
        unfold FX11_feed
        simp (disch := omega) only [nI_iI, lN_lJ, iI_0, lJ_0, iI_add, iI_sub, iI_mul, iI_neg, lJ_add, lJ_sub, lJ_mul, lJ_neg, i_l, l_i, iI_cl, iI_inb, iI_eqT, iI_eqF, iI_ltT, iI_ltF, iI_leT, iI_leF, lJ_eqT, lJ_eqF, lJ_cG, lJ_cE, lJ_cL, lJ_cF, lJ_cGE, lJ_cLE, lJ_cNL, lJ_cNG, Int.cast_ofNat_Int, c_0, c_1, Int.natCast_add, Int.add_zero, cond_true, cond_false, Bool.and_self, Bool.and_true, Bool.true_and, Option.bind_some, decide_true, uI_hit, uI_miss, uI_o, uA_o, uA_s, ↓reduceIte, eq_self, true_or, or_true, or_false, false_or, true_and, and_true, false_and, and_false, or_self, and_self, not_false_eq_true, not_true_eq_false, tn_i, h4, p1, p2, p3, p4, p5, q5]
      · rw [fv 5 (by omega)]; exact h5
      · rw [fv 6 (by omega)]; exact h6
      · rw [fv 23 (by omega)]; exact h8
  · refine ⟨S, iI (-1), ⟨t1, t2, t3, t4, t5, t6⟩, fun d e hC => ⟨d, e, ?_, hC, Fc.refl d⟩, fun d e hM => ⟨d, e, ?_, hM, Fm.refl d⟩⟩
    · have h5 := hC.2.2.2.2.1
      rw [hn] at h5
      show FX10_feed d e a b c g h = _
      unfold FX10_feed
      simp (disch := omega) only [nI_iI, lN_lJ, iI_0, lJ_0, iI_add, iI_sub, iI_mul, iI_neg, lJ_add, lJ_sub, lJ_mul, lJ_neg, i_l, l_i, iI_cl, iI_inb, iI_eqT, iI_eqF, iI_ltT, iI_ltF, iI_leT, iI_leF, lJ_eqT, lJ_eqF, lJ_cG, lJ_cE, lJ_cL, lJ_cF, lJ_cGE, lJ_cLE, lJ_cNL, lJ_cNG, Int.cast_ofNat_Int, c_0, c_1, Int.natCast_add, Int.add_zero, cond_true, cond_false, Bool.and_self, Bool.and_true, Bool.true_and, Option.bind_some, decide_true, uI_hit, uI_miss, uI_o, uA_o, uA_s, ↓reduceIte, eq_self, true_or, or_true, or_false, false_or, true_and, and_true, false_and, and_false, or_self, and_self, not_false_eq_true, not_true_eq_false, tn_i, h5]
    · have h4 := hM.2.2.2.1
      rw [hn] at h4
      show FX11_feed d e a b c g h = _
      unfold FX11_feed
      simp (disch := omega) only [nI_iI, lN_lJ, iI_0, lJ_0, iI_add, iI_sub, iI_mul, iI_neg, lJ_add, lJ_sub, lJ_mul, lJ_neg, i_l, l_i, iI_cl, iI_inb, iI_eqT, iI_eqF, iI_ltT, iI_ltF, iI_leT, iI_leF, lJ_eqT, lJ_eqF, lJ_cG, lJ_cE, lJ_cL, lJ_cF, lJ_cGE, lJ_cLE, lJ_cNL, lJ_cNG, Int.cast_ofNat_Int, c_0, c_1, Int.natCast_add, Int.add_zero, cond_true, cond_false, Bool.and_self, Bool.and_true, Bool.true_and, Option.bind_some, decide_true, uI_hit, uI_miss, uI_o, uA_o, uA_s, ↓reduceIte, eq_self, true_or, or_true, or_false, false_or, true_and, and_true, false_and, and_false, or_self, and_self, not_false_eq_true, not_true_eq_false, tn_i, h4]
