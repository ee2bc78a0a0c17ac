/-! ===== chances ===== -/
def ch1 (n k : Nat) : Nat := itr (fun i s => s * (n - i) / (i + 1)) k 1
def ch2 (n k : Nat) : Nat := itr (fun i s => if i < n - k then s * 2 else s * 1) n (ch1 n k)
def ch3 (n : Nat) : Nat := itr (fun _ s => s * 3) n 1
def cm1 (n k : Nat) : Nat := itr (fun i s => s * (n - k + (i + 1)) / (i + 1)) k 1
def cm2 (n k : Nat) : Nat := itr (fun _ s => s * 2) (n - k) (cm1 n k)
theorem ch_eq : ∀ n, n < 9 → ∀ k, k < n + 1 → ch2 n k = cm2 n k ∧ ch2 n k < 2 ^ 20 ∧ 0 < ch3 n ∧ ch3 n < 2 ^ 20 := by decide
theorem ch_b1 : ∀ n, n < 9 → ∀ k, k < n + 1 → ∀ i, i < k + 1 → itr (fun i s => s * (n - i) / (i + 1)) i 1 ≤ 1000 ∧ itr (fun i s => s * (n - k + (i + 1)) / (i + 1)) i 1 ≤ 1000 := by decide
theorem ch_b2 : ∀ n, n < 9 → ∀ k, k < n + 1 → ∀ i, i < n + 1 → itr (fun i s => if i < n - k then s * 2 else s * 1) i (ch1 n k) ≤ 1000000 ∧ itr (fun _ s => s * 3) i 1 ≤ 1000000 := by decide
theorem lJ_divN {a b : Nat} (h : a < 1000000000 ∧ 0 < b ∧ b < 1000000000) : lJ (a : Int) / lJ (b : Int) = lJ ((a / b : Nat) : Int) := pk_lDiv (by omega) h.2.1 (by omega)
theorem run_foldN {σ : Type} {st : aP → Option aP} (T : Nat → σ → aP) (f : Nat → σ → σ) (n : Nat) (s0 : σ) (hp : ∀ k s, Nat.beq (T k s).1 100000 = false) (hs : ∀ k, k < n → st (T k (itr f k s0)) = some (T (k + 1) (itr f (k + 1) s0))) : a_run st (T 0 s0) = a_run st (T n (itr f n s0)) := run_fold T f n s0 hp hs
theorem o_chances (x y z : Int32) (hz : z = 0 ∨ z = 1) : Op (fun d e => FX10_chances d e x y z) (fun d e => FX11_chances d e x y z) := by
  obtain ⟨n, rfl, n1, n2⟩ := iI_ex x
  obtain ⟨k, rfl, k1, k2⟩ := iI_ex y
  obtain ⟨low, rfl⟩ : ∃ low : Bool, z = iI (tv low) := by
    rcases hz with rfl | rfl
    · exact ⟨false, rfl⟩
    · exact ⟨true, rfl⟩
  refine Op.pure (fun S hS => ?_)
  by_cases hn : 0 ≤ n ∧ n ≤ 8
  · by_cases hk : 0 ≤ k ∧ k ≤ n
    · obtain ⟨N, rfl⟩ := Int.eq_ofNat_of_zero_le hn.1
      obtain ⟨K, rfl⟩ := Int.eq_ofNat_of_zero_le hk.1
      obtain ⟨e1, e2, e3, e4⟩ := ch_eq N (by omega) K (by omega)
      refine ⟨lJ (lowS (ch2 N K) (ch3 N) low), fun d e hC => ?_, fun d e hM => ?_⟩
      · show FX10_chances d e (iI N) (iI K) (iI (tv low)) = _
        unfold FX10_chances
        rw [a_run_step (st := stX10_chances) (p := (0, [some (.ref 0), some (.int (iI N)), some (.int (iI K)), some (.int (iI (tv low))), none, none, none, none, none], d, e)) (p2 := (32, [some (.ref 0), some (.int (iI N)), some (.int (iI K)), some (.int (iI (tv low))), some (.long (lJ ((1 : Nat) : Int))), none, some (.long (lJ 1)), none, some (.int (iI (0 : Nat)))], d, e)) (by
          show sX10_chances_0 d e _ _ _ = _
          unfold sX10_chances_0
          simp (disch := omega) only [nI_iI, lN_lJ, iI_0, lJ_0, iI_add, iI_sub, iI_mul, iI_neg, lJ_add, lJ_sub, lJ_mul, lJ_neg, i_l, l_i, iI_cl, iI_inb, iI_eqT, iI_eqF, iI_ltT, iI_ltF, iI_leT, iI_leF, lJ_eqT, lJ_eqF, lJ_cG, lJ_cE, lJ_cL, lJ_cF, lJ_cGE, lJ_cLE, lJ_cNL, lJ_cNG, Int.cast_ofNat_Int, c_0, c_1, Int.natCast_add, Int.add_zero, cond_true, cond_false, Bool.and_self, Bool.and_true, Bool.true_and, Option.bind_some, decide_true, uI_hit, uI_miss, uI_o, uA_o, uA_s, ↓reduceIte, eq_self, true_or, or_true, or_false, false_or, true_and, and_true, false_and, and_false, or_self, and_self, not_false_eq_true, not_true_eq_false, tn_i, cq_in_y]) rfl]
        rw [run_foldN (st := stX10_chances) (fun i s => (32, [some (.ref 0), some (.int (iI N)), some (.int (iI K)), some (.int (iI (tv low))), some (.long (lJ ((s : Nat) : Int))), none, some (.long (lJ 1)), none, some (.int (iI (i : Nat)))], d, e)) (fun i s => s * (N - i) / (i + 1)) K 1 (fun _ _ => rfl) ?_]
        · rw [a_run_step (st := stX10_chances) (p2 := (63, [some (.ref 0), some (.int (iI N)), some (.int (iI K)), some (.int (iI (tv low))), some (.long (lJ ((ch1 N K : Nat) : Int))), none, some (.long (lJ ((1 : Nat) : Int))), none, some (.int (iI (0 : Nat)))], d, e)) (by
            show sX10_chances_32 d e _ _ _ _ _ _ = _
            unfold sX10_chances_32 ch1
            simp (disch := omega) only [nI_iI, lN_lJ, iI_0, lJ_0, iI_add, iI_sub, iI_mul, iI_neg, lJ_add, lJ_sub, lJ_mul, lJ_neg, i_l, l_i, iI_cl, iI_inb, iI_eqT, iI_eqF, iI_ltT, iI_ltF, iI_leT, iI_leF, lJ_eqT, lJ_eqF, lJ_cG, lJ_cE, lJ_cL, lJ_cF, lJ_cGE, lJ_cLE, lJ_cNL, lJ_cNG, Int.cast_ofNat_Int, c_0, c_1, Int.natCast_add, Int.add_zero, cond_true, cond_false, Bool.and_self, Bool.and_true, Bool.true_and, Option.bind_some, decide_true, uI_hit, uI_miss, uI_o, uA_o, uA_s, ↓reduceIte, eq_self, true_or, or_true, or_false, false_or, true_and, and_true, false_and, and_false, or_self, and_self, not_false_eq_true, not_true_eq_false, tn_i]) rfl]
          rw [run_foldN (st := stX10_chances) (fun i (s : Nat × Nat) => (63, [some (.ref 0), some (.int (iI N)), some (.int (iI K)), some (.int (iI (tv low))), some (.long (lJ ((s.1 : Nat) : Int))), none, some (.long (lJ ((s.2 : Nat) : Int))), none, some (.int (iI (i : Nat)))], d, e)) (fun i s => (if i < N - K then s.1 * 2 else s.1 * 1, s.2 * 3)) N (ch1 N K, 1) (fun _ _ => rfl) ?_]
          · have pe : ∀ i : Nat, itr (fun i (s : Nat × Nat) => (if i < N - K then s.1 * 2 else s.1 * 1, s.2 * 3)) i (ch1 N K, 1) = (itr (fun i s => if i < N - K then s * 2 else s * 1) i (ch1 N K), itr (fun _ s => s * 3) i 1) := by
              intro i
              induction i with
              | zero => rfl
              | succ i ih =>
                show (fun i (s : Nat × Nat) => (if i < N - K then s.1 * 2 else s.1 * 1, s.2 * 3)) i (itr _ i _) = _
                rw [ih]
                rfl
            rw [pe]
            have r := cq_ratio (d := d) (e := e) (u := ch2 N K) (a := ch3 N) low e2 ⟨e3, e4⟩
            rw [a_run_step (st := stX10_chances) (p2 := (100000, [some (.long (lJ (lowS (ch2 N K) (ch3 N) low)))], d, e)) (by
              show sX10_chances_63 d e _ _ _ (lJ ((ch2 N K : Nat) : Int)) (lJ ((ch3 N : Nat) : Int)) _ = _
              unfold sX10_chances_63
              simp (disch := omega) only [nI_iI, lN_lJ, iI_0, lJ_0, iI_add, iI_sub, iI_mul, iI_neg, lJ_add, lJ_sub, lJ_mul, lJ_neg, i_l, l_i, iI_cl, iI_inb, iI_eqT, iI_eqF, iI_ltT, iI_ltF, iI_leT, iI_leF, lJ_eqT, lJ_eqF, lJ_cG, lJ_cE, lJ_cL, lJ_cF, lJ_cGE, lJ_cLE, lJ_cNL, lJ_cNG, Int.cast_ofNat_Int, c_0, c_1, Int.natCast_add, Int.add_zero, cond_true, cond_false, Bool.and_self, Bool.and_true, Bool.true_and, Option.bind_some, decide_true, uI_hit, uI_miss, uI_o, uA_o, uA_s, ↓reduceIte, eq_self, true_or, or_true, or_false, false_or, true_and, and_true, false_and, and_false, or_self, and_self, not_false_eq_true, not_true_eq_false, tn_i, r]) rfl, a_run_end]
            rfl
          · intro i hi
            show sX10_chances_63 d e _ _ _ _ _ _ = _
            have pe : itr (fun i (s : Nat × Nat) => (if i < N - K then s.1 * 2 else s.1 * 1, s.2 * 3)) (i + 1) (ch1 N K, 1) = (if i < N - K then (itr (fun i (s : Nat × Nat) => (if i < N - K then s.1 * 2 else s.1 * 1, s.2 * 3)) i (ch1 N K, 1)).1 * 2 else (itr (fun i (s : Nat × Nat) => (if i < N - K then s.1 * 2 else s.1 * 1, s.2 * 3)) i (ch1 N K, 1)).1 * 1, (itr (fun i (s : Nat × Nat) => (if i < N - K then s.1 * 2 else s.1 * 1, s.2 * 3)) i (ch1 N K, 1)).2 * 3) := rfl
            rw [pe]
            generalize itr (fun i (s : Nat × Nat) => (if i < N - K then s.1 * 2 else s.1 * 1, s.2 * 3)) i (ch1 N K, 1) = s
            unfold sX10_chances_63
            by_cases h : i < N - K
            · simp only [if_pos h]
              simp (disch := omega) only [nI_iI, lN_lJ, iI_0, lJ_0, iI_add, iI_sub, iI_mul, iI_neg, lJ_add, lJ_sub, lJ_mul, lJ_neg, i_l, l_i, iI_cl, iI_inb, iI_eqT, iI_eqF, iI_ltT, iI_ltF, iI_leT, iI_leF, lJ_eqT, lJ_eqF, lJ_cG, lJ_cE, lJ_cL, lJ_cF, lJ_cGE, lJ_cLE, lJ_cNL, lJ_cNG, Int.cast_ofNat_Int, c_0, c_1, Int.natCast_add, Int.add_zero, cond_true, cond_false, Bool.and_self, Bool.and_true, Bool.true_and, Option.bind_some, decide_true, uI_hit, uI_miss, uI_o, uA_o, uA_s, ↓reduceIte, eq_self, true_or, or_true, or_false, false_or, true_and, and_true, false_and, and_false, or_self, and_self, not_false_eq_true, not_true_eq_false, tn_i, Int.natCast_mul]
            · simp only [if_neg h]
              simp (disch := omega) only [nI_iI, lN_lJ, iI_0, lJ_0, iI_add, iI_sub, iI_mul, iI_neg, lJ_add, lJ_sub, lJ_mul, lJ_neg, i_l, l_i, iI_cl, iI_inb, iI_eqT, iI_eqF, iI_ltT, iI_ltF, iI_leT, iI_leF, lJ_eqT, lJ_eqF, lJ_cG, lJ_cE, lJ_cL, lJ_cF, lJ_cGE, lJ_cLE, lJ_cNL, lJ_cNG, Int.cast_ofNat_Int, c_0, c_1, Int.natCast_add, Int.add_zero, cond_true, cond_false, Bool.and_self, Bool.and_true, Bool.true_and, Option.bind_some, decide_true, uI_hit, uI_miss, uI_o, uA_o, uA_s, ↓reduceIte, eq_self, true_or, or_true, or_false, false_or, true_and, and_true, false_and, and_false, or_self, and_self, not_false_eq_true, not_true_eq_false, tn_i, Int.natCast_mul]
        · intro i hi
          have b := (ch_b1 N (by omega) K (by omega) i (by omega)).1
          have pe : itr (fun i s => s * (N - i) / (i + 1)) (i + 1) 1 = itr (fun i s => s * (N - i) / (i + 1)) i 1 * (N - i) / (i + 1) := rfl
          rw [pe]
          generalize itr (fun i s => s * (N - i) / (i + 1)) i 1 = s at b
          have m1 : s * (N - i) ≤ 1000 * 8 := Nat.mul_le_mul b (by omega)
          have q : lJ ((s : Int) * ((N : Int) - i)) / lJ ((i : Int) + 1) = lJ ((s * (N - i) / (i + 1) : Nat) : Int) := by
            have := lJ_divN (a := s * (N - i)) (b := i + 1) (by omega)
            rw [Int.natCast_mul, Int.natCast_sub (by omega)] at this
            exact this
          show sX10_chances_32 d e _ _ _ _ _ _ = _
          unfold sX10_chances_32
          simp (disch := omega) only [nI_iI, lN_lJ, iI_0, lJ_0, iI_add, iI_sub, iI_mul, iI_neg, lJ_add, lJ_sub, lJ_mul, lJ_neg, i_l, l_i, iI_cl, iI_inb, iI_eqT, iI_eqF, iI_ltT, iI_ltF, iI_leT, iI_leF, lJ_eqT, lJ_eqF, lJ_cG, lJ_cE, lJ_cL, lJ_cF, lJ_cGE, lJ_cLE, lJ_cNL, lJ_cNG, Int.cast_ofNat_Int, c_0, c_1, Int.natCast_add, Int.add_zero, cond_true, cond_false, Bool.and_self, Bool.and_true, Bool.true_and, Option.bind_some, decide_true, uI_hit, uI_miss, uI_o, uA_o, uA_s, ↓reduceIte, eq_self, true_or, or_true, or_false, false_or, true_and, and_true, false_and, and_false, or_self, and_self, not_false_eq_true, not_true_eq_false, tn_i, q, decide_eq_true]
      · show FX11_chances d e (iI N) (iI K) (iI (tv low)) = _
        unfold FX11_chances
        rw [a_run_step (st := stX11_chances) (p := (0, [some (.ref 108), some (.int (iI N)), some (.int (iI K)), some (.int (iI (tv low))), none, none, none, none, none], d, e)) (p2 := (29, [some (.ref 108), some (.int (iI N)), some (.int (iI K)), some (.int (iI (tv low))), some (.long (lJ ((1 : Nat) : Int))), none, some (.int (iI (1 + (0 : Nat)))), none, none], d, e)) (by
          show sX11_chances_0 d e _ _ _ = _
          unfold sX11_chances_0
          simp (disch := omega) only [nI_iI, lN_lJ, iI_0, lJ_0, iI_add, iI_sub, iI_mul, iI_neg, lJ_add, lJ_sub, lJ_mul, lJ_neg, i_l, l_i, iI_cl, iI_inb, iI_eqT, iI_eqF, iI_ltT, iI_ltF, iI_leT, iI_leF, lJ_eqT, lJ_eqF, lJ_cG, lJ_cE, lJ_cL, lJ_cF, lJ_cGE, lJ_cLE, lJ_cNL, lJ_cNG, Int.cast_ofNat_Int, c_0, c_1, Int.natCast_add, Int.add_zero, cond_true, cond_false, Bool.and_self, Bool.and_true, Bool.true_and, Option.bind_some, decide_true, uI_hit, uI_miss, uI_o, uA_o, uA_s, ↓reduceIte, eq_self, true_or, or_true, or_false, false_or, true_and, and_true, false_and, and_false, or_self, and_self, not_false_eq_true, not_true_eq_false, tn_i, mq_in_y]) rfl]
        rw [run_foldN (st := stX11_chances) (fun i s => (29, [some (.ref 108), some (.int (iI N)), some (.int (iI K)), some (.int (iI (tv low))), some (.long (lJ ((s : Nat) : Int))), none, some (.int (iI (1 + (i : Nat)))), none, none], d, e)) (fun i s => s * (N - K + (i + 1)) / (i + 1)) K 1 (fun _ _ => rfl) ?_]
        · rw [a_run_step (st := stX11_chances) (p2 := (60, [some (.ref 108), some (.int (iI N)), some (.int (iI K)), some (.int (iI (tv low))), some (.long (lJ ((cm1 N K : Nat) : Int))), none, some (.int (iI (K + (0 : Nat)))), none, none], d, e)) (by
            show sX11_chances_29 d e _ _ _ _ _ none none = _
            unfold sX11_chances_29 cm1
            simp (disch := omega) only [nI_iI, lN_lJ, iI_0, lJ_0, iI_add, iI_sub, iI_mul, iI_neg, lJ_add, lJ_sub, lJ_mul, lJ_neg, i_l, l_i, iI_cl, iI_inb, iI_eqT, iI_eqF, iI_ltT, iI_ltF, iI_leT, iI_leF, lJ_eqT, lJ_eqF, lJ_cG, lJ_cE, lJ_cL, lJ_cF, lJ_cGE, lJ_cLE, lJ_cNL, lJ_cNG, Int.cast_ofNat_Int, c_0, c_1, Int.natCast_add, Int.add_zero, cond_true, cond_false, Bool.and_self, Bool.and_true, Bool.true_and, Option.bind_some, decide_true, uI_hit, uI_miss, uI_o, uA_o, uA_s, ↓reduceIte, eq_self, true_or, or_true, or_false, false_or, true_and, and_true, false_and, and_false, or_self, and_self, not_false_eq_true, not_true_eq_false, tn_i]) rfl]
          rw [run_foldN (st := stX11_chances) (fun i s => (60, [some (.ref 108), some (.int (iI N)), some (.int (iI K)), some (.int (iI (tv low))), some (.long (lJ ((s : Nat) : Int))), none, some (.int (iI (K + (i : Nat)))), none, none], d, e)) (fun _ s => s * 2) (N - K) (cm1 N K) (fun _ _ => rfl) ?_]
          · rw [a_run_step (st := stX11_chances) (p2 := (86, [some (.ref 108), some (.int (iI N)), some (.int (iI K)), some (.int (iI (tv low))), some (.long (lJ ((ch2 N K : Nat) : Int))), none, some (.long (lJ ((1 : Nat) : Int))), none, some (.int (iI (0 : Nat)))], d, e)) (by
              rw [e1]
              show sX11_chances_60 d e _ _ _ (lJ ((cm2 N K : Nat) : Int)) _ none none = _
              unfold sX11_chances_60
              simp (disch := omega) only [nI_iI, lN_lJ, iI_0, lJ_0, iI_add, iI_sub, iI_mul, iI_neg, lJ_add, lJ_sub, lJ_mul, lJ_neg, i_l, l_i, iI_cl, iI_inb, iI_eqT, iI_eqF, iI_ltT, iI_ltF, iI_leT, iI_leF, lJ_eqT, lJ_eqF, lJ_cG, lJ_cE, lJ_cL, lJ_cF, lJ_cGE, lJ_cLE, lJ_cNL, lJ_cNG, Int.cast_ofNat_Int, c_0, c_1, Int.natCast_add, Int.add_zero, cond_true, cond_false, Bool.and_self, Bool.and_true, Bool.true_and, Option.bind_some, decide_true, uI_hit, uI_miss, uI_o, uA_o, uA_s, ↓reduceIte, eq_self, true_or, or_true, or_false, false_or, true_and, and_true, false_and, and_false, or_self, and_self, not_false_eq_true, not_true_eq_false, tn_i]) rfl]
            rw [run_foldN (st := stX11_chances) (fun i s => (86, [some (.ref 108), some (.int (iI N)), some (.int (iI K)), some (.int (iI (tv low))), some (.long (lJ ((ch2 N K : Nat) : Int))), none, some (.long (lJ ((s : Nat) : Int))), none, some (.int (iI (i : Nat)))], d, e)) (fun _ s => s * 3) N 1 (fun _ _ => rfl) ?_]
            · have r := mq_part (d := d) (e := e) (u := ch2 N K) (a := ch3 N) low e2 ⟨e3, e4⟩
              rw [a_run_step (st := stX11_chances) (p2 := (100000, [some (.long (lJ (lowS (ch2 N K) (ch3 N) low)))], d, e)) (by
                show sX11_chances_86 d e _ _ _ _ (lJ ((ch3 N : Nat) : Int)) _ = _
                unfold sX11_chances_86
                simp (disch := omega) only [nI_iI, lN_lJ, iI_0, lJ_0, iI_add, iI_sub, iI_mul, iI_neg, lJ_add, lJ_sub, lJ_mul, lJ_neg, i_l, l_i, iI_cl, iI_inb, iI_eqT, iI_eqF, iI_ltT, iI_ltF, iI_leT, iI_leF, lJ_eqT, lJ_eqF, lJ_cG, lJ_cE, lJ_cL, lJ_cF, lJ_cGE, lJ_cLE, lJ_cNL, lJ_cNG, Int.cast_ofNat_Int, c_0, c_1, Int.natCast_add, Int.add_zero, cond_true, cond_false, Bool.and_self, Bool.and_true, Bool.true_and, Option.bind_some, decide_true, uI_hit, uI_miss, uI_o, uA_o, uA_s, ↓reduceIte, eq_self, true_or, or_true, or_false, false_or, true_and, and_true, false_and, and_false, or_self, and_self, not_false_eq_true, not_true_eq_false, tn_i, r]) rfl, a_run_end]
              rfl
            · intro i hi
              have pe : itr (fun _ s => s * 3) (i + 1) 1 = itr (fun _ s => s * 3) i 1 * 3 := rfl
              rw [pe]
              show sX11_chances_86 d e _ _ _ _ _ _ = _
              unfold sX11_chances_86
              simp (disch := omega) only [nI_iI, lN_lJ, iI_0, lJ_0, iI_add, iI_sub, iI_mul, iI_neg, lJ_add, lJ_sub, lJ_mul, lJ_neg, i_l, l_i, iI_cl, iI_inb, iI_eqT, iI_eqF, iI_ltT, iI_ltF, iI_leT, iI_leF, lJ_eqT, lJ_eqF, lJ_cG, lJ_cE, lJ_cL, lJ_cF, lJ_cGE, lJ_cLE, lJ_cNL, lJ_cNG, Int.cast_ofNat_Int, c_0, c_1, Int.natCast_add, Int.add_zero, cond_true, cond_false, Bool.and_self, Bool.and_true, Bool.true_and, Option.bind_some, decide_true, uI_hit, uI_miss, uI_o, uA_o, uA_s, ↓reduceIte, eq_self, true_or, or_true, or_false, false_or, true_and, and_true, false_and, and_false, or_self, and_self, not_false_eq_true, not_true_eq_false, tn_i, Int.natCast_mul]
          · intro i hi
            have pe : itr (fun _ s => s * 2) (i + 1) (cm1 N K) = itr (fun _ s => s * 2) i (cm1 N K) * 2 := rfl
            rw [pe]
            show sX11_chances_60 d e _ _ _ _ _ none none = _
            unfold sX11_chances_60
            simp (disch := omega) only [nI_iI, lN_lJ, iI_0, lJ_0, iI_add, iI_sub, iI_mul, iI_neg, lJ_add, lJ_sub, lJ_mul, lJ_neg, i_l, l_i, iI_cl, iI_inb, iI_eqT, iI_eqF, iI_ltT, iI_ltF, iI_leT, iI_leF, lJ_eqT, lJ_eqF, lJ_cG, lJ_cE, lJ_cL, lJ_cF, lJ_cGE, lJ_cLE, lJ_cNL, lJ_cNG, Int.cast_ofNat_Int, c_0, c_1, Int.natCast_add, Int.add_zero, cond_true, cond_false, Bool.and_self, Bool.and_true, Bool.true_and, Option.bind_some, decide_true, uI_hit, uI_miss, uI_o, uA_o, uA_s, ↓reduceIte, eq_self, true_or, or_true, or_false, false_or, true_and, and_true, false_and, and_false, or_self, and_self, not_false_eq_true, not_true_eq_false, tn_i, Int.natCast_mul, Int.add_assoc]
        · intro i hi
          have b := (ch_b1 N (by omega) K (by omega) i (by omega)).2
          have pe : itr (fun i s => s * (N - K + (i + 1)) / (i + 1)) (i + 1) 1 = itr (fun i s => s * (N - K + (i + 1)) / (i + 1)) i 1 * (N - K + (i + 1)) / (i + 1) := rfl
          rw [pe]
          generalize itr (fun i s => s * (N - K + (i + 1)) / (i + 1)) i 1 = s at b
          have m1 : s * (N - K + (i + 1)) ≤ 1000 * 20 := Nat.mul_le_mul b (by omega)
          have q : lJ ((s : Int) * ((N : Int) - K + (1 + i))) / lJ (1 + (i : Int)) = lJ ((s * (N - K + (i + 1)) / (i + 1) : Nat) : Int) := by
            have := lJ_divN (a := s * (N - K + (i + 1))) (b := i + 1) (by omega)
            rw [Int.natCast_mul, Int.natCast_add, Int.natCast_sub (by omega)] at this
            rw [Int.add_comm 1 (i : Int)]
            exact this
          show sX11_chances_29 d e _ _ _ _ _ none none = _
          unfold sX11_chances_29
          simp (disch := omega) only [nI_iI, lN_lJ, iI_0, lJ_0, iI_add, iI_sub, iI_mul, iI_neg, lJ_add, lJ_sub, lJ_mul, lJ_neg, i_l, l_i, iI_cl, iI_inb, iI_eqT, iI_eqF, iI_ltT, iI_ltF, iI_leT, iI_leF, lJ_eqT, lJ_eqF, lJ_cG, lJ_cE, lJ_cL, lJ_cF, lJ_cGE, lJ_cLE, lJ_cNL, lJ_cNG, Int.cast_ofNat_Int, c_0, c_1, Int.natCast_add, Int.add_zero, cond_true, cond_false, Bool.and_self, Bool.and_true, Bool.true_and, Option.bind_some, decide_true, uI_hit, uI_miss, uI_o, uA_o, uA_s, ↓reduceIte, eq_self, true_or, or_true, or_false, false_or, true_and, and_true, false_and, and_false, or_self, and_self, not_false_eq_true, not_true_eq_false, tn_i, q, decide_eq_true]
          rw [show (1 : Int) + i + 1 = 1 + (i + 1) by omega]
    · refine ⟨lJ (-1), fun d e hC => ?_, fun d e hM => ?_⟩
      · show FX10_chances d e (iI n) (iI k) (iI (tv low)) = _
        unfold FX10_chances
        rw [a_run_step (st := stX10_chances) (p := (0, [some (.ref 0), some (.int (iI n)), some (.int (iI k)), some (.int (iI (tv low))), none, none, none, none, none], d, e)) (p2 := (100000, [some (.long (lJ (-1)))], d, e)) (by
          show sX10_chances_0 d e _ _ _ = _
          unfold sX10_chances_0
          simp (disch := omega) only [nI_iI, lN_lJ, iI_0, lJ_0, iI_add, iI_sub, iI_mul, iI_neg, lJ_add, lJ_sub, lJ_mul, lJ_neg, i_l, l_i, iI_cl, iI_inb, iI_eqT, iI_eqF, iI_ltT, iI_ltF, iI_leT, iI_leF, lJ_eqT, lJ_eqF, lJ_cG, lJ_cE, lJ_cL, lJ_cF, lJ_cGE, lJ_cLE, lJ_cNL, lJ_cNG, Int.cast_ofNat_Int, c_0, c_1, Int.natCast_add, Int.add_zero, cond_true, cond_false, Bool.and_self, Bool.and_true, Bool.true_and, Option.bind_some, decide_true, uI_hit, uI_miss, uI_o, uA_o, uA_s, ↓reduceIte, eq_self, true_or, or_true, or_false, false_or, true_and, and_true, false_and, and_false, or_self, and_self, not_false_eq_true, not_true_eq_false, tn_i, cq_in_y, cq_in_n]) rfl, a_run_end]
        rfl
      · show FX11_chances d e (iI n) (iI k) (iI (tv low)) = _
        unfold FX11_chances
        rw [a_run_step (st := stX11_chances) (p := (0, [some (.ref 108), some (.int (iI n)), some (.int (iI k)), some (.int (iI (tv low))), none, none, none, none, none], d, e)) (p2 := (100000, [some (.long (lJ (-1)))], d, e)) (by
          show sX11_chances_0 d e _ _ _ = _
          unfold sX11_chances_0
          simp (disch := omega) only [nI_iI, lN_lJ, iI_0, lJ_0, iI_add, iI_sub, iI_mul, iI_neg, lJ_add, lJ_sub, lJ_mul, lJ_neg, i_l, l_i, iI_cl, iI_inb, iI_eqT, iI_eqF, iI_ltT, iI_ltF, iI_leT, iI_leF, lJ_eqT, lJ_eqF, lJ_cG, lJ_cE, lJ_cL, lJ_cF, lJ_cGE, lJ_cLE, lJ_cNL, lJ_cNG, Int.cast_ofNat_Int, c_0, c_1, Int.natCast_add, Int.add_zero, cond_true, cond_false, Bool.and_self, Bool.and_true, Bool.true_and, Option.bind_some, decide_true, uI_hit, uI_miss, uI_o, uA_o, uA_s, ↓reduceIte, eq_self, true_or, or_true, or_false, false_or, true_and, and_true, false_and, and_false, or_self, and_self, not_false_eq_true, not_true_eq_false, tn_i, mq_in_y, mq_in_n]) rfl, a_run_end]
        rfl
  · refine ⟨lJ (-1), fun d e hC => ?_, fun d e hM => ?_⟩
    · show FX10_chances d e (iI n) (iI k) (iI (tv low)) = _
      unfold FX10_chances
      rw [a_run_step (st := stX10_chances) (p := (0, [some (.ref 0), some (.int (iI n)), some (.int (iI k)), some (.int (iI (tv low))), none, none, none, none, none], d, e)) (p2 := (100000, [some (.long (lJ (-1)))], d, e)) (by
        show sX10_chances_0 d e _ _ _ = _
        unfold sX10_chances_0
        simp (disch := omega) only [nI_iI, lN_lJ, iI_0, lJ_0, iI_add, iI_sub, iI_mul, iI_neg, lJ_add, lJ_sub, lJ_mul, lJ_neg, i_l, l_i, iI_cl, iI_inb, iI_eqT, iI_eqF, iI_ltT, iI_ltF, iI_leT, iI_leF, lJ_eqT, lJ_eqF, lJ_cG, lJ_cE, lJ_cL, lJ_cF, lJ_cGE, lJ_cLE, lJ_cNL, lJ_cNG, Int.cast_ofNat_Int, c_0, c_1, Int.natCast_add, Int.add_zero, cond_true, cond_false, Bool.and_self, Bool.and_true, Bool.true_and, Option.bind_some, decide_true, uI_hit, uI_miss, uI_o, uA_o, uA_s, ↓reduceIte, eq_self, true_or, or_true, or_false, false_or, true_and, and_true, false_and, and_false, or_self, and_self, not_false_eq_true, not_true_eq_false, tn_i, cq_in_n]) rfl, a_run_end]
      rfl
    · show FX11_chances d e (iI n) (iI k) (iI (tv low)) = _
      unfold FX11_chances
      rw [a_run_step (st := stX11_chances) (p := (0, [some (.ref 108), some (.int (iI n)), some (.int (iI k)), some (.int (iI (tv low))), none, none, none, none, none], d, e)) (p2 := (100000, [some (.long (lJ (-1)))], d, e)) (by
        show sX11_chances_0 d e _ _ _ = _
        unfold sX11_chances_0
        simp (disch := omega) only [nI_iI, lN_lJ, iI_0, lJ_0, iI_add, iI_sub, iI_mul, iI_neg, lJ_add, lJ_sub, lJ_mul, lJ_neg, i_l, l_i, iI_cl, iI_inb, iI_eqT, iI_eqF, iI_ltT, iI_ltF, iI_leT, iI_leF, lJ_eqT, lJ_eqF, lJ_cG, lJ_cE, lJ_cL, lJ_cF, lJ_cGE, lJ_cLE, lJ_cNL, lJ_cNG, Int.cast_ofNat_Int, c_0, c_1, Int.natCast_add, Int.add_zero, cond_true, cond_false, Bool.and_self, Bool.and_true, Bool.true_and, Option.bind_some, decide_true, uI_hit, uI_miss, uI_o, uA_o, uA_s, ↓reduceIte, eq_self, true_or, or_true, or_false, false_or, true_and, and_true, false_and, and_false, or_self, and_self, not_false_eq_true, not_true_eq_false, tn_i, mq_in_n]) rfl, a_run_end]
      rfl
