/-! ===== piece, orders, price, feed ===== -/
theorem shl1 {w : Int} (h : 1 ≤ w ∧ w ≤ 4) : a_shl (iI 1) (iI w) = iI (2 ^ w.toNat) ∧ 2 ≤ (2 : Int) ^ w.toNat ∧ (2 : Int) ^ w.toNat ≤ 16 := by
  rcases (show w = 1 ∨ w = 2 ∨ w = 3 ∨ w = 4 by omega) with rfl | rfl | rfl | rfl
  · exact ⟨by decide, by decide, by decide⟩
  · exact ⟨by decide, by decide, by decide⟩
  · exact ⟨by decide, by decide, by decide⟩
  · exact ⟨by decide, by decide, by decide⟩
theorem o_piece (x y : Int32) : Op (fun d e => FX10_piece d e x y) (fun d e => FX11_piece d e x y) := by
  obtain ⟨w, rfl, w1, w2⟩ := iI_ex x
  obtain ⟨b, rfl, b1, b2⟩ := iI_ex y
  intro S hS
  have hN := hS.1.nts
  have b5 := hN.1.1
  have b6 := hN.2.1.1
  have b7 := hN.2.2.1.1
  have b8 := hN.2.2.2.1
  have hW := hS.1.1
  have w0 := hW.1
  have w1 := hW.2.1
  by_cases hw : 1 ≤ w ∧ w ≤ 4
  · obtain ⟨s1, s2, s3⟩ := shl1 hw
    by_cases hb : 0 ≤ b ∧ b < 2 ^ w.toNat
    · by_cases hf : S.1 7 < 5
      · obtain ⟨k1, k2⟩ := n2S_ok7 hN hw hb hf
        generalize (2 : Int) ^ w.toNat = P at s1 s2 s3 hb
        refine Op.note (r := iI (S.1 7)) hS k1 k2 (fun d e hC => ?_) (fun d e hM => ?_)
        · obtain ⟨m5, m6, m7, m8, m9⟩ := hC.nt
          obtain ⟨d', t1, t2, f2⟩ := cq_add21 (e := e) m7 (by omega) (x := w) (y := b)
          have q4 : d' 21 4 = iI (S.1 7 + 1) := by
            have := t2.2.1
            rw [show n2S S.1 7 102 w b 7 = S.1 7 + 1 from aU_hit rfl] at this
            exact this
          refine ⟨d', e, ?_, hC.1.note hS.1 k1 (fun k a => f2 k (by omega)) (m5.far (fun k a b => f2 k (by omega)) (n2S_o (by omega)) (fun j hj => ⟨n2S_o (by omega), n2S_o (by omega)⟩)) (m6.far (fun k a b => f2 k (by omega)) (n2S_o (by omega)) (fun j hj => ⟨n2S_o (by omega), n2S_o (by omega)⟩)) t2 (m8.far (fun k a b => f2 k (by omega)) (n2S_o (by omega)) (fun j hj => ⟨n2S_o (by omega), n2S_o (by omega)⟩)) (fun j hj => by rw [n2S_o (j := 8) (by omega)] at hj; rw [f2 28 (by omega), n2S_o (by omega)]; exact m9 j hj), fun k a => f2 k (by omega)⟩
          show FX10_piece d e (iI w) (iI b) = _
          unfold FX10_piece
          simp (disch := omega) only [nI_iI, lN_lJ, iI_0, lJ_0, iI_add, iI_sub, iI_mul, iI_neg, lJ_add, lJ_sub, lJ_mul, lJ_neg, i_l, l_i, iI_cl, iI_inb, iI_eqT, iI_eqF, iI_ltT, iI_ltF, iI_leT, iI_leF, lJ_eqT, lJ_eqF, lJ_cG, lJ_cE, lJ_cL, lJ_cF, lJ_cGE, lJ_cLE, lJ_cNL, lJ_cNG, Int.cast_ofNat_Int, c_0, c_1, Int.natCast_add, Int.add_zero, cond_true, cond_false, Bool.and_self, Bool.and_true, Bool.true_and, Option.bind_some, decide_true, uI_hit, uI_miss, uI_o, uA_o, uA_s, ↓reduceIte, eq_self, true_or, or_true, or_false, false_or, true_and, and_true, false_and, and_false, or_self, and_self, not_false_eq_true, not_true_eq_false, tn_i, cq_in_y, s1, t1, q4]
          rw [show S.1 7 + 1 - 1 = S.1 7 by omega]
        · have r7 : d 109 7 = iI (S.1 7) := hM.1.cell (j := 7) (by omega)
          refine ⟨uI (uI (uI d 109 (102 + 2 * S.1 7).toNat (iI w)) 109 (102 + 2 * S.1 7 + 1).toNat (iI b)) 109 7 (iI (S.1 7 + 1)), e, ?_, ((hM.1.put (by omega)).put (by omega)).put rfl, (((Kr.refl d).put).put).put⟩
          show FX11_piece d e (iI w) (iI b) = _
          unfold FX11_piece
          simp (disch := omega) only [nI_iI, lN_lJ, iI_0, lJ_0, iI_add, iI_sub, iI_mul, iI_neg, lJ_add, lJ_sub, lJ_mul, lJ_neg, i_l, l_i, iI_cl, iI_inb, iI_eqT, iI_eqF, iI_ltT, iI_ltF, iI_leT, iI_leF, lJ_eqT, lJ_eqF, lJ_cG, lJ_cE, lJ_cL, lJ_cF, lJ_cGE, lJ_cLE, lJ_cNL, lJ_cNG, Int.cast_ofNat_Int, c_0, c_1, Int.natCast_add, Int.add_zero, cond_true, cond_false, Bool.and_self, Bool.and_true, Bool.true_and, Option.bind_some, decide_true, uI_hit, uI_miss, uI_o, uA_o, uA_s, ↓reduceIte, eq_self, true_or, or_true, or_false, false_or, true_and, and_true, false_and, and_false, or_self, and_self, not_false_eq_true, not_true_eq_false, tn_i, mq_in_y, s1, r7]
          rw [show S.1 7 + 1 - 1 = S.1 7 by omega]
      · generalize (2 : Int) ^ w.toNat = P at s1 s2 s3 hb
        refine ⟨S, iI (-1), hS, fun d e hC => ⟨d, e, ?_, hC, Fc.refl d⟩, fun d e hM => ⟨d, e, ?_, hM, Fm.refl d⟩⟩
        · obtain ⟨m5, m6, m7, m8, m9⟩ := hC.nt
          have q0 : d 21 0 = iI 5 := m7.1
          have q4 : d 21 4 = iI (S.1 7) := m7.2.1
          show FX10_piece d e (iI w) (iI b) = _
          unfold FX10_piece FX3_add
          simp (disch := omega) only [nI_iI, lN_lJ, iI_0, lJ_0, iI_add, iI_sub, iI_mul, iI_neg, lJ_add, lJ_sub, lJ_mul, lJ_neg, i_l, l_i, iI_cl, iI_inb, iI_eqT, iI_eqF, iI_ltT, iI_ltF, iI_leT, iI_leF, lJ_eqT, lJ_eqF, lJ_cG, lJ_cE, lJ_cL, lJ_cF, lJ_cGE, lJ_cLE, lJ_cNL, lJ_cNG, Int.cast_ofNat_Int, c_0, c_1, Int.natCast_add, Int.add_zero, cond_true, cond_false, Bool.and_self, Bool.and_true, Bool.true_and, Option.bind_some, decide_true, uI_hit, uI_miss, uI_o, uA_o, uA_s, ↓reduceIte, eq_self, true_or, or_true, or_false, false_or, true_and, and_true, false_and, and_false, or_self, and_self, not_false_eq_true, not_true_eq_false, tn_i, cq_in_y, s1, q0, q4, decide_eq_true]
        · have r7 : d 109 7 = iI (S.1 7) := hM.1.cell (j := 7) (by omega)
          rw [show S.1 7 = 5 by omega] at r7
          show FX11_piece d e (iI w) (iI b) = _
          unfold FX11_piece
          simp (disch := omega) only [nI_iI, lN_lJ, iI_0, lJ_0, iI_add, iI_sub, iI_mul, iI_neg, lJ_add, lJ_sub, lJ_mul, lJ_neg, i_l, l_i, iI_cl, iI_inb, iI_eqT, iI_eqF, iI_ltT, iI_ltF, iI_leT, iI_leF, lJ_eqT, lJ_eqF, lJ_cG, lJ_cE, lJ_cL, lJ_cF, lJ_cGE, lJ_cLE, lJ_cNL, lJ_cNG, Int.cast_ofNat_Int, c_0, c_1, Int.natCast_add, Int.add_zero, cond_true, cond_false, Bool.and_self, Bool.and_true, Bool.true_and, Option.bind_some, decide_true, uI_hit, uI_miss, uI_o, uA_o, uA_s, ↓reduceIte, eq_self, true_or, or_true, or_false, false_or, true_and, and_true, false_and, and_false, or_self, and_self, not_false_eq_true, not_true_eq_false, tn_i, mq_in_y, s1, r7]
    · generalize (2 : Int) ^ w.toNat = P at s1 s2 s3 hb
      refine ⟨S, iI (-1), hS, fun d e hC => ⟨d, e, ?_, hC, Fc.refl d⟩, fun d e hM => ⟨d, e, ?_, hM, Fm.refl d⟩⟩
      · show FX10_piece d e (iI w) (iI b) = _
        unfold FX10_piece
        simp (disch := omega) only [nI_iI, lN_lJ, iI_0, lJ_0, iI_add, iI_sub, iI_mul, iI_neg, lJ_add, lJ_sub, lJ_mul, lJ_neg, i_l, l_i, iI_cl, iI_inb, iI_eqT, iI_eqF, iI_ltT, iI_ltF, iI_leT, iI_leF, lJ_eqT, lJ_eqF, lJ_cG, lJ_cE, lJ_cL, lJ_cF, lJ_cGE, lJ_cLE, lJ_cNL, lJ_cNG, Int.cast_ofNat_Int, c_0, c_1, Int.natCast_add, Int.add_zero, cond_true, cond_false, Bool.and_self, Bool.and_true, Bool.true_and, Option.bind_some, decide_true, uI_hit, uI_miss, uI_o, uA_o, uA_s, ↓reduceIte, eq_self, true_or, or_true, or_false, false_or, true_and, and_true, false_and, and_false, or_self, and_self, not_false_eq_true, not_true_eq_false, tn_i, cq_in_y, cq_in_n, s1]
      · show FX11_piece d e (iI w) (iI b) = _
        unfold FX11_piece
        simp (disch := omega) only [nI_iI, lN_lJ, iI_0, lJ_0, iI_add, iI_sub, iI_mul, iI_neg, lJ_add, lJ_sub, lJ_mul, lJ_neg, i_l, l_i, iI_cl, iI_inb, iI_eqT, iI_eqF, iI_ltT, iI_ltF, iI_leT, iI_leF, lJ_eqT, lJ_eqF, lJ_cG, lJ_cE, lJ_cL, lJ_cF, lJ_cGE, lJ_cLE, lJ_cNL, lJ_cNG, Int.cast_ofNat_Int, c_0, c_1, Int.natCast_add, Int.add_zero, cond_true, cond_false, Bool.and_self, Bool.and_true, Bool.true_and, Option.bind_some, decide_true, uI_hit, uI_miss, uI_o, uA_o, uA_s, ↓reduceIte, eq_self, true_or, or_true, or_false, false_or, true_and, and_true, false_and, and_false, or_self, and_self, not_false_eq_true, not_true_eq_false, tn_i, mq_in_y, mq_in_n, s1]
  · refine ⟨S, iI (-1), hS, fun d e hC => ⟨d, e, ?_, hC, Fc.refl d⟩, fun d e hM => ⟨d, e, ?_, hM, Fm.refl d⟩⟩
    · show FX10_piece d e (iI w) (iI b) = _
      unfold FX10_piece
      simp (disch := omega) only [nI_iI, lN_lJ, iI_0, lJ_0, iI_add, iI_sub, iI_mul, iI_neg, lJ_add, lJ_sub, lJ_mul, lJ_neg, i_l, l_i, iI_cl, iI_inb, iI_eqT, iI_eqF, iI_ltT, iI_ltF, iI_leT, iI_leF, lJ_eqT, lJ_eqF, lJ_cG, lJ_cE, lJ_cL, lJ_cF, lJ_cGE, lJ_cLE, lJ_cNL, lJ_cNG, Int.cast_ofNat_Int, c_0, c_1, Int.natCast_add, Int.add_zero, cond_true, cond_false, Bool.and_self, Bool.and_true, Bool.true_and, Option.bind_some, decide_true, uI_hit, uI_miss, uI_o, uA_o, uA_s, ↓reduceIte, eq_self, true_or, or_true, or_false, false_or, true_and, and_true, false_and, and_false, or_self, and_self, not_false_eq_true, not_true_eq_false, tn_i, cq_in_n]
    · show FX11_piece d e (iI w) (iI b) = _
      unfold FX11_piece
      simp (disch := omega) only [nI_iI, lN_lJ, iI_0, lJ_0, iI_add, iI_sub, iI_mul, iI_neg, lJ_add, lJ_sub, lJ_mul, lJ_neg, i_l, l_i, iI_cl, iI_inb, iI_eqT, iI_eqF, iI_ltT, iI_ltF, iI_leT, iI_leF, lJ_eqT, lJ_eqF, lJ_cG, lJ_cE, lJ_cL, lJ_cF, lJ_cGE, lJ_cLE, lJ_cNL, lJ_cNG, Int.cast_ofNat_Int, c_0, c_1, Int.natCast_add, Int.add_zero, cond_true, cond_false, Bool.and_self, Bool.and_true, Bool.true_and, Option.bind_some, decide_true, uI_hit, uI_miss, uI_o, uA_o, uA_s, ↓reduceIte, eq_self, true_or, or_true, or_false, false_or, true_and, and_true, false_and, and_false, or_self, and_self, not_false_eq_true, not_true_eq_false, tn_i, mq_in_n]
-- orders
def aliF (A : Int → Int) (c : Nat) (o : Nat) (s : Int) : Int := if A (54 + o) = A (54 + c) then s + 1 else s + 0
theorem ali_up {A : Int → Int} {c : Nat} (n : Nat) : itr (aliF A c) n 1 = itr (aliF A c) n 0 + 1 := by
  induction n with
  | zero => rfl
  | succ n ih =>
    show aliF A c n (itr (aliF A c) n 1) = aliF A c n (itr (aliF A c) n 0) + 1
    rw [ih]
    unfold aliF
    split <;> omega
theorem ali_in {A : Int → Int} {c : Nat} (n : Nat) : 0 ≤ itr (aliF A c) n 0 ∧ itr (aliF A c) n 0 ≤ n := by
  induction n with
  | zero => exact ⟨Int.le_refl _, Int.le_refl _⟩
  | succ n ih =>
    have e : itr (aliF A c) (n + 1) 0 = if A (54 + n) = A (54 + c) then itr (aliF A c) n 0 + 1 else itr (aliF A c) n 0 + 0 := rfl
    rw [e]
    split <;> omega
def ordF (A : Int → Int) (c : Nat) (s : Int) : Int := s * (itr (aliF A c) c 0 + 1)
theorem o_orders : Op FX10_orders FX11_orders := by
  refine Op.pure (fun S hS => ⟨lJ (itr (ordF S.1) (S.1 1).toNat 1), fun d e hC => ?_, fun d e hM => ?_⟩)
  · have hW := hS.1.1
    have w1 := hW.2.1
    have k9 : d 2 9 = iI (S.1 1) := hC.cn.2.1
    have k6 : ∀ j : Nat, (j : Int) < S.1 1 → d 6 j = iI (S.1 (54 + j)) := hC.cn.2.2.2.2.2.2.2.2.1
    unfold FX10_orders
    rw [a_run_step (st := stX10_orders) (p := (0, [some (.ref 0), none, none, none, none, none], d, e)) (p2 := (4, [some (.ref 0), some (.long (lJ 1)), none, some (.int (iI (0 : Nat))), none, none], d, e)) rfl rfl]
    obtain ⟨v, hv⟩ := run_foldV (st := stX10_orders) (V := Option Value × Option Value) (fun k s v => (4, [some (.ref 0), some (.long (lJ s)), none, some (.int (iI (k : Nat))), v.1, v.2], d, e)) (ordF S.1) (S.1 1).toNat 1 (fun k v hk => by
      generalize itr (ordF S.1) k 1 = s
      have gk := (hW.2.2.2.2.2.1 k (by omega) (by omega)).2.2.2.1
      have ck := k6 k (by omega)
      refine ⟨(some (.int (iI (itr (aliF S.1 k) k 1))), some (.int (iI (k : Nat)))), ?_⟩
      rw [a_run_step (st := stX10_orders) (p2 := (24, [some (.ref 0), some (.long (lJ s)), none, some (.int (iI (k : Nat))), some (.int (iI 1)), some (.int (iI (0 : Nat)))], d, e)) (by
        show sX10_orders_4 d e _ _ v.1 v.2 = _
        unfold sX10_orders_4
        simp (disch := omega) only [nI_iI, lN_lJ, iI_0, lJ_0, iI_add, iI_sub, iI_mul, iI_neg, lJ_add, lJ_sub, lJ_mul, lJ_neg, i_l, l_i, iI_cl, iI_inb, iI_eqT, iI_eqF, iI_ltT, iI_ltF, iI_leT, iI_leF, lJ_eqT, lJ_eqF, lJ_cG, lJ_cE, lJ_cL, lJ_cF, lJ_cGE, lJ_cLE, lJ_cNL, lJ_cNG, Int.cast_ofNat_Int, c_0, c_1, Int.natCast_add, Int.add_zero, cond_true, cond_false, Bool.and_self, Bool.and_true, Bool.true_and, Option.bind_some, decide_true, uI_hit, uI_miss, uI_o, uA_o, uA_s, ↓reduceIte, eq_self, true_or, or_true, or_false, false_or, true_and, and_true, false_and, and_false, or_self, and_self, not_false_eq_true, not_true_eq_false, tn_i, k9]) rfl]
      rw [run_fold (st := stX10_orders) (fun o a => (24, [some (.ref 0), some (.long (lJ s)), none, some (.int (iI (k : Nat))), some (.int (iI a)), some (.int (iI (o : Nat)))], d, e)) (aliF S.1 k) k 1 (fun _ _ => rfl) ?_]
      · have hin := ali_in (A := S.1) (c := k) k
        refine a_run_step ?_ rfl
        show sX10_orders_24 d e _ _ _ _ = _
        unfold sX10_orders_24 ordF
        rw [ali_up]
        simp (disch := omega) only [nI_iI, lN_lJ, iI_0, lJ_0, iI_add, iI_sub, iI_mul, iI_neg, lJ_add, lJ_sub, lJ_mul, lJ_neg, i_l, l_i, iI_cl, iI_inb, iI_eqT, iI_eqF, iI_ltT, iI_ltF, iI_leT, iI_leF, lJ_eqT, lJ_eqF, lJ_cG, lJ_cE, lJ_cL, lJ_cF, lJ_cGE, lJ_cLE, lJ_cNL, lJ_cNG, Int.cast_ofNat_Int, c_0, c_1, Int.natCast_add, Int.add_zero, cond_true, cond_false, Bool.and_self, Bool.and_true, Bool.true_and, Option.bind_some, decide_true, uI_hit, uI_miss, uI_o, uA_o, uA_s, ↓reduceIte, eq_self, true_or, or_true, or_false, false_or, true_and, and_true, false_and, and_false, or_self, and_self, not_false_eq_true, not_true_eq_false, tn_i]
      · intro o ho
        rw [ali_up]
        have hin := ali_in (A := S.1) (c := k) o
        generalize itr (aliF S.1 k) o 0 = a at hin
        have go := (hW.2.2.2.2.2.1 o (by omega) (by omega)).2.2.2.1
        have co := k6 o (by omega)
        show sX10_orders_24 d e _ _ _ _ = _
        unfold sX10_orders_24 aliF
        by_cases h : S.1 (54 + o) = S.1 (54 + k)
        · rw [if_pos h]
          simp (disch := omega) only [nI_iI, lN_lJ, iI_0, lJ_0, iI_add, iI_sub, iI_mul, iI_neg, lJ_add, lJ_sub, lJ_mul, lJ_neg, i_l, l_i, iI_cl, iI_inb, iI_eqT, iI_eqF, iI_ltT, iI_ltF, iI_leT, iI_leF, lJ_eqT, lJ_eqF, lJ_cG, lJ_cE, lJ_cL, lJ_cF, lJ_cGE, lJ_cLE, lJ_cNL, lJ_cNG, Int.cast_ofNat_Int, c_0, c_1, Int.natCast_add, Int.add_zero, cond_true, cond_false, Bool.and_self, Bool.and_true, Bool.true_and, Option.bind_some, decide_true, uI_hit, uI_miss, uI_o, uA_o, uA_s, ↓reduceIte, eq_self, true_or, or_true, or_false, false_or, true_and, and_true, false_and, and_false, or_self, and_self, not_false_eq_true, not_true_eq_false, tn_i, Int.toNat_natCast, co, ck]
        · rw [if_neg h]
          simp (disch := omega) only [nI_iI, lN_lJ, iI_0, lJ_0, iI_add, iI_sub, iI_mul, iI_neg, lJ_add, lJ_sub, lJ_mul, lJ_neg, i_l, l_i, iI_cl, iI_inb, iI_eqT, iI_eqF, iI_ltT, iI_ltF, iI_leT, iI_leF, lJ_eqT, lJ_eqF, lJ_cG, lJ_cE, lJ_cL, lJ_cF, lJ_cGE, lJ_cLE, lJ_cNL, lJ_cNG, Int.cast_ofNat_Int, c_0, c_1, Int.natCast_add, Int.add_zero, cond_true, cond_false, Bool.and_self, Bool.and_true, Bool.true_and, Option.bind_some, decide_true, uI_hit, uI_miss, uI_o, uA_o, uA_s, ↓reduceIte, eq_self, true_or, or_true, or_false, false_or, true_and, and_true, false_and, and_false, or_self, and_self, not_false_eq_true, not_true_eq_false, tn_i, Int.toNat_natCast, co, ck]) (none, none)
    rw [hv, a_run_step (st := stX10_orders) (p2 := (100000, [some (.long (lJ (itr (ordF S.1) (S.1 1).toNat 1)))], d, e)) (by
      show sX10_orders_4 d e _ _ v.1 v.2 = _
      unfold sX10_orders_4
      simp (disch := omega) only [nI_iI, lN_lJ, iI_0, lJ_0, iI_add, iI_sub, iI_mul, iI_neg, lJ_add, lJ_sub, lJ_mul, lJ_neg, i_l, l_i, iI_cl, iI_inb, iI_eqT, iI_eqF, iI_ltT, iI_ltF, iI_leT, iI_leF, lJ_eqT, lJ_eqF, lJ_cG, lJ_cE, lJ_cL, lJ_cF, lJ_cGE, lJ_cLE, lJ_cNL, lJ_cNG, Int.cast_ofNat_Int, c_0, c_1, Int.natCast_add, Int.add_zero, cond_true, cond_false, Bool.and_self, Bool.and_true, Bool.true_and, Option.bind_some, decide_true, uI_hit, uI_miss, uI_o, uA_o, uA_s, ↓reduceIte, eq_self, true_or, or_true, or_false, false_or, true_and, and_true, false_and, and_false, or_self, and_self, not_false_eq_true, not_true_eq_false, tn_i, k9]) rfl, a_run_end]
    rfl
  · have hW := hS.1.1
    have w1 := hW.2.1
    have r1 : d 109 1 = iI (S.1 1) := hM.1.cell (j := 1) (by omega)
    unfold FX11_orders
    rw [a_run_step (st := stX11_orders) (p := (0, [some (.ref 108), none, none, none, none, none], d, e)) (p2 := (4, [some (.ref 108), some (.long (lJ 1)), none, some (.int (iI (0 : Nat))), none, none], d, e)) rfl rfl]
    obtain ⟨v, hv⟩ := run_foldV (st := stX11_orders) (V := Option Value × Option Value) (fun k s v => (4, [some (.ref 108), some (.long (lJ s)), none, some (.int (iI (k : Nat))), v.1, v.2], d, e)) (ordF S.1) (S.1 1).toNat 1 (fun k v hk => by
      generalize itr (ordF S.1) k 1 = s
      have gk := (hW.2.2.2.2.2.1 k (by omega) (by omega)).2.2.2.1
      have ck := hM.1.cell (j := 54 + k) (by omega)
      refine ⟨(some (.int (iI (itr (aliF S.1 k) (k + 1) 0))), some (.int (iI ((k + 1 : Nat) : Int)))), ?_⟩
      rw [a_run_step (st := stX11_orders) (p2 := (20, [some (.ref 108), some (.long (lJ s)), none, some (.int (iI (k : Nat))), some (.int (iI 0)), some (.int (iI (0 : Nat)))], d, e)) (by
        show sX11_orders_4 d e _ _ v.1 v.2 = _
        unfold sX11_orders_4
        simp (disch := omega) only [nI_iI, lN_lJ, iI_0, lJ_0, iI_add, iI_sub, iI_mul, iI_neg, lJ_add, lJ_sub, lJ_mul, lJ_neg, i_l, l_i, iI_cl, iI_inb, iI_eqT, iI_eqF, iI_ltT, iI_ltF, iI_leT, iI_leF, lJ_eqT, lJ_eqF, lJ_cG, lJ_cE, lJ_cL, lJ_cF, lJ_cGE, lJ_cLE, lJ_cNL, lJ_cNG, Int.cast_ofNat_Int, c_0, c_1, Int.natCast_add, Int.add_zero, cond_true, cond_false, Bool.and_self, Bool.and_true, Bool.true_and, Option.bind_some, decide_true, uI_hit, uI_miss, uI_o, uA_o, uA_s, ↓reduceIte, eq_self, true_or, or_true, or_false, false_or, true_and, and_true, false_and, and_false, or_self, and_self, not_false_eq_true, not_true_eq_false, tn_i, r1]) rfl]
      rw [run_fold (st := stX11_orders) (fun o a => (20, [some (.ref 108), some (.long (lJ s)), none, some (.int (iI (k : Nat))), some (.int (iI a)), some (.int (iI (o : Nat)))], d, e)) (aliF S.1 k) (k + 1) 0 (fun _ _ => rfl) ?_]
      · have hin := ali_in (A := S.1) (c := k) k
        have e1 : itr (aliF S.1 k) (k + 1) 0 = itr (aliF S.1 k) k 0 + 1 := by
          show aliF S.1 k k (itr (aliF S.1 k) k 0) = _
          unfold aliF
          rw [if_pos rfl]
        refine a_run_step ?_ rfl
        show sX11_orders_20 d e _ _ _ _ = _
        unfold sX11_orders_20 ordF
        rw [e1]
        simp (disch := omega) only [nI_iI, lN_lJ, iI_0, lJ_0, iI_add, iI_sub, iI_mul, iI_neg, lJ_add, lJ_sub, lJ_mul, lJ_neg, i_l, l_i, iI_cl, iI_inb, iI_eqT, iI_eqF, iI_ltT, iI_ltF, iI_leT, iI_leF, lJ_eqT, lJ_eqF, lJ_cG, lJ_cE, lJ_cL, lJ_cF, lJ_cGE, lJ_cLE, lJ_cNL, lJ_cNG, Int.cast_ofNat_Int, c_0, c_1, Int.natCast_add, Int.add_zero, cond_true, cond_false, Bool.and_self, Bool.and_true, Bool.true_and, Option.bind_some, decide_true, uI_hit, uI_miss, uI_o, uA_o, uA_s, ↓reduceIte, eq_self, true_or, or_true, or_false, false_or, true_and, and_true, false_and, and_false, or_self, and_self, not_false_eq_true, not_true_eq_false, tn_i]
      · intro o ho
        have hin := ali_in (A := S.1) (c := k) o
        generalize itr (aliF S.1 k) o 0 = a at hin
        have go := (hW.2.2.2.2.2.1 o (by omega) (by omega)).2.2.2.1
        have co := hM.1.cell (j := 54 + o) (by omega)
        show sX11_orders_20 d e _ _ _ _ = _
        unfold sX11_orders_20 aliF
        by_cases h : S.1 (54 + o) = S.1 (54 + k)
        · rw [if_pos h]
          simp (disch := omega) only [nI_iI, lN_lJ, iI_0, lJ_0, iI_add, iI_sub, iI_mul, iI_neg, lJ_add, lJ_sub, lJ_mul, lJ_neg, i_l, l_i, iI_cl, iI_inb, iI_eqT, iI_eqF, iI_ltT, iI_ltF, iI_leT, iI_leF, lJ_eqT, lJ_eqF, lJ_cG, lJ_cE, lJ_cL, lJ_cF, lJ_cGE, lJ_cLE, lJ_cNL, lJ_cNG, Int.cast_ofNat_Int, c_0, c_1, Int.natCast_add, Int.add_zero, cond_true, cond_false, Bool.and_self, Bool.and_true, Bool.true_and, Option.bind_some, decide_true, uI_hit, uI_miss, uI_o, uA_o, uA_s, ↓reduceIte, eq_self, true_or, or_true, or_false, false_or, true_and, and_true, false_and, and_false, or_self, and_self, not_false_eq_true, not_true_eq_false, tn_i, co, ck]
        · rw [if_neg h]
          simp (disch := omega) only [nI_iI, lN_lJ, iI_0, lJ_0, iI_add, iI_sub, iI_mul, iI_neg, lJ_add, lJ_sub, lJ_mul, lJ_neg, i_l, l_i, iI_cl, iI_inb, iI_eqT, iI_eqF, iI_ltT, iI_ltF, iI_leT, iI_leF, lJ_eqT, lJ_eqF, lJ_cG, lJ_cE, lJ_cL, lJ_cF, lJ_cGE, lJ_cLE, lJ_cNL, lJ_cNG, Int.cast_ofNat_Int, c_0, c_1, Int.natCast_add, Int.add_zero, cond_true, cond_false, Bool.and_self, Bool.and_true, Bool.true_and, Option.bind_some, decide_true, uI_hit, uI_miss, uI_o, uA_o, uA_s, ↓reduceIte, eq_self, true_or, or_true, or_false, false_or, true_and, and_true, false_and, and_false, or_self, and_self, not_false_eq_true, not_true_eq_false, tn_i, co, ck]) (none, none)
    rw [hv, a_run_step (st := stX11_orders) (p2 := (100000, [some (.long (lJ (itr (ordF S.1) (S.1 1).toNat 1)))], d, e)) (by
      show sX11_orders_4 d e _ _ v.1 v.2 = _
      unfold sX11_orders_4
      simp (disch := omega) only [nI_iI, lN_lJ, iI_0, lJ_0, iI_add, iI_sub, iI_mul, iI_neg, lJ_add, lJ_sub, lJ_mul, lJ_neg, i_l, l_i, iI_cl, iI_inb, iI_eqT, iI_eqF, iI_ltT, iI_ltF, iI_leT, iI_leF, lJ_eqT, lJ_eqF, lJ_cG, lJ_cE, lJ_cL, lJ_cF, lJ_cGE, lJ_cLE, lJ_cNL, lJ_cNG, Int.cast_ofNat_Int, c_0, c_1, Int.natCast_add, Int.add_zero, cond_true, cond_false, Bool.and_self, Bool.and_true, Bool.true_and, Option.bind_some, decide_true, uI_hit, uI_miss, uI_o, uA_o, uA_s, ↓reduceIte, eq_self, true_or, or_true, or_false, false_or, true_and, and_true, false_and, and_false, or_self, and_self, not_false_eq_true, not_true_eq_false, tn_i, r1]) rfl, a_run_end]
    rfl
-- price
def priF (_ : Nat) (s : Int) : Int := if (540 + 2 * s) / 3 - 60 < 0 then 0 else (540 + 2 * s) / 3 - 60
theorem pri_in (n : Nat) : 0 ≤ itr priF n 0 ∧ itr priF n 0 ≤ 1000 := by
  induction n with
  | zero => exact ⟨Int.le_refl _, by decide⟩
  | succ n ih =>
    have e : itr priF (n + 1) 0 = if (540 + 2 * itr priF n 0) / 3 - 60 < 0 then 0 else (540 + 2 * itr priF n 0) / 3 - 60 := rfl
    rw [e]
    split <;> omega
theorem o_price (x : Int32) : Op (fun d e => FX10_price d e x) (fun d e => FX11_price d e x) := by
  obtain ⟨n, rfl, n1, n2⟩ := iI_ex x
  by_cases hn : 0 ≤ n ∧ n ≤ 12
  · refine Op.pure (fun S hS => ⟨iI (itr priF n.toNat 0), fun d e hC => ?_, fun d e hM => ?_⟩)
    · show FX10_price d e (iI n) = _
      unfold FX10_price
      rw [a_run_step (st := stX10_price) (p := (0, [some (.ref 0), some (.int (iI n)), none, none], d, e)) (p2 := (16, [some (.ref 0), some (.int (iI n)), some (.int (iI 0)), some (.int (iI (0 : Nat)))], d, e)) (by
        show sX10_price_0 d e _ = _
        unfold sX10_price_0
        simp (disch := omega) only [nI_iI, lN_lJ, iI_0, lJ_0, iI_add, iI_sub, iI_mul, iI_neg, lJ_add, lJ_sub, lJ_mul, lJ_neg, i_l, l_i, iI_cl, iI_inb, iI_eqT, iI_eqF, iI_ltT, iI_ltF, iI_leT, iI_leF, lJ_eqT, lJ_eqF, lJ_cG, lJ_cE, lJ_cL, lJ_cF, lJ_cGE, lJ_cLE, lJ_cNL, lJ_cNG, Int.cast_ofNat_Int, c_0, c_1, Int.natCast_add, Int.add_zero, cond_true, cond_false, Bool.and_self, Bool.and_true, Bool.true_and, Option.bind_some, decide_true, uI_hit, uI_miss, uI_o, uA_o, uA_s, ↓reduceIte, eq_self, true_or, or_true, or_false, false_or, true_and, and_true, false_and, and_false, or_self, and_self, not_false_eq_true, not_true_eq_false, tn_i, cq_in_y]) rfl]
      rw [run_fold (st := stX10_price) (fun k s => (16, [some (.ref 0), some (.int (iI n)), some (.int (iI s)), some (.int (iI (k : Nat)))], d, e)) priF n.toNat 0 (fun _ _ => rfl) ?_]
      · rw [a_run_step (st := stX10_price) (p2 := (100000, [some (.int (iI (itr priF n.toNat 0)))], d, e)) (by
          show sX10_price_16 d e _ _ _ = _
          unfold sX10_price_16
          simp (disch := omega) only [nI_iI, lN_lJ, iI_0, lJ_0, iI_add, iI_sub, iI_mul, iI_neg, lJ_add, lJ_sub, lJ_mul, lJ_neg, i_l, l_i, iI_cl, iI_inb, iI_eqT, iI_eqF, iI_ltT, iI_ltF, iI_leT, iI_leF, lJ_eqT, lJ_eqF, lJ_cG, lJ_cE, lJ_cL, lJ_cF, lJ_cGE, lJ_cLE, lJ_cNL, lJ_cNG, Int.cast_ofNat_Int, c_0, c_1, Int.natCast_add, Int.add_zero, cond_true, cond_false, Bool.and_self, Bool.and_true, Bool.true_and, Option.bind_some, decide_true, uI_hit, uI_miss, uI_o, uA_o, uA_s, ↓reduceIte, eq_self, true_or, or_true, or_false, false_or, true_and, and_true, false_and, and_false, or_self, and_self, not_false_eq_true, not_true_eq_false, tn_i]) rfl, a_run_end]
        rfl
      · intro k hk
        have hin := pri_in k
        generalize itr priF k 0 = s at hin
        show sX10_price_16 d e _ _ _ = _
        unfold sX10_price_16 priF
        rw [if_neg (show ¬(540 + 2 * s) / 3 - 60 < 0 by omega)]
        simp (disch := omega) only [nI_iI, lN_lJ, iI_0, lJ_0, iI_add, iI_sub, iI_mul, iI_neg, lJ_add, lJ_sub, lJ_mul, lJ_neg, i_l, l_i, iI_cl, iI_inb, iI_eqT, iI_eqF, iI_ltT, iI_ltF, iI_leT, iI_leF, lJ_eqT, lJ_eqF, lJ_cG, lJ_cE, lJ_cL, lJ_cF, lJ_cGE, lJ_cLE, lJ_cNL, lJ_cNG, Int.cast_ofNat_Int, c_0, c_1, Int.natCast_add, Int.add_zero, cond_true, cond_false, Bool.and_self, Bool.and_true, Bool.true_and, Option.bind_some, decide_true, uI_hit, uI_miss, uI_o, uA_o, uA_s, ↓reduceIte, eq_self, true_or, or_true, or_false, false_or, true_and, and_true, false_and, and_false, or_self, and_self, not_false_eq_true, not_true_eq_false, tn_i, iI_div, iI_maxR, decide_eq_true]
    · show FX11_price d e (iI n) = _
      unfold FX11_price
      rw [a_run_step (st := stX11_price) (p := (0, [some (.ref 108), some (.int (iI n)), none, none], d, e)) (p2 := (16, [some (.ref 108), some (.int (iI n)), some (.int (iI 0)), some (.int (iI (0 : Nat)))], d, e)) (by
        show sX11_price_0 d e _ = _
        unfold sX11_price_0
        simp (disch := omega) only [nI_iI, lN_lJ, iI_0, lJ_0, iI_add, iI_sub, iI_mul, iI_neg, lJ_add, lJ_sub, lJ_mul, lJ_neg, i_l, l_i, iI_cl, iI_inb, iI_eqT, iI_eqF, iI_ltT, iI_ltF, iI_leT, iI_leF, lJ_eqT, lJ_eqF, lJ_cG, lJ_cE, lJ_cL, lJ_cF, lJ_cGE, lJ_cLE, lJ_cNL, lJ_cNG, Int.cast_ofNat_Int, c_0, c_1, Int.natCast_add, Int.add_zero, cond_true, cond_false, Bool.and_self, Bool.and_true, Bool.true_and, Option.bind_some, decide_true, uI_hit, uI_miss, uI_o, uA_o, uA_s, ↓reduceIte, eq_self, true_or, or_true, or_false, false_or, true_and, and_true, false_and, and_false, or_self, and_self, not_false_eq_true, not_true_eq_false, tn_i, mq_in_y]) rfl]
      rw [run_fold (st := stX11_price) (fun k s => (16, [some (.ref 108), some (.int (iI n)), some (.int (iI s)), some (.int (iI (k : Nat)))], d, e)) priF n.toNat 0 (fun _ _ => rfl) ?_]
      · rw [a_run_step (st := stX11_price) (p2 := (100000, [some (.int (iI (itr priF n.toNat 0)))], d, e)) (by
          show sX11_price_16 d e _ _ _ = _
          unfold sX11_price_16
          simp (disch := omega) only [nI_iI, lN_lJ, iI_0, lJ_0, iI_add, iI_sub, iI_mul, iI_neg, lJ_add, lJ_sub, lJ_mul, lJ_neg, i_l, l_i, iI_cl, iI_inb, iI_eqT, iI_eqF, iI_ltT, iI_ltF, iI_leT, iI_leF, lJ_eqT, lJ_eqF, lJ_cG, lJ_cE, lJ_cL, lJ_cF, lJ_cGE, lJ_cLE, lJ_cNL, lJ_cNG, Int.cast_ofNat_Int, c_0, c_1, Int.natCast_add, Int.add_zero, cond_true, cond_false, Bool.and_self, Bool.and_true, Bool.true_and, Option.bind_some, decide_true, uI_hit, uI_miss, uI_o, uA_o, uA_s, ↓reduceIte, eq_self, true_or, or_true, or_false, false_or, true_and, and_true, false_and, and_false, or_self, and_self, not_false_eq_true, not_true_eq_false, tn_i]) rfl, a_run_end]
        rfl
      · intro k hk
        have hin := pri_in k
        generalize itr priF k 0 = s at hin
        have hh : FX11_held d e (lJ ((540 + 2 * s) / 3 - 60)) (iI 0) (iI 1000000) = some (iI ((540 + 2 * s) / 3 - 60), d, e) := by
          rw [mq_held (by omega), if_neg (by omega), if_neg (by omega)]
        show sX11_price_16 d e _ _ _ = _
        unfold sX11_price_16 priF
        rw [if_neg (show ¬(540 + 2 * s) / 3 - 60 < 0 by omega)]
        simp (disch := omega) only [nI_iI, lN_lJ, iI_0, lJ_0, iI_add, iI_sub, iI_mul, iI_neg, lJ_add, lJ_sub, lJ_mul, lJ_neg, i_l, l_i, iI_cl, iI_inb, iI_eqT, iI_eqF, iI_ltT, iI_ltF, iI_leT, iI_leF, lJ_eqT, lJ_eqF, lJ_cG, lJ_cE, lJ_cL, lJ_cF, lJ_cGE, lJ_cLE, lJ_cNL, lJ_cNG, Int.cast_ofNat_Int, c_0, c_1, Int.natCast_add, Int.add_zero, cond_true, cond_false, Bool.and_self, Bool.and_true, Bool.true_and, Option.bind_some, decide_true, uI_hit, uI_miss, uI_o, uA_o, uA_s, ↓reduceIte, eq_self, true_or, or_true, or_false, false_or, true_and, and_true, false_and, and_false, or_self, and_self, not_false_eq_true, not_true_eq_false, tn_i, iI_div, hh, decide_eq_true]
  · refine Op.pure (fun S hS => ⟨iI (-1), fun d e hC => ?_, fun d e hM => ?_⟩)
    · show FX10_price d e (iI n) = _
      unfold FX10_price
      rw [a_run_step (st := stX10_price) (p := (0, [some (.ref 0), some (.int (iI n)), none, none], d, e)) (p2 := (100000, [some (.int (iI (-1)))], d, e)) (by
        show sX10_price_0 d e _ = _
        unfold sX10_price_0
        simp (disch := omega) only [nI_iI, lN_lJ, iI_0, lJ_0, iI_add, iI_sub, iI_mul, iI_neg, lJ_add, lJ_sub, lJ_mul, lJ_neg, i_l, l_i, iI_cl, iI_inb, iI_eqT, iI_eqF, iI_ltT, iI_ltF, iI_leT, iI_leF, lJ_eqT, lJ_eqF, lJ_cG, lJ_cE, lJ_cL, lJ_cF, lJ_cGE, lJ_cLE, lJ_cNL, lJ_cNG, Int.cast_ofNat_Int, c_0, c_1, Int.natCast_add, Int.add_zero, cond_true, cond_false, Bool.and_self, Bool.and_true, Bool.true_and, Option.bind_some, decide_true, uI_hit, uI_miss, uI_o, uA_o, uA_s, ↓reduceIte, eq_self, true_or, or_true, or_false, false_or, true_and, and_true, false_and, and_false, or_self, and_self, not_false_eq_true, not_true_eq_false, tn_i, cq_in_n]) rfl, a_run_end]
      rfl
    · show FX11_price d e (iI n) = _
      unfold FX11_price
      rw [a_run_step (st := stX11_price) (p := (0, [some (.ref 108), some (.int (iI n)), none, none], d, e)) (p2 := (100000, [some (.int (iI (-1)))], d, e)) (by
        show sX11_price_0 d e _ = _
        unfold sX11_price_0
        simp (disch := omega) only [nI_iI, lN_lJ, iI_0, lJ_0, iI_add, iI_sub, iI_mul, iI_neg, lJ_add, lJ_sub, lJ_mul, lJ_neg, i_l, l_i, iI_cl, iI_inb, iI_eqT, iI_eqF, iI_ltT, iI_ltF, iI_leT, iI_leF, lJ_eqT, lJ_eqF, lJ_cG, lJ_cE, lJ_cL, lJ_cF, lJ_cGE, lJ_cLE, lJ_cNL, lJ_cNG, Int.cast_ofNat_Int, c_0, c_1, Int.natCast_add, Int.add_zero, cond_true, cond_false, Bool.and_self, Bool.and_true, Bool.true_and, Option.bind_some, decide_true, uI_hit, uI_miss, uI_o, uA_o, uA_s, ↓reduceIte, eq_self, true_or, or_true, or_false, false_or, true_and, and_true, false_and, and_false, or_self, and_self, not_false_eq_true, not_true_eq_false, tn_i, mq_in_n]) rfl, a_run_end]
      rfl
