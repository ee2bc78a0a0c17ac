/-! ===== pairs: the one let in there ===== -/
theorem chM {A : Int → Int} {most : Nat} (hm : most ≤ (csM A).1 ∧ most ≤ (hsM A 6).1 ∧ ((csM A).1 ≤ most ∨ (hsM A 6).1 ≤ most)) {b : Nat} (b1 : b < 117649) (go : goM A most b) (lo : ∀ y, y < 117649 → goM A most y → msM false A b 6 ≤ msM false A y 6) (lw : ∀ y, y < b → goM A most y → msM false A b 6 < msM false A y 6) {h g : Nat} (hh : h < 6) (hf : frP A h) (s : stM A b h g) :
    (dgM b h = 0 ∧ tbM false A most ((hsM A 6).1 - ((hsM A h).1 + 1)) g = tbM false A most ((hsM A 6).1 - (hsM A h).1) g) ∨ (∃ i, i < (csM A).1 ∧ dgM b h = (csM A).2 i + 1 ∧ g / 2 ^ i % 2 ≠ 1 ∧ tbM false A most ((hsM A 6).1 - ((hsM A h).1 + 1)) g ≠ tbM false A most ((hsM A 6).1 - (hsM A h).1) g ∧ cbM false (ffM A i (hsM A h).1) (tbM false A most ((hsM A 6).1 - ((hsM A h).1 + 1)) (g + 2 ^ i)) = tbM false A most ((hsM A 6).1 - (hsM A h).1) g ∧ ∀ j, j < i → g / 2 ^ j % 2 ≠ 1 → cbM false (ffM A j (hsM A h).1) (tbM false A most ((hsM A 6).1 - ((hsM A h).1 + 1)) (g + 2 ^ j)) ≠ tbM false A most ((hsM A 6).1 - (hsM A h).1) g) := by
  have n7 := csM_n A
  obtain ⟨e1, e2, e3⟩ := hsM_y hh hf
  have ml := (msM_le (w := false) (A := A) frN_5 (x := b) 6).1
  have lb := lbM (w := false) hm go (6 - h) h g (by omega) s
  rw [cbM_f] at lb
  obtain ⟨t, ht⟩ : ∃ t, (hsM A 6).1 - (hsM A h).1 = t + 1 := ⟨(hsM A 6).1 - (hsM A h).1 - 1, by omega⟩
  have ht2 : (hsM A 6).1 - ((hsM A h).1 + 1) = t := by omega
  have ht3 : (hsM A 6).1 - (hsM A (h + 1)).1 = t := by omega
  have ht4 : (hsM A 6).1 - (t + 1) = (hsM A h).1 := by omega
  obtain ⟨y, y1, y2, y3, y4⟩ := ceM (w := false) (most := most) (6 - h) h b g (by omega) b1 s (by omega)
  have l1 := lo y y1 y3
  rw [y4, cbM_f] at l1
  rw [ht] at lb l1 ⊢
  rw [ht2]
  have ub := vmF_ub (w := false) (f := fun i => ffM A i ((hsM A 6).1 - (t + 1))) (V := tbM false A most t) (g := g) (v := tbM false A most t g) (csM A).1
  rw [ht4] at ub
  have es : itr (vmF false (fun i => ffM A i (hsM A h).1) (tbM false A most t) g) (csM A).1 (tbM false A most t g) = tbM false A most (t + 1) g := by
    show _ = itr (vmF false (fun i => ffM A i ((hsM A 6).1 - (t + 1))) (tbM false A most t) g) (csM A).1 (tbM false A most t g)
    rw [ht4]
  rw [es] at ub
  -- a code that goes on so would be as good
  have other : ∀ p g', p < 7 → p < dgM b h → (∀ x, (∀ j, j < h → dgM x j = dgM b j) → dgM x h = p → stM A x (h + 1) g') → (if p = 0 then msM false A b h else cbM false (msM false A b h) (frN A (p - 1) h)) + tbM false A most t g' = msM false A b 6 → False := by
    intro p g' p7 pl hs he
    obtain ⟨x1, a1, a2, a3⟩ := mkM (x := b) (h := h) (p := p) b1 hh p7
    have mx := (msM_le (w := false) (A := A) frN_5 (x := b) 6).1
    obtain ⟨z, z1, z2, z3, z4⟩ := ceM (w := false) (most := most) (6 - (h + 1)) (h + 1) x1 g' (by omega) a1 (hs x1 a2 a3) (by rw [ht3]; omega)
    have zl : z < b := ltM z1 b1 hh (fun j hj => by rw [z2 j (by omega), a2 j hj]) (by rw [z2 h (by omega), a3]; exact pl)
    have q := lw z zl z3
    rw [z4, cbM_f, ht3, msM_s (x := x1) (h := h), a3, (msM_cg (w := false) (A := A) h a2).1] at q
    omega
  by_cases z : dgM b h = 0
  · refine Or.inl ⟨z, ?_⟩
    have l2 := lbM (w := false) hm go (6 - (h + 1)) (h + 1) g (by omega) (stM_n s z)
    rw [cbM_f, msM_s (x := b) (h := h), if_pos z, ht3] at l2
    have u := ub.1
    omega
  · obtain ⟨_, i, i1, i2, i3⟩ := okM_y s (go.1 h hh) z
    have oi : ∀ j, j < (csM A).1 → (csM A).2 j < 6 := fun j hj => ((gaS_ok (P := ouP A) 6).2.1 j hj).1
    have oj : ∀ j k, j < k → k < (csM A).1 → (csM A).2 j < (csM A).2 k := (gaS_ok (P := ouP A) 6).2.2.1
    have fe : ∀ j, frN A ((csM A).2 j) h = ffM A j (hsM A h).1 := fun j => by unfold ffM; rw [e3]
    have l2 := lbM (w := false) hm go (6 - (h + 1)) (h + 1) (g + 2 ^ i) (by omega) (stM_y s i1 i2 hf i3)
    rw [cbM_f, msM_s (x := b) (h := h), if_neg z, ht3, i2, Nat.add_sub_cancel, fe, cbM_f] at l2
    have u := ub.2 i i1 i3
    rw [cbM_f] at u
    refine Or.inr ⟨i, i1, i2, i3, fun q => ?_, by rw [cbM_f]; omega, fun j hj hb q => ?_⟩
    · refine other 0 g (by omega) (by omega) (fun x h1 h2 => stM_n (stM_cg s (fun j hj => (h1 j hj).symm)) h2) ?_
      rw [if_pos rfl]
      omega
    · have o1 := oi j (by omega)
      have o2 := oj j i hj i1
      refine other ((csM A).2 j + 1) (g + 2 ^ j) (by omega) (by omega) (fun x h1 h2 => stM_y (stM_cg s (fun j hj => (h1 j hj).symm)) (by omega) h2 hf hb) ?_
      rw [if_neg (by omega), Nat.add_sub_cancel, fe, cbM_f]
      rw [cbM_f] at q
      omega
theorem skM {A : Int → Int} {most b : Nat} (go : goM A most b) : ∀ r h g, h + r ≤ 6 → (∀ j, h ≤ j → j < h + r → ¬frP A j) → stM A b h g → stM A b (h + r) g ∧ (hsM A (h + r)).1 = (hsM A h).1
  | 0, h, g, _, _, s => ⟨s, rfl⟩
  | r + 1, h, g, h6, hn, s => by
    obtain ⟨a, c⟩ := skM go r h g (by omega) (fun j h1 h2 => hn j h1 (by omega)) s
    have nf := hn (h + r) (by omega) (by omega)
    have z : dgM b (h + r) = 0 := by
      rcases go.1 (h + r) (by omega) with o | o
      · exact o
      · exact absurd o.1.1 nf
    exact ⟨stM_n a z, (hsM_n nf).trans c⟩
theorem cq_chosen {d : aI} {e : aJ} {A : Int → Int} {most : Nat} (hC : CN d 1 A) (hW : WN A) (hG : GB d false A most) (hT : TP d false A most 0) {h g : Nat} (hh : h < (hsM A 6).1) (hg : g < 2 ^ (csM A).1) (hp : bcN g ≤ h) :
    (tbM false A most ((hsM A 6).1 - (h + 1)) g = tbM false A most ((hsM A 6).1 - h) g → FX4_chosen d e (iI (h : Nat)) (iI (g : Nat)) = some (iI (-1), d, e)) ∧ (∀ i, i < (csM A).1 → g / 2 ^ i % 2 ≠ 1 → tbM false A most ((hsM A 6).1 - (h + 1)) g ≠ tbM false A most ((hsM A 6).1 - h) g → cbM false (ffM A i h) (tbM false A most ((hsM A 6).1 - (h + 1)) (g + 2 ^ i)) = tbM false A most ((hsM A 6).1 - h) g → (∀ j, j < i → g / 2 ^ j % 2 ≠ 1 → cbM false (ffM A j h) (tbM false A most ((hsM A 6).1 - (h + 1)) (g + 2 ^ j)) ≠ tbM false A most ((hsM A 6).1 - h) g) → FX4_chosen d e (iI (h : Nat)) (iI (g : Nat)) = some (iI (i : Nat), d, e)) := by
  have n7 := csM_n A
  have m6 : (hsM A 6).1 ≤ 6 := (gaS_ok (P := frP A) 6).1
  have g64 := bt_64 n7 hg
  have r3 := hG.1.1
  have tb0 := hT h (by omega) (by omega) g hg hp
  have tb1 := hT (h + 1) (by omega) (by omega) g hg (by omega)
  have c0 := cq_cell (d := d) (e := e) (h := h) (g := g) (by omega)
  have c1 := cq_cell (d := d) (e := e) (h := h + 1) (g := g) (by omega)
  rw [show ((h + 1 : Nat) : Int) = (h : Int) + 1 from by omega] at c1
  have pr := fun i hi hb => cq_paired (e := e) hC hW hG (fun k a b g c d => hT k (by omega) b g c d) hh (i := i) hi hg hb hp
  have v0 : tbM false A most ((hsM A 6).1 - h) g ≤ 1000 := vmS_le _ _
  have v1 : tbM false A most ((hsM A 6).1 - (h + 1)) g ≤ 1000 := vmS_le _ _
  have cl : ∀ i, cbM false (ffM A i h) (tbM false A most ((hsM A 6).1 - (h + 1)) (g + 2 ^ i)) ≤ 1005 := fun i => by
    have f5 : ffM A i h ≤ 5 := frN_5 _ _
    have l2 : tbM false A most ((hsM A 6).1 - (h + 1)) (g + 2 ^ i) ≤ 1000 := vmS_le _ _
    have := cbM_le (w := false) (a := ffM A i h) (b := tbM false A most ((hsM A 6).1 - (h + 1)) (g + 2 ^ i))
    omega
  have hX : 64 * h + g < 448 := by omega
  have hY : 64 * (h + 1) + g < 448 := by omega
  generalize tbM false A most ((hsM A 6).1 - h) g = V0 at *
  generalize tbM false A most ((hsM A 6).1 - (h + 1)) g = V1 at *
  generalize 64 * h + g = X at *
  generalize 64 * (h + 1) + g = Y at *
  constructor
  · intro q
    rw [q] at tb1
    unfold FX4_chosen
    rw [a_run_step (st := stX4_chosen) (p2 := (100000, [some (.int (iI (-1)))], d, e)) (by
      show sX4_chosen_0 d e _ _ = _
      unfold sX4_chosen_0
      simp (disch := omega) only [nI_iI, lN_lJ, iI_0, lJ_0, iI_add, iI_sub, iI_mul, iI_neg, lJ_add, lJ_sub, lJ_mul, lJ_neg, i_l, l_i, iI_cl, iI_inb, iI_eqT, iI_eqF, iI_ltT, iI_ltF, iI_leT, iI_leF, lJ_eqT, lJ_eqF, lJ_cG, lJ_cE, lJ_cL, lJ_cF, lJ_cGE, lJ_cLE, lJ_cNL, lJ_cNG, Int.cast_ofNat_Int, c_0, c_1, Int.natCast_add, Int.add_zero, cond_true, cond_false, Bool.and_self, Bool.and_true, Bool.true_and, Option.bind_some, decide_true, uI_hit, uI_miss, uI_o, uA_o, uA_s, ↓reduceIte, eq_self, true_or, or_true, or_false, false_or, true_and, and_true, false_and, and_false, or_self, and_self, not_false_eq_true, not_true_eq_false, tn_i, Int.toNat_natCast, c0, c1, tb0, tb1]) rfl, a_run_end]
    rfl
  · intro i hi hb q1 q2 q3
    have st0 : stX4_chosen (0, [some (.ref 95), some (.ref 2), some (.int (iI (h : Nat))), some (.int (iI (g : Nat))), none, none], d, e) = some (34, [some (.ref 95), some (.ref 2), some (.int (iI (h : Nat))), some (.int (iI (g : Nat))), some (.int (iI (V0 : Nat))), some (.int (iI (0 : Nat)))], d, e) := by
      show sX4_chosen_0 d e _ _ = _
      unfold sX4_chosen_0
      simp (disch := omega) only [nI_iI, lN_lJ, iI_0, lJ_0, iI_add, iI_sub, iI_mul, iI_neg, lJ_add, lJ_sub, lJ_mul, lJ_neg, i_l, l_i, iI_cl, iI_inb, iI_eqT, iI_eqF, iI_ltT, iI_ltF, iI_leT, iI_leF, lJ_eqT, lJ_eqF, lJ_cG, lJ_cE, lJ_cL, lJ_cF, lJ_cGE, lJ_cLE, lJ_cNL, lJ_cNG, Int.cast_ofNat_Int, c_0, c_1, Int.natCast_add, Int.add_zero, cond_true, cond_false, Bool.and_self, Bool.and_true, Bool.true_and, Option.bind_some, decide_true, uI_hit, uI_miss, uI_o, uA_o, uA_s, ↓reduceIte, eq_self, true_or, or_true, or_false, false_or, true_and, and_true, false_and, and_false, or_self, and_self, not_false_eq_true, not_true_eq_false, tn_i, Int.toNat_natCast, c0, c1, tb0, tb1]
    have lp := run_invR (st := stX4_chosen) (fun k p => p = (34, [some (.ref 95), some (.ref 2), some (.int (iI (h : Nat))), some (.int (iI (g : Nat))), some (.int (iI (V0 : Nat))), some (.int (iI (k : Nat)))], d, e)) i (p0 := (34, [some (.ref 95), some (.ref 2), some (.int (iI (h : Nat))), some (.int (iI (g : Nat))), some (.int (iI (V0 : Nat))), some (.int (iI (0 : Nat)))], d, e)) rfl ?_
    rotate_left
    · rintro k p hk rfl
      refine ⟨_, a_run_step (p2 := (34, [some (.ref 95), some (.ref 2), some (.int (iI (h : Nat))), some (.int (iI (g : Nat))), some (.int (iI (V0 : Nat))), some (.int (iI (k + 1 : Nat)))], d, e)) ?_ rfl, rfl⟩
      show sX4_chosen_34 d e _ _ _ _ = _
      unfold sX4_chosen_34
      by_cases b : g / 2 ^ k % 2 = 1
      · simp (disch := omega) only [nI_iI, lN_lJ, iI_0, lJ_0, iI_add, iI_sub, iI_mul, iI_neg, lJ_add, lJ_sub, lJ_mul, lJ_neg, i_l, l_i, iI_cl, iI_inb, iI_eqT, iI_eqF, iI_ltT, iI_ltF, iI_leT, iI_leF, lJ_eqT, lJ_eqF, lJ_cG, lJ_cE, lJ_cL, lJ_cF, lJ_cGE, lJ_cLE, lJ_cNL, lJ_cNG, Int.cast_ofNat_Int, c_0, c_1, Int.natCast_add, Int.add_zero, cond_true, cond_false, Bool.and_self, Bool.and_true, Bool.true_and, Option.bind_some, decide_true, uI_hit, uI_miss, uI_o, uA_o, uA_s, ↓reduceIte, eq_self, true_or, or_true, or_false, false_or, true_and, and_true, false_and, and_false, or_self, and_self, not_false_eq_true, not_true_eq_false, tn_i, r3, cq_has_y (has_y g64 (show k < 6 by omega) b)]
      · have p1 := pr k (by omega) b
        have p2 := q3 k hk b
        have p3 := cl k
        generalize cbM false (ffM A k h) (tbM false A most ((hsM A 6).1 - (h + 1)) (g + 2 ^ k)) = C at *
        simp (disch := omega) only [nI_iI, lN_lJ, iI_0, lJ_0, iI_add, iI_sub, iI_mul, iI_neg, lJ_add, lJ_sub, lJ_mul, lJ_neg, i_l, l_i, iI_cl, iI_inb, iI_eqT, iI_eqF, iI_ltT, iI_ltF, iI_leT, iI_leF, lJ_eqT, lJ_eqF, lJ_cG, lJ_cE, lJ_cL, lJ_cF, lJ_cGE, lJ_cLE, lJ_cNL, lJ_cNG, Int.cast_ofNat_Int, c_0, c_1, Int.natCast_add, Int.add_zero, cond_true, cond_false, Bool.and_self, Bool.and_true, Bool.true_and, Option.bind_some, decide_true, uI_hit, uI_miss, uI_o, uA_o, uA_s, ↓reduceIte, eq_self, true_or, or_true, or_false, false_or, true_and, and_true, false_and, and_false, or_self, and_self, not_false_eq_true, not_true_eq_false, tn_i, r3, cq_has_n (has_n g64 (show k < 6 by omega) b), p1]
    obtain ⟨p, rfl, t1⟩ := lp
    unfold FX4_chosen
    rw [a_run_step st0 rfl, t1, a_run_step (st := stX4_chosen) (p2 := (100000, [some (.int (iI (i : Nat)))], d, e)) (by
      have p1 := pr i hi hb
      rw [q2] at p1
      show sX4_chosen_34 d e _ _ _ _ = _
      unfold sX4_chosen_34
      simp (disch := omega) only [nI_iI, lN_lJ, iI_0, lJ_0, iI_add, iI_sub, iI_mul, iI_neg, lJ_add, lJ_sub, lJ_mul, lJ_neg, i_l, l_i, iI_cl, iI_inb, iI_eqT, iI_eqF, iI_ltT, iI_ltF, iI_leT, iI_leF, lJ_eqT, lJ_eqF, lJ_cG, lJ_cE, lJ_cL, lJ_cF, lJ_cGE, lJ_cLE, lJ_cNL, lJ_cNG, Int.cast_ofNat_Int, c_0, c_1, Int.natCast_add, Int.add_zero, cond_true, cond_false, Bool.and_self, Bool.and_true, Bool.true_and, Option.bind_some, decide_true, uI_hit, uI_miss, uI_o, uA_o, uA_s, ↓reduceIte, eq_self, true_or, or_true, or_false, false_or, true_and, and_true, false_and, and_false, or_self, and_self, not_false_eq_true, not_true_eq_false, tn_i, r3, cq_has_n (has_n g64 (show i < 6 by omega) hb), p1]) rfl, a_run_end]
    rfl
theorem cq_partner {d : aI} {e : aJ} {A : Int → Int} {most : Nat} (hC : CN d 1 A) (hW : WN A) (hG : GB d false A most) (hT : TP d false A most 0) (hm : most ≤ (csM A).1 ∧ most ≤ (hsM A 6).1 ∧ ((csM A).1 ≤ most ∨ (hsM A 6).1 ≤ most)) {b : Nat} (b1 : b < 117649) (go : goM A most b) (lo : ∀ y, y < 117649 → goM A most y → msM false A b 6 ≤ msM false A y 6) (lw : ∀ y, y < b → goM A most y → msM false A b 6 < msM false A y 6) {z : Nat} (hz : z < 6) : FX4_partner d e (iI (z : Nat)) = some (iI ((dgM b z : Nat) - 1), d, e) := by
  have n7 := csM_n A
  have m6 : (hsM A 6).1 ≤ 6 := (gaS_ok (P := frP A) 6).1
  have okh := gaS_ok (P := frP A) 6
  have oh : ∀ j, j < (hsM A 6).1 → (hsM A 6).2 j < 6 ∧ frP A ((hsM A 6).2 j) := okh.2.1
  have om : ∀ i j, i < j → j < (hsM A 6).1 → (hsM A 6).2 i < (hsM A 6).2 j := okh.2.2.1
  have oc : ∀ i, i < (csM A).1 → (csM A).2 i < 6 := fun i hi => ((gaS_ok (P := ouP A) 6).2.1 i hi).1
  have r4 := hG.1.2.1
  -- which number the wanted house has
  have hx : ∀ j, j < 6 → frP A j → (hsM A j).1 < (hsM A 6).1 ∧ (hsM A 6).2 (hsM A j).1 = j := fun j hj hf => ⟨(hsM_y hj hf).2.1, (hsM_y hj hf).2.2⟩
  -- at the k-th free house
  have here : ∀ k g h, k < (hsM A 6).1 → h ≤ 6 → (hsM A h).1 = k → stM A b h g → (∀ j, j < k → (hsM A 6).2 j < h) → stM A b ((hsM A 6).2 k) g ∧ (hsM A ((hsM A 6).2 k)).1 = k := by
    intro k g h hk h6 e1 s hb
    have o := oh k hk
    have ge : h ≤ (hsM A 6).2 k := Classical.byContradiction (fun q => by
      have a := hx ((hsM A 6).2 k) o.1 o.2
      have mo := gaS_mono (P := frP A) (h := (hsM A 6).2 k + 1) (h - ((hsM A 6).2 k + 1))
      rw [show (hsM A 6).2 k + 1 + (h - ((hsM A 6).2 k + 1)) = h by omega] at mo
      have mo2 : (hsM A ((hsM A 6).2 k + 1)).1 ≤ (hsM A h).1 := mo
      have y := (hsM_y o.1 o.2).1
      have lt : (hsM A ((hsM A 6).2 k)).1 < k := by omega
      have := om _ k lt hk
      omega)
    have sk := skM go ((hsM A 6).2 k - h) h g (by omega) (fun j h1 h2 hf => by
      have a := hx j (by omega) hf
      have mo := gaS_mono (P := frP A) (h := h) (j - h)
      rw [show h + (j - h) = j by omega] at mo
      have mo2 : (hsM A h).1 ≤ (hsM A j).1 := mo
      by_cases q : (hsM A j).1 = k
      · rw [q] at a; omega
      · have := om k (hsM A j).1 (by omega) a.1; omega) s
    rw [show h + ((hsM A 6).2 k - h) = (hsM A 6).2 k by omega] at sk
    exact ⟨sk.1, by rw [sk.2, e1]⟩
  -- what happens there
  have step : ∀ k g v5, k < (hsM A 6).1 → stM A b ((hsM A 6).2 k) g → (hsM A ((hsM A 6).2 k)).1 = k →
      ((hsM A 6).2 k = z → a_run stX4_partner (5, [some (.ref 95), some (.ref 2), some (.int (iI (z : Nat))), some (.int (iI (g : Nat))), some (.int (iI (k : Nat))), v5], d, e) = some ([some (.int (iI ((dgM b z : Nat) - 1)))], d, e)) ∧
      ((hsM A 6).2 k ≠ z → ∃ g' v', a_run stX4_partner (5, [some (.ref 95), some (.ref 2), some (.int (iI (z : Nat))), some (.int (iI (g : Nat))), some (.int (iI (k : Nat))), v5], d, e) = a_run stX4_partner (5, [some (.ref 95), some (.ref 2), some (.int (iI (z : Nat))), some (.int (iI (g' : Nat))), some (.int (iI (k + 1 : Nat))), v'], d, e) ∧ stM A b ((hsM A 6).2 k + 1) g') := by
    intro k g v5 hk s ek
    have o := oh k hk
    have c8 := hG.1.2.2.2 k hk
    have hp : bcN g ≤ k := by have a1 := s.2.2.2.1; have a2 := s.2.2.2.2; omega
    have g64 := bt_64 n7 s.2.2.1
    obtain ⟨ch1, ch2⟩ := cq_chosen (e := e) hC hW hG hT hk s.2.2.1 hp
    rcases chM hm b1 go lo lw o.1 o.2 s with ⟨a1, a2⟩ | ⟨i, a1, a2, a3, a4, a5, a6⟩
    · rw [ek] at a2
      have ch := ch1 a2
      constructor
      · intro q
        rw [q] at a1 c8
        rw [a1, a_run_step (st := stX4_partner) (p2 := (100000, [some (.int (iI (-1)))], d, e)) (by
          show sX4_partner_5 d e _ _ _ v5 = _
          unfold sX4_partner_5
          simp (disch := omega) only [nI_iI, lN_lJ, iI_0, lJ_0, iI_add, iI_sub, iI_mul, iI_neg, lJ_add, lJ_sub, lJ_mul, lJ_neg, i_l, l_i, iI_cl, iI_inb, iI_eqT, iI_eqF, iI_ltT, iI_ltF, iI_leT, iI_leF, lJ_eqT, lJ_eqF, lJ_cG, lJ_cE, lJ_cL, lJ_cF, lJ_cGE, lJ_cLE, lJ_cNL, lJ_cNG, Int.cast_ofNat_Int, c_0, c_1, Int.natCast_add, Int.add_zero, cond_true, cond_false, Bool.and_self, Bool.and_true, Bool.true_and, Option.bind_some, decide_true, uI_hit, uI_miss, uI_o, uA_o, uA_s, ↓reduceIte, eq_self, true_or, or_true, or_false, false_or, true_and, and_true, false_and, and_false, or_self, and_self, not_false_eq_true, not_true_eq_false, tn_i, Int.toNat_natCast, r4, ch, c8]) rfl, a_run_end]
        rfl
      · intro q
        have z0 : (iI (g : Nat) ||| iI 0) = iI (g : Nat) := by
          apply Int32.toBitVec_inj.mp
          exact BitVec.or_zero
        refine ⟨g, some (.int (iI (-1))), a_run_step ?_ rfl, stM_n s a1⟩
        show sX4_partner_5 d e _ _ _ v5 = _
        unfold sX4_partner_5
        simp (disch := omega) only [nI_iI, lN_lJ, iI_0, lJ_0, iI_add, iI_sub, iI_mul, iI_neg, lJ_add, lJ_sub, lJ_mul, lJ_neg, i_l, l_i, iI_cl, iI_inb, iI_eqT, iI_eqF, iI_ltT, iI_ltF, iI_leT, iI_leF, lJ_eqT, lJ_eqF, lJ_cG, lJ_cE, lJ_cL, lJ_cF, lJ_cGE, lJ_cLE, lJ_cNL, lJ_cNG, Int.cast_ofNat_Int, c_0, c_1, Int.natCast_add, Int.add_zero, cond_true, cond_false, Bool.and_self, Bool.and_true, Bool.true_and, Option.bind_some, decide_true, uI_hit, uI_miss, uI_o, uA_o, uA_s, ↓reduceIte, eq_self, true_or, or_true, or_false, false_or, true_and, and_true, false_and, and_false, or_self, and_self, not_false_eq_true, not_true_eq_false, tn_i, Int.toNat_natCast, r4, ch, c8, z0]
    · rw [ek] at a4 a5 a6
      have ch := ch2 i a1 a3 a4 a5 a6
      have c7 := hG.1.2.2.1 i a1
      have oi := oc i a1
      constructor
      · intro q
        rw [q] at a2 c8
        rw [a2, show (((csM A).2 i + 1 : Nat) : Int) - 1 = ((csM A).2 i : Nat) from by omega, a_run_step (st := stX4_partner) (p2 := (100000, [some (.int (iI ((csM A).2 i : Nat)))], d, e)) (by
          show sX4_partner_5 d e _ _ _ v5 = _
          unfold sX4_partner_5
          simp (disch := omega) only [nI_iI, lN_lJ, iI_0, lJ_0, iI_add, iI_sub, iI_mul, iI_neg, lJ_add, lJ_sub, lJ_mul, lJ_neg, i_l, l_i, iI_cl, iI_inb, iI_eqT, iI_eqF, iI_ltT, iI_ltF, iI_leT, iI_leF, lJ_eqT, lJ_eqF, lJ_cG, lJ_cE, lJ_cL, lJ_cF, lJ_cGE, lJ_cLE, lJ_cNL, lJ_cNG, Int.cast_ofNat_Int, c_0, c_1, Int.natCast_add, Int.add_zero, cond_true, cond_false, Bool.and_self, Bool.and_true, Bool.true_and, Option.bind_some, decide_true, uI_hit, uI_miss, uI_o, uA_o, uA_s, ↓reduceIte, eq_self, true_or, or_true, or_false, false_or, true_and, and_true, false_and, and_false, or_self, and_self, not_false_eq_true, not_true_eq_false, tn_i, Int.toNat_natCast, r4, ch, c8, c7]) rfl, a_run_end]
      · intro q
        have og := or_g g g64 i (by omega) a3
        refine ⟨g + 2 ^ i, some (.int (iI (i : Nat))), a_run_step ?_ rfl, stM_y s a1 a2 o.2 a3⟩
        show sX4_partner_5 d e _ _ _ v5 = _
        unfold sX4_partner_5
        generalize g + 2 ^ i = G at *
        simp (disch := omega) only [nI_iI, lN_lJ, iI_0, lJ_0, iI_add, iI_sub, iI_mul, iI_neg, lJ_add, lJ_sub, lJ_mul, lJ_neg, i_l, l_i, iI_cl, iI_inb, iI_eqT, iI_eqF, iI_ltT, iI_ltF, iI_leT, iI_leF, lJ_eqT, lJ_eqF, lJ_cG, lJ_cE, lJ_cL, lJ_cF, lJ_cGE, lJ_cLE, lJ_cNL, lJ_cNG, Int.cast_ofNat_Int, c_0, c_1, Int.natCast_add, Int.add_zero, cond_true, cond_false, Bool.and_self, Bool.and_true, Bool.true_and, Option.bind_some, decide_true, uI_hit, uI_miss, uI_o, uA_o, uA_s, ↓reduceIte, eq_self, true_or, or_true, or_false, false_or, true_and, and_true, false_and, and_false, or_self, and_self, not_false_eq_true, not_true_eq_false, tn_i, Int.toNat_natCast, r4, ch, c8, og]
  have walk : ∀ k, k ≤ (hsM A 6).1 → (∀ j, j < k → (hsM A 6).2 j ≠ z) → ∃ g v h, a_run stX4_partner (5, [some (.ref 95), some (.ref 2), some (.int (iI (z : Nat))), some (.int (iI (0 : Nat))), some (.int (iI (0 : Nat))), none], d, e) = a_run stX4_partner (5, [some (.ref 95), some (.ref 2), some (.int (iI (z : Nat))), some (.int (iI (g : Nat))), some (.int (iI (k : Nat))), v], d, e) ∧ h ≤ 6 ∧ (hsM A h).1 = k ∧ stM A b h g ∧ ∀ j, j < k → (hsM A 6).2 j < h := by
    intro k
    induction k with
    | zero => intro _ _; exact ⟨0, none, 0, rfl, by omega, rfl, stM_0, fun j hj => absurd hj (Nat.not_lt_zero j)⟩
    | succ k ih =>
      intro hk hn
      obtain ⟨g, v, h, t, h6, e1, s, hb⟩ := ih (by omega) (fun j hj => hn j (by omega))
      obtain ⟨s2, e2⟩ := here k g h (by omega) h6 e1 s hb
      obtain ⟨g', v', t2, s3⟩ := (step k g v (by omega) s2 e2).2 (hn k (by omega))
      have o := oh k (by omega)
      refine ⟨g', v', (hsM A 6).2 k + 1, t.trans t2, by omega, ?_, s3, fun j hj => ?_⟩
      · rw [(hsM_y o.1 o.2).1, e2]
      · by_cases q : j = k
        · rw [q]; omega
        · have := om j k (by omega) (by omega); omega
  have key : a_run stX4_partner (5, [some (.ref 95), some (.ref 2), some (.int (iI (z : Nat))), some (.int (iI (0 : Nat))), some (.int (iI (0 : Nat))), none], d, e) = some ([some (.int (iI ((dgM b z : Nat) - 1)))], d, e) := by
    by_cases f : frP A z
    · have a := hx z hz f
      obtain ⟨g, v, h, t, h6, e1, s, hb⟩ := walk (hsM A z).1 (by omega) (fun j hj q => by have := om j _ hj a.1; omega)
      obtain ⟨s2, e2⟩ := here (hsM A z).1 g h a.1 h6 e1 s hb
      exact t.trans ((step (hsM A z).1 g v a.1 s2 e2).1 a.2)
    · obtain ⟨g, v, h, t, h6, e1, s, hb⟩ := walk (hsM A 6).1 (Nat.le_refl _) (fun j hj q => f (by rw [← q]; exact (oh j hj).2))
      have z0 : dgM b z = 0 := by
        rcases go.1 z hz with o | o
        · exact o
        · exact absurd o.1.1 f
      rw [t, z0, a_run_step (st := stX4_partner) (p2 := (100000, [some (.int (iI (-1)))], d, e)) (by
        show sX4_partner_5 d e _ _ _ v = _
        unfold sX4_partner_5
        simp (disch := omega) only [nI_iI, lN_lJ, iI_0, lJ_0, iI_add, iI_sub, iI_mul, iI_neg, lJ_add, lJ_sub, lJ_mul, lJ_neg, i_l, l_i, iI_cl, iI_inb, iI_eqT, iI_eqF, iI_ltT, iI_ltF, iI_leT, iI_leF, lJ_eqT, lJ_eqF, lJ_cG, lJ_cE, lJ_cL, lJ_cF, lJ_cGE, lJ_cLE, lJ_cNL, lJ_cNG, Int.cast_ofNat_Int, c_0, c_1, Int.natCast_add, Int.add_zero, cond_true, cond_false, Bool.and_self, Bool.and_true, Bool.true_and, Option.bind_some, decide_true, uI_hit, uI_miss, uI_o, uA_o, uA_s, ↓reduceIte, eq_self, true_or, or_true, or_false, false_or, true_and, and_true, false_and, and_false, or_self, and_self, not_false_eq_true, not_true_eq_false, tn_i, r4]) rfl, a_run_end]
      rfl
  unfold FX4_partner
  rw [a_run_step (st := stX4_partner) (p := (0, [some (.ref 95), some (.ref 2), some (.int (iI (z : Nat))), none, none, none], d, e)) (p2 := (5, [some (.ref 95), some (.ref 2), some (.int (iI (z : Nat))), some (.int (iI (0 : Nat))), some (.int (iI (0 : Nat))), none], d, e)) rfl rfl, key]
  rfl
