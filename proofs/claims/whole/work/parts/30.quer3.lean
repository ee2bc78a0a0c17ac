/-! ===== orders ===== -/
theorem run_foldV {σ V : Type} {st : aP → Option aP} (T : Nat → σ → V → aP) (f : Nat → σ → σ) (n : Nat) (s0 : σ) (hs : ∀ k v, k < n → ∃ v', a_run st (T k (itr f k s0) v) = a_run st (T (k + 1) (f k (itr f k s0)) v')) (v : V) : ∃ v', a_run st (T 0 s0 v) = a_run st (T n (itr f n s0) v') := by
  have key : ∀ m, m ≤ n → ∃ v', a_run st (T 0 s0 v) = a_run st (T m (itr f m s0) v') := by
    intro m
    induction m with
    | zero => intro _; exact ⟨v, rfl⟩
    | succ m ih =>
      intro hm
      obtain ⟨v1, e1⟩ := ih (by omega)
      obtain ⟨v2, e2⟩ := hs m v1 (by omega)
      exact ⟨v2, e1.trans e2⟩
  exact key n (Nat.le_refl _)
theorem run_fndV {V : Type} {st : aP → Option aP} {R : Option (aL × aI × aJ)} (T : Nat → V → aP) (p : Nat → Prop) [DecidablePred p] (n : Nat) (hs : ∀ k v, k < n → ¬p k → ∃ v', a_run st (T k v) = a_run st (T (k + 1) v'))
    (hy : ∀ k v, k < n → p k → fnd p n = k → a_run st (T k v) = R) (hn : ∀ v, fnd p n = -1 → a_run st (T n v) = R) (v : V) : a_run st (T 0 v) = R := by
  have walk : ∀ m, m ≤ n → (∀ j, j < m → ¬p j) → ∃ v', a_run st (T 0 v) = a_run st (T m v') := by
    intro m
    induction m with
    | zero => intro _ _; exact ⟨v, rfl⟩
    | succ m ih =>
      intro hm hq
      obtain ⟨v1, e1⟩ := ih (by omega) (fun j hj => hq j (by omega))
      obtain ⟨v2, e2⟩ := hs m v1 (by omega) (hq m (by omega))
      exact ⟨v2, e1.trans e2⟩
  by_cases h : fnd p n = -1
  · obtain ⟨v1, e1⟩ := walk n (Nat.le_refl _) (fun j hj => fnd_no h j hj)
    rw [e1]
    exact hn v1 h
  · have hl := fnd_le (p := p) n
    obtain ⟨k, hk⟩ := Int.eq_ofNat_of_zero_le (show 0 ≤ fnd p n by omega)
    have hy2 := fnd_yes h
    rw [hk] at hy2
    have q : ∀ j, j < k → ¬p j := by
      intro j hj hpj
      have h2 : fnd p (j + 1) ≠ -1 := by
        have e : fnd p (j + 1) = if fnd p j = -1 ∧ p j then (j : Int) else fnd p j := rfl
        rw [e]
        by_cases h5 : fnd p j = -1
        · rw [if_pos ⟨h5, hpj⟩]; omega
        · rw [if_neg (fun z => h5 z.1)]; exact h5
      have h3 := fnd_stay h2 (show j + 1 ≤ n by omega)
      have h4 := fnd_le (p := p) (j + 1)
      omega
    obtain ⟨v1, e1⟩ := walk k (by omega) q
    rw [e1]
    exact hy k v1 (by omega) hy2 hk
def rankF (A : Int → Int) (c : Nat) (o : Nat) (s : Int) : Int := if A (54 + o) < A (54 + c) ∨ A (54 + o) = A (54 + c) ∧ o < c then s + 1 else s + 0
def rankS (A : Int → Int) (c : Nat) : Int := itr (rankF A c) (A 1).toNat 0
theorem rankF_in {A : Int → Int} {c : Nat} (k : Nat) : 0 ≤ itr (rankF A c) k 0 ∧ itr (rankF A c) k 0 ≤ k := by
  induction k with
  | zero => exact ⟨Int.le_refl _, Int.le_refl _⟩
  | succ k ih =>
    have e : itr (rankF A c) (k + 1) 0 = if A (54 + k) < A (54 + c) ∨ A (54 + k) = A (54 + c) ∧ k < c then itr (rankF A c) k 0 + 1 else itr (rankF A c) k 0 + 0 := rfl
    rw [e]
    split <;> omega
theorem cq_rank {d : aI} {e : aJ} {A : Int → Int} (hC : CN d 1 A) (hW : WN A) {c : Nat} (hc : (c : Int) < A 1) : FX2_rank d e (iI c) = some (iI (rankS A c), d, e) := by
  have hw := hW
  obtain ⟨q8, q9, q10, q11, q12, q3, q4, q5, q6, q7, qh, qt, qb⟩ := hC
  have k8 : d 2 8 = iI (A 0) := q8
  have k9 : d 2 9 = iI (A 1) := q9
  have k10 : d 2 10 = iI (A 11) := q10
  have k11 : d 2 11 = iI (A 9) := q11
  have k12 : d 2 12 = iI (A 10) := q12
  have k3 : ∀ j : Nat, (j : Int) < A 0 → d 3 j = iI (A (42 + j)) := q3
  have k4 : ∀ j : Nat, (j : Int) < A 0 → d 4 j = iI (A (30 + 2 * j)) := q4
  have k5 : ∀ j : Nat, (j : Int) < A 0 → d 5 j = iI (A (30 + 2 * j + 1)) := q5
  have k6 : ∀ j : Nat, (j : Int) < A 1 → d 6 j = iI (A (54 + j)) := q6
  have k7 : ∀ j : Nat, (j : Int) < A 1 → d 7 j = iI (A (12 + 3 * j)) := q7
  have kh : ∀ j : Nat, (j : Int) < A 1 → d 8 j = iI (A (12 + 3 * j + 1)) := qh
  have kt : ∀ j : Nat, (j : Int) < A 1 → d 9 j = iI (A (12 + 3 * j + 2)) := qt
  have kb : ∀ j : Nat, (j : Int) < A 11 → d 10 j = iI (A (1936 + j)) := qb
  obtain ⟨w0, w1, w9, w10, w11, wc, wh, wb⟩ := hW
  have hin := rankF_in (A := A) (c := c) (A 1).toNat
  have gc := (wc c (by omega) (by omega)).2.2.2.1
  unfold FX2_rank rankS
  rw [a_run_step (st := stX2_rank) (p := (0, [some (.ref 2), some (.int (iI c)), none, none, none], d, e)) (p2 := (4, [some (.ref 2), some (.int (iI c)), some (.int (iI 0)), some (.int (iI (0 : Nat))), none], d, e)) rfl rfl]
  obtain ⟨v, he⟩ := run_foldV (st := stX2_rank) (V := Option Value) (fun k s v => (4, [some (.ref 2), some (.int (iI c)), some (.int (iI s)), some (.int (iI (k : Nat))), v], d, e)) (rankF A c) (A 1).toNat 0 (by
    intro k v hk
    have hin := rankF_in (A := A) (c := c) k
    generalize itr (rankF A c) k 0 = s at hin
    have gk := (wc k (by omega) (by omega)).2.2.2.1
    unfold rankF
    by_cases h1 : A (54 + k) < A (54 + c)
    · refine ⟨some (.int (iI 1)), a_run_step ?_ rfl⟩
      show sX2_rank_4 d e _ _ _ v = _
      unfold sX2_rank_4
      simp (disch := omega) only [nI_iI, iI_0, iI_add, iI_sub, iI_mul, iI_neg, iI_cl, iI_inb, iI_eq, iI_lt, iI_le, Int.cast_ofNat_Int, c_0, c_1, Int.natCast_add, Int.add_zero, cond_true, cond_false, Bool.and_self, Bool.and_true, Bool.true_and, Option.bind_some, if_pos, if_neg, decide_true, uI_hit, uI_miss, uI_o, ite_true, ite_false, eq_self, true_or, or_true, or_false, false_or, true_and, and_true, false_and, and_false, or_self, and_self, not_false_eq_true, not_true_eq_false, tn_i, k8, k9, k10, k11, k12, k3, k4, k5, k6, k7, kh, kt, kb, iI_y]
    · by_cases h2 : A (54 + k) = A (54 + c)
      · by_cases h3 : k < c
        · refine ⟨some (.int (iI 1)), a_run_step ?_ rfl⟩
          show sX2_rank_4 d e _ _ _ v = _
          unfold sX2_rank_4
          simp (disch := omega) only [nI_iI, iI_0, iI_add, iI_sub, iI_mul, iI_neg, iI_cl, iI_inb, iI_eq, iI_lt, iI_le, Int.cast_ofNat_Int, c_0, c_1, Int.natCast_add, Int.add_zero, cond_true, cond_false, Bool.and_self, Bool.and_true, Bool.true_and, Option.bind_some, if_pos, if_neg, decide_true, uI_hit, uI_miss, uI_o, ite_true, ite_false, eq_self, true_or, or_true, or_false, false_or, true_and, and_true, false_and, and_false, or_self, and_self, not_false_eq_true, not_true_eq_false, tn_i, k8, k9, k10, k11, k12, k3, k4, k5, k6, k7, kh, kt, kb, iI_y]
        · refine ⟨some (.int (iI 0)), a_run_step ?_ rfl⟩
          show sX2_rank_4 d e _ _ _ v = _
          unfold sX2_rank_4
          simp (disch := omega) only [nI_iI, iI_0, iI_add, iI_sub, iI_mul, iI_neg, iI_cl, iI_inb, iI_eq, iI_lt, iI_le, Int.cast_ofNat_Int, c_0, c_1, Int.natCast_add, Int.add_zero, cond_true, cond_false, Bool.and_self, Bool.and_true, Bool.true_and, Option.bind_some, if_pos, if_neg, decide_true, uI_hit, uI_miss, uI_o, ite_true, ite_false, eq_self, true_or, or_true, or_false, false_or, true_and, and_true, false_and, and_false, or_self, and_self, not_false_eq_true, not_true_eq_false, tn_i, k8, k9, k10, k11, k12, k3, k4, k5, k6, k7, kh, kt, kb, iI_y]
      · refine ⟨some (.int (iI 0)), a_run_step ?_ rfl⟩
        show sX2_rank_4 d e _ _ _ v = _
        unfold sX2_rank_4
        simp (disch := omega) only [nI_iI, iI_0, iI_add, iI_sub, iI_mul, iI_neg, iI_cl, iI_inb, iI_eq, iI_lt, iI_le, Int.cast_ofNat_Int, c_0, c_1, Int.natCast_add, Int.add_zero, cond_true, cond_false, Bool.and_self, Bool.and_true, Bool.true_and, Option.bind_some, if_pos, if_neg, decide_true, uI_hit, uI_miss, uI_o, ite_true, ite_false, eq_self, true_or, or_true, or_false, false_or, true_and, and_true, false_and, and_false, or_self, and_self, not_false_eq_true, not_true_eq_false, tn_i, k8, k9, k10, k11, k12, k3, k4, k5, k6, k7, kh, kt, kb, iI_y]) none
  rw [he, a_run_step (st := stX2_rank) (p2 := (100000, [some (.int (iI (itr (rankF A c) (A 1).toNat 0)))], d, e)) (by
    show sX2_rank_4 d e _ _ _ v = _
    unfold sX2_rank_4
    simp (disch := omega) only [nI_iI, iI_0, iI_add, iI_sub, iI_mul, iI_neg, iI_cl, iI_inb, iI_eq, iI_lt, iI_le, Int.cast_ofNat_Int, c_0, c_1, Int.natCast_add, Int.add_zero, cond_true, cond_false, Bool.and_self, Bool.and_true, Bool.true_and, Option.bind_some, if_pos, if_neg, decide_true, uI_hit, uI_miss, uI_o, ite_true, ite_false, eq_self, true_or, or_true, or_false, false_or, true_and, and_true, false_and, and_false, or_self, and_self, not_false_eq_true, not_true_eq_false, tn_i, k8, k9, k10, k11, k12, k3, k4, k5, k6, k7, kh, kt, kb]) rfl, a_run_end]
  rfl
def ordS (A : Int → Int) (i : Int) : Int := fnd (fun c => rankS A c = i) (A 1).toNat
theorem cq_order {d : aI} {e : aJ} {A : Int → Int} (hC : CN d 1 A) (hW : WN A) {i : Int} (hi : -2147483648 ≤ i ∧ i < 2147483648) : FX10_order d e (iI i) = some (iI (ordS A i), d, e) := by
  have hw := hW
  have hcc := hC
  obtain ⟨q8, q9, q10, q11, q12, q3, q4, q5, q6, q7, qh, qt, qb⟩ := hC
  have k8 : d 2 8 = iI (A 0) := q8
  have k9 : d 2 9 = iI (A 1) := q9
  have k10 : d 2 10 = iI (A 11) := q10
  have k11 : d 2 11 = iI (A 9) := q11
  have k12 : d 2 12 = iI (A 10) := q12
  have k3 : ∀ j : Nat, (j : Int) < A 0 → d 3 j = iI (A (42 + j)) := q3
  have k4 : ∀ j : Nat, (j : Int) < A 0 → d 4 j = iI (A (30 + 2 * j)) := q4
  have k5 : ∀ j : Nat, (j : Int) < A 0 → d 5 j = iI (A (30 + 2 * j + 1)) := q5
  have k6 : ∀ j : Nat, (j : Int) < A 1 → d 6 j = iI (A (54 + j)) := q6
  have k7 : ∀ j : Nat, (j : Int) < A 1 → d 7 j = iI (A (12 + 3 * j)) := q7
  have kh : ∀ j : Nat, (j : Int) < A 1 → d 8 j = iI (A (12 + 3 * j + 1)) := qh
  have kt : ∀ j : Nat, (j : Int) < A 1 → d 9 j = iI (A (12 + 3 * j + 2)) := qt
  have kb : ∀ j : Nat, (j : Int) < A 11 → d 10 j = iI (A (1936 + j)) := qb
  obtain ⟨w0, w1, w9, w10, w11, wc, wh, wb⟩ := hW
  unfold FX10_order ordS
  rw [a_run_step (st := stX10_order) (p := (0, [some (.ref 0), some (.int (iI i)), none], d, e)) (p2 := (2, [some (.ref 0), some (.int (iI i)), some (.int (iI (0 : Nat)))], d, e)) rfl rfl]
  rw [run_fnd (st := stX10_order) (R := some ([some (.int (iI (fnd (fun c => rankS A c = i) (A 1).toNat)))], d, e)) (fun k => (2, [some (.ref 0), some (.int (iI i)), some (.int (iI (k : Nat)))], d, e)) (fun c => rankS A c = i) (A 1).toNat (fun _ => rfl) ?_ ?_ ?_]
  · rfl
  · intro k hk hn
    have g : 0 ≤ rankS A k ∧ rankS A k ≤ (A 1).toNat := rankF_in (A := A) (c := k) (A 1).toNat
    show sX10_order_2 d e _ _ = _
    unfold sX10_order_2
    simp (disch := omega) only [nI_iI, iI_0, iI_add, iI_sub, iI_mul, iI_neg, iI_cl, iI_inb, iI_eq, iI_lt, iI_le, Int.cast_ofNat_Int, c_0, c_1, Int.natCast_add, Int.add_zero, cond_true, cond_false, Bool.and_self, Bool.and_true, Bool.true_and, Option.bind_some, if_pos, if_neg, decide_true, uI_hit, uI_miss, uI_o, ite_true, ite_false, eq_self, true_or, or_true, or_false, false_or, true_and, and_true, false_and, and_false, or_self, and_self, not_false_eq_true, not_true_eq_false, tn_i, k8, k9, k10, k11, k12, k3, k4, k5, k6, k7, kh, kt, kb, cq_rank hcc hw]
  · intro k hk hy he
    have g : 0 ≤ rankS A k ∧ rankS A k ≤ (A 1).toNat := rankF_in (A := A) (c := k) (A 1).toNat
    rw [he, a_run_step (st := stX10_order) (p2 := (100000, [some (.int (iI (k : Nat)))], d, e)) (by
      show sX10_order_2 d e _ _ = _
      unfold sX10_order_2
      simp (disch := omega) only [nI_iI, iI_0, iI_add, iI_sub, iI_mul, iI_neg, iI_cl, iI_inb, iI_eq, iI_lt, iI_le, Int.cast_ofNat_Int, c_0, c_1, Int.natCast_add, Int.add_zero, cond_true, cond_false, Bool.and_self, Bool.and_true, Bool.true_and, Option.bind_some, if_pos, if_neg, decide_true, uI_hit, uI_miss, uI_o, ite_true, ite_false, eq_self, true_or, or_true, or_false, false_or, true_and, and_true, false_and, and_false, or_self, and_self, not_false_eq_true, not_true_eq_false, tn_i, k8, k9, k10, k11, k12, k3, k4, k5, k6, k7, kh, kt, kb, cq_rank hcc hw]) rfl, a_run_end]
  · intro he
    rw [he, a_run_step (st := stX10_order) (p2 := (100000, [some (.int (iI (-1)))], d, e)) (by
      show sX10_order_2 d e _ _ = _
      unfold sX10_order_2
      simp (disch := omega) only [nI_iI, iI_0, iI_add, iI_sub, iI_mul, iI_neg, iI_cl, iI_inb, iI_eq, iI_lt, iI_le, Int.cast_ofNat_Int, c_0, c_1, Int.natCast_add, Int.add_zero, cond_true, cond_false, Bool.and_self, Bool.and_true, Bool.true_and, Option.bind_some, if_pos, if_neg, decide_true, uI_hit, uI_miss, uI_o, ite_true, ite_false, eq_self, true_or, or_true, or_false, false_or, true_and, and_true, false_and, and_false, or_self, and_self, not_false_eq_true, not_true_eq_false, tn_i, k8, k9, k10, k11, k12, k3, k4, k5, k6, k7, kh, kt, kb]) rfl, a_run_end]
theorem mq_order {d : aI} {e : aJ} {A : Int → Int} (hA : MA d 109 A) (hW : WN A) {i : Int} (hi : -2147483648 ≤ i ∧ i < 2147483648) : FX11_order d e (iI i) = some (iI (ordS A i), d, e) := by
  have hw := hW
  have hr : ∀ j : Nat, j < 1961 → d 109 j = iI (A j) := hA
  have r0 : d 109 0 = iI (A 0) := hr 0 (by omega)
  have r1 : d 109 1 = iI (A 1) := hr 1 (by omega)
  obtain ⟨w0, w1, w9, w10, w11, wc, wh, wb⟩ := hW
  unfold FX11_order ordS
  rw [a_run_step (st := stX11_order) (p := (0, [some (.ref 108), some (.int (iI i)), none, none, none], d, e)) (p2 := (2, [some (.ref 108), some (.int (iI i)), some (.int (iI (0 : Nat))), none, none], d, e)) rfl rfl]
  have inner : ∀ (k : Nat) (v : Option Value × Option Value), k < (A 1).toNat → a_run stX11_order (2, [some (.ref 108), some (.int (iI i)), some (.int (iI (k : Nat))), v.1, v.2], d, e) = a_run stX11_order (17, [some (.ref 108), some (.int (iI i)), some (.int (iI (k : Nat))), some (.int (iI (rankS A k))), some (.int (iI ((A 1).toNat : Nat)))], d, e) := by
    intro k v hk
    have gc := (wc k (by omega) (by omega)).2.2.2.1
    rw [a_run_step (st := stX11_order) (p2 := (17, [some (.ref 108), some (.int (iI i)), some (.int (iI (k : Nat))), some (.int (iI 0)), some (.int (iI (0 : Nat)))], d, e)) (by
      show sX11_order_2 d e _ _ v.1 v.2 = _
      unfold sX11_order_2
      simp (disch := omega) only [nI_iI, iI_0, iI_add, iI_sub, iI_mul, iI_neg, iI_cl, iI_inb, iI_eq, iI_lt, iI_le, Int.cast_ofNat_Int, c_0, c_1, Int.natCast_add, Int.add_zero, cond_true, cond_false, Bool.and_self, Bool.and_true, Bool.true_and, Option.bind_some, if_pos, if_neg, decide_true, uI_hit, uI_miss, uI_o, ite_true, ite_false, eq_self, true_or, or_true, or_false, false_or, true_and, and_true, false_and, and_false, or_self, and_self, not_false_eq_true, not_true_eq_false, hr, r0, r1, tn_i]) rfl]
    rw [run_fold (st := stX11_order) (fun o s => (17, [some (.ref 108), some (.int (iI i)), some (.int (iI (k : Nat))), some (.int (iI s)), some (.int (iI (o : Nat)))], d, e)) (rankF A k) (A 1).toNat 0 (fun _ _ => rfl) ?_]
    · rfl
    · intro o ho
      have hin := rankF_in (A := A) (c := k) o
      generalize itr (rankF A k) o 0 = s at hin
      have gk := (wc o (by omega) (by omega)).2.2.2.1
      show sX11_order_17 d e _ _ _ _ = _
      unfold sX11_order_17
      unfold rankF
      by_cases h1 : A (54 + o) < A (54 + k)
      · simp (disch := omega) only [nI_iI, iI_0, iI_add, iI_sub, iI_mul, iI_neg, iI_cl, iI_inb, iI_eq, iI_lt, iI_le, Int.cast_ofNat_Int, c_0, c_1, Int.natCast_add, Int.add_zero, cond_true, cond_false, Bool.and_self, Bool.and_true, Bool.true_and, Option.bind_some, if_pos, if_neg, decide_true, uI_hit, uI_miss, uI_o, ite_true, ite_false, eq_self, true_or, or_true, or_false, false_or, true_and, and_true, false_and, and_false, or_self, and_self, not_false_eq_true, not_true_eq_false, hr, r0, r1, tn_i]
      · by_cases h2 : A (54 + o) = A (54 + k)
        · by_cases h3 : o < k
          · simp (disch := omega) only [nI_iI, iI_0, iI_add, iI_sub, iI_mul, iI_neg, iI_cl, iI_inb, iI_eq, iI_lt, iI_le, Int.cast_ofNat_Int, c_0, c_1, Int.natCast_add, Int.add_zero, cond_true, cond_false, Bool.and_self, Bool.and_true, Bool.true_and, Option.bind_some, if_pos, if_neg, decide_true, uI_hit, uI_miss, uI_o, ite_true, ite_false, eq_self, true_or, or_true, or_false, false_or, true_and, and_true, false_and, and_false, or_self, and_self, not_false_eq_true, not_true_eq_false, hr, r0, r1, tn_i, h2]
          · simp (disch := omega) only [nI_iI, iI_0, iI_add, iI_sub, iI_mul, iI_neg, iI_cl, iI_inb, iI_eq, iI_lt, iI_le, Int.cast_ofNat_Int, c_0, c_1, Int.natCast_add, Int.add_zero, cond_true, cond_false, Bool.and_self, Bool.and_true, Bool.true_and, Option.bind_some, if_pos, if_neg, decide_true, uI_hit, uI_miss, uI_o, ite_true, ite_false, eq_self, true_or, or_true, or_false, false_or, true_and, and_true, false_and, and_false, or_self, and_self, not_false_eq_true, not_true_eq_false, hr, r0, r1, tn_i, h2]
        · simp (disch := omega) only [nI_iI, iI_0, iI_add, iI_sub, iI_mul, iI_neg, iI_cl, iI_inb, iI_eq, iI_lt, iI_le, Int.cast_ofNat_Int, c_0, c_1, Int.natCast_add, Int.add_zero, cond_true, cond_false, Bool.and_self, Bool.and_true, Bool.true_and, Option.bind_some, if_pos, if_neg, decide_true, uI_hit, uI_miss, uI_o, ite_true, ite_false, eq_self, true_or, or_true, or_false, false_or, true_and, and_true, false_and, and_false, or_self, and_self, not_false_eq_true, not_true_eq_false, hr, r0, r1, tn_i]
  rw [run_fndV (st := stX11_order) (V := Option Value × Option Value) (R := some ([some (.int (iI (fnd (fun c => rankS A c = i) (A 1).toNat)))], d, e)) (fun k v => (2, [some (.ref 108), some (.int (iI i)), some (.int (iI (k : Nat))), v.1, v.2], d, e)) (fun c => rankS A c = i) (A 1).toNat ?_ ?_ ?_ (none, none)]
  · rfl
  · intro k v hk hn
    have g : 0 ≤ rankS A k ∧ rankS A k ≤ (A 1).toNat := rankF_in (A := A) (c := k) (A 1).toNat
    refine ⟨(some (.int (iI (rankS A k))), some (.int (iI (A 1)))), ?_⟩
    rw [inner k v hk]
    refine a_run_step ?_ rfl
    show sX11_order_17 d e _ _ _ _ = _
    unfold sX11_order_17
    simp (disch := omega) only [nI_iI, iI_0, iI_add, iI_sub, iI_mul, iI_neg, iI_cl, iI_inb, iI_eq, iI_lt, iI_le, Int.cast_ofNat_Int, c_0, c_1, Int.natCast_add, Int.add_zero, cond_true, cond_false, Bool.and_self, Bool.and_true, Bool.true_and, Option.bind_some, if_pos, if_neg, decide_true, uI_hit, uI_miss, uI_o, ite_true, ite_false, eq_self, true_or, or_true, or_false, false_or, true_and, and_true, false_and, and_false, or_self, and_self, not_false_eq_true, not_true_eq_false, hr, r0, r1, tn_i]
  · intro k v hk hy he
    have g : 0 ≤ rankS A k ∧ rankS A k ≤ (A 1).toNat := rankF_in (A := A) (c := k) (A 1).toNat
    rw [he, inner k v hk, a_run_step (st := stX11_order) (p2 := (100000, [some (.int (iI (k : Nat)))], d, e)) (by
      show sX11_order_17 d e _ _ _ _ = _
      unfold sX11_order_17
      simp (disch := omega) only [nI_iI, iI_0, iI_add, iI_sub, iI_mul, iI_neg, iI_cl, iI_inb, iI_eq, iI_lt, iI_le, Int.cast_ofNat_Int, c_0, c_1, Int.natCast_add, Int.add_zero, cond_true, cond_false, Bool.and_self, Bool.and_true, Bool.true_and, Option.bind_some, if_pos, if_neg, decide_true, uI_hit, uI_miss, uI_o, ite_true, ite_false, eq_self, true_or, or_true, or_false, false_or, true_and, and_true, false_and, and_false, or_self, and_self, not_false_eq_true, not_true_eq_false, hr, r0, r1, tn_i]) rfl, a_run_end]
  · intro v he
    rw [he, a_run_step (st := stX11_order) (p2 := (100000, [some (.int (iI (-1)))], d, e)) (by
      show sX11_order_2 d e _ _ v.1 v.2 = _
      unfold sX11_order_2
      simp (disch := omega) only [nI_iI, iI_0, iI_add, iI_sub, iI_mul, iI_neg, iI_cl, iI_inb, iI_eq, iI_lt, iI_le, Int.cast_ofNat_Int, c_0, c_1, Int.natCast_add, Int.add_zero, cond_true, cond_false, Bool.and_self, Bool.and_true, Bool.true_and, Option.bind_some, if_pos, if_neg, decide_true, uI_hit, uI_miss, uI_o, ite_true, ite_false, eq_self, true_or, or_true, or_false, false_or, true_and, and_true, false_and, and_false, or_self, and_self, not_false_eq_true, not_true_eq_false, hr, r0, r1, tn_i]) rfl, a_run_end]
