/-! ===== class and reference over one table of whole numbers ===== -/
theorem c_lit (n : Nat) [inst : Nat.AtLeastTwo n] : ((OfNat.ofNat n : Nat) : Int) = OfNat.ofNat n := rfl
theorem c_0 : ((0 : Nat) : Int) = 0 := rfl
theorem c_1 : ((1 : Nat) : Int) = 1 := rfl
theorem uI_hit {d : aI} {o f j : Nat} {x : Int32} (h : j = f) : uI d o f x o j = x := by rw [uI_s, if_pos h]
theorem uI_miss {d : aI} {o f j : Nat} {x : Int32} (h : j ≠ f) : uI d o f x o j = d o j := by rw [uI_s, if_neg h]
theorem aU_hit {A : Nat → Int} {k j : Nat} {v : Int} (h : j = k) : aU A k v j = v := if_pos h
theorem aU_miss {A : Nat → Int} {k j : Nat} {v : Int} (h : j ≠ k) : aU A k v j = A j := if_neg h
/-- what a loop over 0, 1, .. makes -/
def itr {σ : Type} (f : Nat → σ → σ) : Nat → σ → σ
  | 0, s => s
  | n + 1, s => f n (itr f n s)
theorem loop_up {P : Nat → Prop} (n : Nat) (he : P n) (hs : ∀ k, k < n → P (k + 1) → P k) : P 0 := by
  have key : ∀ m k, k + m = n → P k := by
    intro m
    induction m with
    | zero => intro k hk; rw [← hk] at he; exact he
    | succ m ih => intro k hk; exact hs k (by omega) (ih (k + 1) (by omega))
  exact key n 0 (by omega)
/-- the ranges of what the table holds of houses and cats -/
def WN (A : Nat → Int) : Prop :=
  (0 ≤ A 0 ∧ A 0 ≤ 6) ∧ (0 ≤ A 1 ∧ A 1 ≤ 6) ∧ (0 ≤ A 9 ∧ A 9 ≤ 9999) ∧ (0 ≤ A 10 ∧ A 10 < 30931) ∧ (0 ≤ A 11 ∧ A 11 ≤ 25) ∧
  (∀ c : Nat, (c : Int) < A 1 → (0 ≤ A (12 + 3 * c) ∧ A (12 + 3 * c) ≤ 9) ∧ (-1 ≤ A (13 + 3 * c) ∧ A (13 + 3 * c) < A 0) ∧ (0 ≤ A (14 + 3 * c) ∧ A (14 + 3 * c) ≤ 9999) ∧ (0 ≤ A (54 + c) ∧ A (54 + c) ≤ 9) ∧ (0 ≤ A (60 + c) ∧ A (60 + c) ≤ 9) ∧ (0 ≤ A (13 + 3 * c) → A (12 + 3 * c) = A (42 + (A (13 + 3 * c)).toNat))) ∧
  (∀ h : Nat, (h : Int) < A 0 → (0 ≤ A (30 + 2 * h) ∧ A (30 + 2 * h) ≤ 999) ∧ (0 ≤ A (31 + 2 * h) ∧ A (31 + 2 * h) ≤ 999) ∧ (0 ≤ A (42 + h) ∧ A (42 + h) ≤ 9) ∧ (0 ≤ A (48 + h) ∧ A (48 + h) ≤ 999)) ∧
  (∀ i : Nat, (i : Int) < A 11 → 0 ≤ A (1936 + i) ∧ A (1936 + i) < 1080000)
/-- the class's night in the world that begins at w holds it -/
def CN (d : aI) (w : Nat) (A : Nat → Int) : Prop :=
  d (w + 1) 8 = iI (A 0) ∧ d (w + 1) 9 = iI (A 1) ∧ d (w + 1) 10 = iI (A 11) ∧ d (w + 1) 11 = iI (A 9) ∧ d (w + 1) 12 = iI (A 10) ∧
  (∀ j : Nat, (j : Int) < A 0 → d (w + 2) j = iI (A (42 + j))) ∧ (∀ j : Nat, (j : Int) < A 0 → d (w + 3) j = iI (A (30 + 2 * j))) ∧ (∀ j : Nat, (j : Int) < A 0 → d (w + 4) j = iI (A (31 + 2 * j))) ∧
  (∀ j : Nat, (j : Int) < A 1 → d (w + 5) j = iI (A (54 + j))) ∧ (∀ j : Nat, (j : Int) < A 1 → d (w + 6) j = iI (A (12 + 3 * j))) ∧ (∀ j : Nat, (j : Int) < A 1 → d (w + 7) j = iI (A (13 + 3 * j))) ∧ (∀ j : Nat, (j : Int) < A 1 → d (w + 8) j = iI (A (14 + 3 * j))) ∧
  (∀ j : Nat, (j : Int) < A 11 → d (w + 9) j = iI (A (1936 + j)))
/-- the coldest -/
def coldS (A : Nat → Int) : Int := itr (fun c f => if f = -1 ∨ A (54 + f.toNat) < A (54 + c) then (c : Int) else f) (A 1).toNat (-1)
theorem coldS_in {A : Nat → Int} (k : Nat) : -1 ≤ itr (fun c f => if f = -1 ∨ A (54 + f.toNat) < A (54 + c) then (c : Int) else f) k (-1) ∧ itr (fun c f => if f = -1 ∨ A (54 + f.toNat) < A (54 + c) then (c : Int) else f) k (-1) < k := by
  induction k with
  | zero => exact ⟨Int.le_refl _, by decide⟩
  | succ k ih =>
    unfold itr
    split <;> omega
theorem mq_coldest {d : aI} {e : aJ} {A : Nat → Int} (hA : MA d 109 A) (hW : WN A) : FX11_coldest d e = some (iI (coldS A), d, e) := by
  have hr : ∀ j, j < 1961 → d 109 j = iI (A j) := hA
  obtain ⟨w0, w1, w9, w10, w11, wc, wh, wb⟩ := hW
  unfold FX11_coldest
  have key : a_run stX11_coldest (0, [some (.ref 108), none, none], d, e) = some ([some (.int (iI (coldS A)))], d, e) := by
    rw [a_run_step (p2 := (4, [some (.ref 108), some (.int (-(nI 1))), some (.int (nI 0))], d, e)) rfl rfl]
    refine loop_up (P := fun k => a_run stX11_coldest (4, [some (.ref 108), some (.int (iI (itr (fun c f => if f = -1 ∨ A (54 + f.toNat) < A (54 + c) then (c : Int) else f) k (-1)))), some (.int (iI (k : Int)))], d, e) = some ([some (.int (iI (coldS A)))], d, e)) (A 1).toNat ?_ ?_
    · rw [a_run_step (p2 := (100000, [some (.int (iI (coldS A)))], d, e)) (by
        show sX11_coldest_4 d e _ _ = _
        unfold sX11_coldest_4
        simp (disch := omega) only [nI_iI, iI_0, iI_add, iI_sub, iI_mul, iI_neg, iI_cl, iI_inb, iI_eq, iI_lt, iI_le, c_lit, c_0, c_1, cond_true, cond_false, Bool.and_self, Bool.and_true, Bool.true_and, Option.bind_some, if_pos, if_neg, decide_true, uI_hit, uI_miss, uI_o, hr]
        rfl) rfl, a_run_end]
    · intro k hk ih
      have hin := coldS_in (A := A) k
      have e1 : itr (fun c f => if f = -1 ∨ A (54 + f.toNat) < A (54 + c) then (c : Int) else f) (k + 1) (-1) = (if (itr (fun c f => if f = -1 ∨ A (54 + f.toNat) < A (54 + c) then (c : Int) else f) k (-1)) = -1 ∨ A (54 + (itr (fun c f => if f = -1 ∨ A (54 + f.toNat) < A (54 + c) then (c : Int) else f) k (-1)).toNat) < A (54 + k) then (k : Int) else itr (fun c f => if f = -1 ∨ A (54 + f.toNat) < A (54 + c) then (c : Int) else f) k (-1)) := rfl
      generalize itr (fun c f => if f = -1 ∨ A (54 + f.toNat) < A (54 + c) then (c : Int) else f) k (-1) = f at hin e1 ⊢
      rw [e1] at ih
      have hk1 := (wc k (by omega)).2.2.2.1
      by_cases h1 : f = -1
      · rw [if_pos (Or.inl h1)] at ih
        subst h1
        rw [a_run_step (p2 := (4, [some (.ref 108), some (.int (iI k)), some (.int (iI (k + 1)))], d, e)) (by
          show sX11_coldest_4 d e _ _ = _
          unfold sX11_coldest_4
          simp (disch := omega) only [nI_iI, iI_0, iI_add, iI_sub, iI_mul, iI_neg, iI_cl, iI_inb, iI_eq, iI_lt, iI_le, c_lit, c_0, c_1, cond_true, cond_false, Bool.and_self, Bool.and_true, Bool.true_and, Option.bind_some, if_pos, if_neg, decide_true, uI_hit, uI_miss, uI_o, hr]) rfl]
        exact ih
      · have hf1 := (wc f.toNat (by omega)).2.2.2.1
        by_cases h2 : A (54 + f.toNat) < A (54 + k)
        · rw [if_pos (Or.inr h2)] at ih
          rw [a_run_step (p2 := (4, [some (.ref 108), some (.int (iI k)), some (.int (iI (k + 1)))], d, e)) (by
            show sX11_coldest_4 d e _ _ = _
            unfold sX11_coldest_4
            simp (disch := omega) only [nI_iI, iI_0, iI_add, iI_sub, iI_mul, iI_neg, iI_cl, iI_inb, iI_eq, iI_lt, iI_le, c_lit, c_0, c_1, cond_true, cond_false, Bool.and_self, Bool.and_true, Bool.true_and, Option.bind_some, if_pos, if_neg, decide_true, uI_hit, uI_miss, uI_o, hr]
            trace_state
            sorry) rfl]
          exact ih
        · rw [if_neg (by omega)] at ih
          rw [a_run_step (p2 := (4, [some (.ref 108), some (.int (iI f)), some (.int (iI (k + 1)))], d, e)) (by
            show sX11_coldest_4 d e _ _ = _
            unfold sX11_coldest_4
            simp (disch := omega) only [nI_iI, iI_0, iI_add, iI_sub, iI_mul, iI_neg, iI_cl, iI_inb, iI_eq, iI_lt, iI_le, c_lit, c_0, c_1, cond_true, cond_false, Bool.and_self, Bool.and_true, Bool.true_and, Option.bind_some, if_pos, if_neg, decide_true, uI_hit, uI_miss, uI_o, hr]
            trace_state
            sorry) rfl]
          exact ih
  rw [key]
  rfl
