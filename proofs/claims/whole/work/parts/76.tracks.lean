/-! ===== tracks: how few cats there must be ===== -/
def upT (t : Nat → Nat) (k c : Nat) : Nat → Nat := fun j => if j = k then c else t j
theorem upT_h {t : Nat → Nat} {k c : Nat} : upT t k c k = c := if_pos rfl
theorem upT_o {t : Nat → Nat} {k c j : Nat} (h : j ≠ k) : upT t k c j = t j := if_neg h
/-- the first k as laid down can be gone on with -/
def exT (R : Nat → Nat → Prop) (m n k : Nat) (t : Nat → Nat) : Prop := ∃ s : Nat → Nat, (∀ i, i < k → s i = t i) ∧ (∀ i, i < n → s i < m) ∧ (∀ i j, i < j → j < n → s i = s j → R i j)
theorem exT.cg {R : Nat → Nat → Prop} {m n k : Nat} {t t' : Nat → Nat} (h : exT R m n k t) (g : ∀ i, i < k → t i = t' i) : exT R m n k t' := by
  obtain ⟨s, a, b, c⟩ := h
  exact ⟨s, fun i hi => (a i hi).trans (g i hi), b, c⟩
theorem exT.dn {R : Nat → Nat → Prop} {m n k : Nat} {t : Nat → Nat} (h : exT R m n k t) (hk : k < n) : ∃ c, c < m ∧ exT R m n (k + 1) (upT t k c) := by
  obtain ⟨s, a, b, c⟩ := h
  refine ⟨s k, b k hk, s, fun i hi => ?_, b, c⟩
  by_cases q : i = k
  · rw [q, upT_h]
  · rw [upT_o q]; exact a i (by omega)
theorem exT.bad {R : Nat → Nat → Prop} {m n k c : Nat} {t : Nat → Nat} (h : exT R m n (k + 1) (upT t k c)) (hk : k < n) : ∀ j, j < k → t j = c → R j k := by
  obtain ⟨s, a, b, v⟩ := h
  intro j hj e
  refine v j k hj hk ?_
  rw [a j (by omega), a k (by omega), upT_h, upT_o (by omega)]
  exact e
theorem exT.sw {R : Nat → Nat → Prop} {m n k u c : Nat} {t : Nat → Nat} (h : exT R m n (k + 1) (upT t k c)) (hk : k < n) (ht : ∀ j, j < k → t j < u) (huc : u ≤ c) (hc : c < m) : exT R m n (k + 1) (upT t k u) := by
  obtain ⟨s, a, b, v⟩ := h
  have sk : s k = c := by rw [a k (by omega), upT_h]
  refine ⟨fun i => if s i = c then u else if s i = u then c else s i, fun i hi => ?_, fun i hi => ?_, fun i j h1 h2 h3 => v i j h1 h2 ?_⟩
  · by_cases q : i = k
    · subst q
      rw [upT_h]
      exact if_pos sk
    · rw [upT_o q]
      have e : s i = t i := by rw [a i hi, upT_o q]
      have l := ht i (by omega)
      show (if s i = c then u else if s i = u then c else s i) = t i
      rw [if_neg (by omega), if_neg (by omega)]
      exact e
  · have l := b i hi
    show (if s i = c then u else if s i = u then c else s i) < m
    split
    · omega
    · split <;> omega
  · have h4 : (if s i = c then u else if s i = u then c else s i) = (if s j = c then u else if s j = u then c else s j) := h3
    by_cases q1 : s i = c
    · rw [if_pos q1] at h4
      by_cases q2 : s j = c
      · omega
      · rw [if_neg q2] at h4
        by_cases q3 : s j = u
        · rw [if_pos q3] at h4; omega
        · rw [if_neg q3] at h4; omega
    · rw [if_neg q1] at h4
      by_cases q2 : s j = c
      · rw [if_pos q2] at h4
        by_cases q3 : s i = u
        · rw [if_pos q3] at h4; omega
        · rw [if_neg q3] at h4; omega
      · rw [if_neg q2] at h4
        by_cases q3 : s i = u
        · rw [if_pos q3] at h4
          by_cases q4 : s j = u
          · omega
          · rw [if_neg q4] at h4; omega
        · rw [if_neg q3] at h4
          by_cases q4 : s j = u
          · rw [if_pos q4] at h4; omega
          · rw [if_neg q4] at h4; omega
/-- the lowest from the k-th on -/
def lsT (R : Nat → Nat → Prop) (m n k : Nat) (s : Nat → Nat) : Prop := (∀ i, i < n → s i < m) ∧ (∀ i j, i < j → j < n → s i = s j → R i j) ∧ ∀ i, k ≤ i → i < n → ∀ c, c < s i → ¬exT R m n (i + 1) (upT s i c)
theorem lsT.ex {R : Nat → Nat → Prop} {m n k : Nat} {s : Nat → Nat} (h : lsT R m n k s) : exT R m n k s := ⟨s, fun _ _ => rfl, h.1, h.2.1⟩
theorem lsT_lt {R : Nat → Nat → Prop} {m n : Nat} {s s' : Nat → Nat} (h : lsT R m n 0 s) (h' : lsT R m n 0 s') {i : Nat} (hi : i < n) (g : ∀ j, j < i → s j = s' j) : ¬s i < s' i := by
  intro q
  refine h'.2.2 i (by omega) hi (s i) q ⟨s, fun j hj => ?_, h.1, h.2.1⟩
  by_cases z : j = i
  · rw [z, upT_h]
  · rw [upT_o z]; exact g j (by omega)
theorem lsT_eq {R : Nat → Nat → Prop} {m n : Nat} {s s' : Nat → Nat} (h : lsT R m n 0 s) (h' : lsT R m n 0 s') : ∀ i, i < n → s i = s' i := by
  intro i
  induction i using Nat.strongRecOn with
  | _ i ih =>
    intro hi
    have a := lsT_lt h h' hi (fun j hj => ih j hj (by omega))
    have b := lsT_lt h' h hi (fun j hj => (ih j hj (by omega)).symm)
    omega
theorem least_ex {P : Nat → Prop} (h : ∃ c, P c) : ∃ c, P c ∧ ∀ j, j < c → ¬P j := by
  obtain ⟨c, hc⟩ := h
  induction c using Nat.strongRecOn with
  | _ c ih =>
    by_cases q : ∃ j, j < c ∧ P j
    · obtain ⟨j, h1, h2⟩ := q
      exact ih j h1 h2
    · exact ⟨c, hc, fun j hj z => q ⟨j, hj, z⟩⟩
theorem lsT_up {R : Nat → Nat → Prop} {m n k c : Nat} {s t : Nat → Nat} (hs : ∀ j, j < k + 1 → s j = upT t k c j) (h : lsT R m n (k + 1) s) (hc : ∀ c', c' < c → ¬exT R m n (k + 1) (upT t k c')) : lsT R m n k s ∧ ∀ j, j < k → s j = t j := by
  have g : ∀ j, j < k → s j = t j := fun j hj => by rw [hs j (by omega), upT_o (by omega)]
  have gk : s k = c := by rw [hs k (by omega), upT_h]
  refine ⟨⟨h.1, h.2.1, fun i a b c' hc' => ?_⟩, g⟩
  by_cases q : i = k
  · subst q
    intro z
    refine hc c' (by omega) (z.cg (fun j hj => ?_))
    by_cases q2 : j = i
    · rw [q2, upT_h, upT_h]
    · rw [upT_o q2, upT_o q2]; exact g j (by omega)
  · exact h.2.2 i (by omega) b c' hc'
theorem lsT_ex {R : Nat → Nat → Prop} {m n : Nat} : ∀ (r k : Nat) (t : Nat → Nat), k + r = n → exT R m n k t → ∃ s, (∀ i, i < k → s i = t i) ∧ lsT R m n k s
  | 0, k, t, hk, h => by
    obtain ⟨s, a, b, c⟩ := h
    exact ⟨s, a, b, c, fun i h1 h2 => by omega⟩
  | r + 1, k, t, hk, h => by
    obtain ⟨c0, _, h0⟩ := h.dn (by omega)
    obtain ⟨c, hc, hl⟩ := least_ex (P := fun c => exT R m n (k + 1) (upT t k c)) ⟨c0, h0⟩
    obtain ⟨s, h1, h2⟩ := lsT_ex r (k + 1) (upT t k c) (by omega) hc
    obtain ⟨h3, h4⟩ := lsT_up h1 h2 hl
    exact ⟨s, h4, h3⟩
theorem exT_id {R : Nat → Nat → Prop} {n : Nat} {t : Nat → Nat} : exT R n n 0 t := ⟨fun i => i, fun i hi => by omega, fun i hi => hi, fun i j h1 _ h3 => by have h4 : i = j := h3; omega⟩
/-- so many there must be, and these are the lowest tracks -/
theorem few_ex (R : Nat → Nat → Prop) (n : Nat) : ∃ (m : Nat) (s : Nat → Nat), m ≤ n ∧ lsT R m n 0 s ∧ ∀ m', m' < m → ∀ t, ¬exT R m' n 0 t := by
  obtain ⟨m, h1, h2⟩ := least_ex (P := fun m => exT R m n 0 (fun _ => 0)) ⟨n, exT_id⟩
  obtain ⟨s, _, h3⟩ := lsT_ex n 0 (fun _ => 0) (by omega) h1
  refine ⟨m, s, ?_, h3, fun m' hm t z => h2 m' hm (z.cg (fun i hi => by omega))⟩
  by_cases q : m ≤ n
  · exact q
  · exact absurd exT_id (h2 n (by omega))
-- bits
def BM (x : Int32) (P : Nat → Prop) : Prop := ∀ k, k < 32 → (x.toBitVec.getLsbD k = true ↔ P k)
theorem BM.cg {x : Int32} {P Q : Nat → Prop} (h : BM x P) (g : ∀ k, k < 32 → (P k ↔ Q k)) : BM x Q := fun k hk => (h k hk).trans (g k hk)
theorem sh_b : ∀ i, i < 10 → ∀ k, k < 32 → ((a_shl (iI 1) (iI (i : Nat))).toBitVec.getLsbD k = true ↔ k = i) := by decide +kernel
theorem sh_o : ∀ i, i < 10 → ∀ k, k < 32 → ((a_shl (iI 1) (iI (i : Nat)) ^^^ iI (-1)).toBitVec.getLsbD k = true ↔ k ≠ i) := by decide +kernel
theorem m1_b : ∀ k, k < 32 → (iI (-1)).toBitVec.getLsbD k = true := by decide +kernel
theorem z0_b : ∀ k, k < 32 → (iI 0).toBitVec.getLsbD k = false := by decide +kernel
theorem BM.zero {P : Nat → Prop} (h : ∀ k, ¬P k) : BM (iI 0) P := fun k hk => ⟨fun z => (by rw [z0_b k hk] at z; exact Bool.noConfusion z), fun z => absurd z (h k)⟩
theorem BM.or {x : Int32} {P : Nat → Prop} {i : Nat} (h : BM x P) (hi : i < 10) : BM (x ||| a_shl (iI 1) (iI (i : Nat))) (fun j => P j ∨ j = i) := by
  intro k hk
  have e : (x ||| a_shl (iI 1) (iI (i : Nat))).toBitVec = x.toBitVec ||| (a_shl (iI 1) (iI (i : Nat))).toBitVec := rfl
  rw [e, BitVec.getLsbD_or, Bool.or_eq_true, h k hk, sh_b i hi k hk]
theorem BM.or0 {x : Int32} {P : Nat → Prop} (h : BM x P) : BM (x ||| iI 0) P := by
  intro k hk
  have e : (x ||| iI 0).toBitVec = x.toBitVec ||| (iI 0).toBitVec := rfl
  rw [e, BitVec.getLsbD_or, z0_b k hk, Bool.or_false]
  exact h k hk
theorem BM.off {x : Int32} {P : Nat → Prop} {i : Nat} (h : BM x P) (hi : i < 10) : BM (x &&& (a_shl (iI 1) (iI (i : Nat)) ^^^ iI (-1))) (fun j => P j ∧ j ≠ i) := by
  intro k hk
  have e : (x &&& (a_shl (iI 1) (iI (i : Nat)) ^^^ iI (-1))).toBitVec = x.toBitVec &&& (a_shl (iI 1) (iI (i : Nat)) ^^^ iI (-1)).toBitVec := rfl
  rw [e, BitVec.getLsbD_and, Bool.and_eq_true, h k hk, sh_o i hi k hk]
theorem BM.bit {x y : Int32} {k : Nat} (hk : k < 32) : (x &&& (y ^^^ iI (-1))).toBitVec.getLsbD k = (x.toBitVec.getLsbD k && !y.toBitVec.getLsbD k) := by
  have e : (x &&& (y ^^^ iI (-1))).toBitVec = x.toBitVec &&& (y.toBitVec ^^^ (iI (-1)).toBitVec) := rfl
  rw [e, BitVec.getLsbD_and, BitVec.getLsbD_xor, m1_b k hk]
  cases x.toBitVec.getLsbD k <;> cases y.toBitVec.getLsbD k <;> rfl
theorem BM.sub {x y : Int32} {P Q : Nat → Prop} (h : BM x P) (g : BM y Q) : (x &&& (y ^^^ iI (-1))) = iI 0 ↔ ∀ k, k < 32 → P k → Q k := by
  constructor
  · intro z k hk p
    have b := BM.bit (x := x) (y := y) hk
    rw [z, z0_b k hk, (h k hk).mpr p] at b
    refine (g k hk).mp ?_
    revert b
    cases y.toBitVec.getLsbD k
    · intro b; cases b
    · intro _; rfl
  · intro z
    apply Int32.toBitVec_inj.mp
    apply BitVec.eq_of_getLsbD_eq
    intro k hk
    rw [BM.bit hk, z0_b k hk]
    by_cases p : P k
    · rw [(g k hk).mpr (z k hk p)]
      cases x.toBitVec.getLsbD k <;> rfl
    · have q : x.toBitVec.getLsbD k = false := by
        cases e : x.toBitVec.getLsbD k
        · rfl
        · exact absurd ((h k hk).mp e) p
      rw [q]; rfl
-- class
theorem apS_sy {p q : Int} : apS p q = apS q p := by
  have e : (if q ≤ p then p - q else q - p) = (if p ≤ q then q - p else p - q) := by
    split
    · split <;> omega
    · split <;> omega
  unfold apS
  rw [e]
theorem canS_sy {A : Int → Int} {i j : Int} : canS A i j ↔ canS A j i := by
  have e1 : apS (A (66 + 2 * i + 1)) (A (66 + 2 * j + 1)) = apS (A (66 + 2 * j + 1)) (A (66 + 2 * i + 1)) := apS_sy
  have e2 : hdS A i j = hdS A j i := by
    unfold hdS
    split
    · split <;> omega
    · split <;> omega
  unfold canS
  rw [e1, e2]
/-- the relation of the sights by number -/
def rlS (A : Int → Int) : Nat → Nat → Prop := fun i j => canS A i j
def CA (d : aI) (R : Nat → Nat → Prop) (n i : Nat) (t : Nat → Nat) : Prop := (∀ j, j < i → d 100 j = iI (t j)) ∧ (∀ c, c < n → BM (d 102 c) (fun j => j < i ∧ t j = c)) ∧ (∀ j, j < n → BM (d 101 j) (fun k => k < n ∧ R k j))
def Kt (d d' : aI) : Prop := ∀ o, o ≠ 100 → o ≠ 102 → d' o = d o
theorem Kt.refl (d : aI) : Kt d d := fun _ _ _ => rfl
theorem Kt.trans {d d1 d2 : aI} (h : Kt d d1) (h2 : Kt d1 d2) : Kt d d2 := fun o a b => (h2 o a b).trans (h o a b)
/-- what comes of a search from the i-th on -/
def asR (R : Nat → Nat → Prop) (m n i : Nat) (t : Nat → Nat) (d : aI) (e : aJ) (X : Int32 → aI → Prop) : Prop :=
  (∃ d' s, X (iI 1) d' ∧ (∀ j, j < i → s j = t j) ∧ lsT R m n i s ∧ (∀ j, j < n → d' 100 j = iI (s j : Nat)) ∧ Kt d d') ∨ (∃ d', X (iI 0) d' ∧ ¬exT R m n i t ∧ CA d' R n i t ∧ Kt d d')
theorem CA.put {d : aI} {R : Nat → Nat → Prop} {n i c : Nat} {t : Nat → Nat} (h : CA d R n i t) (hi : i < n) (hc : c < n) (hn : n ≤ 10) : CA (uI (uI d 100 i (iI c)) 102 c (d 102 c ||| a_shl (iI 1) (iI (i : Nat)))) R n (i + 1) (upT t i c) := by
  refine ⟨fun j hj => ?_, fun c' hc' => ?_, fun j hj => ?_⟩
  · rw [uI_o (by omega)]
    by_cases q : j = i
    · rw [uI_hit q, q, upT_h]
    · rw [uI_miss q, upT_o q]; exact h.1 j (by omega)
  · by_cases q : c' = c
    · rw [uI_hit q, q]
      refine ((h.2.1 c hc).or (by omega)).cg (fun k hk => ?_)
      by_cases z : k = i
      · rw [z, upT_h]; exact ⟨fun _ => ⟨by omega, rfl⟩, fun _ => Or.inr rfl⟩
      · rw [upT_o z]
        constructor
        · rintro (⟨a, b⟩ | a)
          · exact ⟨by omega, b⟩
          · exact absurd a z
        · rintro ⟨a, b⟩
          exact Or.inl ⟨by omega, b⟩
    · rw [uI_miss q, uI_o (by omega)]
      refine (h.2.1 c' hc').cg (fun k hk => ?_)
      by_cases z : k = i
      · rw [z, upT_h]; exact ⟨fun w => by omega, fun w => by omega⟩
      · rw [upT_o z]; exact ⟨fun w => ⟨by omega, w.2⟩, fun w => ⟨by omega, w.2⟩⟩
  · rw [uI_o (by omega), uI_o (by omega)]
    exact h.2.2 j hj
theorem CA.off {d : aI} {R : Nat → Nat → Prop} {n i c : Nat} {t : Nat → Nat} (h : CA d R n (i + 1) (upT t i c)) (hi : i < n) (hc : c < n) (hn : n ≤ 10) : CA (uI d 102 c (d 102 c &&& (a_shl (iI 1) (iI (i : Nat)) ^^^ iI (-1)))) R n i t := by
  refine ⟨fun j hj => ?_, fun c' hc' => ?_, fun j hj => ?_⟩
  · rw [uI_o (by omega), h.1 j (by omega), upT_o (by omega)]
  · by_cases q : c' = c
    · rw [uI_hit q, q]
      refine ((h.2.1 c hc).off (by omega)).cg (fun k hk => ?_)
      by_cases z : k = i
      · exact ⟨fun w => absurd z w.2, fun w => by omega⟩
      · rw [upT_o z]; exact ⟨fun w => ⟨by omega, w.1.2⟩, fun w => ⟨⟨by omega, w.2⟩, z⟩⟩
    · rw [uI_miss q]
      refine (h.2.1 c' hc').cg (fun k hk => ?_)
      by_cases z : k = i
      · rw [z, upT_h]; exact ⟨fun w => by omega, fun w => by omega⟩
      · rw [upT_o z]; exact ⟨fun w => ⟨by omega, w.2⟩, fun w => ⟨by omega, w.2⟩⟩
  · rw [uI_o (by omega)]
    exact h.2.2 j hj
theorem cq_assign {e : aJ} {R : Nat → Nat → Prop} {m n : Nat} (hn : n ≤ 10) (hm : m ≤ n) : ∀ (r i u : Nat) (t : Nat → Nat) (d : aI) (f : Nat), i + r = n → r < f → u ≤ m → (∀ j, j < i → t j < u) → (∀ a b, a < b → b < i → t a = t b → R a b) → CA d R n i t → asR R m n i t d e (fun x d' => FX8_assign f d e (iI (i : Nat)) (iI n) (iI u) (iI m) = some (x, d', e))
  | r, i, u, t, d, 0, _, h, _, _, _, _ => by omega
  | 0, i, u, t, d, f + 1, hi, hf, hu, ht, hv, h => by
    refine Or.inl ⟨d, t, ?_, fun _ _ => rfl, ⟨fun j hj => ?_, fun a b h1 h2 => hv a b h1 (by omega), fun j h1 h2 => by omega⟩, fun j hj => h.1 j (by omega), Kt.refl d⟩
    · show FX8_assignB (FX8_assign f) d e _ _ _ _ = _
      unfold FX8_assignB
      rw [a_run_step (st := stX8_assign (FX8_assign f)) (p2 := (100000, [some (.int (iI 1))], d, e)) (by
        show sX8_assign_0 (FX8_assign f) d e _ _ _ _ = _
        unfold sX8_assign_0
        simp (disch := omega) only [nI_iI, lN_lJ, iI_0, lJ_0, iI_add, iI_sub, iI_mul, iI_neg, lJ_add, lJ_sub, lJ_mul, lJ_neg, i_l, l_i, iI_cl, iI_inb, iI_eqT, iI_eqF, iI_ltT, iI_ltF, iI_leT, iI_leF, lJ_eqT, lJ_eqF, lJ_cG, lJ_cE, lJ_cL, lJ_cF, lJ_cGE, lJ_cLE, lJ_cNL, lJ_cNG, Int.cast_ofNat_Int, c_0, c_1, Int.natCast_add, Int.add_zero, cond_true, cond_false, Bool.and_self, Bool.and_true, Bool.true_and, Option.bind_some, decide_true, uI_hit, uI_miss, uI_o, uA_o, uA_s, ↓reduceIte, eq_self, true_or, or_true, or_false, false_or, true_and, and_true, false_and, and_false, or_self, and_self, not_false_eq_true, not_true_eq_false, tn_i]) rfl, a_run_end]
      rfl
    · have := ht j (by omega); omega
  | r + 1, i, u, t, d, f + 1, hi, hf, hu, ht, hv, h => by
    have ih := fun u t d a b c g => cq_assign (e := e) (R := R) hn hm r (i + 1) u t d f (by omega) (by omega) a b c g
    have hin : i < n := by omega
    have loop : ∀ (q c : Nat) (d : aI), c + q = u + 1 → (∀ c', c' < c → ¬exT R m n (i + 1) (upT t i c')) → CA d R n i t → asR R m n i t d e (fun x d' => a_run (stX8_assign (FX8_assign f)) (10, [some (.ref 99), some (.int (iI (i : Nat))), some (.int (iI n)), some (.int (iI u)), some (.int (iI m)), some (.int (iI (c : Nat)))], d, e) = some ([some (.int x)], d', e)) := by
      intro q
      induction q with
      | zero =>
        intro c d hc hl h
        refine Or.inr ⟨d, ?_, fun z => ?_, h, Kt.refl d⟩
        · rw [a_run_step (st := stX8_assign (FX8_assign f)) (p2 := (100000, [some (.int (iI 0))], d, e)) (by
            show sX8_assign_10 (FX8_assign f) d e _ _ _ _ _ = _
            unfold sX8_assign_10
            simp (disch := omega) only [nI_iI, lN_lJ, iI_0, lJ_0, iI_add, iI_sub, iI_mul, iI_neg, lJ_add, lJ_sub, lJ_mul, lJ_neg, i_l, l_i, iI_cl, iI_inb, iI_eqT, iI_eqF, iI_ltT, iI_ltF, iI_leT, iI_leF, lJ_eqT, lJ_eqF, lJ_cG, lJ_cE, lJ_cL, lJ_cF, lJ_cGE, lJ_cLE, lJ_cNL, lJ_cNG, Int.cast_ofNat_Int, c_0, c_1, Int.natCast_add, Int.add_zero, cond_true, cond_false, Bool.and_self, Bool.and_true, Bool.true_and, Option.bind_some, decide_true, uI_hit, uI_miss, uI_o, uA_o, uA_s, ↓reduceIte, eq_self, true_or, or_true, or_false, false_or, true_and, and_true, false_and, and_false, or_self, and_self, not_false_eq_true, not_true_eq_false, tn_i]) rfl, a_run_end]
        · obtain ⟨c0, h1, h2⟩ := z.dn hin
          by_cases q : c0 < c
          · exact hl c0 q h2
          · exact hl u (by omega) (h2.sw hin ht (by omega) h1)
      | succ q ihq =>
        intro c d hc hl h
        by_cases cm : c < m
        · have sb := (h.2.1 c (by omega)).sub (h.2.2 i hin)
          by_cases B : ∀ j, j < i → t j = c → R j i
          · have z : (d 102 c &&& (d 101 i ^^^ iI (-1))) = iI 0 := sb.mpr (fun k hk w => ⟨by omega, B k w.1 w.2⟩)
            obtain ⟨u', m1, m2, m3, m4⟩ : ∃ u' : Nat, a_max (iI u) (iI ((c : Int) + 1)) = iI u' ∧ u' ≤ m ∧ u ≤ u' ∧ c + 1 ≤ u' := by
              by_cases g : c = u
              · exact ⟨c + 1, iI_maxR (by omega), by omega, by omega, by omega⟩
              · exact ⟨u, iI_maxL (by omega), by omega, by omega, by omega⟩
            have step := ih u' (upT t i c) _ m2 (fun j hj => ?_) (fun a b h1 h2 h3 => ?_) (h.put hin (by omega) hn)
            · rw [show ((i + 1 : Nat) : Int) = (i : Int) + 1 from by omega] at step
              rcases step with ⟨d', s, X, g1, g2, g3, g4⟩ | ⟨d', X, g1, g2, g3⟩
              · obtain ⟨l1, l2⟩ := lsT_up g1 g2 hl
                refine Or.inl ⟨d', s, ?_, l2, l1, g3, fun o a b => (g4 o a b).trans (by rw [uI_o b, uI_o a])⟩
                rw [a_run_step (st := stX8_assign (FX8_assign f)) (p2 := (100000, [some (.int (iI 1))], d', e)) (by
                  show sX8_assign_10 (FX8_assign f) d e _ _ _ _ _ = _
                  unfold sX8_assign_10
                  simp (disch := omega) only [nI_iI, lN_lJ, iI_0, lJ_0, iI_add, iI_sub, iI_mul, iI_neg, lJ_add, lJ_sub, lJ_mul, lJ_neg, i_l, l_i, iI_cl, iI_inb, iI_eqT, iI_eqF, iI_ltT, iI_ltF, iI_leT, iI_leF, lJ_eqT, lJ_eqF, lJ_cG, lJ_cE, lJ_cL, lJ_cF, lJ_cGE, lJ_cLE, lJ_cNL, lJ_cNG, Int.cast_ofNat_Int, c_0, c_1, Int.natCast_add, Int.add_zero, cond_true, cond_false, Bool.and_self, Bool.and_true, Bool.true_and, Option.bind_some, decide_true, uI_hit, uI_miss, uI_o, uA_o, uA_s, ↓reduceIte, eq_self, true_or, or_true, or_false, false_or, true_and, and_true, false_and, and_false, or_self, and_self, not_false_eq_true, not_true_eq_false, tn_i, Int.toNat_natCast, z, m1, X]) rfl, a_run_end]
              · have k := ihq (c + 1) (uI d' 102 c (d' 102 c &&& (a_shl (iI 1) (iI (i : Nat)) ^^^ iI (-1)))) (by omega) (fun c' hc' => ?_) (g2.off hin (by omega) hn)
                · have fr : Kt d (uI d' 102 c (d' 102 c &&& (a_shl (iI 1) (iI (i : Nat)) ^^^ iI (-1)))) := fun o a b => by rw [uI_o b, g3 o a b, uI_o b, uI_o a]
                  have st : stX8_assign (FX8_assign f) (10, [some (.ref 99), some (.int (iI (i : Nat))), some (.int (iI n)), some (.int (iI u)), some (.int (iI m)), some (.int (iI (c : Nat)))], d, e) = some (10, [some (.ref 99), some (.int (iI (i : Nat))), some (.int (iI n)), some (.int (iI u)), some (.int (iI m)), some (.int (iI (c + 1 : Nat)))], uI d' 102 c (d' 102 c &&& (a_shl (iI 1) (iI (i : Nat)) ^^^ iI (-1))), e) := by
                    show sX8_assign_10 (FX8_assign f) d e _ _ _ _ _ = _
                    unfold sX8_assign_10
                    simp (disch := omega) only [nI_iI, lN_lJ, iI_0, lJ_0, iI_add, iI_sub, iI_mul, iI_neg, lJ_add, lJ_sub, lJ_mul, lJ_neg, i_l, l_i, iI_cl, iI_inb, iI_eqT, iI_eqF, iI_ltT, iI_ltF, iI_leT, iI_leF, lJ_eqT, lJ_eqF, lJ_cG, lJ_cE, lJ_cL, lJ_cF, lJ_cGE, lJ_cLE, lJ_cNL, lJ_cNG, Int.cast_ofNat_Int, c_0, c_1, Int.natCast_add, Int.add_zero, cond_true, cond_false, Bool.and_self, Bool.and_true, Bool.true_and, Option.bind_some, decide_true, uI_hit, uI_miss, uI_o, uA_o, uA_s, ↓reduceIte, eq_self, true_or, or_true, or_false, false_or, true_and, and_true, false_and, and_false, or_self, and_self, not_false_eq_true, not_true_eq_false, tn_i, Int.toNat_natCast, z, m1, X]
                  rcases k with ⟨d2, s, X2, k1, k2, k3, k4⟩ | ⟨d2, X2, k1, k2, k3⟩
                  · exact Or.inl ⟨d2, s, (a_run_step st rfl).trans X2, k1, k2, k3, fr.trans k4⟩
                  · exact Or.inr ⟨d2, (a_run_step st rfl).trans X2, k1, k2, fr.trans k3⟩
                · by_cases w : c' = c
                  · rw [w]; exact g1
                  · exact hl c' (by omega)
            · by_cases w : j = i
              · rw [w, upT_h]; omega
              · rw [upT_o w]; have := ht j (by omega); omega
            · by_cases w : b = i
              · subst w
                rw [upT_h, upT_o (by omega)] at h3
                exact B a h1 h3
              · rw [upT_o (by omega), upT_o w] at h3
                exact hv a b h1 (by omega) h3
          · have z : ¬(d 102 c &&& (d 101 i ^^^ iI (-1))) = iI 0 := fun w => B (fun j h1 h2 => ((sb.mp w) j (by omega) ⟨h1, h2⟩).2)
            have k := ihq (c + 1) d (by omega) (fun c' hc' => ?_) h
            · have st : stX8_assign (FX8_assign f) (10, [some (.ref 99), some (.int (iI (i : Nat))), some (.int (iI n)), some (.int (iI u)), some (.int (iI m)), some (.int (iI (c : Nat)))], d, e) = some (10, [some (.ref 99), some (.int (iI (i : Nat))), some (.int (iI n)), some (.int (iI u)), some (.int (iI m)), some (.int (iI (c + 1 : Nat)))], d, e) := by
                show sX8_assign_10 (FX8_assign f) d e _ _ _ _ _ = _
                unfold sX8_assign_10
                simp (disch := omega) only [nI_iI, lN_lJ, iI_0, lJ_0, iI_add, iI_sub, iI_mul, iI_neg, lJ_add, lJ_sub, lJ_mul, lJ_neg, i_l, l_i, iI_cl, iI_inb, iI_eqT, iI_eqF, iI_ltT, iI_ltF, iI_leT, iI_leF, lJ_eqT, lJ_eqF, lJ_cG, lJ_cE, lJ_cL, lJ_cF, lJ_cGE, lJ_cLE, lJ_cNL, lJ_cNG, Int.cast_ofNat_Int, c_0, c_1, Int.natCast_add, Int.add_zero, cond_true, cond_false, Bool.and_self, Bool.and_true, Bool.true_and, Option.bind_some, decide_true, uI_hit, uI_miss, uI_o, uA_o, uA_s, ↓reduceIte, eq_self, true_or, or_true, or_false, false_or, true_and, and_true, false_and, and_false, or_self, and_self, not_false_eq_true, not_true_eq_false, tn_i, Int.toNat_natCast, z]
              rcases k with ⟨d2, s, X2, k1, k2, k3, k4⟩ | ⟨d2, X2, k1, k2, k3⟩
              · exact Or.inl ⟨d2, s, (a_run_step st rfl).trans X2, k1, k2, k3, k4⟩
              · exact Or.inr ⟨d2, (a_run_step st rfl).trans X2, k1, k2, k3⟩
            · by_cases w : c' = c
              · rw [w]; exact fun y => B (y.bad hin)
              · exact hl c' (by omega)
        · refine Or.inr ⟨d, ?_, fun z => ?_, h, Kt.refl d⟩
          · rw [a_run_step (st := stX8_assign (FX8_assign f)) (p2 := (100000, [some (.int (iI 0))], d, e)) (by
              show sX8_assign_10 (FX8_assign f) d e _ _ _ _ _ = _
              unfold sX8_assign_10
              simp (disch := omega) only [nI_iI, lN_lJ, iI_0, lJ_0, iI_add, iI_sub, iI_mul, iI_neg, lJ_add, lJ_sub, lJ_mul, lJ_neg, i_l, l_i, iI_cl, iI_inb, iI_eqT, iI_eqF, iI_ltT, iI_ltF, iI_leT, iI_leF, lJ_eqT, lJ_eqF, lJ_cG, lJ_cE, lJ_cL, lJ_cF, lJ_cGE, lJ_cLE, lJ_cNL, lJ_cNG, Int.cast_ofNat_Int, c_0, c_1, Int.natCast_add, Int.add_zero, cond_true, cond_false, Bool.and_self, Bool.and_true, Bool.true_and, Option.bind_some, decide_true, uI_hit, uI_miss, uI_o, uA_o, uA_s, ↓reduceIte, eq_self, true_or, or_true, or_false, false_or, true_and, and_true, false_and, and_false, or_self, and_self, not_false_eq_true, not_true_eq_false, tn_i]) rfl, a_run_end]
          · obtain ⟨c0, h1, h2⟩ := z.dn hin
            exact hl c0 (by omega) h2
    have st : stX8_assign (FX8_assign f) (0, [some (.ref 99), some (.int (iI (i : Nat))), some (.int (iI n)), some (.int (iI u)), some (.int (iI m)), none], d, e) = some (10, [some (.ref 99), some (.int (iI (i : Nat))), some (.int (iI n)), some (.int (iI u)), some (.int (iI m)), some (.int (iI (0 : Nat)))], d, e) := by
      show sX8_assign_0 (FX8_assign f) d e _ _ _ _ = _
      unfold sX8_assign_0
      simp (disch := omega) only [nI_iI, lN_lJ, iI_0, lJ_0, iI_add, iI_sub, iI_mul, iI_neg, lJ_add, lJ_sub, lJ_mul, lJ_neg, i_l, l_i, iI_cl, iI_inb, iI_eqT, iI_eqF, iI_ltT, iI_ltF, iI_leT, iI_leF, lJ_eqT, lJ_eqF, lJ_cG, lJ_cE, lJ_cL, lJ_cF, lJ_cGE, lJ_cLE, lJ_cNL, lJ_cNG, Int.cast_ofNat_Int, c_0, c_1, Int.natCast_add, Int.add_zero, cond_true, cond_false, Bool.and_self, Bool.and_true, Bool.true_and, Option.bind_some, decide_true, uI_hit, uI_miss, uI_o, uA_o, uA_s, ↓reduceIte, eq_self, true_or, or_true, or_false, false_or, true_and, and_true, false_and, and_false, or_self, and_self, not_false_eq_true, not_true_eq_false, tn_i]
    rcases loop (u + 1) 0 d (by omega) (fun c' hc' => by omega) h with ⟨d2, s, X2, k1, k2, k3, k4⟩ | ⟨d2, X2, k1, k2, k3⟩
    · refine Or.inl ⟨d2, s, ?_, k1, k2, k3, k4⟩
      show FX8_assignB (FX8_assign f) d e _ _ _ _ = _
      unfold FX8_assignB
      rw [a_run_step st rfl, X2]
      rfl
    · refine Or.inr ⟨d2, ?_, k1, k2, k3⟩
      show FX8_assignB (FX8_assign f) d e _ _ _ _ = _
      unfold FX8_assignB
      rw [a_run_step st rfl, X2]
      rfl
theorem cq_friendsOf {d : aI} {e : aJ} {A : Int → Int} (hN : NT d 13 A 5 66 2 10) (hS : SI A) {i : Nat} (hi : (i : Int) < A 5) : ∃ x, FX8_friendsOf d e (iI i) = some (x, d, e) ∧ BM x (fun k => k < (A 5).toNat ∧ rlS A k i) := by
  have b5 := hS.nts.1.1
  have n4 : d 13 4 = iI (A 5) := hN.2.1
  have key := run_invR (st := stX8_friendsOf) (fun k p => ∃ x, p = (4, [some (.ref 13), some (.int (iI i)), some (.int x), some (.int (iI (k : Nat)))], d, e) ∧ BM x (fun j => j < k ∧ canS A i j)) (A 5).toNat (p0 := (4, [some (.ref 13), some (.int (iI i)), some (.int (iI 0)), some (.int (iI (0 : Nat)))], d, e)) ⟨iI 0, rfl, BM.zero (fun k z => by omega)⟩ ?_
  · obtain ⟨p, ⟨x, rfl, hx⟩, t1⟩ := key
    refine ⟨x, ?_, hx.cg (fun k hk => ⟨fun z => ⟨z.1, canS_sy.mp z.2⟩, fun z => ⟨z.1, canS_sy.mp z.2⟩⟩)⟩
    unfold FX8_friendsOf
    rw [a_run_step (st := stX8_friendsOf) (p := (0, [some (.ref 13), some (.int (iI i)), none, none], d, e)) (p2 := (4, [some (.ref 13), some (.int (iI i)), some (.int (iI 0)), some (.int (iI (0 : Nat)))], d, e)) rfl rfl, t1, a_run_step (st := stX8_friendsOf) (p2 := (100000, [some (.int x)], d, e)) (by
      show sX8_friendsOf_4 d e _ _ _ = _
      unfold sX8_friendsOf_4
      simp (disch := omega) only [nI_iI, lN_lJ, iI_0, lJ_0, iI_add, iI_sub, iI_mul, iI_neg, lJ_add, lJ_sub, lJ_mul, lJ_neg, i_l, l_i, iI_cl, iI_inb, iI_eqT, iI_eqF, iI_ltT, iI_ltF, iI_leT, iI_leF, lJ_eqT, lJ_eqF, lJ_cG, lJ_cE, lJ_cL, lJ_cF, lJ_cGE, lJ_cLE, lJ_cNL, lJ_cNG, Int.cast_ofNat_Int, c_0, c_1, Int.natCast_add, Int.add_zero, cond_true, cond_false, Bool.and_self, Bool.and_true, Bool.true_and, Option.bind_some, decide_true, uI_hit, uI_miss, uI_o, uA_o, uA_s, ↓reduceIte, eq_self, true_or, or_true, or_false, false_or, true_and, and_true, false_and, and_false, or_self, and_self, not_false_eq_true, not_true_eq_false, tn_i, n4]) rfl, a_run_end]
    rfl
  · rintro k p hk ⟨x, rfl, hx⟩
    have q := cq_canBeOne (d := d) (e := e) hN hS (i := i) (j := k) hi (by omega)
    by_cases c : canS A i k
    · rw [if_pos c] at q
      refine ⟨_, a_run_step (p2 := (4, [some (.ref 13), some (.int (iI i)), some (.int (x ||| a_shl (iI 1) (iI (k : Nat)))), some (.int (iI (k + 1 : Nat)))], d, e)) ?_ rfl, _, rfl, (hx.or (by omega)).cg (fun j hj => ⟨fun z => ?_, fun z => ?_⟩)⟩
      · show sX8_friendsOf_4 d e _ _ _ = _
        unfold sX8_friendsOf_4
        simp (disch := omega) only [nI_iI, lN_lJ, iI_0, lJ_0, iI_add, iI_sub, iI_mul, iI_neg, lJ_add, lJ_sub, lJ_mul, lJ_neg, i_l, l_i, iI_cl, iI_inb, iI_eqT, iI_eqF, iI_ltT, iI_ltF, iI_leT, iI_leF, lJ_eqT, lJ_eqF, lJ_cG, lJ_cE, lJ_cL, lJ_cF, lJ_cGE, lJ_cLE, lJ_cNL, lJ_cNG, Int.cast_ofNat_Int, c_0, c_1, Int.natCast_add, Int.add_zero, cond_true, cond_false, Bool.and_self, Bool.and_true, Bool.true_and, Option.bind_some, decide_true, uI_hit, uI_miss, uI_o, uA_o, uA_s, ↓reduceIte, eq_self, true_or, or_true, or_false, false_or, true_and, and_true, false_and, and_false, or_self, and_self, not_false_eq_true, not_true_eq_false, tn_i, n4, q]
      · rcases z with z | z
        · exact ⟨by omega, z.2⟩
        · exact ⟨by omega, by rw [z]; exact c⟩
      · by_cases w : j = k
        · exact Or.inr w
        · exact Or.inl ⟨by omega, z.2⟩
    · rw [if_neg c] at q
      refine ⟨_, a_run_step (p2 := (4, [some (.ref 13), some (.int (iI i)), some (.int (x ||| iI 0)), some (.int (iI (k + 1 : Nat)))], d, e)) ?_ rfl, _, rfl, hx.or0.cg (fun j hj => ⟨fun z => ⟨by omega, z.2⟩, fun z => ?_⟩)⟩
      · show sX8_friendsOf_4 d e _ _ _ = _
        unfold sX8_friendsOf_4
        simp (disch := omega) only [nI_iI, lN_lJ, iI_0, lJ_0, iI_add, iI_sub, iI_mul, iI_neg, lJ_add, lJ_sub, lJ_mul, lJ_neg, i_l, l_i, iI_cl, iI_inb, iI_eqT, iI_eqF, iI_ltT, iI_ltF, iI_leT, iI_leF, lJ_eqT, lJ_eqF, lJ_cG, lJ_cE, lJ_cL, lJ_cF, lJ_cGE, lJ_cLE, lJ_cNL, lJ_cNG, Int.cast_ofNat_Int, c_0, c_1, Int.natCast_add, Int.add_zero, cond_true, cond_false, Bool.and_self, Bool.and_true, Bool.true_and, Option.bind_some, decide_true, uI_hit, uI_miss, uI_o, uA_o, uA_s, ↓reduceIte, eq_self, true_or, or_true, or_false, false_or, true_and, and_true, false_and, and_false, or_self, and_self, not_false_eq_true, not_true_eq_false, tn_i, n4, q]
      · by_cases w : j = k
        · rw [w] at z; exact absurd z.2 c
        · exact ⟨by omega, z.2⟩
theorem cq_follow {d : aI} {e : aJ} {A : Int → Int} (hN : NT d 13 A 5 66 2 10) (hS : SI A) {m : Nat} {s : Nat → Nat} (hm : m ≤ (A 5).toNat) (hs : lsT (rlS A) m (A 5).toNat 0 s) (hl : ∀ m', m' < m → ∀ t, ¬exT (rlS A) m' (A 5).toNat 0 t) : ∃ d', FX8_follow d e = some ((), d', e) ∧ d' 99 3 = iI m ∧ (∀ j, j < (A 5).toNat → d' 100 j = iI (s j : Nat)) ∧ (∀ o, (o < 99 ∨ 102 < o) → d' o = d o) := by
  have b5 := hS.nts.1.1
  obtain ⟨n, hn⟩ := Int.eq_ofNat_of_zero_le (show 0 ≤ A 5 by omega)
  have n4 : d 13 4 = iI (n : Int) := by rw [← hn]; exact hN.2.1
  have nn : (A 5).toNat = n := by omega
  rw [nn] at hm hs hl ⊢
  have fill := run_invR (st := stX8_follow) (fun k p => ∃ d', p = (7, [some (.ref 99), some (.ref 13), some (.int (iI n)), some (.int (iI (k : Nat))), none], d', e) ∧ (∀ c, c < k → d' 102 c = iI 0) ∧ (∀ j, j < k → BM (d' 101 j) (fun k => k < n ∧ rlS A k j)) ∧ (∀ o, o ≠ 101 → o ≠ 102 → d' o = d o)) n (p0 := (7, [some (.ref 99), some (.ref 13), some (.int (iI n)), some (.int (iI (0 : Nat))), none], d, e)) ⟨d, rfl, fun c hc => by omega, fun c hc => by omega, fun _ _ _ => rfl⟩ ?_
  rotate_left
  · rintro k p hk ⟨d', rfl, g1, g2, g3⟩
    obtain ⟨x, q, hx⟩ := cq_friendsOf (d := uI d' 102 k (iI 0)) (e := e) (hN.of (fun o a b => by rw [uI_o (by omega)]; exact g3 o (by omega) (by omega))) hS (i := k) (by omega)
    rw [nn] at hx
    refine ⟨_, a_run_step (p2 := (7, [some (.ref 99), some (.ref 13), some (.int (iI n)), some (.int (iI (k + 1 : Nat))), none], uI (uI d' 102 k (iI 0)) 101 k x, e)) ?_ rfl, _, rfl, fun c hc => ?_, fun j hj => ?_, fun o a b => by rw [uI_o a, uI_o b]; exact g3 o a b⟩
    · show sX8_follow_7 d' e _ _ _ = _
      unfold sX8_follow_7
      simp (disch := omega) only [nI_iI, lN_lJ, iI_0, lJ_0, iI_add, iI_sub, iI_mul, iI_neg, lJ_add, lJ_sub, lJ_mul, lJ_neg, i_l, l_i, iI_cl, iI_inb, iI_eqT, iI_eqF, iI_ltT, iI_ltF, iI_leT, iI_leF, lJ_eqT, lJ_eqF, lJ_cG, lJ_cE, lJ_cL, lJ_cF, lJ_cGE, lJ_cLE, lJ_cNL, lJ_cNG, Int.cast_ofNat_Int, c_0, c_1, Int.natCast_add, Int.add_zero, cond_true, cond_false, Bool.and_self, Bool.and_true, Bool.true_and, Option.bind_some, decide_true, uI_hit, uI_miss, uI_o, uA_o, uA_s, ↓reduceIte, eq_self, true_or, or_true, or_false, false_or, true_and, and_true, false_and, and_false, or_self, and_self, not_false_eq_true, not_true_eq_false, tn_i, Int.toNat_natCast, q]
    · rw [uI_o (by omega)]
      by_cases w : c = k
      · rw [uI_hit w]
      · rw [uI_miss w]; exact g1 c (by omega)
    · by_cases w : j = k
      · rw [uI_hit w, w]; exact hx
      · rw [uI_miss w, uI_o (by omega)]; exact g2 j (by omega)
  obtain ⟨p, ⟨d1, rfl, g1, g2, g3⟩, t1⟩ := fill
  have st0 : stX8_follow (0, [some (.ref 99), some (.ref 13), none, none, none], d, e) = some (7, [some (.ref 99), some (.ref 13), some (.int (iI n)), some (.int (iI (0 : Nat))), none], d, e) := by
    show sX8_follow_0 d e = _
    unfold sX8_follow_0
    simp (disch := omega) only [nI_iI, lN_lJ, iI_0, lJ_0, iI_add, iI_sub, iI_mul, iI_neg, lJ_add, lJ_sub, lJ_mul, lJ_neg, i_l, l_i, iI_cl, iI_inb, iI_eqT, iI_eqF, iI_ltT, iI_ltF, iI_leT, iI_leF, lJ_eqT, lJ_eqF, lJ_cG, lJ_cE, lJ_cL, lJ_cF, lJ_cGE, lJ_cLE, lJ_cNL, lJ_cNG, Int.cast_ofNat_Int, c_0, c_1, Int.natCast_add, Int.add_zero, cond_true, cond_false, Bool.and_self, Bool.and_true, Bool.true_and, Option.bind_some, decide_true, uI_hit, uI_miss, uI_o, uA_o, uA_s, ↓reduceIte, eq_self, true_or, or_true, or_false, false_or, true_and, and_true, false_and, and_false, or_self, and_self, not_false_eq_true, not_true_eq_false, tn_i, n4]
  have ca : CA (uI d1 99 3 (iI 0)) (rlS A) n 0 s := by
    refine ⟨fun j hj => by omega, fun c hc => ?_, fun j hj => ?_⟩
    · rw [uI_o (by omega), g1 c hc]
      exact BM.zero (fun k z => by omega)
    · rw [uI_o (by omega)]
      exact g2 j hj
  have fr : ∀ o, (o < 99 ∨ 102 < o) → (uI d1 99 3 (iI 0)) o = d o := fun o ho => by rw [uI_o (by omega)]; exact g3 o (by omega) (by omega)
  by_cases n0 : n = 0
  · refine ⟨uI d1 99 3 (iI 0), ?_, ?_, fun j hj => by omega, fr⟩
    · subst n0
      unfold FX8_follow
      rw [a_run_step st0 rfl, t1, a_run_step (st := stX8_follow) (p2 := (54, [some (.ref 99), some (.ref 13), some (.int (iI (0 : Nat))), some (.int (iI 1)), some (.int (iI 1))], uI d1 99 3 (iI 0), e)) (by
        show sX8_follow_7 d1 e _ _ _ = _
        unfold sX8_follow_7
        simp (disch := omega) only [nI_iI, lN_lJ, iI_0, lJ_0, iI_add, iI_sub, iI_mul, iI_neg, lJ_add, lJ_sub, lJ_mul, lJ_neg, i_l, l_i, iI_cl, iI_inb, iI_eqT, iI_eqF, iI_ltT, iI_ltF, iI_leT, iI_leF, lJ_eqT, lJ_eqF, lJ_cG, lJ_cE, lJ_cL, lJ_cF, lJ_cGE, lJ_cLE, lJ_cNL, lJ_cNG, Int.cast_ofNat_Int, c_0, c_1, Int.natCast_add, Int.add_zero, cond_true, cond_false, Bool.and_self, Bool.and_true, Bool.true_and, Option.bind_some, decide_true, uI_hit, uI_miss, uI_o, uA_o, uA_s, ↓reduceIte, eq_self, true_or, or_true, or_false, false_or, true_and, and_true, false_and, and_false, or_self, and_self, not_false_eq_true, not_true_eq_false, tn_i]) rfl, a_run_step (st := stX8_follow) (p2 := (100000, [], uI d1 99 3 (iI 0), e)) (by
        show sX8_follow_54 _ e _ _ _ = _
        unfold sX8_follow_54
        simp (disch := omega) only [nI_iI, lN_lJ, iI_0, lJ_0, iI_add, iI_sub, iI_mul, iI_neg, lJ_add, lJ_sub, lJ_mul, lJ_neg, i_l, l_i, iI_cl, iI_inb, iI_eqT, iI_eqF, iI_ltT, iI_ltF, iI_leT, iI_leF, lJ_eqT, lJ_eqF, lJ_cG, lJ_cE, lJ_cL, lJ_cF, lJ_cGE, lJ_cLE, lJ_cNL, lJ_cNG, Int.cast_ofNat_Int, c_0, c_1, Int.natCast_add, Int.add_zero, cond_true, cond_false, Bool.and_self, Bool.and_true, Bool.true_and, Option.bind_some, decide_true, uI_hit, uI_miss, uI_o, uA_o, uA_s, ↓reduceIte, eq_self, true_or, or_true, or_false, false_or, true_and, and_true, false_and, and_false, or_self, and_self, not_false_eq_true, not_true_eq_false, tn_i]) rfl, a_run_end]
      rfl
    · rw [uI_hit rfl, show m = 0 by omega]; rfl
  · have m0 : 0 < m := by have := hs.1 0 (by omega); omega
    have st1 : stX8_follow (7, [some (.ref 99), some (.ref 13), some (.int (iI n)), some (.int (iI n)), none], d1, e) = some (54, [some (.ref 99), some (.ref 13), some (.int (iI n)), some (.int (iI 0)), some (.int (iI (0 + 1 : Nat)))], uI d1 99 3 (iI 0), e) := by
      show sX8_follow_7 d1 e _ _ _ = _
      unfold sX8_follow_7
      simp (disch := omega) only [nI_iI, lN_lJ, iI_0, lJ_0, iI_add, iI_sub, iI_mul, iI_neg, lJ_add, lJ_sub, lJ_mul, lJ_neg, i_l, l_i, iI_cl, iI_inb, iI_eqT, iI_eqF, iI_ltT, iI_ltF, iI_leT, iI_leF, lJ_eqT, lJ_eqF, lJ_cG, lJ_cE, lJ_cL, lJ_cF, lJ_cGE, lJ_cLE, lJ_cNL, lJ_cNG, Int.cast_ofNat_Int, c_0, c_1, Int.natCast_add, Int.add_zero, cond_true, cond_false, Bool.and_self, Bool.and_true, Bool.true_and, Option.bind_some, decide_true, uI_hit, uI_miss, uI_o, uA_o, uA_s, ↓reduceIte, eq_self, true_or, or_true, or_false, false_or, true_and, and_true, false_and, and_false, or_self, and_self, not_false_eq_true, not_true_eq_false, tn_i, Int.zero_add]
    have asg := fun k (hk : k ≤ n) d' (h : CA d' (rlS A) n 0 s) => cq_assign (e := e) (R := rlS A) (m := k) (n := n) (by omega) hk n 0 0 s d' 12 (by omega) (by omega) (by omega) (fun j hj => by omega) (fun a b h1 h2 => by omega) h
    have cu : ∀ {d' : aI} {v : Int32}, CA d' (rlS A) n 0 s → CA (uI d' 99 3 v) (rlS A) n 0 s := fun h => ⟨fun j hj => by omega, fun c hc => by rw [uI_o (by omega)]; exact h.2.1 c hc, fun j hj => by rw [uI_o (by omega)]; exact h.2.2 j hj⟩
    have most := run_invR (st := stX8_follow) (fun k p => ∃ d', p = (54, [some (.ref 99), some (.ref 13), some (.int (iI n)), some (.int (iI 0)), some (.int (iI (k + 1 : Nat)))], d', e) ∧ CA d' (rlS A) n 0 s ∧ (∀ o, (o < 99 ∨ 102 < o) → d' o = d o)) (m - 1) (p0 := (54, [some (.ref 99), some (.ref 13), some (.int (iI n)), some (.int (iI 0)), some (.int (iI (0 + 1 : Nat)))], uI d1 99 3 (iI 0), e)) ⟨_, rfl, ca, fr⟩ ?_
    rotate_left
    · rintro k p hk ⟨d', rfl, c1, c2⟩
      rcases asg (k + 1) (by omega) (uI d' 99 3 (iI (k + 1 : Nat))) (cu c1) with ⟨d2, s2, X, _, h2, _, _⟩ | ⟨d2, X, h1, h2, h3⟩
      · exact absurd h2.ex (hl (k + 1) (by omega) s2)
      · refine ⟨_, a_run_step (p2 := (54, [some (.ref 99), some (.ref 13), some (.int (iI n)), some (.int (iI 0)), some (.int (iI (k + 1 + 1 : Nat)))], d2, e)) ?_ rfl, d2, rfl, h2, fun o ho => by rw [h3 o (by omega) (by omega), uI_o (by omega)]; exact c2 o ho⟩
        show sX8_follow_54 d' e _ _ _ = _
        unfold sX8_follow_54
        have X2 : FX8_assign 12 (uI d' 99 3 (iI ((k : Int) + 1))) e (iI 0) (iI n) (iI 0) (iI ((k : Int) + 1)) = some (iI 0, d2, e) := X
        simp (disch := omega) only [nI_iI, lN_lJ, iI_0, lJ_0, iI_add, iI_sub, iI_mul, iI_neg, lJ_add, lJ_sub, lJ_mul, lJ_neg, i_l, l_i, iI_cl, iI_inb, iI_eqT, iI_eqF, iI_ltT, iI_ltF, iI_leT, iI_leF, lJ_eqT, lJ_eqF, lJ_cG, lJ_cE, lJ_cL, lJ_cF, lJ_cGE, lJ_cLE, lJ_cNL, lJ_cNG, Int.cast_ofNat_Int, c_0, c_1, Int.natCast_add, Int.add_zero, cond_true, cond_false, Bool.and_self, Bool.and_true, Bool.true_and, Option.bind_some, decide_true, uI_hit, uI_miss, uI_o, uA_o, uA_s, ↓reduceIte, eq_self, true_or, or_true, or_false, false_or, true_and, and_true, false_and, and_false, or_self, and_self, not_false_eq_true, not_true_eq_false, tn_i, X2]
    obtain ⟨p, ⟨d2, rfl, c1, c2⟩, t2⟩ := most
    rw [show m - 1 + 1 = m by omega] at t2
    rcases asg m hm (uI d2 99 3 (iI m)) (cu c1) with ⟨d3, s3, X, _, h2, h3, h4⟩ | ⟨d3, X, h1, _, _⟩
    · have se := lsT_eq hs h2
      refine ⟨d3, ?_, ?_, fun j hj => by rw [h3 j hj, se j hj], fun o ho => by rw [h4 o (by omega) (by omega), uI_o (by omega)]; exact c2 o ho⟩
      · unfold FX8_follow
        rw [a_run_step st0 rfl, t1, a_run_step st1 rfl, t2, a_run_step (st := stX8_follow) (p2 := (54, [some (.ref 99), some (.ref 13), some (.int (iI n)), some (.int (iI 1)), some (.int (iI (m + 1 : Nat)))], d3, e)) (by
          show sX8_follow_54 d2 e _ _ _ = _
          unfold sX8_follow_54
          have X2 : FX8_assign 12 (uI d2 99 3 (iI m)) e (iI 0) (iI n) (iI 0) (iI m) = some (iI 1, d3, e) := X
          simp (disch := omega) only [nI_iI, lN_lJ, iI_0, lJ_0, iI_add, iI_sub, iI_mul, iI_neg, lJ_add, lJ_sub, lJ_mul, lJ_neg, i_l, l_i, iI_cl, iI_inb, iI_eqT, iI_eqF, iI_ltT, iI_ltF, iI_leT, iI_leF, lJ_eqT, lJ_eqF, lJ_cG, lJ_cE, lJ_cL, lJ_cF, lJ_cGE, lJ_cLE, lJ_cNL, lJ_cNG, Int.cast_ofNat_Int, c_0, c_1, Int.natCast_add, Int.add_zero, cond_true, cond_false, Bool.and_self, Bool.and_true, Bool.true_and, Option.bind_some, decide_true, uI_hit, uI_miss, uI_o, uA_o, uA_s, ↓reduceIte, eq_self, true_or, or_true, or_false, false_or, true_and, and_true, false_and, and_false, or_self, and_self, not_false_eq_true, not_true_eq_false, tn_i, X2]) rfl, a_run_step (st := stX8_follow) (p2 := (100000, [], d3, e)) (by
          show sX8_follow_54 d3 e _ _ _ = _
          unfold sX8_follow_54
          by_cases w : n < m + 1
          · simp (disch := omega) only [nI_iI, lN_lJ, iI_0, lJ_0, iI_add, iI_sub, iI_mul, iI_neg, lJ_add, lJ_sub, lJ_mul, lJ_neg, i_l, l_i, iI_cl, iI_inb, iI_eqT, iI_eqF, iI_ltT, iI_ltF, iI_leT, iI_leF, lJ_eqT, lJ_eqF, lJ_cG, lJ_cE, lJ_cL, lJ_cF, lJ_cGE, lJ_cLE, lJ_cNL, lJ_cNG, Int.cast_ofNat_Int, c_0, c_1, Int.natCast_add, Int.add_zero, cond_true, cond_false, Bool.and_self, Bool.and_true, Bool.true_and, Option.bind_some, decide_true, uI_hit, uI_miss, uI_o, uA_o, uA_s, ↓reduceIte, eq_self, true_or, or_true, or_false, false_or, true_and, and_true, false_and, and_false, or_self, and_self, not_false_eq_true, not_true_eq_false, tn_i]
          · simp (disch := omega) only [nI_iI, lN_lJ, iI_0, lJ_0, iI_add, iI_sub, iI_mul, iI_neg, lJ_add, lJ_sub, lJ_mul, lJ_neg, i_l, l_i, iI_cl, iI_inb, iI_eqT, iI_eqF, iI_ltT, iI_ltF, iI_leT, iI_leF, lJ_eqT, lJ_eqF, lJ_cG, lJ_cE, lJ_cL, lJ_cF, lJ_cGE, lJ_cLE, lJ_cNL, lJ_cNG, Int.cast_ofNat_Int, c_0, c_1, Int.natCast_add, Int.add_zero, cond_true, cond_false, Bool.and_self, Bool.and_true, Bool.true_and, Option.bind_some, decide_true, uI_hit, uI_miss, uI_o, uA_o, uA_s, ↓reduceIte, eq_self, true_or, or_true, or_false, false_or, true_and, and_true, false_and, and_false, or_self, and_self, not_false_eq_true, not_true_eq_false, tn_i]) rfl, a_run_end]
        rfl
      · rw [h4 99 (by omega) (by omega), uI_hit rfl]
    · exact absurd (hs.ex.cg (fun i hi => by omega)) h1
-- reference
def Ko (d d' : aI) : Prop := ∀ o, o ≠ 118 → d' o = d o
theorem Ko.refl (d : aI) : Ko d d := fun _ _ => rfl
theorem Ko.trans {d d1 d2 : aI} (h : Ko d d1) (h2 : Ko d1 d2) : Ko d d2 := fun o a => (h2 o a).trans (h o a)
theorem mq_canFollow {d : aI} {e : aJ} {A : Int → Int} (hA : MA d 109 A) (hS : SI A) {s : Nat} {t : Nat → Nat} (hs : (s : Int) < A 5) (ht : ∀ j, j ≤ s → t j < 100) (hc : ∀ j, j ≤ s → d 118 j = iI (t j : Nat)) : (∀ j, j < s → t j = t s → rlS A j s) ∧ FX11_canFollow d e (iI s) = some (iI 1, d, e) ∨ ¬(∀ j, j < s → t j = t s → rlS A j s) ∧ FX11_canFollow d e (iI s) = some (iI 0, d, e) := by
  have b5 := hS.nts.1.1
  have ts := ht s (by omega)
  have key := run_fndX (st := stX11_canFollow) (V := Unit) (fun k _ => (2, [some (.ref 108), some (.int (iI s)), some (.int (iI (k : Nat)))], d, e)) (fun r _ => some ([some (.int (iI (if r = -1 then 1 else 0)))], d, e)) (fun k => t k = t s ∧ ¬canS A k s) s ?_ ?_ ?_ ()
  · obtain ⟨_, key⟩ := key
    have st : FX11_canFollow d e (iI s) = some (iI (if fnd (fun k => t k = t s ∧ ¬canS A k s) s = -1 then 1 else 0), d, e) := by
      unfold FX11_canFollow
      rw [a_run_step (st := stX11_canFollow) (p := (0, [some (.ref 108), some (.int (iI s)), none], d, e)) (p2 := (2, [some (.ref 108), some (.int (iI s)), some (.int (iI (0 : Nat)))], d, e)) rfl rfl]
      refine (congrArg (fun z => z.bind a_xI) key).trans ?_
      rfl
    by_cases f : fnd (fun k => t k = t s ∧ ¬canS A k s) s = -1
    · rw [if_pos f] at st
      refine Or.inl ⟨fun j hj h => ?_, st⟩
      have g : ¬(t j = t s ∧ ¬canS A j s) := fnd_no f j hj
      exact Classical.byContradiction (fun z => g ⟨h, z⟩)
    · rw [if_neg f] at st
      refine Or.inr ⟨fun z => ?_, st⟩
      have y := fnd_yes f
      have l := fnd_le (p := fun k => t k = t s ∧ ¬canS A k s) s
      exact y.2 (z _ (by omega) y.1)
  · intro k _ hk hp
    have tk := ht k (by omega)
    have c1 := hc k (by omega)
    have c2 := hc s (by omega)
    refine ⟨(), a_run_step ?_ rfl⟩
    show sX11_canFollow_2 d e _ _ = _
    unfold sX11_canFollow_2
    by_cases w : t k = t s
    · have r : canS A k s := Classical.byContradiction (fun z => hp ⟨w, z⟩)
      have q := mq_areOne (d := d) (e := e) hA hS (i := k) (j := s) (by omega) hs
      rw [if_pos r] at q
      simp (disch := omega) only [nI_iI, lN_lJ, iI_0, lJ_0, iI_add, iI_sub, iI_mul, iI_neg, lJ_add, lJ_sub, lJ_mul, lJ_neg, i_l, l_i, iI_cl, iI_inb, iI_eqT, iI_eqF, iI_ltT, iI_ltF, iI_leT, iI_leF, lJ_eqT, lJ_eqF, lJ_cG, lJ_cE, lJ_cL, lJ_cF, lJ_cGE, lJ_cLE, lJ_cNL, lJ_cNG, Int.cast_ofNat_Int, c_0, c_1, Int.natCast_add, Int.add_zero, cond_true, cond_false, Bool.and_self, Bool.and_true, Bool.true_and, Option.bind_some, decide_true, uI_hit, uI_miss, uI_o, uA_o, uA_s, ↓reduceIte, eq_self, true_or, or_true, or_false, false_or, true_and, and_true, false_and, and_false, or_self, and_self, not_false_eq_true, not_true_eq_false, tn_i, Int.toNat_natCast, c1, c2, q]
    · simp (disch := omega) only [nI_iI, lN_lJ, iI_0, lJ_0, iI_add, iI_sub, iI_mul, iI_neg, lJ_add, lJ_sub, lJ_mul, lJ_neg, i_l, l_i, iI_cl, iI_inb, iI_eqT, iI_eqF, iI_ltT, iI_ltF, iI_leT, iI_leF, lJ_eqT, lJ_eqF, lJ_cG, lJ_cE, lJ_cL, lJ_cF, lJ_cGE, lJ_cLE, lJ_cNL, lJ_cNG, Int.cast_ofNat_Int, c_0, c_1, Int.natCast_add, Int.add_zero, cond_true, cond_false, Bool.and_self, Bool.and_true, Bool.true_and, Option.bind_some, decide_true, uI_hit, uI_miss, uI_o, uA_o, uA_s, ↓reduceIte, eq_self, true_or, or_true, or_false, false_or, true_and, and_true, false_and, and_false, or_self, and_self, not_false_eq_true, not_true_eq_false, tn_i, Int.toNat_natCast, c1, c2]
  · rintro k _ hk ⟨w, r⟩
    have tk := ht k (by omega)
    have c1 := hc k (by omega)
    have c2 := hc s (by omega)
    have q := mq_areOne (d := d) (e := e) hA hS (i := k) (j := s) (by omega) hs
    rw [if_neg r] at q
    refine ⟨(), ?_⟩
    rw [if_neg (by omega), a_run_step (st := stX11_canFollow) (p2 := (100000, [some (.int (iI 0))], d, e)) (by
      show sX11_canFollow_2 d e _ _ = _
      unfold sX11_canFollow_2
      simp (disch := omega) only [nI_iI, lN_lJ, iI_0, lJ_0, iI_add, iI_sub, iI_mul, iI_neg, lJ_add, lJ_sub, lJ_mul, lJ_neg, i_l, l_i, iI_cl, iI_inb, iI_eqT, iI_eqF, iI_ltT, iI_ltF, iI_leT, iI_leF, lJ_eqT, lJ_eqF, lJ_cG, lJ_cE, lJ_cL, lJ_cF, lJ_cGE, lJ_cLE, lJ_cNL, lJ_cNG, Int.cast_ofNat_Int, c_0, c_1, Int.natCast_add, Int.add_zero, cond_true, cond_false, Bool.and_self, Bool.and_true, Bool.true_and, Option.bind_some, decide_true, uI_hit, uI_miss, uI_o, uA_o, uA_s, ↓reduceIte, eq_self, true_or, or_true, or_false, false_or, true_and, and_true, false_and, and_false, or_self, and_self, not_false_eq_true, not_true_eq_false, tn_i, Int.toNat_natCast, c1, c2, q]) rfl, a_run_end]
  · intro _
    refine ⟨(), ?_⟩
    rw [if_pos rfl, a_run_step (st := stX11_canFollow) (p2 := (100000, [some (.int (iI 1))], d, e)) (by
      show sX11_canFollow_2 d e _ _ = _
      unfold sX11_canFollow_2
      simp (disch := omega) only [nI_iI, lN_lJ, iI_0, lJ_0, iI_add, iI_sub, iI_mul, iI_neg, lJ_add, lJ_sub, lJ_mul, lJ_neg, i_l, l_i, iI_cl, iI_inb, iI_eqT, iI_eqF, iI_ltT, iI_ltF, iI_leT, iI_leF, lJ_eqT, lJ_eqF, lJ_cG, lJ_cE, lJ_cL, lJ_cF, lJ_cGE, lJ_cLE, lJ_cNL, lJ_cNG, Int.cast_ofNat_Int, c_0, c_1, Int.natCast_add, Int.add_zero, cond_true, cond_false, Bool.and_self, Bool.and_true, Bool.true_and, Option.bind_some, decide_true, uI_hit, uI_miss, uI_o, uA_o, uA_s, ↓reduceIte, eq_self, true_or, or_true, or_false, false_or, true_and, and_true, false_and, and_false, or_self, and_self, not_false_eq_true, not_true_eq_false, tn_i]) rfl, a_run_end]
theorem mq_tr {e : aJ} {A : Int → Int} (hS : SI A) {m n : Nat} (hn : A 5 = n) (hm : m ≤ n) : ∀ (r s : Nat) (t : Nat → Nat) (d : aI), s + r = n → (∀ j, j < s → d 118 j = iI (t j : Nat)) → (s < n → d 118 s = iI (-1)) → (∀ j, j < s → t j < m) → (∀ a b, a < b → b < s → t a = t b → rlS A a b) → MA d 109 A →
    (∃ d' t', a_run stX11_areTracks (9, [some (.ref 108), some (.int (iI m)), some (.int (iI (s : Nat)))], d, e) = a_run stX11_areTracks (9, [some (.ref 108), some (.int (iI m)), some (.int (iI n))], d', e) ∧ (∀ j, j < s → t' j = t j) ∧ lsT (rlS A) m n s t' ∧ (∀ j, j < n → d' 118 j = iI (t' j : Nat)) ∧ Ko d d') ∨ (∃ d', a_run stX11_areTracks (9, [some (.ref 108), some (.int (iI m)), some (.int (iI (s : Nat)))], d, e) = a_run stX11_areTracks (9, [some (.ref 108), some (.int (iI m)), some (.int (iI ((s : Int) - 1)))], d', e) ∧ ¬exT (rlS A) m n s t ∧ (∀ j, j < s → d' 118 j = iI (t j : Nat)) ∧ Ko d d')
  | 0, s, t, d, hs, h1, h2, h3, h4, hA => by
    have e1 : s = n := by omega
    refine Or.inl ⟨d, t, by rw [e1], fun _ _ => rfl, ⟨fun i hi => h3 i (by omega), fun a b x y => h4 a b x (by omega), fun i a b => by omega⟩, fun j hj => h1 j (by omega), Ko.refl d⟩
  | r + 1, s, t, d, hs, h1, h2, h3, h4, hA => by
    have b5 := hS.nts.1.1
    have hsn : s < n := by omega
    have ih := fun t d => mq_tr (e := e) hS hn hm r (s + 1) t d (by omega)
    have n5 : ∀ {d : aI}, MA d 109 A → d 109 5 = iI (n : Int) := fun h => by rw [← hn]; exact h.cell (j := 5) (by omega)
    have inner : ∀ (q c : Nat) (d : aI), c + q = m → (∀ j, j < s → d 118 j = iI (t j : Nat)) → d 118 s = iI (c : Nat) → (∀ c', c' < c → ¬exT (rlS A) m n (s + 1) (upT t s c')) → MA d 109 A →
        (∃ d' t', a_run stX11_areTracks (33, [some (.ref 108), some (.int (iI m)), some (.int (iI (s : Nat)))], d, e) = a_run stX11_areTracks (9, [some (.ref 108), some (.int (iI m)), some (.int (iI n))], d', e) ∧ (∀ j, j < s → t' j = t j) ∧ lsT (rlS A) m n s t' ∧ (∀ j, j < n → d' 118 j = iI (t' j : Nat)) ∧ Ko d d') ∨ (∃ d', a_run stX11_areTracks (33, [some (.ref 108), some (.int (iI m)), some (.int (iI (s : Nat)))], d, e) = a_run stX11_areTracks (9, [some (.ref 108), some (.int (iI m)), some (.int (iI ((s : Int) - 1)))], d', e) ∧ ¬exT (rlS A) m n s t ∧ (∀ j, j < s → d' 118 j = iI (t j : Nat)) ∧ Ko d d') := by
      intro q
      induction q with
      | zero =>
        intro c d hc h1 h2 hl hA
        refine Or.inr ⟨d, a_run_step ?_ rfl, fun z => ?_, h1, Ko.refl d⟩
        · show sX11_areTracks_33 d e _ _ = _
          unfold sX11_areTracks_33
          simp (disch := omega) only [nI_iI, lN_lJ, iI_0, lJ_0, iI_add, iI_sub, iI_mul, iI_neg, lJ_add, lJ_sub, lJ_mul, lJ_neg, i_l, l_i, iI_cl, iI_inb, iI_eqT, iI_eqF, iI_ltT, iI_ltF, iI_leT, iI_leF, lJ_eqT, lJ_eqF, lJ_cG, lJ_cE, lJ_cL, lJ_cF, lJ_cGE, lJ_cLE, lJ_cNL, lJ_cNG, Int.cast_ofNat_Int, c_0, c_1, Int.natCast_add, Int.add_zero, cond_true, cond_false, Bool.and_self, Bool.and_true, Bool.true_and, Option.bind_some, decide_true, uI_hit, uI_miss, uI_o, uA_o, uA_s, ↓reduceIte, eq_self, true_or, or_true, or_false, false_or, true_and, and_true, false_and, and_false, or_self, and_self, not_false_eq_true, not_true_eq_false, tn_i, Int.toNat_natCast, h2, Int.sub_eq_add_neg]
        · obtain ⟨c0, z1, z2⟩ := z.dn hsn
          exact hl c0 (by omega) z2
      | succ q ihq =>
        intro c d hc h1 h2 hl hA
        have cells : ∀ j, j ≤ s → d 118 j = iI (upT t s c j : Nat) := fun j hj => by
          by_cases w : j = s
          · rw [w, upT_h]; exact h2
          · rw [upT_o w]; exact h1 j (by omega)
        have lt : ∀ j, j ≤ s → upT t s c j < m := fun j hj => by
          by_cases w : j = s
          · rw [w, upT_h]; omega
          · rw [upT_o w]; exact h3 j (by omega)
        have nxt : ∀ d2 : aI, Ko d d2 → (∀ j, j < s → d2 118 j = iI (t j : Nat)) → ¬exT (rlS A) m n (s + 1) (upT t s c) → _ := fun d2 k g z => ihq (c + 1) (uI d2 118 s (iI (c + 1 : Nat))) (by omega) (fun j hj => by rw [uI_miss (by omega)]; exact g j hj) (uI_hit rfl) (fun c' hc' => by
          by_cases w : c' = c
          · rw [w]; exact z
          · exact hl c' (by omega)) (hA.of (by rw [uI_o (by omega), k 109 (by omega)]))
        have up : ∀ d2 : aI, Ko d d2 → Ko d (uI d2 118 s (iI (c + 1 : Nat))) := fun d2 k o ho => by rw [uI_o ho]; exact k o ho
        rcases mq_canFollow (e := e) hA hS (s := s) (t := upT t s c) (by omega) (fun j hj => by have := lt j hj; omega) cells with ⟨y, cf⟩ | ⟨y, cf⟩
        · have val : ∀ a b, a < b → b < s + 1 → upT t s c a = upT t s c b → rlS A a b := fun a b x1 x2 x3 => by
            by_cases w : b = s
            · subst w; exact y a x1 x3
            · rw [upT_o (by omega), upT_o w] at x3
              exact h4 a b x1 (by omega) x3
          -- the next one's start
          obtain ⟨d1, st, k1, k2⟩ : ∃ d1, stX11_areTracks (33, [some (.ref 108), some (.int (iI m)), some (.int (iI (s : Nat)))], d, e) = some (9, [some (.ref 108), some (.int (iI m)), some (.int (iI (s + 1 : Nat)))], d1, e) ∧ (∀ o j, (o ≠ 118 ∨ j ≠ s + 1) → d1 o j = d o j) ∧ (s + 1 < n → d1 118 (s + 1) = iI (-1)) := by
            have n5' := n5 hA
            by_cases w : s + 1 < n
            · refine ⟨uI d 118 (s + 1) (iI (-1)), ?_, fun o j hj => ?_, fun _ => uI_hit rfl⟩
              · show sX11_areTracks_33 d e _ _ = _
                unfold sX11_areTracks_33
                have tn : ((s : Int) + 1).toNat = s + 1 := by omega
                simp (disch := omega) only [nI_iI, lN_lJ, iI_0, lJ_0, iI_add, iI_sub, iI_mul, iI_neg, lJ_add, lJ_sub, lJ_mul, lJ_neg, i_l, l_i, iI_cl, iI_inb, iI_eqT, iI_eqF, iI_ltT, iI_ltF, iI_leT, iI_leF, lJ_eqT, lJ_eqF, lJ_cG, lJ_cE, lJ_cL, lJ_cF, lJ_cGE, lJ_cLE, lJ_cNL, lJ_cNG, Int.cast_ofNat_Int, c_0, c_1, Int.natCast_add, Int.add_zero, cond_true, cond_false, Bool.and_self, Bool.and_true, Bool.true_and, Option.bind_some, decide_true, uI_hit, uI_miss, uI_o, uA_o, uA_s, ↓reduceIte, eq_self, true_or, or_true, or_false, false_or, true_and, and_true, false_and, and_false, or_self, and_self, not_false_eq_true, not_true_eq_false, tn_i, Int.toNat_natCast, h2, n5', cf, tn]
              · by_cases o8 : o = 118
                · rw [o8, uI_miss (by omega)]
                · rw [uI_o o8]
            · refine ⟨d, ?_, fun _ _ _ => rfl, fun z => absurd z w⟩
              show sX11_areTracks_33 d e _ _ = _
              unfold sX11_areTracks_33
              simp (disch := omega) only [nI_iI, lN_lJ, iI_0, lJ_0, iI_add, iI_sub, iI_mul, iI_neg, lJ_add, lJ_sub, lJ_mul, lJ_neg, i_l, l_i, iI_cl, iI_inb, iI_eqT, iI_eqF, iI_ltT, iI_ltF, iI_leT, iI_leF, lJ_eqT, lJ_eqF, lJ_cG, lJ_cE, lJ_cL, lJ_cF, lJ_cGE, lJ_cLE, lJ_cNL, lJ_cNG, Int.cast_ofNat_Int, c_0, c_1, Int.natCast_add, Int.add_zero, cond_true, cond_false, Bool.and_self, Bool.and_true, Bool.true_and, Option.bind_some, decide_true, uI_hit, uI_miss, uI_o, uA_o, uA_s, ↓reduceIte, eq_self, true_or, or_true, or_false, false_or, true_and, and_true, false_and, and_false, or_self, and_self, not_false_eq_true, not_true_eq_false, tn_i, Int.toNat_natCast, h2, n5', cf]
          have kk : Ko d d1 := fun o ho => by funext j; exact k1 o j (Or.inl ho)
          rcases ih (upT t s c) d1 (fun j hj => by rw [k1 118 j (by omega)]; exact cells j (by omega)) k2 (fun j hj => lt j (by omega)) val (hA.of (by rw [kk 109 (by omega)])) with ⟨d', t', X, g1, g2, g3, g4⟩ | ⟨d', X, g1, g2, g3⟩
          · obtain ⟨l1, l2⟩ := lsT_up g1 g2 hl
            exact Or.inl ⟨d', t', (a_run_step st rfl).trans X, l2, l1, g3, kk.trans g4⟩
          · have kd := kk.trans g3
            have ds : d' 118 s = iI (c : Nat) := by rw [g2 s (by omega), upT_h]
            have n5' := n5 (hA.of (kd 109 (by omega)))
            have st2 : stX11_areTracks (9, [some (.ref 108), some (.int (iI m)), some (.int (iI (((s + 1 : Nat) : Int) - 1)))], d', e) = some (33, [some (.ref 108), some (.int (iI m)), some (.int (iI (s : Nat)))], uI d' 118 s (iI (c + 1 : Nat)), e) := by
              rw [show ((s + 1 : Nat) : Int) - 1 = (s : Int) from by omega]
              show sX11_areTracks_9 d' e _ _ = _
              unfold sX11_areTracks_9
              simp (disch := omega) only [nI_iI, lN_lJ, iI_0, lJ_0, iI_add, iI_sub, iI_mul, iI_neg, lJ_add, lJ_sub, lJ_mul, lJ_neg, i_l, l_i, iI_cl, iI_inb, iI_eqT, iI_eqF, iI_ltT, iI_ltF, iI_leT, iI_leF, lJ_eqT, lJ_eqF, lJ_cG, lJ_cE, lJ_cL, lJ_cF, lJ_cGE, lJ_cLE, lJ_cNL, lJ_cNG, Int.cast_ofNat_Int, c_0, c_1, Int.natCast_add, Int.add_zero, cond_true, cond_false, Bool.and_self, Bool.and_true, Bool.true_and, Option.bind_some, decide_true, uI_hit, uI_miss, uI_o, uA_o, uA_s, ↓reduceIte, eq_self, true_or, or_true, or_false, false_or, true_and, and_true, false_and, and_false, or_self, and_self, not_false_eq_true, not_true_eq_false, tn_i, Int.toNat_natCast, ds, n5']
            have run : a_run stX11_areTracks (33, [some (.ref 108), some (.int (iI m)), some (.int (iI (s : Nat)))], d, e) = a_run stX11_areTracks (33, [some (.ref 108), some (.int (iI m)), some (.int (iI (s : Nat)))], uI d' 118 s (iI (c + 1 : Nat)), e) := (a_run_step st rfl).trans (X.trans (a_run_step st2 rfl))
            rcases nxt d' kd (fun j hj => by rw [g2 j (by omega), upT_o (by omega)]) g1 with ⟨d2, t', X2, l1, l2, l3, l4⟩ | ⟨d2, X2, l1, l2, l3⟩
            · exact Or.inl ⟨d2, t', run.trans X2, l1, l2, l3, (up d' kd).trans l4⟩
            · exact Or.inr ⟨d2, run.trans X2, l1, l2, (up d' kd).trans l3⟩
        · have z : ¬exT (rlS A) m n (s + 1) (upT t s c) := fun w => y (fun j hj x => by rw [upT_h, upT_o (by omega)] at x; exact w.bad hsn j hj x)
          have st2 : stX11_areTracks (33, [some (.ref 108), some (.int (iI m)), some (.int (iI (s : Nat)))], d, e) = some (33, [some (.ref 108), some (.int (iI m)), some (.int (iI (s : Nat)))], uI d 118 s (iI (c + 1 : Nat)), e) := by
            show sX11_areTracks_33 d e _ _ = _
            unfold sX11_areTracks_33
            simp (disch := omega) only [nI_iI, lN_lJ, iI_0, lJ_0, iI_add, iI_sub, iI_mul, iI_neg, lJ_add, lJ_sub, lJ_mul, lJ_neg, i_l, l_i, iI_cl, iI_inb, iI_eqT, iI_eqF, iI_ltT, iI_ltF, iI_leT, iI_leF, lJ_eqT, lJ_eqF, lJ_cG, lJ_cE, lJ_cL, lJ_cF, lJ_cGE, lJ_cLE, lJ_cNL, lJ_cNG, Int.cast_ofNat_Int, c_0, c_1, Int.natCast_add, Int.add_zero, cond_true, cond_false, Bool.and_self, Bool.and_true, Bool.true_and, Option.bind_some, decide_true, uI_hit, uI_miss, uI_o, uA_o, uA_s, ↓reduceIte, eq_self, true_or, or_true, or_false, false_or, true_and, and_true, false_and, and_false, or_self, and_self, not_false_eq_true, not_true_eq_false, tn_i, Int.toNat_natCast, h2, cf]
          rcases nxt d (Ko.refl d) h1 z with ⟨d2, t', X2, l1, l2, l3, l4⟩ | ⟨d2, X2, l1, l2, l3⟩
          · exact Or.inl ⟨d2, t', (a_run_step st2 rfl).trans X2, l1, l2, l3, (up d (Ko.refl d)).trans l4⟩
          · exact Or.inr ⟨d2, (a_run_step st2 rfl).trans X2, l1, l2, (up d (Ko.refl d)).trans l3⟩
    have n5' := n5 hA
    have ds := h2 hsn
    have st0 : stX11_areTracks (9, [some (.ref 108), some (.int (iI m)), some (.int (iI (s : Nat)))], d, e) = some (33, [some (.ref 108), some (.int (iI m)), some (.int (iI (s : Nat)))], uI d 118 s (iI (0 : Nat)), e) := by
      show sX11_areTracks_9 d e _ _ = _
      unfold sX11_areTracks_9
      simp (disch := omega) only [nI_iI, lN_lJ, iI_0, lJ_0, iI_add, iI_sub, iI_mul, iI_neg, lJ_add, lJ_sub, lJ_mul, lJ_neg, i_l, l_i, iI_cl, iI_inb, iI_eqT, iI_eqF, iI_ltT, iI_ltF, iI_leT, iI_leF, lJ_eqT, lJ_eqF, lJ_cG, lJ_cE, lJ_cL, lJ_cF, lJ_cGE, lJ_cLE, lJ_cNL, lJ_cNG, Int.cast_ofNat_Int, c_0, c_1, Int.natCast_add, Int.add_zero, cond_true, cond_false, Bool.and_self, Bool.and_true, Bool.true_and, Option.bind_some, decide_true, uI_hit, uI_miss, uI_o, uA_o, uA_s, ↓reduceIte, eq_self, true_or, or_true, or_false, false_or, true_and, and_true, false_and, and_false, or_self, and_self, not_false_eq_true, not_true_eq_false, tn_i, Int.toNat_natCast, ds, n5', (show (-1 : Int) + 1 = 0 from rfl)]
    have k0 : Ko d (uI d 118 s (iI (0 : Nat))) := fun o ho => uI_o ho
    rcases inner m 0 (uI d 118 s (iI (0 : Nat))) (by omega) (fun j hj => by rw [uI_miss (by omega)]; exact h1 j hj) (uI_hit rfl) (fun c' hc' => by omega) (hA.of (k0 109 (by omega))) with ⟨d2, t', X2, l1, l2, l3, l4⟩ | ⟨d2, X2, l1, l2, l3⟩
    · exact Or.inl ⟨d2, t', (a_run_step st0 rfl).trans X2, l1, l2, l3, k0.trans l4⟩
    · exact Or.inr ⟨d2, (a_run_step st0 rfl).trans X2, l1, l2, k0.trans l3⟩
theorem mq_areTracks {d : aI} {e : aJ} {A : Int → Int} (hA : MA d 109 A) (hS : SI A) {m : Nat} (hm : m ≤ (A 5).toNat) : (∃ d' t', FX11_areTracks d e (iI m) = some (iI 1, d', e) ∧ lsT (rlS A) m (A 5).toNat 0 t' ∧ (∀ j, j < (A 5).toNat → d' 118 j = iI (t' j : Nat)) ∧ Ko d d') ∨ (∃ d', FX11_areTracks d e (iI m) = some (iI 0, d', e) ∧ (∀ t, ¬exT (rlS A) m (A 5).toNat 0 t) ∧ Ko d d') := by
  have b5 := hS.nts.1.1
  obtain ⟨n, hn⟩ := Int.eq_ofNat_of_zero_le (show 0 ≤ A 5 by omega)
  have nn : (A 5).toNat = n := by omega
  rw [nn] at hm ⊢
  have st0 : stX11_areTracks (0, [some (.ref 108), some (.int (iI m)), none], d, e) = some (9, [some (.ref 108), some (.int (iI m)), some (.int (iI (0 : Nat)))], uI d 118 0 (iI (-1)), e) := by
    show sX11_areTracks_0 d e _ = _
    unfold sX11_areTracks_0
    simp (disch := omega) only [nI_iI, lN_lJ, iI_0, lJ_0, iI_add, iI_sub, iI_mul, iI_neg, lJ_add, lJ_sub, lJ_mul, lJ_neg, i_l, l_i, iI_cl, iI_inb, iI_eqT, iI_eqF, iI_ltT, iI_ltF, iI_leT, iI_leF, lJ_eqT, lJ_eqF, lJ_cG, lJ_cE, lJ_cL, lJ_cF, lJ_cGE, lJ_cLE, lJ_cNL, lJ_cNG, Int.cast_ofNat_Int, c_0, c_1, Int.natCast_add, Int.add_zero, cond_true, cond_false, Bool.and_self, Bool.and_true, Bool.true_and, Option.bind_some, decide_true, uI_hit, uI_miss, uI_o, uA_o, uA_s, ↓reduceIte, eq_self, true_or, or_true, or_false, false_or, true_and, and_true, false_and, and_false, or_self, and_self, not_false_eq_true, not_true_eq_false, tn_i]
  have k0 : Ko d (uI d 118 0 (iI (-1))) := fun o ho => uI_o ho
  unfold FX11_areTracks
  rcases mq_tr (e := e) hS hn hm n 0 (fun _ => 0) (uI d 118 0 (iI (-1))) (by omega) (fun j hj => by omega) (fun _ => uI_hit rfl) (fun j hj => by omega) (fun a b x y => by omega) (hA.of (k0 109 (by omega))) with ⟨d2, t', X2, l1, l2, l3, l4⟩ | ⟨d2, X2, l1, l2, l3⟩
  · have n5 : d2 109 5 = iI (n : Int) := by rw [← hn]; exact (hA.of ((k0.trans l4) 109 (by omega))).cell (j := 5) (by omega)
    refine Or.inl ⟨d2, t', ?_, l2, l3, k0.trans l4⟩
    rw [a_run_step st0 rfl, X2, a_run_step (st := stX11_areTracks) (p2 := (100000, [some (.int (iI 1))], d2, e)) (by
      show sX11_areTracks_9 d2 e _ _ = _
      unfold sX11_areTracks_9
      simp (disch := omega) only [nI_iI, lN_lJ, iI_0, lJ_0, iI_add, iI_sub, iI_mul, iI_neg, lJ_add, lJ_sub, lJ_mul, lJ_neg, i_l, l_i, iI_cl, iI_inb, iI_eqT, iI_eqF, iI_ltT, iI_ltF, iI_leT, iI_leF, lJ_eqT, lJ_eqF, lJ_cG, lJ_cE, lJ_cL, lJ_cF, lJ_cGE, lJ_cLE, lJ_cNL, lJ_cNG, Int.cast_ofNat_Int, c_0, c_1, Int.natCast_add, Int.add_zero, cond_true, cond_false, Bool.and_self, Bool.and_true, Bool.true_and, Option.bind_some, decide_true, uI_hit, uI_miss, uI_o, uA_o, uA_s, ↓reduceIte, eq_self, true_or, or_true, or_false, false_or, true_and, and_true, false_and, and_false, or_self, and_self, not_false_eq_true, not_true_eq_false, tn_i, n5]) rfl, a_run_end]
    rfl
  · refine Or.inr ⟨d2, ?_, fun t z => l1 (z.cg (fun i hi => by omega)), k0.trans l3⟩
    rw [a_run_step st0 rfl, X2, a_run_step (st := stX11_areTracks) (p2 := (100000, [some (.int (iI 0))], d2, e)) (by
      show sX11_areTracks_9 d2 e _ _ = _
      unfold sX11_areTracks_9
      simp (disch := omega) only [nI_iI, lN_lJ, iI_0, lJ_0, iI_add, iI_sub, iI_mul, iI_neg, lJ_add, lJ_sub, lJ_mul, lJ_neg, i_l, l_i, iI_cl, iI_inb, iI_eqT, iI_eqF, iI_ltT, iI_ltF, iI_leT, iI_leF, lJ_eqT, lJ_eqF, lJ_cG, lJ_cE, lJ_cL, lJ_cF, lJ_cGE, lJ_cLE, lJ_cNL, lJ_cNG, Int.cast_ofNat_Int, c_0, c_1, Int.natCast_add, Int.add_zero, cond_true, cond_false, Bool.and_self, Bool.and_true, Bool.true_and, Option.bind_some, decide_true, uI_hit, uI_miss, uI_o, uA_o, uA_s, ↓reduceIte, eq_self, true_or, or_true, or_false, false_or, true_and, and_true, false_and, and_false, or_self, and_self, not_false_eq_true, not_true_eq_false, tn_i]) rfl, a_run_end]
    rfl
theorem mq_fewestCats {d : aI} {e : aJ} {A : Int → Int} (hA : MA d 109 A) (hS : SI A) {m : Nat} {s : Nat → Nat} (hm : m ≤ (A 5).toNat) (hs : lsT (rlS A) m (A 5).toNat 0 s) (hl : ∀ m', m' < m → ∀ t, ¬exT (rlS A) m' (A 5).toNat 0 t) : ∃ d', FX11_fewestCats d e = some (iI m, d', e) ∧ (∀ j, j < (A 5).toNat → d' 118 j = iI (s j : Nat)) ∧ Ko d d' := by
  have b5 := hS.nts.1.1
  have most := run_invR (st := stX11_fewestCats) (fun k p => ∃ d', p = (2, [some (.ref 108), some (.int (iI (k : Nat)))], d', e) ∧ Ko d d') m (p0 := (2, [some (.ref 108), some (.int (iI (0 : Nat)))], d, e)) ⟨d, rfl, Ko.refl d⟩ ?_
  rotate_left
  · rintro k p hk ⟨d', rfl, c⟩
    rcases mq_areTracks (e := e) (hA.of (c 109 (by omega))) hS (m := k) (by omega) with ⟨d2, t', X, l1, l2, l3⟩ | ⟨d2, X, l1, l2⟩
    · exact absurd l1.ex (hl k hk t')
    · refine ⟨_, a_run_step (p2 := (2, [some (.ref 108), some (.int (iI (k + 1 : Nat)))], d2, e)) ?_ rfl, d2, rfl, c.trans l2⟩
      show sX11_fewestCats_2 d' e _ = _
      unfold sX11_fewestCats_2
      simp (disch := omega) only [nI_iI, lN_lJ, iI_0, lJ_0, iI_add, iI_sub, iI_mul, iI_neg, lJ_add, lJ_sub, lJ_mul, lJ_neg, i_l, l_i, iI_cl, iI_inb, iI_eqT, iI_eqF, iI_ltT, iI_ltF, iI_leT, iI_leF, lJ_eqT, lJ_eqF, lJ_cG, lJ_cE, lJ_cL, lJ_cF, lJ_cGE, lJ_cLE, lJ_cNL, lJ_cNG, Int.cast_ofNat_Int, c_0, c_1, Int.natCast_add, Int.add_zero, cond_true, cond_false, Bool.and_self, Bool.and_true, Bool.true_and, Option.bind_some, decide_true, uI_hit, uI_miss, uI_o, uA_o, uA_s, ↓reduceIte, eq_self, true_or, or_true, or_false, false_or, true_and, and_true, false_and, and_false, or_self, and_self, not_false_eq_true, not_true_eq_false, tn_i, X]
  obtain ⟨p, ⟨d1, rfl, c⟩, t1⟩ := most
  rcases mq_areTracks (e := e) (hA.of (c 109 (by omega))) hS (m := m) hm with ⟨d2, t', X, l1, l2, l3⟩ | ⟨d2, X, l1, l2⟩
  · have se := lsT_eq hs l1
    refine ⟨d2, ?_, fun j hj => by rw [l2 j hj, se j hj], c.trans l3⟩
    unfold FX11_fewestCats
    rw [a_run_step (st := stX11_fewestCats) (p := (0, [some (.ref 108), none], d, e)) (p2 := (2, [some (.ref 108), some (.int (iI (0 : Nat)))], d, e)) rfl rfl, t1, a_run_step (st := stX11_fewestCats) (p2 := (100000, [some (.int (iI m))], d2, e)) (by
      show sX11_fewestCats_2 d1 e _ = _
      unfold sX11_fewestCats_2
      simp (disch := omega) only [nI_iI, lN_lJ, iI_0, lJ_0, iI_add, iI_sub, iI_mul, iI_neg, lJ_add, lJ_sub, lJ_mul, lJ_neg, i_l, l_i, iI_cl, iI_inb, iI_eqT, iI_eqF, iI_ltT, iI_ltF, iI_leT, iI_leF, lJ_eqT, lJ_eqF, lJ_cG, lJ_cE, lJ_cL, lJ_cF, lJ_cGE, lJ_cLE, lJ_cNL, lJ_cNG, Int.cast_ofNat_Int, c_0, c_1, Int.natCast_add, Int.add_zero, cond_true, cond_false, Bool.and_self, Bool.and_true, Bool.true_and, Option.bind_some, decide_true, uI_hit, uI_miss, uI_o, uA_o, uA_s, ↓reduceIte, eq_self, true_or, or_true, or_false, false_or, true_and, and_true, false_and, and_false, or_self, and_self, not_false_eq_true, not_true_eq_false, tn_i, X]) rfl, a_run_end]
    rfl
  · exact absurd hs.ex (l1 s)
theorem Ko.km {d d' : aI} (h : Ko d d') : Km d d' := ⟨fun k a b => h k (by omega), fun j _ => by rw [h 108 (by omega)]⟩
theorem o_fewest : Op FX10_fewest FX11_fewest := by
  refine Op.quest (fun S hS => ?_)
  obtain ⟨m, s, h1, h2, h3⟩ := few_ex (rlS S.1) (S.1 5).toNat
  refine ⟨iI m, fun d e hC => ?_, fun d e hM => ?_⟩
  · obtain ⟨d', q1, q2, q3, q4⟩ := cq_follow (e := e) hC.nt.1 hS.1 h1 h2 h3
    refine ⟨d', e, ?_, fun k a => q4 k (by omega)⟩
    unfold FX10_fewest
    simp (disch := omega) only [nI_iI, lN_lJ, iI_0, lJ_0, iI_add, iI_sub, iI_mul, iI_neg, lJ_add, lJ_sub, lJ_mul, lJ_neg, i_l, l_i, iI_cl, iI_inb, iI_eqT, iI_eqF, iI_ltT, iI_ltF, iI_leT, iI_leF, lJ_eqT, lJ_eqF, lJ_cG, lJ_cE, lJ_cL, lJ_cF, lJ_cGE, lJ_cLE, lJ_cNL, lJ_cNG, Int.cast_ofNat_Int, c_0, c_1, Int.natCast_add, Int.add_zero, cond_true, cond_false, Bool.and_self, Bool.and_true, Bool.true_and, Option.bind_some, decide_true, uI_hit, uI_miss, uI_o, uA_o, uA_s, ↓reduceIte, eq_self, true_or, or_true, or_false, false_or, true_and, and_true, false_and, and_false, or_self, and_self, not_false_eq_true, not_true_eq_false, tn_i, q1, q2]
  · obtain ⟨d', q1, q2, q3⟩ := mq_fewestCats (e := e) hM.1 hS.1 h1 h2 h3
    refine ⟨d', e, ?_, q3.km⟩
    unfold FX11_fewest
    simp (disch := omega) only [nI_iI, lN_lJ, iI_0, lJ_0, iI_add, iI_sub, iI_mul, iI_neg, lJ_add, lJ_sub, lJ_mul, lJ_neg, i_l, l_i, iI_cl, iI_inb, iI_eqT, iI_eqF, iI_ltT, iI_ltF, iI_leT, iI_leF, lJ_eqT, lJ_eqF, lJ_cG, lJ_cE, lJ_cL, lJ_cF, lJ_cGE, lJ_cLE, lJ_cNL, lJ_cNG, Int.cast_ofNat_Int, c_0, c_1, Int.natCast_add, Int.add_zero, cond_true, cond_false, Bool.and_self, Bool.and_true, Bool.true_and, Option.bind_some, decide_true, uI_hit, uI_miss, uI_o, uA_o, uA_s, ↓reduceIte, eq_self, true_or, or_true, or_false, false_or, true_and, and_true, false_and, and_false, or_self, and_self, not_false_eq_true, not_true_eq_false, tn_i, q1]
theorem o_track (x : Int32) : Op (fun d e => FX10_track d e x) (fun d e => FX11_track d e x) := by
  obtain ⟨i, rfl, i1, i2⟩ := iI_ex x
  refine Op.quest (fun S hS => ?_)
  have hSI := hS.1
  have b5 := hSI.nts.1.1
  obtain ⟨m, s, h1, h2, h3⟩ := few_ex (rlS S.1) (S.1 5).toNat
  by_cases hi : 0 ≤ i ∧ i < S.1 5
  · obtain ⟨I, rfl⟩ := Int.eq_ofNat_of_zero_le hi.1
    refine ⟨iI (s I : Nat), fun d e hC => ?_, fun d e hM => ?_⟩
    · obtain ⟨d', q1, q2, q3, q4⟩ := cq_follow (e := e) hC.nt.1 hS.1 h1 h2 h3
      refine ⟨d', e, ?_, fun k a => q4 k (by omega)⟩
      have k := q3 I (by omega)
      show FX10_track d e (iI I) = _
      unfold FX10_track
      simp (disch := omega) only [nI_iI, lN_lJ, iI_0, lJ_0, iI_add, iI_sub, iI_mul, iI_neg, lJ_add, lJ_sub, lJ_mul, lJ_neg, i_l, l_i, iI_cl, iI_inb, iI_eqT, iI_eqF, iI_ltT, iI_ltF, iI_leT, iI_leF, lJ_eqT, lJ_eqF, lJ_cG, lJ_cE, lJ_cL, lJ_cF, lJ_cGE, lJ_cLE, lJ_cNL, lJ_cNG, Int.cast_ofNat_Int, c_0, c_1, Int.natCast_add, Int.add_zero, cond_true, cond_false, Bool.and_self, Bool.and_true, Bool.true_and, Option.bind_some, decide_true, uI_hit, uI_miss, uI_o, uA_o, uA_s, ↓reduceIte, eq_self, true_or, or_true, or_false, false_or, true_and, and_true, false_and, and_false, or_self, and_self, not_false_eq_true, not_true_eq_false, tn_i, Int.toNat_natCast, cq_has13_y hC.nt.1 hSI, q1, k]
    · obtain ⟨d', q1, q2, q3⟩ := mq_fewestCats (e := e) hM.1 hS.1 h1 h2 h3
      refine ⟨d', e, ?_, q3.km⟩
      have k := q2 I (by omega)
      have m0 := h2.1 I (by omega)
      show FX11_track d e (iI I) = _
      unfold FX11_track
      simp (disch := omega) only [nI_iI, lN_lJ, iI_0, lJ_0, iI_add, iI_sub, iI_mul, iI_neg, lJ_add, lJ_sub, lJ_mul, lJ_neg, i_l, l_i, iI_cl, iI_inb, iI_eqT, iI_eqF, iI_ltT, iI_ltF, iI_leT, iI_leF, lJ_eqT, lJ_eqF, lJ_cG, lJ_cE, lJ_cL, lJ_cF, lJ_cGE, lJ_cLE, lJ_cNL, lJ_cNG, Int.cast_ofNat_Int, c_0, c_1, Int.natCast_add, Int.add_zero, cond_true, cond_false, Bool.and_self, Bool.and_true, Bool.true_and, Option.bind_some, decide_true, uI_hit, uI_miss, uI_o, uA_o, uA_s, ↓reduceIte, eq_self, true_or, or_true, or_false, false_or, true_and, and_true, false_and, and_false, or_self, and_self, not_false_eq_true, not_true_eq_false, tn_i, Int.toNat_natCast, mq_isSight_y hM.1 hSI, q1, k]
  · refine ⟨iI (-1), fun d e hC => ⟨d, e, ?_, Kc.refl d⟩, fun d e hM => ⟨d, e, ?_, Km.refl d⟩⟩
    · have m := hC.nt.1
      show FX10_track d e (iI i) = _
      unfold FX10_track
      simp (disch := omega) only [nI_iI, lN_lJ, iI_0, lJ_0, iI_add, iI_sub, iI_mul, iI_neg, lJ_add, lJ_sub, lJ_mul, lJ_neg, i_l, l_i, iI_cl, iI_inb, iI_eqT, iI_eqF, iI_ltT, iI_ltF, iI_leT, iI_leF, lJ_eqT, lJ_eqF, lJ_cG, lJ_cE, lJ_cL, lJ_cF, lJ_cGE, lJ_cLE, lJ_cNL, lJ_cNG, Int.cast_ofNat_Int, c_0, c_1, Int.natCast_add, Int.add_zero, cond_true, cond_false, Bool.and_self, Bool.and_true, Bool.true_and, Option.bind_some, decide_true, uI_hit, uI_miss, uI_o, uA_o, uA_s, ↓reduceIte, eq_self, true_or, or_true, or_false, false_or, true_and, and_true, false_and, and_false, or_self, and_self, not_false_eq_true, not_true_eq_false, tn_i, cq_has13_n m hSI]
    · show FX11_track d e (iI i) = _
      unfold FX11_track
      simp (disch := omega) only [nI_iI, lN_lJ, iI_0, lJ_0, iI_add, iI_sub, iI_mul, iI_neg, lJ_add, lJ_sub, lJ_mul, lJ_neg, i_l, l_i, iI_cl, iI_inb, iI_eqT, iI_eqF, iI_ltT, iI_ltF, iI_leT, iI_leF, lJ_eqT, lJ_eqF, lJ_cG, lJ_cE, lJ_cL, lJ_cF, lJ_cGE, lJ_cLE, lJ_cNL, lJ_cNG, Int.cast_ofNat_Int, c_0, c_1, Int.natCast_add, Int.add_zero, cond_true, cond_false, Bool.and_self, Bool.and_true, Bool.true_and, Option.bind_some, decide_true, uI_hit, uI_miss, uI_o, uA_o, uA_s, ↓reduceIte, eq_self, true_or, or_true, or_false, false_or, true_and, and_true, false_and, and_false, or_self, and_self, not_false_eq_true, not_true_eq_false, tn_i, mq_isSight_n hM.1 hSI]
