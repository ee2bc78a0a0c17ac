/-! ===== whole numbers behind the ints ===== -/
def iI (z : Int) : Int32 := Int32.ofInt z
theorem iI_toInt {z : Int} (h1 : -2147483648 ≤ z) (h2 : z < 2147483648) : (iI z).toInt = z := Int32.toInt_ofInt_of_le h1 h2
theorem iI_of (x : Int32) : x = iI x.toInt := (Int32.ofInt_toInt x).symm
theorem nI_iI (n : Nat) : nI n = iI (n : Int) := rfl
theorem iI_add (a b : Int) : iI a + iI b = iI (a + b) := (Int32.ofInt_add a b).symm
theorem iI_sub (a b : Int) : iI a - iI b = iI (a - b) := (Int32.ofInt_sub a b).symm
theorem iI_mul (a b : Int) : iI a * iI b = iI (a * b) := (Int32.ofInt_mul a b).symm
theorem iI_neg (a : Int) : -iI a = iI (-a) := (Int32.ofInt_neg a).symm
theorem iI_0 : (0 : Int32) = iI 0 := rfl
theorem iI_lt {a b : Int} (h1 : -2147483648 ≤ a ∧ a < 2147483648 ∧ -2147483648 ≤ b ∧ b < 2147483648) : iI a < iI b ↔ a < b := by
  rw [Int32.lt_iff_toInt_lt, iI_toInt h1.1 h1.2.1, iI_toInt h1.2.2.1 h1.2.2.2]
theorem iI_le {a b : Int} (h1 : -2147483648 ≤ a ∧ a < 2147483648 ∧ -2147483648 ≤ b ∧ b < 2147483648) : iI a ≤ iI b ↔ a ≤ b := by
  rw [Int32.le_iff_toInt_le, iI_toInt h1.1 h1.2.1, iI_toInt h1.2.2.1 h1.2.2.2]
theorem iI_eq {a b : Int} (h1 : -2147483648 ≤ a ∧ a < 2147483648 ∧ -2147483648 ≤ b ∧ b < 2147483648) : iI a = iI b ↔ a = b := by
  rw [← Int32.toInt_inj, iI_toInt h1.1 h1.2.1, iI_toInt h1.2.2.1 h1.2.2.2]
theorem iI_cl {a : Int} (h1 : -2147483648 ≤ a ∧ a < 2147483648) : (iI a).toNatClampNeg = a.toNat := by
  rw [Int32.toNatClampNeg, iI_toInt h1.1 h1.2]
theorem iI_inb {a : Int} {n : Nat} (h : 0 ≤ a ∧ a < n ∧ a < 2147483648) : a_inb (iI a) n = true := by
  refine a_inb_of ?_
  unfold vp_in
  rw [iI_cl (by omega), iI_0, iI_lt (by omega)]
  omega
theorem iI_div {a b : Int} (h : 0 ≤ a ∧ a < 2147483648 ∧ 0 < b ∧ b < 2147483648) : iI a / iI b = iI (a / b) := by
  obtain ⟨x, rfl⟩ := Int.eq_ofNat_of_zero_le h.1
  obtain ⟨y, rfl⟩ := Int.eq_ofNat_of_zero_le (show 0 ≤ b by omega)
  have := pk_div (a := x) (d := y) (by omega) (by omega) (by omega)
  rw [nI_iI, nI_iI, nI_iI] at this
  exact this
theorem iI_rem {a b : Int} (h : 0 ≤ a ∧ a < 2147483648 ∧ 0 < b ∧ b < 2147483648) : a_irm (iI a) (iI b) = iI (a % b) := by
  obtain ⟨x, rfl⟩ := Int.eq_ofNat_of_zero_le h.1
  obtain ⟨y, rfl⟩ := Int.eq_ofNat_of_zero_le (show 0 ≤ b by omega)
  have := pk_rem (a := x) (d := y) (by omega) (by omega) (by omega)
  rw [nI_iI, nI_iI, nI_iI] at this
  exact this
theorem iI_ex (x : Int32) : ∃ z : Int, x = iI z ∧ -2147483648 ≤ z ∧ z < 2147483648 := ⟨x.toInt, iI_of x, x.le_toInt, x.toInt_lt⟩
-- cells
theorem uI_o {d : aI} {o f k : Nat} {x : Int32} (h : k ≠ o) : uI d o f x k = d k := if_neg h
theorem uI_s {d : aI} {o f j : Nat} {x : Int32} : uI d o f x o j = if j = f then x else d o j := by
  unfold uI upd
  rw [if_pos rfl]
theorem uI_at {d : aI} {o f k j : Nat} {x : Int32} : uI d o f x k j = if k = o ∧ j = f then x else d k j := by
  unfold uI upd
  by_cases h : k = o
  · subst h
    rw [if_pos rfl]
    by_cases h2 : j = f <;> simp [h2]
  · rw [if_neg h, if_neg (fun q => h q.1)]
theorem uI_hit {d : aI} {o f j : Nat} {x : Int32} (h : j = f) : uI d o f x o j = x := by rw [uI_s, if_pos h]
theorem uI_miss {d : aI} {o f j : Nat} {x : Int32} (h : j ≠ f) : uI d o f x o j = d o j := by rw [uI_s, if_neg h]
/-- the cells of an object are these whole numbers, up to a place -/
def MA (d : aI) (o : Nat) (A : Int → Int) : Prop := ∀ j : Nat, j < 1961 → d o j = iI (A j)
def aU (A : Int → Int) (k v : Int) : Int → Int := fun j => if j = k then v else A j
theorem aU_hit {A : Int → Int} {k j : Int} {v : Int} (h : j = k) : aU A k v j = v := if_pos h
theorem aU_miss {A : Int → Int} {k j : Int} {v : Int} (h : j ≠ k) : aU A k v j = A j := if_neg h
theorem MA.put {d : aI} {o : Nat} {A : Int → Int} (h : MA d o A) {k : Nat} {k' v : Int} (hk : (k : Int) = k') : MA (uI d o k (iI v)) o (aU A k' v) := by
  intro j hj
  rw [uI_s]
  subst hk
  unfold aU
  by_cases e : j = k
  · rw [if_pos e, if_pos (by omega)]
  · rw [if_neg e, if_neg (by omega)]; exact h j hj
theorem MA.of {d d' : aI} {o : Nat} {A : Int → Int} (h : MA d o A) (e : d' o = d o) : MA d' o A := by
  intro j hj
  rw [e]; exact h j hj
theorem tn_i {z : Int} (h : 0 ≤ z) : ((z.toNat : Nat) : Int) = z := Int.toNat_of_nonneg h
theorem c_0 : ((0 : Nat) : Int) = 0 := rfl
theorem c_1 : ((1 : Nat) : Int) = 1 := rfl
/-! loops -/
def itr {σ : Type} (f : Nat → σ → σ) : Nat → σ → σ
  | 0, s => s
  | n + 1, s => f n (itr f n s)
abbrev aP : Type := Nat × aL × aI × aJ
theorem run_fold {σ : Type} {st : aP → Option aP} (T : Nat → σ → aP) (f : Nat → σ → σ) (n : Nat) (s0 : σ) (hp : ∀ k s, Nat.beq (T k s).1 100000 = false) (hs : ∀ k, k < n → st (T k (itr f k s0)) = some (T (k + 1) (f k (itr f k s0)))) : a_run st (T 0 s0) = a_run st (T n (itr f n s0)) := by
  have key : ∀ m, m ≤ n → a_run st (T 0 s0) = a_run st (T m (itr f m s0)) := by
    intro m
    induction m with
    | zero => intro _; rfl
    | succ m ih => intro hm; rw [ih (by omega), a_run_step (hs m (by omega)) (hp _ _)]; rfl
  exact key n (Nat.le_refl _)
/-- the first below n with the property, or -1 -/
def fnd (p : Nat → Prop) [DecidablePred p] (n : Nat) : Int := itr (fun c f => if f = -1 ∧ p c then (c : Int) else f) n (-1)
theorem fnd_le {p : Nat → Prop} [DecidablePred p] (n : Nat) : -1 ≤ fnd p n ∧ fnd p n < n := by
  induction n with
  | zero => exact ⟨Int.le_refl _, by show (-1 : Int) < 0; decide⟩
  | succ n ih =>
    have e : fnd p (n + 1) = if fnd p n = -1 ∧ p n then (n : Int) else fnd p n := rfl
    rw [e]
    split <;> omega
theorem fnd_stay {p : Nat → Prop} [DecidablePred p] {k n : Nat} (h : fnd p k ≠ -1) (hk : k ≤ n) : fnd p n = fnd p k := by
  induction n with
  | zero => rw [show k = 0 by omega]
  | succ n ih =>
    by_cases h1 : k = n + 1
    · rw [h1]
    · have e : fnd p (n + 1) = if fnd p n = -1 ∧ p n then (n : Int) else fnd p n := rfl
      rw [e, ih (by omega), if_neg (fun q => h q.1)]
theorem fnd_no {p : Nat → Prop} [DecidablePred p] {n : Nat} (h : fnd p n = -1) : ∀ k, k < n → ¬p k := by
  induction n with
  | zero => intro k hk; omega
  | succ n ih =>
    have e : fnd p (n + 1) = if fnd p n = -1 ∧ p n then (n : Int) else fnd p n := rfl
    intro k hk
    rw [e] at h
    by_cases h1 : fnd p n = -1 ∧ p n
    · rw [if_pos h1] at h; omega
    · rw [if_neg h1] at h
      by_cases h2 : k = n
      · rw [h2]; exact fun q => h1 ⟨h, q⟩
      · exact ih h k (by omega)
theorem fnd_yes {p : Nat → Prop} [DecidablePred p] {n : Nat} (h : fnd p n ≠ -1) : p (fnd p n).toNat := by
  induction n with
  | zero => exact absurd rfl h
  | succ n ih =>
    have e : fnd p (n + 1) = if fnd p n = -1 ∧ p n then (n : Int) else fnd p n := rfl
    rw [e] at h ⊢
    by_cases h1 : fnd p n = -1 ∧ p n
    · rw [if_pos h1]; exact h1.2
    · rw [if_neg h1] at h ⊢; exact ih h
theorem run_fnd {st : aP → Option aP} {R : Option (aL × aI × aJ)} (T : Nat → aP) (p : Nat → Prop) [DecidablePred p] (n : Nat) (hp : ∀ k, Nat.beq (T k).1 100000 = false) (hs : ∀ k, k < n → ¬p k → st (T k) = some (T (k + 1)))
    (hy : ∀ k, k < n → p k → fnd p n = k → a_run st (T k) = R) (hn : fnd p n = -1 → a_run st (T n) = R) : a_run st (T 0) = R := by
  by_cases h : fnd p n = -1
  · have q := fnd_no h
    have key : ∀ m, m ≤ n → a_run st (T 0) = a_run st (T m) := by
      intro m
      induction m with
      | zero => intro _; rfl
      | succ m ih => intro hm; rw [ih (by omega), a_run_step (hs m (by omega) (q m (by omega))) (hp _)]
    rw [key n (Nat.le_refl _)]
    exact hn h
  · have hl := fnd_le (p := p) n
    obtain ⟨k, hk⟩ := Int.eq_ofNat_of_zero_le (show 0 ≤ fnd p n by omega)
    have hy2 := fnd_yes h
    rw [hk] at hy2
    have q : ∀ j, j < k → ¬p j := by
      intro j hj hpj
      have h2 : fnd p (j + 1) ≠ -1 := by
        have e : fnd p (j + 1) = if fnd p j = -1 ∧ p j then (j : Int) else fnd p j := rfl
        rw [e]
        by_cases h5 : fnd p j = -1
        · rw [if_pos ⟨h5, hpj⟩]; omega
        · rw [if_neg (fun z => h5 z.1)]; exact h5
      have h3 := fnd_stay h2 (show j + 1 ≤ n by omega)
      have h4 := fnd_le (p := p) (j + 1)
      omega
    have key : ∀ m, m ≤ k → a_run st (T 0) = a_run st (T m) := by
      intro m
      induction m with
      | zero => intro _; rfl
      | succ m ih => intro hm; rw [ih (by omega), a_run_step (hs m (by omega) (q m (by omega))) (hp _)]
    rw [key k (Nat.le_refl _)]
    exact hy k (by omega) hy2 hk
