/-! ===== whole numbers behind the ints ===== -/
def iI (z : Int) : Int32 := Int32.ofInt z
theorem iI_toInt {z : Int} (h1 : -2147483648 ≤ z) (h2 : z < 2147483648) : (iI z).toInt = z := Int32.toInt_ofInt_of_le h1 h2
theorem iI_of (x : Int32) : x = iI x.toInt := (Int32.ofInt_toInt x).symm
theorem nI_iI (n : Nat) : nI n = iI (n : Int) := rfl
theorem iI_add (a b : Int) : iI a + iI b = iI (a + b) := (Int32.ofInt_add a b).symm
theorem iI_sub (a b : Int) : iI a - iI b = iI (a - b) := (Int32.ofInt_sub a b).symm
theorem iI_mul (a b : Int) : iI a * iI b = iI (a * b) := (Int32.ofInt_mul a b).symm
theorem iI_neg (a : Int) : -iI a = iI (-a) := (Int32.ofInt_neg a).symm
theorem iI_0 : (0 : Int32) = iI 0 := rfl
theorem iI_lt {a b : Int} (h1 : -2147483648 ≤ a ∧ a < 2147483648 ∧ -2147483648 ≤ b ∧ b < 2147483648) : iI a < iI b ↔ a < b := by
  rw [Int32.lt_iff_toInt_lt, iI_toInt h1.1 h1.2.1, iI_toInt h1.2.2.1 h1.2.2.2]
theorem iI_le {a b : Int} (h1 : -2147483648 ≤ a ∧ a < 2147483648 ∧ -2147483648 ≤ b ∧ b < 2147483648) : iI a ≤ iI b ↔ a ≤ b := by
  rw [Int32.le_iff_toInt_le, iI_toInt h1.1 h1.2.1, iI_toInt h1.2.2.1 h1.2.2.2]
theorem iI_eq {a b : Int} (h1 : -2147483648 ≤ a ∧ a < 2147483648 ∧ -2147483648 ≤ b ∧ b < 2147483648) : iI a = iI b ↔ a = b := by
  rw [← Int32.toInt_inj, iI_toInt h1.1 h1.2.1, iI_toInt h1.2.2.1 h1.2.2.2]
theorem iI_cl {a : Int} (h1 : -2147483648 ≤ a ∧ a < 2147483648) : (iI a).toNatClampNeg = a.toNat := by
  rw [Int32.toNatClampNeg, iI_toInt h1.1 h1.2]
theorem iI_inb {a : Int} {n : Nat} (h : 0 ≤ a ∧ a < n ∧ a < 2147483648) : a_inb (iI a) n = true := by
  refine a_inb_of ?_
  unfold vp_in
  rw [iI_cl (by omega), iI_0, iI_lt (by omega)]
  omega
theorem iI_div {a b : Int} (h : 0 ≤ a ∧ a < 2147483648 ∧ 0 < b ∧ b < 2147483648) : iI a / iI b = iI (a / b) := by
  obtain ⟨x, rfl⟩ := Int.eq_ofNat_of_zero_le h.1
  obtain ⟨y, rfl⟩ := Int.eq_ofNat_of_zero_le (show 0 ≤ b by omega)
  have := pk_div (a := x) (d := y) (by omega) (by omega) (by omega)
  rw [nI_iI, nI_iI, nI_iI] at this
  exact this
theorem iI_rem {a b : Int} (h : 0 ≤ a ∧ a < 2147483648 ∧ 0 < b ∧ b < 2147483648) : a_irm (iI a) (iI b) = iI (a % b) := by
  obtain ⟨x, rfl⟩ := Int.eq_ofNat_of_zero_le h.1
  obtain ⟨y, rfl⟩ := Int.eq_ofNat_of_zero_le (show 0 ≤ b by omega)
  have := pk_rem (a := x) (d := y) (by omega) (by omega) (by omega)
  rw [nI_iI, nI_iI, nI_iI] at this
  exact this
theorem iI_ex (x : Int32) : ∃ z : Int, x = iI z ∧ -2147483648 ≤ z ∧ z < 2147483648 := ⟨x.toInt, iI_of x, x.le_toInt, x.toInt_lt⟩
-- cells
theorem uI_o {d : aI} {o f k : Nat} {x : Int32} (h : k ≠ o) : uI d o f x k = d k := if_neg h
theorem uI_s {d : aI} {o f j : Nat} {x : Int32} : uI d o f x o j = if j = f then x else d o j := by
  unfold uI upd
  rw [if_pos rfl]
theorem uI_at {d : aI} {o f k j : Nat} {x : Int32} : uI d o f x k j = if k = o ∧ j = f then x else d k j := by
  unfold uI upd
  by_cases h : k = o
  · subst h
    rw [if_pos rfl]
    by_cases h2 : j = f <;> simp [h2]
  · rw [if_neg h, if_neg (fun q => h q.1)]
/-- the cells of an object are these whole numbers, up to a place -/
def MA (d : aI) (o : Nat) (A : Nat → Int) : Prop := ∀ j, j < 1961 → d o j = iI (A j)
def aU (A : Nat → Int) (k : Nat) (v : Int) : Nat → Int := fun j => if j = k then v else A j
theorem MA.put {d : aI} {o : Nat} {A : Nat → Int} (h : MA d o A) (k : Nat) (v : Int) : MA (uI d o k (iI v)) o (aU A k v) := by
  intro j hj
  rw [uI_s]
  unfold aU
  by_cases e : j = k
  · rw [if_pos e, if_pos e]
  · rw [if_neg e, if_neg e]; exact h j hj
theorem MA.of {d d' : aI} {o : Nat} {A : Nat → Int} (h : MA d o A) (e : d' o = d o) : MA d' o A := by
  intro j hj
  rw [e]; exact h j hj
