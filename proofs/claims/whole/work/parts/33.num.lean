/-! ===== whole numbers behind the longs; comparisons that are decided ===== -/
def lJ (z : Int) : Int64 := Int64.ofInt z
theorem lN_lJ (n : Nat) : lN n = lJ (n : Int) := rfl
theorem lJ_toInt {z : Int} (h1 : -9223372036854775808 ≤ z) (h2 : z < 9223372036854775808) : (lJ z).toInt = z := Int64.toInt_ofInt_of_le h1 h2
theorem lJ_add (a b : Int) : lJ a + lJ b = lJ (a + b) := (Int64.ofInt_add a b).symm
theorem lJ_sub (a b : Int) : lJ a - lJ b = lJ (a - b) := (Int64.ofInt_sub a b).symm
theorem lJ_mul (a b : Int) : lJ a * lJ b = lJ (a * b) := (Int64.ofInt_mul a b).symm
theorem lJ_neg (a : Int) : -lJ a = lJ (-a) := (Int64.ofInt_neg a).symm
theorem lJ_0 : (0 : Int64) = lJ 0 := rfl
theorem i_l {z : Int} (h : -2147483648 ≤ z ∧ z < 2147483648) : Int32.toInt64 (iI z) = lJ z := by
  apply Int64.toInt_inj.mp
  rw [Int32.toInt_toInt64, iI_toInt h.1 h.2, lJ_toInt (by omega) (by omega)]
theorem l_i (z : Int) : Int64.toInt32 (lJ z) = iI z := Int64.toInt32_ofInt
theorem lJ_cmp {a b : Int} (h : -9223372036854775808 ≤ a ∧ a < 9223372036854775808 ∧ -9223372036854775808 ≤ b ∧ b < 9223372036854775808) : lg_cmp (lJ a) (lJ b) = iI (if b < a then 1 else if a = b then 0 else -1) := by
  unfold lg_cmp
  simp only [gt_iff_lt, Int64.lt_iff_toInt_lt, ← Int64.toInt_inj, lJ_toInt h.1 h.2.1, lJ_toInt h.2.2.1 h.2.2.2]
  by_cases h1 : b < a
  · rw [if_pos h1, if_pos h1]; rfl
  · rw [if_neg h1, if_neg h1]
    by_cases h2 : a = b
    · rw [if_pos h2, if_pos h2]; rfl
    · rw [if_neg h2, if_neg h2]; rfl
theorem lJ_eq {a b : Int} (h : -9223372036854775808 ≤ a ∧ a < 9223372036854775808 ∧ -9223372036854775808 ≤ b ∧ b < 9223372036854775808) : lJ a = lJ b ↔ a = b := by
  rw [← Int64.toInt_inj, lJ_toInt h.1 h.2.1, lJ_toInt h.2.2.1 h.2.2.2]
theorem lJ_lt {a b : Int} (h : -9223372036854775808 ≤ a ∧ a < 9223372036854775808 ∧ -9223372036854775808 ≤ b ∧ b < 9223372036854775808) : lJ a < lJ b ↔ a < b := by
  rw [Int64.lt_iff_toInt_lt, lJ_toInt h.1 h.2.1, lJ_toInt h.2.2.1 h.2.2.2]
theorem lJ_le {a b : Int} (h : -9223372036854775808 ≤ a ∧ a < 9223372036854775808 ∧ -9223372036854775808 ≤ b ∧ b < 9223372036854775808) : lJ a ≤ lJ b ↔ a ≤ b := by
  rw [Int64.le_iff_toInt_le, lJ_toInt h.1 h.2.1, lJ_toInt h.2.2.1 h.2.2.2]
-- decided comparisons of ints
theorem iI_eqT {a b : Int} (h : a = b) : (iI a = iI b) = True := eq_true (by rw [h])
theorem iI_eqF {a b : Int} (h : -2147483648 ≤ a ∧ a < 2147483648 ∧ -2147483648 ≤ b ∧ b < 2147483648 ∧ ¬a = b) : (iI a = iI b) = False := eq_false (fun q => h.2.2.2.2 ((iI_eq ⟨h.1, h.2.1, h.2.2.1, h.2.2.2.1⟩).mp q))
theorem iI_ltT {a b : Int} (h : -2147483648 ≤ a ∧ a < 2147483648 ∧ -2147483648 ≤ b ∧ b < 2147483648 ∧ a < b) : (iI a < iI b) = True := eq_true ((iI_lt ⟨h.1, h.2.1, h.2.2.1, h.2.2.2.1⟩).mpr h.2.2.2.2)
theorem iI_ltF {a b : Int} (h : -2147483648 ≤ a ∧ a < 2147483648 ∧ -2147483648 ≤ b ∧ b < 2147483648 ∧ ¬a < b) : (iI a < iI b) = False := eq_false (fun q => h.2.2.2.2 ((iI_lt ⟨h.1, h.2.1, h.2.2.1, h.2.2.2.1⟩).mp q))
theorem iI_leT {a b : Int} (h : -2147483648 ≤ a ∧ a < 2147483648 ∧ -2147483648 ≤ b ∧ b < 2147483648 ∧ a ≤ b) : (iI a ≤ iI b) = True := eq_true ((iI_le ⟨h.1, h.2.1, h.2.2.1, h.2.2.2.1⟩).mpr h.2.2.2.2)
theorem iI_leF {a b : Int} (h : -2147483648 ≤ a ∧ a < 2147483648 ∧ -2147483648 ≤ b ∧ b < 2147483648 ∧ ¬a ≤ b) : (iI a ≤ iI b) = False := eq_false (fun q => h.2.2.2.2 ((iI_le ⟨h.1, h.2.1, h.2.2.1, h.2.2.2.1⟩).mp q))
-- of longs
theorem lJ_eqT {a b : Int} (h : a = b) : (lJ a = lJ b) = True := eq_true (by rw [h])
theorem lJ_eqF {a b : Int} (h : -9223372036854775808 ≤ a ∧ a < 9223372036854775808 ∧ -9223372036854775808 ≤ b ∧ b < 9223372036854775808 ∧ ¬a = b) : (lJ a = lJ b) = False := eq_false (fun q => h.2.2.2.2 ((lJ_eq ⟨h.1, h.2.1, h.2.2.1, h.2.2.2.1⟩).mp q))
theorem lJ_ltT {a b : Int} (h : -9223372036854775808 ≤ a ∧ a < 9223372036854775808 ∧ -9223372036854775808 ≤ b ∧ b < 9223372036854775808 ∧ a < b) : (lJ a < lJ b) = True := eq_true ((lJ_lt ⟨h.1, h.2.1, h.2.2.1, h.2.2.2.1⟩).mpr h.2.2.2.2)
theorem lJ_ltF {a b : Int} (h : -9223372036854775808 ≤ a ∧ a < 9223372036854775808 ∧ -9223372036854775808 ≤ b ∧ b < 9223372036854775808 ∧ ¬a < b) : (lJ a < lJ b) = False := eq_false (fun q => h.2.2.2.2 ((lJ_lt ⟨h.1, h.2.1, h.2.2.1, h.2.2.2.1⟩).mp q))
theorem lJ_cG {a b : Int} (h : -9223372036854775808 ≤ a ∧ a < 9223372036854775808 ∧ -9223372036854775808 ≤ b ∧ b < 9223372036854775808 ∧ b < a) : lg_cmp (lJ a) (lJ b) = iI 1 := by
  rw [lJ_cmp ⟨h.1, h.2.1, h.2.2.1, h.2.2.2.1⟩, if_pos h.2.2.2.2]
theorem lJ_cE {a b : Int} (h : -9223372036854775808 ≤ a ∧ a < 9223372036854775808 ∧ -9223372036854775808 ≤ b ∧ b < 9223372036854775808 ∧ a = b) : lg_cmp (lJ a) (lJ b) = iI 0 := by
  rw [lJ_cmp ⟨h.1, h.2.1, h.2.2.1, h.2.2.2.1⟩, if_neg (by omega), if_pos h.2.2.2.2]
theorem lJ_cL {a b : Int} (h : -9223372036854775808 ≤ a ∧ a < 9223372036854775808 ∧ -9223372036854775808 ≤ b ∧ b < 9223372036854775808 ∧ a < b) : lg_cmp (lJ a) (lJ b) = iI (-1) := by
  rw [lJ_cmp ⟨h.1, h.2.1, h.2.2.1, h.2.2.2.1⟩, if_neg (by omega), if_neg (by omega)]
theorem lJ_div {a b : Int} (h : -9000000000000000000 ≤ a ∧ a < 9000000000000000000 ∧ -9000000000000000000 ≤ b ∧ b < 9000000000000000000) : lJ a / lJ b = lJ (a.tdiv b) := by
  apply Int64.toInt_inj.mp
  have g : (a.tdiv b).natAbs ≤ a.natAbs := Int.natAbs_tdiv_le_natAbs a b
  rw [Int64.toInt_div_of_ne_left _ _ (fun q => by
    have q1 := congrArg Int64.toInt q
    rw [lJ_toInt (by omega) (by omega), Int64.toInt_minValue] at q1
    omega), lJ_toInt (by omega) (by omega), lJ_toInt (by omega) (by omega), lJ_toInt (by omega) (by omega)]
theorem lJ_rem {a b : Int} (h : 0 ≤ a ∧ a < 9000000000000000000 ∧ 0 < b ∧ b < 9000000000000000000) : a_jrm (lJ a) (lJ b) = lJ (a % b) := by
  unfold a_jrm
  rw [lJ_div (by omega), lJ_mul, lJ_sub, Int.tdiv_eq_ediv_of_nonneg h.1]
  congr 1
  rw [Int.emod_def, Int.mul_comm]
theorem lJ_abs {x : Int} (h : -9223372036854775808 < x ∧ x < 9223372036854775808) : a_absJ (lJ x) = lJ (if x < 0 then -x else x) := by
  unfold a_absJ
  by_cases h1 : x < 0
  · rw [if_pos h1, lJ_0, if_neg (by rw [lJ_lt (by omega)]; omega), lJ_neg]
  · rw [if_neg h1]
    by_cases h2 : x = 0
    · subst h2; rfl
    · rw [lJ_0, if_pos (by rw [lJ_lt (by omega)]; omega)]
theorem lJ_cF {a b : Int} (h : -9223372036854775808 ≤ a ∧ a < 9223372036854775808 ∧ -9223372036854775808 ≤ b ∧ b < 9223372036854775808 ∧ ¬a = b) : (lg_cmp (lJ a) (lJ b) = iI 0) = False := by
  rcases Int.lt_or_gt_of_ne h.2.2.2.2 with q | q
  · rw [lJ_cL (by omega)]; exact eq_false (by decide)
  · rw [lJ_cG (by omega)]; exact eq_false (by decide)
theorem lJ_cGE {a b : Int} (h : -9223372036854775808 ≤ a ∧ a < 9223372036854775808 ∧ -9223372036854775808 ≤ b ∧ b < 9223372036854775808 ∧ b ≤ a) : (iI 0 ≤ lg_cmp (lJ a) (lJ b)) = True := by
  rcases (show b < a ∨ a = b by omega) with q | q
  · rw [lJ_cG (by omega)]; exact eq_true (by decide)
  · rw [lJ_cE (by omega)]; exact eq_true (by decide)
theorem lJ_cLE {a b : Int} (h : -9223372036854775808 ≤ a ∧ a < 9223372036854775808 ∧ -9223372036854775808 ≤ b ∧ b < 9223372036854775808 ∧ a ≤ b) : (lg_cmp (lJ a) (lJ b) ≤ iI 0) = True := by
  rcases (show a < b ∨ a = b by omega) with q | q
  · rw [lJ_cL (by omega)]; exact eq_true (by decide)
  · rw [lJ_cE (by omega)]; exact eq_true (by decide)
theorem lJ_cNL {a b : Int} (h : -9223372036854775808 ≤ a ∧ a < 9223372036854775808 ∧ -9223372036854775808 ≤ b ∧ b < 9223372036854775808 ∧ b ≤ a) : (lg_cmp (lJ a) (lJ b) < iI 0) = False := by
  rcases (show b < a ∨ a = b by omega) with q | q
  · rw [lJ_cG (by omega)]; exact eq_false (by decide)
  · rw [lJ_cE (by omega)]; exact eq_false (by decide)
theorem lJ_cNG {a b : Int} (h : -9223372036854775808 ≤ a ∧ a < 9223372036854775808 ∧ -9223372036854775808 ≤ b ∧ b < 9223372036854775808 ∧ a ≤ b) : (iI 0 < lg_cmp (lJ a) (lJ b)) = False := by
  rcases (show a < b ∨ a = b by omega) with q | q
  · rw [lJ_cL (by omega)]; exact eq_false (by decide)
  · rw [lJ_cE (by omega)]; exact eq_false (by decide)
theorem uA_o {d : aI} {o k : Nat} {f : Nat → Int32} (h : k ≠ o) : uA d o f k = d k := if_neg h
theorem uA_s {d : aI} {o : Nat} {f : Nat → Int32} : uA d o f o = f := if_pos rfl
theorem cpy_in {f g : Nat → Int32} {a b n k : Nat} (h : b ≤ k ∧ k < b + n) : va_cpy f g a b n k = f (a + (k - b)) := if_pos h
theorem cpy_out {f g : Nat → Int32} {a b n k : Nat} (h : ¬(b ≤ k ∧ k < b + n)) : va_cpy f g a b n k = g k := if_neg h
