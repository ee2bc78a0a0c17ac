/-! ===== the tokens ===== -/
abbrev ltT (c : Int) : Prop := (97 ≤ c ∧ c ≤ 122) ∨ (65 ≤ c ∧ c ≤ 90)
abbrev fgT (c : Int) : Prop := 48 ≤ c ∧ c ≤ 57
abbrev blT (c : Int) : Prop := c = 32 ∨ c = 10
abbrev sgT (c : Int) : Prop := c = 60 ∨ c = 62 ∨ c = 61 ∨ c = 35 ∨ c = 43 ∨ c = 45 ∨ c = 42 ∨ c = 47 ∨ c = 40 ∨ c = 41 ∨ c = 59
def rnT (p : Int → Prop) [DecidablePred p] (tp : Nat → Int) : Nat → Nat → Nat
  | 0, i => i
  | r + 1, i => if p (tp i) then rnT p tp r (i + 1) else i
/-- how far a run of a kind goes -/
def rnE (p : Int → Prop) [DecidablePred p] (tp : Nat → Int) (L i : Nat) : Nat := rnT p tp (L - i) i
theorem rnE_ge {p : Int → Prop} [DecidablePred p] {tp : Nat → Int} {L i : Nat} (h : L ≤ i) : rnE p tp L i = i := by
  unfold rnE
  rw [show L - i = 0 by omega]
  rfl
theorem rnE_s {p : Int → Prop} [DecidablePred p] {tp : Nat → Int} {L i : Nat} (h : i < L) : rnE p tp L i = if p (tp i) then rnE p tp L (i + 1) else i := by
  unfold rnE
  obtain ⟨r, hr⟩ : ∃ r, L - i = r + 1 := ⟨L - i - 1, by omega⟩
  rw [hr, show L - (i + 1) = r by omega]
  rfl
theorem rnE_ok {p : Int → Prop} [DecidablePred p] {tp : Nat → Int} {L : Nat} : ∀ r i, i + r = L → i ≤ rnE p tp L i ∧ rnE p tp L i ≤ L ∧ (∀ j, i ≤ j → j < rnE p tp L i → p (tp j)) ∧ (rnE p tp L i < L → ¬p (tp (rnE p tp L i)))
  | 0, i, h => by
    rw [rnE_ge (by omega)]
    exact ⟨Nat.le_refl _, by omega, fun j h1 h2 => by omega, fun z => by omega⟩
  | r + 1, i, h => by
    rw [rnE_s (by omega)]
    by_cases q : p (tp i)
    · rw [if_pos q]
      obtain ⟨a, b, c, d⟩ := rnE_ok (p := p) (tp := tp) (L := L) r (i + 1) (by omega)
      refine ⟨by omega, b, fun j h1 h2 => ?_, d⟩
      by_cases w : j = i
      · rw [w]; exact q
      · exact c j (by omega) h2
    · rw [if_neg q]
      exact ⟨Nat.le_refl _, by omega, fun j h1 h2 => by omega, fun _ => q⟩
theorem rnE_in {p : Int → Prop} [DecidablePred p] {tp : Nat → Int} {L i : Nat} (h : i ≤ L) : i ≤ rnE p tp L i ∧ rnE p tp L i ≤ L ∧ (∀ j, i ≤ j → j < rnE p tp L i → p (tp j)) ∧ (rnE p tp L i < L → ¬p (tp (rnE p tp L i))) := rnE_ok (L - i) i (by omega)
-- the words, six letters each
def wtT : List Int := [116, 97, 107, 101, 115, 32, 103, 111, 101, 115, 32, 32, 104, 111, 117, 115, 101, 32, 99, 97, 116, 32, 32, 32, 108, 101, 116, 32, 32, 32, 111, 117, 116, 32, 32, 32, 117, 112, 32, 32, 32, 32, 100, 111, 119, 110, 32, 32, 104, 111, 117, 114, 32, 32, 100, 114, 101, 97, 109, 32, 99, 111, 108, 100, 32, 32, 116, 111, 32, 32, 32, 32, 116, 117, 114, 110, 32, 32, 99, 104, 105, 108, 108, 32, 105, 102, 32, 32, 32, 32, 116, 104, 101, 110, 32, 32, 101, 108, 115, 101, 32, 32, 101, 110, 100, 32, 32, 32, 111, 114, 32, 32, 32, 32, 97, 110, 100, 32, 32, 32, 110, 111, 116, 32, 32, 32, 119, 104, 111, 32, 32, 32, 116, 97, 107, 101, 110, 32, 112, 108, 97, 99, 101, 32, 99, 97, 109, 101, 32, 32, 105, 110, 115, 105, 100, 101]
def wcT (k : Nat) : Int := wtT.getD k 0
abbrev wmT (tp : Nat → Int) (i l w : Nat) : Prop := l ≤ 6 ∧ (∀ j, j < l → tp (i + j) = wcT (6 * w + j)) ∧ (l = 6 ∨ wcT (6 * w + l) = 32)
def wkT (tp : Nat → Int) (i l : Nat) : Int := if fnd (fun w => wmT tp i l w) 26 = -1 then 2 else 300 + fnd (fun w => wmT tp i l w) 26
abbrev dbT (tp : Nat → Int) (L i : Nat) : Prop := (tp i = 60 ∨ tp i = 62) ∧ i + 1 < L ∧ tp (i + 1) = 61
def teT (tp : Nat → Int) (L i : Nat) : Nat := if ltT (tp i) then rnE ltT tp L i else if fgT (tp i) then rnE fgT tp L i else if dbT tp L i then i + 2 else i + 1
def tkT (tp : Nat → Int) (L i : Nat) : Int := if ltT (tp i) then wkT tp i (rnE ltT tp L i - i) else if fgT (tp i) then 1 else if dbT tp L i then (if tp i = 60 then 3 else 4) else if sgT (tp i) then tp i else 2
def vlT (tp : Nat → Int) (i : Nat) : Nat → Int
  | 0 => 0
  | l + 1 => if vlT tp i l * 10 + tp (i + l) - 48 ≤ 10000 then vlT tp i l * 10 + tp (i + l) - 48 else 10000
/-- where the t-th token begins; behind the last: the end -/
def psT (tp : Nat → Int) (L : Nat) : Nat → Nat
  | 0 => rnE blT tp L 0
  | t + 1 => rnE blT tp L (if psT tp L t < L then teT tp L (psT tp L t) else psT tp L t)
def KT (tp : Nat → Int) (L t : Nat) : Int := if psT tp L t < L then tkT tp L (psT tp L t) else 0
def VT (tp : Nat → Int) (L t : Nat) : Int := vlT tp (psT tp L t) (rnE fgT tp L (psT tp L t) - psT tp L t)
theorem teT_in {tp : Nat → Int} {L i : Nat} (h : i < L) : i < teT tp L i ∧ teT tp L i ≤ L := by
  unfold teT
  have a := rnE_in (p := ltT) (tp := tp) (L := L) (i := i + 1) (by omega)
  have b := rnE_in (p := fgT) (tp := tp) (L := L) (i := i + 1) (by omega)
  by_cases q1 : ltT (tp i)
  · rw [if_pos q1, rnE_s h, if_pos q1]; omega
  · rw [if_neg q1]
    by_cases q2 : fgT (tp i)
    · rw [if_pos q2, rnE_s h, if_pos q2]; omega
    · rw [if_neg q2]
      by_cases q3 : dbT tp L i
      · rw [if_pos q3]; have := q3.2.1; omega
      · rw [if_neg q3]; omega
theorem psT_le {tp : Nat → Int} {L : Nat} (t : Nat) : psT tp L t ≤ L := by
  cases t with
  | zero => exact (rnE_in (Nat.zero_le _)).2.1
  | succ t =>
    have ih := psT_le (tp := tp) (L := L) t
    show rnE blT tp L (if psT tp L t < L then teT tp L (psT tp L t) else psT tp L t) ≤ L
    by_cases q : psT tp L t < L
    · rw [if_pos q]; exact (rnE_in (teT_in q).2).2.1
    · rw [if_neg q, rnE_ge (by omega)]; exact ih
theorem psT_lt {tp : Nat → Int} {L t : Nat} (q : psT tp L t < L) : psT tp L t < psT tp L (t + 1) ∧ teT tp L (psT tp L t) ≤ psT tp L (t + 1) := by
  show psT tp L t < rnE blT tp L (if psT tp L t < L then teT tp L (psT tp L t) else psT tp L t) ∧ teT tp L (psT tp L t) ≤ rnE blT tp L (if psT tp L t < L then teT tp L (psT tp L t) else psT tp L t)
  rw [if_pos q]
  have a := teT_in (tp := tp) q
  have b := (rnE_in (p := blT) (tp := tp) a.2).1
  omega
theorem psT_bl {tp : Nat → Int} {L : Nat} (t : Nat) (q : psT tp L t < L) : ¬blT (tp (psT tp L t)) := by
  cases t with
  | zero => exact (rnE_in (p := blT) (tp := tp) (Nat.zero_le L)).2.2.2 q
  | succ t =>
    have le := psT_le (tp := tp) (L := L) t
    have q2 : rnE blT tp L (if psT tp L t < L then teT tp L (psT tp L t) else psT tp L t) < L := q
    by_cases w : psT tp L t < L
    · show ¬blT (tp (rnE blT tp L (if psT tp L t < L then teT tp L (psT tp L t) else psT tp L t)))
      rw [if_pos w] at q2 ⊢
      exact (rnE_in (p := blT) (tp := tp) (teT_in w).2).2.2.2 q2
    · rw [if_neg w, rnE_ge (by omega)] at q2
      exact absurd q2 w
theorem psT_ge {tp : Nat → Int} {L : Nat} : ∀ t, (∀ j, j < t → psT tp L j < L) → t ≤ psT tp L t
  | 0, _ => Nat.zero_le _
  | t + 1, h => by
    have ih := psT_ge t (fun j hj => h j (by omega))
    have := (psT_lt (h t (by omega))).1
    omega
/-- the class's texts -/
theorem chrT : ∀ k, k < 156 → a_chr (a_sb.getD 0 []) k = iI (wcT k) := by decide +kernel
theorem idxT : ∀ c, c < 256 → decide (a_fst (a_i2c (iI (c : Nat))) (a_sb.getD 1 []) 0 < iI 0) = decide (¬sgT (c : Nat)) := by decide +kernel
theorem idx2 : ∀ c, c < 256 → decide (¬ (a_i2c (iI (c : Nat)) < 0 ∨ 256 ≤ (a_i2c (iI (c : Nat))).toNatClampNeg)) = true := by decide +kernel
theorem fs_chr {d : aI} {e : aJ} {k : Nat} (h : k < 156) : FSchr d e (iI (k : Nat)) = some (iI (wcT k), d, e) := by
  have g : decide (¬ (iI (k : Nat) < 0 ∨ 156 ≤ (iI (k : Nat)).toNatClampNeg)) = true := by
    refine decide_eq_true (fun z => ?_)
    rcases z with z | z
    · rw [iI_0, iI_lt (by omega)] at z
      have := of_decide_eq_true (decide_eq_true z)
      omega
    · rw [iI_cl (by omega)] at z; omega
  have c2 : (iI (k : Nat)).toNatClampNeg = k := by rw [iI_cl (by omega)]; omega
  unfold FSchr
  rw [g, c2, chrT k h]
  rfl
theorem fs_idx {d : aI} {e : aJ} {c : Int} (h : 0 ≤ c ∧ c ≤ 255) : ∃ x : Int32, FSidx d e (a_i2c (iI c)) = some (x, d, e) ∧ (x < iI 0 ↔ ¬sgT c) := by
  obtain ⟨k, rfl⟩ := Int.eq_ofNat_of_zero_le h.1
  refine ⟨a_fst (a_i2c (iI (k : Nat))) (a_sb.getD 1 []) 0, ?_, ?_⟩
  · have g := idx2 k (by omega)
    unfold FSidx
    rw [g]
    rfl
  · have g := idxT k (by omega)
    exact decide_eq_decide.mp g
theorem wc_inD : ∀ k, k < 156 → -1000 ≤ wcT k ∧ wcT k ≤ 1000 := by decide +kernel
theorem wc_in {k : Nat} (h : k < 156) : -1000 ≤ wcT k ∧ wcT k ≤ 1000 := wc_inD k h
