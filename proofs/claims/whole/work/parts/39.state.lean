/-! ===== the whole relation ===== -/
theorem MA.ext {d : aI} {o : Nat} {A A' : Int → Int} (h : MA d o A) (hA : ∀ j : Int, 0 ≤ j → j < 1961 → A' j = A j) : MA d o A' := by
  intro j hj
  rw [hA j (by omega) (by omega)]
  exact h j hj
/-- a row of the steps, laid out as the table itself -/
def rowT (A : Int → Int) (s : Int) : Int → Int := fun j =>
  if j = 0 then A (136 + 60 * s) else if j = 1 then A (137 + 60 * s) else if 9 ≤ j ∧ j < 42 then A (138 + 60 * s + (j - 9)) else if 1936 ≤ j ∧ j < 1961 then A (171 + 60 * s + (j - 1936)) else A j
def stT (A : Int → Int) (s : Int) : Int → Int := if s < A 4 then rowT A s else A
/-- they agree in what a row keeps and in what is told -/
def Ag (A B : Int → Int) : Prop := ∀ j : Int, (j = 0 ∨ j = 1 ∨ (9 ≤ j ∧ j < 66) ∨ (1936 ≤ j ∧ j < 1961)) → A j = B j
theorem Ag.refl (A : Int → Int) : Ag A A := fun _ _ => rfl
theorem Ag.symm {A B : Int → Int} (h : Ag A B) : Ag B A := fun j hj => (h j hj).symm
theorem Ag.trans {A B C : Int → Int} (h : Ag A B) (h2 : Ag B C) : Ag A C := fun j hj => (h j hj).trans (h2 j hj)
theorem WN.ag {A B : Int → Int} (h : WN A) (g : Ag A B) : WN B := by
  obtain ⟨w0, w1, w9, w10, w11, wc, wh, wb⟩ := h
  have g0 := g 0 (by omega)
  have g1 := g 1 (by omega)
  refine ⟨by rw [← g0]; exact w0, by rw [← g1]; exact w1, by rw [← g 9 (by omega)]; exact w9, by rw [← g 10 (by omega)]; exact w10, by rw [← g 11 (by omega)]; exact w11, fun c c0 c1 => ?_, fun h h0 h1 => ?_, fun i i0 i1 => ?_⟩
  · rw [← g1] at c1
    have := wc c c0 c1
    rw [← g0, ← g (12 + 3 * c) (by omega), ← g (12 + 3 * c + 1) (by omega), ← g (12 + 3 * c + 2) (by omega), ← g (54 + c) (by omega), ← g (60 + c) (by omega)]
    refine ⟨this.1, this.2.1, this.2.2.1, this.2.2.2.1, this.2.2.2.2.1, fun q => ?_⟩
    rw [← g (42 + A (12 + 3 * c + 1)) (by omega)]
    exact this.2.2.2.2.2 q
  · rw [← g0] at h1
    have := wh h h0 h1
    rw [← g (30 + 2 * h) (by omega), ← g (30 + 2 * h + 1) (by omega), ← g (42 + h) (by omega), ← g (48 + h) (by omega)]
    exact this
  · rw [← g 11 (by omega)] at i1
    rw [← g (1936 + i) (by omega)]
    exact wb i i0 i1
/-- what has been told since is as told -/
def TB (A B : Int → Int) : Prop :=
  A 0 ≤ B 0 ∧ A 1 ≤ B 1 ∧ (∀ c : Int, A 1 ≤ c → c < B 1 → B (12 + 3 * c) = B (60 + c) ∧ B (12 + 3 * c + 1) = -1 ∧ B (12 + 3 * c + 2) = 0) ∧ (∀ h : Int, A 0 ≤ h → h < B 0 → B (30 + 2 * h) = B (48 + h) ∧ B (30 + 2 * h + 1) = 0)
/-- the ranges of all that the table holds -/
def SI (A : Int → Int) : Prop :=
  WN A ∧ (0 ≤ A 4 ∧ A 4 ≤ 30) ∧ (0 ≤ A 2 ∧ A 2 ≤ 4) ∧ (-1 ≤ A 3 ∧ A 3 < A 2) ∧ (∀ s : Int, 0 ≤ s → s < A 4 → WN (rowT A s) ∧ TB (rowT A s) (stT A (s + 1))) ∧
  ((0 ≤ A 5 ∧ A 5 ≤ 10) ∧ ∀ i : Int, 0 ≤ i → i < A 5 → (0 ≤ A (66 + 2 * i) ∧ A (66 + 2 * i) ≤ 99) ∧ (0 ≤ A (66 + 2 * i + 1) ∧ A (66 + 2 * i + 1) ≤ 9)) ∧
  ((0 ≤ A 6 ∧ A 6 ≤ 8) ∧ ∀ i : Int, 0 ≤ i → i < A 6 → (0 ≤ A (86 + 2 * i) ∧ A (86 + 2 * i) < A 0) ∧ (0 ≤ A (86 + 2 * i + 1) ∧ A (86 + 2 * i + 1) ≤ 99)) ∧
  ((0 ≤ A 7 ∧ A 7 ≤ 5) ∧ ∀ i : Int, 0 ≤ i → i < A 7 → (1 ≤ A (102 + 2 * i) ∧ A (102 + 2 * i) ≤ 4) ∧ (0 ≤ A (102 + 2 * i + 1) ∧ A (102 + 2 * i + 1) < 2 ^ (A (102 + 2 * i)).toNat)) ∧
  ((0 ≤ A 8 ∧ A 8 ≤ 8) ∧ ∀ i : Int, 0 ≤ i → i < A 8 → (0 ≤ A (112 + 3 * i) ∧ A (112 + 3 * i) < A 1) ∧ (0 ≤ A (112 + 3 * i + 1) ∧ A (112 + 3 * i + 1) < A 0) ∧ (0 ≤ A (112 + 3 * i + 2) ∧ A (112 + 3 * i + 2) ≤ 99))
/-- a night that the class has written into a row -/
def RW (d : aI) (o : Nat) (r : Int) (R : Int → Int) : Prop :=
  d o r.toNat = iI (R 0) ∧ d o (r + 1).toNat = iI (R 1) ∧ d o (r + 2).toNat = iI (R 11) ∧ d o (r + 3).toNat = iI (R 9) ∧ d o (r + 4).toNat = iI (R 10) ∧
  (∀ c : Nat, (c : Int) < R 1 → d o (r + 5 + c).toNat = iI (R (12 + 3 * c)) ∧ d o (r + 11 + c).toNat = iI (R (12 + 3 * c + 1)) ∧ d o (r + 17 + c).toNat = iI (R (12 + 3 * c + 2))) ∧
  (∀ h : Nat, (h : Int) < R 0 → d o (r + 23 + h).toNat = iI (R (30 + 2 * h)) ∧ d o (r + 29 + h).toNat = iI (R (30 + 2 * h + 1))) ∧
  (∀ k : Nat, (k : Int) < R 11 → d o (r + 35 + k).toNat = iI (R (1936 + k)))
theorem RW.ag {d : aI} {o : Nat} {r : Int} {R R' : Int → Int} (h : RW d o r R) (g : Ag R R') (w : R 1 ≤ 6 ∧ R 0 ≤ 6 ∧ R 11 ≤ 25) : RW d o r R' := by
  obtain ⟨h0, h1, h2, h3, h4, hc, hh, hb⟩ := h
  refine ⟨by rw [← g 0 (by omega)]; exact h0, by rw [← g 1 (by omega)]; exact h1, by rw [← g 11 (by omega)]; exact h2, by rw [← g 9 (by omega)]; exact h3, by rw [← g 10 (by omega)]; exact h4, fun c c1 => ?_, fun h h1 => ?_, fun i i1 => ?_⟩
  · rw [← g 1 (by omega)] at c1
    rw [← g (12 + 3 * c) (by omega), ← g (12 + 3 * c + 1) (by omega), ← g (12 + 3 * c + 2) (by omega)]
    exact hc c c1
  · rw [← g 0 (by omega)] at h1
    rw [← g (30 + 2 * h) (by omega), ← g (30 + 2 * h + 1) (by omega)]
    exact hh h h1
  · rw [← g 11 (by omega)] at i1
    rw [← g (1936 + i) (by omega)]
    exact hb i i1
theorem RW.of {d d' : aI} {o : Nat} {r : Int} {R : Int → Int} (h : RW d o r R) (e : ∀ j : Nat, r ≤ (j : Int) → (j : Int) < r + 60 → d' o j = d o j) (w : R 1 ≤ 6 ∧ R 0 ≤ 6 ∧ R 11 ≤ 25) (hr : 0 ≤ r) : RW d' o r R := by
  obtain ⟨h0, h1, h2, h3, h4, hc, hh, hb⟩ := h
  refine ⟨by rw [e _ (by omega) (by omega)]; exact h0, by rw [e _ (by omega) (by omega)]; exact h1, by rw [e _ (by omega) (by omega)]; exact h2, by rw [e _ (by omega) (by omega)]; exact h3, by rw [e _ (by omega) (by omega)]; exact h4, fun c c1 => ?_, fun h h1 => ?_, fun i i1 => ?_⟩
  · rw [e _ (by omega) (by omega), e _ (by omega) (by omega), e _ (by omega) (by omega)]
    exact hc c c1
  · rw [e _ (by omega) (by omega), e _ (by omega) (by omega)]
    exact hh h h1
  · rw [e _ (by omega) (by omega)]
    exact hb i i1
/-- what is told, as the class keeps it -/
def NT (d : aI) (o : Nat) (A : Int → Int) (cnt base wid most : Int) : Prop :=
  d o 0 = iI most ∧ d o 4 = iI (A cnt) ∧ (∀ j : Nat, (j : Int) < A cnt → d (o + 1) j = iI (A (base + wid * j))) ∧ (∀ j : Nat, (j : Int) < A cnt → d (o + 2) j = iI (A (base + wid * j + 1)))
/-- the class's steps -/
def RG (d : aI) (w : Nat) (A : Int → Int) : Prop :=
  ∃ f : Int, 0 ≤ f ∧ f < 30 ∧ d (w + 10) 1 = iI f ∧ d (w + 10) 2 = iI (A 4) ∧ ∀ s : Int, 0 ≤ s → s < A 4 → RW d (w + 11) ((f + s) % 30 * 60) (rowT A s)
/-- the class's world that begins at w holds the table -/
def CW (d : aI) (w : Nat) (A : Int → Int) : Prop :=
  CN d w A ∧ RG d w A ∧ d w 6 = iI (A 2) ∧ d w 7 = iI (A 3) ∧ NT d (w + 12) A 5 66 2 10 ∧ NT d (w + 16) A 6 86 2 8 ∧ NT d (w + 20) A 7 102 2 5 ∧ NT d (w + 24) A 8 112 3 8 ∧ (∀ j : Nat, (j : Int) < A 8 → d (w + 27) j = iI (A (112 + 3 * j + 2)))
/-- a text: its laws, how many clauses, and each: sort, first, second -/
abbrev Tx : Type := (Option (En → Int) × Option (En → Int)) × Int × (Int → Int × Int × Int)
def TxOK (x : Tx) : Prop := (0 ≤ x.2.1 ∧ x.2.1 ≤ 24) ∧ ∀ k : Int, 0 ≤ k → k < x.2.1 → (0 ≤ (x.2.2 k).1 ∧ (x.2.2 k).1 ≤ 8) ∧ (0 ≤ (x.2.2 k).2.1 ∧ (x.2.2 k).2.1 ≤ 9999) ∧ (0 ≤ (x.2.2 k).2.2 ∧ (x.2.2 k).2.2 ≤ 9999) ∧ ((x.2.2 k).1 = 8 → (x.2.2 k).2.1 ≤ 60)
/-- a law as the class keeps it: its fields, its code -/
def CL (d : aI) (o j : Nat) (s : Int) (x : Option (En → Int)) : Prop := match x with
  | none => d o j = iI (-1)
  | some f => ∃ (C : Int → Int) (a b : Int), d o j = iI a ∧ d o (j + 1) = iI b ∧ CV s C a b 64 f ∧ b ≤ 300 ∧ (∀ i : Nat, a ≤ (i : Int) → (i : Int) < b → d (o + 4) i = iI (C i))
def CT (d : aI) (o : Nat) (x : Tx) : Prop :=
  CL d o 6 0 x.1.1 ∧ CL d o 8 1 x.1.2 ∧ d o 4 = iI x.2.1 ∧ ∀ k : Nat, (k : Int) < x.2.1 → d (o + 1) k = iI (300 + (x.2.2 k).1) ∧ (2 ≤ (x.2.2 k).1 → d (o + 2) k = iI (x.2.2 k).2.1 ∧ d (o + 3) k = iI (x.2.2 k).2.2)
/-- a law as the reference keeps it -/
def ML (d : aI) (t s : Int) (x : Tx) (y : Option (En → Int)) : Prop := match y with
  | none => ∀ k : Int, 0 ≤ k → k < x.2.1 → (x.2.2 k).1 ≠ s
  | some f => ∃ (k a b : Int) (O V : Int → Int), (0 ≤ k ∧ k < x.2.1 ∧ (x.2.2 k).1 = s) ∧ (∀ j : Int, 0 ≤ j → j < k → (x.2.2 j).1 ≠ s) ∧ d 111 (681 * t + 1 + 3 * k + 1).toNat = iI a ∧ d 111 (681 * t + 1 + 3 * k + 2).toNat = iI b ∧ RV s O V a b f ∧ b ≤ 300 ∧ (∀ i : Int, a ≤ i → i < b → d 111 (681 * t + 73 + 2 * i).toNat = iI (O i) ∧ d 111 (681 * t + 73 + 2 * i + 1).toNat = iI (V i))
def MT (d : aI) (t : Int) (x : Tx) : Prop :=
  ML d t 0 x x.1.1 ∧ ML d t 1 x x.1.2 ∧ d 111 (681 * t).toNat = iI x.2.1 ∧ ∀ k : Int, 0 ≤ k → k < x.2.1 → d 111 (681 * t + 1 + 3 * k).toNat = iI (x.2.2 k).1 ∧ (2 ≤ (x.2.2 k).1 → d 111 (681 * t + 1 + 3 * k + 1).toNat = iI (x.2.2 k).2.1 ∧ (((x.2.2 k).1 = 2 ∨ (x.2.2 k).1 = 3 ∨ (x.2.2 k).1 = 4) → d 111 (681 * t + 1 + 3 * k + 2).toNat = iI (x.2.2 k).2.2))
/-- all that is kept: table, image, texts, tape, its length, fault, its place -/
abbrev aS : Type := (Int → Int) × (Int → Int) × (Nat → Tx) × (Nat → Int) × Int × Int × Int
def sOK (S : aS) : Prop := SI S.1 ∧ SI S.2.1 ∧ S.2.1 2 ≤ S.1 2 ∧ (∀ t : Nat, (t : Int) < S.1 2 → TxOK (S.2.2.1 t)) ∧ (∀ j, 0 ≤ S.2.2.2.1 j ∧ S.2.2.2.1 j ≤ 255) ∧ (0 ≤ S.2.2.2.2.1 ∧ S.2.2.2.2.1 ≤ 300)
/-- the class holds it -/
def CI (d : aI) (S : aS) : Prop :=
  CW d 1 S.1 ∧ CW d 29 S.2.1 ∧ (∀ t : Nat, (t : Int) < S.1 2 → CT d (58 + 5 * t) (S.2.2.1 t)) ∧ (d 78 6 = iI (-1) ∧ d 78 8 = iI (-1)) ∧ d 83 2 = iI S.2.2.2.2.1 ∧ d 83 3 = iI S.2.2.2.2.2.1 ∧ d 83 4 = iI S.2.2.2.2.2.2 ∧ (∀ j : Nat, (j : Int) < S.2.2.2.2.1 → d 84 j = iI (S.2.2.2.1 j))
/-- the reference holds it -/
def MI (d : aI) (S : aS) : Prop :=
  MA d 109 S.1 ∧ MA d 110 S.2.1 ∧ (∀ t : Nat, (t : Int) < S.1 2 → MT d t (S.2.2.1 t)) ∧ d 108 4 = iI S.2.2.2.2.1 ∧ d 108 5 = iI S.2.2.2.2.2.1 ∧ d 108 6 = iI S.2.2.2.2.2.2 ∧ (∀ j : Nat, (j : Int) < S.2.2.2.2.1 → d 112 j = iI (S.2.2.2.1 j)) ∧ d 108 23 = iI 1
/-- the class's scratch is not read between calls; the reference is untouched -/
def Kc (d d' : aI) : Prop := ∀ k, k < 85 ∨ 108 ≤ k → d' k = d k
/-- the reference's scratch -/
def Km (d d' : aI) : Prop := (∀ k, k < 113 ∨ k = 117 → k ≠ 108 → d' k = d k) ∧ ∀ j, j = 4 ∨ j = 5 ∨ j = 6 ∨ j = 23 → d' 108 j = d 108 j
/-- the reference's cells are untouched; the class's -/
def Fc (d d' : aI) : Prop := ∀ k, 108 ≤ k → d' k = d k
def Fm (d d' : aI) : Prop := ∀ k, k < 108 → d' k = d k
theorem Kc.refl (d : aI) : Kc d d := fun _ _ => rfl
theorem Km.refl (d : aI) : Km d d := ⟨fun _ _ _ => rfl, fun _ _ => rfl⟩
theorem Fc.refl (d : aI) : Fc d d := fun _ _ => rfl
theorem Fm.refl (d : aI) : Fm d d := fun _ _ => rfl
theorem Kc.trans {d d1 d2 : aI} (h : Kc d d1) (h2 : Kc d1 d2) : Kc d d2 := fun k a => (h2 k a).trans (h k a)
theorem Km.trans {d d1 d2 : aI} (h : Km d d1) (h2 : Km d1 d2) : Km d d2 := ⟨fun k a b => (h2.1 k a b).trans (h.1 k a b), fun j a => (h2.2 j a).trans (h.2 j a)⟩
theorem Fc.trans {d d1 d2 : aI} (h : Fc d d1) (h2 : Fc d1 d2) : Fc d d2 := fun k a => (h2 k a).trans (h k a)
theorem Fm.trans {d d1 d2 : aI} (h : Fm d d1) (h2 : Fm d1 d2) : Fm d d2 := fun k a => (h2 k a).trans (h k a)
theorem Kc.fc {d d' : aI} (h : Kc d d') : Fc d d' := fun k a => h k (Or.inr a)
theorem Km.fm {d d' : aI} (h : Km d d') : Fm d d' := fun k a => h.1 k (by omega) (by omega)
theorem CN.of {d d' : aI} {w : Nat} {A : Int → Int} (h : CN d w A) (e : ∀ k, w < k → k < w + 10 → d' k = d k) : CN d' w A := by
  unfold CN
  rw [e (w + 1) (by omega) (by omega), e (w + 2) (by omega) (by omega), e (w + 3) (by omega) (by omega), e (w + 4) (by omega) (by omega), e (w + 5) (by omega) (by omega), e (w + 6) (by omega) (by omega), e (w + 7) (by omega) (by omega), e (w + 8) (by omega) (by omega), e (w + 9) (by omega) (by omega)]
  exact h
theorem NT.of {d d' : aI} {o : Nat} {A : Int → Int} {a b c e : Int} (h : NT d o A a b c e) (g : ∀ k, o ≤ k → k < o + 4 → d' k = d k) : NT d' o A a b c e := by
  unfold NT
  rw [g o (by omega) (by omega), g (o + 1) (by omega) (by omega), g (o + 2) (by omega) (by omega)]
  exact h
theorem RG.of {d d' : aI} {w : Nat} {A : Int → Int} (h : RG d w A) (g : ∀ k, w + 10 ≤ k → k < w + 12 → d' k = d k) : RG d' w A := by
  unfold RG RW
  rw [g (w + 10) (by omega) (by omega), g (w + 11) (by omega) (by omega)]
  exact h
theorem CW.of {d d' : aI} {w : Nat} {A : Int → Int} (h : CW d w A) (g : ∀ k, w ≤ k → k < w + 28 → d' k = d k) : CW d' w A := by
  obtain ⟨h1, h2, h3, h4, h5, h6, h7, h8, h9⟩ := h
  exact ⟨h1.of (fun k a b => g k (by omega) (by omega)), h2.of (fun k a b => g k (by omega) (by omega)), by rw [g w (by omega) (by omega)]; exact h3, by rw [g w (by omega) (by omega)]; exact h4, h5.of (fun k a b => g k (by omega) (by omega)), h6.of (fun k a b => g k (by omega) (by omega)), h7.of (fun k a b => g k (by omega) (by omega)), h8.of (fun k a b => g k (by omega) (by omega)), by rw [g (w + 27) (by omega) (by omega)]; exact h9⟩
theorem CT.of {d d' : aI} {o : Nat} {x : Tx} (h : CT d o x) (g : ∀ k, o ≤ k → k < o + 5 → d' k = d k) : CT d' o x := by
  unfold CT CL at h ⊢
  rw [g o (by omega) (by omega), g (o + 1) (by omega) (by omega), g (o + 2) (by omega) (by omega), g (o + 3) (by omega) (by omega), g (o + 4) (by omega) (by omega)]
  exact h
theorem CI.of {d d' : aI} {S : aS} (h : CI d S) (g : ∀ k, k < 85 → d' k = d k) (hs : S.1 2 ≤ 4) : CI d' S := by
  obtain ⟨h1, h2, h3, h4, h5, h6, h7, h8⟩ := h
  refine ⟨h1.of (fun k a b => g k (by omega)), h2.of (fun k a b => g k (by omega)), fun t ht => (h3 t ht).of (fun k a b => g k (by omega)), ?_, ?_, ?_, ?_, ?_⟩
  · rw [g 78 (by omega)]; exact h4
  · rw [g 83 (by omega)]; exact h5
  · rw [g 83 (by omega)]; exact h6
  · rw [g 83 (by omega)]; exact h7
  · rw [g 84 (by omega)]; exact h8
theorem MT.of {d d' : aI} {t : Int} {x : Tx} (h : MT d t x) (g : d' 111 = d 111) : MT d' t x := by
  unfold MT ML
  rw [g]
  exact h
theorem MI.of {d d' : aI} {S : aS} (h : MI d S) (g : Km d d') : MI d' S := by
  obtain ⟨h1, h2, h3, h4, h5, h6, h7, h8⟩ := h
  refine ⟨h1.of (g.1 109 (by omega) (by omega)), h2.of (g.1 110 (by omega) (by omega)), fun t ht => (h3 t ht).of (g.1 111 (by omega) (by omega)), ?_, ?_, ?_, ?_, ?_⟩
  · rw [g.2 4 (by omega)]; exact h4
  · rw [g.2 5 (by omega)]; exact h5
  · rw [g.2 6 (by omega)]; exact h6
  · rw [g.1 112 (by omega) (by omega)]; exact h7
  · rw [g.2 23 (by omega)]; exact h8
theorem MI.fc {d d' : aI} {S : aS} (h : MI d S) (g : Fc d d') : MI d' S := by
  obtain ⟨h1, h2, h3, h4, h5, h6, h7, h8⟩ := h
  refine ⟨h1.of (g 109 (by omega)), h2.of (g 110 (by omega)), fun t ht => (h3 t ht).of (g 111 (by omega)), ?_, ?_, ?_, ?_, ?_⟩
  · rw [g 108 (by omega)]; exact h4
  · rw [g 108 (by omega)]; exact h5
  · rw [g 108 (by omega)]; exact h6
  · rw [g 112 (by omega)]; exact h7
  · rw [g 108 (by omega)]; exact h8
theorem CI.fm {d d' : aI} {S : aS} (h : CI d S) (g : Fm d d') (hs : S.1 2 ≤ 4) : CI d' S := h.of (fun k hk => g k (by omega)) hs
