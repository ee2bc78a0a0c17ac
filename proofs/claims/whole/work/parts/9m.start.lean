/-! ===== the first state ===== -/
def A0 : Int → Int := fun j => if j = 10 then 397 else if j = 3 then -1 else 0
def S0 : aS := (A0, A0, fun _ => ((none, none), 0, fun _ => (0, 0, 0)), fun _ => 0, 0, -1, -1)
theorem A0_0 {j : Int} (h : j ≠ 10) (h2 : j ≠ 3) : A0 j = 0 := by
  unfold A0
  rw [if_neg h, if_neg h2]
theorem A0_wn : WN A0 := by
  have e0 : A0 0 = 0 := rfl
  have e1 : A0 1 = 0 := rfl
  have e9 : A0 9 = 0 := rfl
  have e10 : A0 10 = 397 := rfl
  have e11 : A0 11 = 0 := rfl
  refine ⟨by omega, by omega, by omega, by omega, by omega, fun c c0 c1 => by omega, fun h h0 h1 => by omega, fun i i0 i1 => by omega⟩
theorem A0_si : SI A0 := by
  have e2 : A0 2 = 0 := rfl
  have e3 : A0 3 = -1 := rfl
  have e4 : A0 4 = 0 := rfl
  have e5 : A0 5 = 0 := rfl
  have e6 : A0 6 = 0 := rfl
  have e7 : A0 7 = 0 := rfl
  have e8 : A0 8 = 0 := rfl
  refine ⟨A0_wn, by omega, by omega, by omega, fun s s0 s1 => by omega, ⟨by omega, fun i a b => by omega⟩, ⟨by omega, fun i a b => by omega⟩, ⟨by omega, fun i a b => by omega⟩, ⟨by omega, fun i a b => by omega⟩⟩
theorem S0_ok : sOK S0 := by
  refine ⟨A0_si, A0_si, Int.le_refl _, fun t ht => ?_, fun j => by show (0 : Int) ≤ 0 ∧ (0 : Int) ≤ 255; omega, by show (0 : Int) ≤ 0 ∧ (0 : Int) ≤ 300; omega⟩
  have h : (t : Int) < 0 := ht
  omega
def KW (w : Nat) : Bool := decide (Dw dt0 (w + 1) 8 = iI 0 ∧ Dw dt0 (w + 1) 9 = iI 0 ∧ Dw dt0 (w + 1) 10 = iI 0 ∧ Dw dt0 (w + 1) 11 = iI 0 ∧ Dw dt0 (w + 1) 12 = iI 397 ∧ Dw dt0 (w + 10) 1 = iI 0 ∧ Dw dt0 (w + 10) 2 = iI 0 ∧ Dw dt0 w 6 = iI 0 ∧ Dw dt0 w 7 = iI (-1)) && decide (Dw dt0 (w + 12) 0 = iI 10 ∧ Dw dt0 (w + 12) 4 = iI 0 ∧ Dw dt0 (w + 16) 0 = iI 8 ∧ Dw dt0 (w + 16) 4 = iI 0 ∧ Dw dt0 (w + 20) 0 = iI 5 ∧ Dw dt0 (w + 20) 4 = iI 0 ∧ Dw dt0 (w + 24) 0 = iI 8 ∧ Dw dt0 (w + 24) 4 = iI 0)
theorem CW_0 {w : Nat} (h : KW w = true) : CW (Dw dt0) w A0 := by
  unfold KW at h
  rw [Bool.and_eq_true] at h
  obtain ⟨a1, a2, a3, a4, a5, a6, a7, a8, a9⟩ := of_decide_eq_true h.1
  obtain ⟨b1, b2, b3, b4, b5, b6, b7, b8⟩ := of_decide_eq_true h.2
  have nt : ∀ (o : Nat) (cnt base wid most : Int), A0 cnt = 0 → Dw dt0 o 0 = iI most → Dw dt0 o 4 = iI 0 → NT (Dw dt0) o A0 cnt base wid most := by
    intro o cnt base wid most h0 h1 h2
    refine ⟨h1, by rw [h0]; exact h2, fun j hj => ?_, fun j hj => ?_⟩
    · rw [h0] at hj; omega
    · rw [h0] at hj; omega
  refine ⟨⟨a1, a2, a3, a4, a5, fun j hj => ?_, fun j hj => ?_, fun j hj => ?_, fun j hj => ?_, fun j hj => ?_, fun j hj => ?_, fun j hj => ?_, fun j hj => ?_⟩, ⟨0, by omega, by omega, a6, a7, fun s s0 s1 => ?_⟩, a8, a9, nt _ _ _ _ _ rfl b1 b2, nt _ _ _ _ _ rfl b3 b4, nt _ _ _ _ _ rfl b5 b6, nt _ _ _ _ _ rfl b7 b8, fun j hj => ?_⟩
  · have h2 : (j : Int) < 0 := hj
    omega
  · have h2 : (j : Int) < 0 := hj
    omega
  · have h2 : (j : Int) < 0 := hj
    omega
  · have h2 : (j : Int) < 0 := hj
    omega
  · have h2 : (j : Int) < 0 := hj
    omega
  · have h2 : (j : Int) < 0 := hj
    omega
  · have h2 : (j : Int) < 0 := hj
    omega
  · have h2 : (j : Int) < 0 := hj
    omega
  · have h2 : s < 0 := s1
    omega
  · have h2 : (j : Int) < 0 := hj
    omega
theorem row109 : a_nth dt0 109 [] = [0, 0, 0, iI (-1), 0, 0, 0, 0, 0, 0, iI 397] := by decide +kernel
theorem MA_0 : MA (Dw dt0) 109 A0 := by
  intro j hj
  show a_nth (a_nth dt0 109 []) j 0 = iI (A0 j)
  rw [row109]
  by_cases h : j < 11
  · rcases (show j = 0 ∨ j = 1 ∨ j = 2 ∨ j = 3 ∨ j = 4 ∨ j = 5 ∨ j = 6 ∨ j = 7 ∨ j = 8 ∨ j = 9 ∨ j = 10 by omega) with q | q | q | q | q | q | q | q | q | q | q <;> (subst q; rfl)
  · rw [a_nth_out _ _ _ (show 11 ≤ j by omega), A0_0 (by omega) (by omega)]
    rfl
theorem start_ok : ∃ dF, FX11_copyn (Dw dt0) (fun _ _ => 0) = some ((), dF, fun _ _ => 0) ∧ CI dF S0 ∧ MI dF S0 := by
  obtain ⟨dF, h1, h2, h3⟩ := mq_copyn (d := Dw dt0) (e := fun _ _ => 0)
  have c : ∀ o j v, o ≠ 110 → Dw dt0 o j = v → dF o j = v := fun o j v ho h => by rw [h3 o ho]; exact h
  refine ⟨dF, h1, ⟨(CW_0 (by decide +kernel)).of (fun k a b => h3 k (by omega)), (CW_0 (by decide +kernel)).of (fun k a b => h3 k (by omega)), fun t ht => ?_, ⟨c 78 6 _ (by omega) (by decide +kernel), c 78 8 _ (by omega) (by decide +kernel)⟩, c 83 2 _ (by omega) ?_, c 83 3 _ (by omega) ?_, c 83 4 _ (by omega) ?_, fun j hj => ?_⟩, ⟨?_, ?_, fun t ht => ?_, c 108 4 _ (by omega) ?_, c 108 5 _ (by omega) ?_, c 108 6 _ (by omega) ?_, fun j hj => ?_, c 108 23 _ (by omega) (by decide +kernel)⟩⟩
  · have h : (t : Int) < 0 := ht
    omega
  · show Dw dt0 83 2 = iI 0
    decide +kernel
  · show Dw dt0 83 3 = iI (-1)
    decide +kernel
  · show Dw dt0 83 4 = iI (-1)
    decide +kernel
  · have h : (j : Int) < 0 := hj
    omega
  · exact MA_0.of (h3 109 (by omega))
  · intro j hj
    rw [h2 j hj]
    exact MA_0 j hj
  · have h : (t : Int) < 0 := ht
    omega
  · show Dw dt0 108 4 = iI 0
    decide +kernel
  · show Dw dt0 108 5 = iI (-1)
    decide +kernel
  · show Dw dt0 108 6 = iI (-1)
    decide +kernel
  · have h : (j : Int) < 0 := hj
    omega
