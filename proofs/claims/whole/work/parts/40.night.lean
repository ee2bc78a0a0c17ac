/-! ===== what is done in a night: what it makes of the table ===== -/
theorem WN.cat {A A' : Int → Int} (hW : WN A) {c : Int} (hc : 0 ≤ c ∧ c < A 1) (ho : ∀ j : Int, j ≠ 12 + 3 * c → j ≠ 12 + 3 * c + 1 → j ≠ 12 + 3 * c + 2 → A' j = A j) (h0 : 0 ≤ A' (12 + 3 * c) ∧ A' (12 + 3 * c) ≤ 9) (h1 : -1 ≤ A' (12 + 3 * c + 1) ∧ A' (12 + 3 * c + 1) < A 0) (h2 : 0 ≤ A' (12 + 3 * c + 2) ∧ A' (12 + 3 * c + 2) ≤ 9999) (h3 : 0 ≤ A' (12 + 3 * c + 1) → A (42 + A' (12 + 3 * c + 1)) = A' (12 + 3 * c)) : WN A' := by
  obtain ⟨w0, w1, w9, w10, w11, wc, wh, wb⟩ := hW
  have g0 := ho 0 (by omega) (by omega) (by omega)
  have g1 := ho 1 (by omega) (by omega) (by omega)
  have g11 := ho 11 (by omega) (by omega) (by omega)
  refine ⟨by rw [g0]; exact w0, by rw [g1]; exact w1, by rw [ho 9 (by omega) (by omega) (by omega)]; exact w9, by rw [ho 10 (by omega) (by omega) (by omega)]; exact w10, by rw [g11]; exact w11, fun k k0 k1 => ?_, fun h h0 h1 => ?_, fun i i0 i1 => ?_⟩
  · rw [g1] at k1
    rw [g0, ho (54 + k) (by omega) (by omega) (by omega), ho (60 + k) (by omega) (by omega) (by omega)]
    have wk := wc k k0 k1
    by_cases hk : k = c
    · subst hk
      refine ⟨h0, h1, h2, wk.2.2.2.1, wk.2.2.2.2.1, fun q => ?_⟩
      rw [ho (42 + A' (12 + 3 * k + 1)) (by omega) (by omega) (by omega)]
      exact h3 q
    · rw [ho (12 + 3 * k) (by omega) (by omega) (by omega), ho (12 + 3 * k + 1) (by omega) (by omega) (by omega), ho (12 + 3 * k + 2) (by omega) (by omega) (by omega)]
      refine ⟨wk.1, wk.2.1, wk.2.2.1, wk.2.2.2.1, wk.2.2.2.2.1, fun q => ?_⟩
      rw [ho (42 + A (12 + 3 * k + 1)) (by omega) (by omega) (by omega)]
      exact wk.2.2.2.2.2 q
  · rw [g0] at h1
    rw [ho (30 + 2 * h) (by omega) (by omega) (by omega), ho (30 + 2 * h + 1) (by omega) (by omega) (by omega), ho (42 + h) (by omega) (by omega) (by omega), ho (48 + h) (by omega) (by omega) (by omega)]
    exact wh h h0 h1
  · rw [g11] at i1
    rw [ho (1936 + i) (by omega) (by omega) (by omega)]
    exact wb i i0 i1
theorem WN.hous {A A' : Int → Int} (hW : WN A) {h : Int} (hh : 0 ≤ h ∧ h < A 0) (ho : ∀ j : Int, j ≠ 30 + 2 * h → j ≠ 30 + 2 * h + 1 → A' j = A j) (h0 : 0 ≤ A' (30 + 2 * h) ∧ A' (30 + 2 * h) ≤ 999) (h1 : 0 ≤ A' (30 + 2 * h + 1) ∧ A' (30 + 2 * h + 1) ≤ 999) : WN A' := by
  obtain ⟨w0, w1, w9, w10, w11, wc, wh, wb⟩ := hW
  have g0 := ho 0 (by omega) (by omega)
  have g1 := ho 1 (by omega) (by omega)
  have g11 := ho 11 (by omega) (by omega)
  refine ⟨by rw [g0]; exact w0, by rw [g1]; exact w1, by rw [ho 9 (by omega) (by omega)]; exact w9, by rw [ho 10 (by omega) (by omega)]; exact w10, by rw [g11]; exact w11, fun k k0 k1 => ?_, fun k k0 k1 => ?_, fun i i0 i1 => ?_⟩
  · rw [g1] at k1
    have wk := wc k k0 k1
    rw [g0, ho (54 + k) (by omega) (by omega), ho (60 + k) (by omega) (by omega), ho (12 + 3 * k) (by omega) (by omega), ho (12 + 3 * k + 1) (by omega) (by omega), ho (12 + 3 * k + 2) (by omega) (by omega)]
    refine ⟨wk.1, wk.2.1, wk.2.2.1, wk.2.2.2.1, wk.2.2.2.2.1, fun q => ?_⟩
    rw [ho (42 + A (12 + 3 * k + 1)) (by omega) (by omega)]
    exact wk.2.2.2.2.2 q
  · rw [g0] at k1
    have wk := wh k k0 k1
    rw [ho (42 + k) (by omega) (by omega), ho (48 + k) (by omega) (by omega)]
    by_cases hk : k = h
    · subst hk
      exact ⟨h0, h1, wk.2.2⟩
    · rw [ho (30 + 2 * k) (by omega) (by omega), ho (30 + 2 * k + 1) (by omega) (by omega)]
      exact wk
  · rw [g11] at i1
    rw [ho (1936 + i) (by omega) (by omega)]
    exact wb i i0 i1
theorem WN.rest {A A' : Int → Int} (hW : WN A) (ho : ∀ j : Int, j ≠ 9 → j ≠ 10 → j ≠ 11 → j < 1936 → A' j = A j) (h9 : 0 ≤ A' 9 ∧ A' 9 ≤ 9999) (h10 : 0 ≤ A' 10 ∧ A' 10 < 30931) (h11 : 0 ≤ A' 11 ∧ A' 11 ≤ 25) (hb : ∀ i : Int, 0 ≤ i → i < A' 11 → 0 ≤ A' (1936 + i) ∧ A' (1936 + i) < 1080000) : WN A' := by
  obtain ⟨w0, w1, w9, w10, w11, wc, wh, wb⟩ := hW
  have g0 := ho 0 (by omega) (by omega) (by omega) (by omega)
  have g1 := ho 1 (by omega) (by omega) (by omega) (by omega)
  refine ⟨by rw [g0]; exact w0, by rw [g1]; exact w1, h9, h10, h11, fun k k0 k1 => ?_, fun k k0 k1 => ?_, hb⟩
  · rw [g1] at k1
    have wk := wc k k0 k1
    rw [g0, ho (54 + k) (by omega) (by omega) (by omega) (by omega), ho (60 + k) (by omega) (by omega) (by omega) (by omega), ho (12 + 3 * k) (by omega) (by omega) (by omega) (by omega), ho (12 + 3 * k + 1) (by omega) (by omega) (by omega) (by omega), ho (12 + 3 * k + 2) (by omega) (by omega) (by omega) (by omega)]
    refine ⟨wk.1, wk.2.1, wk.2.2.1, wk.2.2.2.1, wk.2.2.2.2.1, fun q => ?_⟩
    rw [ho (42 + A (12 + 3 * k + 1)) (by omega) (by omega) (by omega) (by omega)]
    exact wk.2.2.2.2.2 q
  · rw [g0] at k1
    have wk := wh k k0 k1
    rw [ho (42 + k) (by omega) (by omega) (by omega) (by omega), ho (48 + k) (by omega) (by omega) (by omega) (by omega), ho (30 + 2 * k) (by omega) (by omega) (by omega) (by omega), ho (30 + 2 * k + 1) (by omega) (by omega) (by omega) (by omega)]
    exact wk
def lineS (A : Int → Int) (c h w : Int) : Int := ((A 9 * 6 + c) * 6 + h) * 3 + w
def noteS (A : Int → Int) (c h w : Int) : Int → Int := fun j =>
  if A 11 = 25 then (if 1936 ≤ j ∧ j < 1960 then A (j + 1) else if j = 1960 then lineS A c h w else A j) else (if j = 1936 + A 11 then lineS A c h w else if j = 11 then A 11 + 1 else A j)
theorem noteS_o {A : Int → Int} {c h w j : Int} (hj : j < 1936 ∧ j ≠ 11 ∧ 0 ≤ A 11) : noteS A c h w j = A j := by
  unfold noteS
  split
  · rw [if_neg (by omega), if_neg (by omega)]
  · rw [if_neg (by omega), if_neg (by omega)]
theorem noteS_11 {A : Int → Int} {c h w : Int} (hj : 0 ≤ A 11) : noteS A c h w 11 = if A 11 = 25 then 25 else A 11 + 1 := by
  unfold noteS
  split
  · rename_i q
    rw [if_neg (by omega), if_neg (by omega)]; exact q
  · rw [if_neg (by omega), if_pos rfl]
theorem noteS_wn {A : Int → Int} (hW : WN A) {c h w : Int} (hr : 0 ≤ c ∧ c < 6 ∧ 0 ≤ h ∧ h < 6 ∧ 0 ≤ w ∧ w < 3) : WN (noteS A c h w) := by
  have w11 := hW.2.2.2.2.1
  have w9 := hW.2.2.1
  have wb := hW.2.2.2.2.2.2.2
  have hl : 0 ≤ lineS A c h w ∧ lineS A c h w < 1080000 := by unfold lineS; omega
  refine hW.rest (fun j a b x y => noteS_o (by omega)) (by rw [noteS_o (by omega)]; exact w9) (by rw [noteS_o (by omega)]; exact hW.2.2.2.1) ?_ ?_
  · unfold noteS
    split
    · rw [if_neg (by omega), if_neg (by omega)]; omega
    · rw [if_neg (by omega), if_pos (by omega)]; omega
  · unfold noteS
    intro i i0
    split
    · rename_i q
      rw [if_neg (by omega), if_neg (by omega)]
      intro i1
      by_cases h1 : i = 24
      · rw [if_neg (by omega), if_pos (by omega)]; exact hl
      · rw [if_pos (by omega), show 1936 + i + 1 = 1936 + (i + 1) by omega]
        exact wb (i + 1) (by omega) (by omega)
    · rename_i q
      rw [if_neg (by omega), if_pos (by omega)]
      intro i1
      by_cases h1 : i = A 11
      · rw [if_pos (by omega)]; exact hl
      · rw [if_neg (by omega), if_neg (by omega)]
        exact wb i i0 (by omega)
def enterS (A : Int → Int) (c h : Int) : Int → Int := noteS (aU (aU A (12 + 3 * c + 1) h) (30 + 2 * h + 1) (if A (30 + 2 * h + 1) < 999 then A (30 + 2 * h + 1) + 1 else 999)) c h 0
def outS (A : Int → Int) (c w : Int) : Int → Int := noteS (aU (aU A (12 + 3 * c) (A (42 + A (12 + 3 * c + 1)))) (12 + 3 * c + 1) (-1)) c (A (12 + 3 * c + 1)) w
def moveS (A : Int → Int) (c : Int) (up : Bool) : Int → Int := aU A (12 + 3 * c) ((A (12 + 3 * c) + (if up then 1 else 9)) % 10)
def anewS (A : Int → Int) : Int → Int := aU A 10 ((A 10 * 647 + 509) % 30931)
def biteS (A : Int → Int) (h t : Int) : Int := if t < A (30 + 2 * h) then t else A (30 + 2 * h)
def takeS (A : Int → Int) (c h t : Int) : Int → Int := aU (aU A (30 + 2 * h) (A (30 + 2 * h) - biteS A h t)) (12 + 3 * c + 2) (if A (12 + 3 * c + 2) + biteS A h t < 9999 then A (12 + 3 * c + 2) + biteS A h t else 9999)
def wanderS (A : Int → Int) (c : Int) : Int → Int := if A 10 % 3 = 0 then anewS A else moveS (anewS A) c (decide (A 10 % 3 = 1))
theorem enterS_wn {A : Int → Int} (hW : WN A) {c h : Int} (hc : 0 ≤ c ∧ c < A 1) (hh : 0 ≤ h ∧ h < A 0) (hp : A (12 + 3 * c) = A (42 + h)) : WN (enterS A c h) := by
  have w0 := hW.1
  have w1 := hW.2.1
  have wc := hW.2.2.2.2.2.1 c hc.1 hc.2
  have wh := hW.2.2.2.2.2.2.1 h hh.1 hh.2
  refine noteS_wn ?_ (by omega)
  have s1 : WN (aU A (12 + 3 * c + 1) h) := hW.cat hc (fun j a b x => aU_miss b) (by rw [aU_miss (by omega)]; exact wc.1) (by rw [aU_hit rfl]; omega) (by rw [aU_miss (by omega)]; exact wc.2.2.1) (fun _ => by rw [aU_hit rfl, aU_miss (by omega)]; exact hp.symm)
  refine s1.hous (h := h) (by rw [aU_miss (by omega)]; exact hh) (fun j a b => aU_miss b) (by rw [aU_miss (by omega), aU_miss (by omega)]; exact wh.1) (by rw [aU_hit rfl]; split <;> omega)
theorem outS_wn {A : Int → Int} (hW : WN A) {c w : Int} (hc : 0 ≤ c ∧ c < A 1) (hi : 0 ≤ A (12 + 3 * c + 1)) (hw : 0 ≤ w ∧ w < 3) : WN (outS A c w) := by
  have w0 := hW.1
  have w1 := hW.2.1
  have wc := hW.2.2.2.2.2.1 c hc.1 hc.2
  have wh := hW.2.2.2.2.2.2.1 (A (12 + 3 * c + 1)) hi wc.2.1.2
  refine noteS_wn ?_ (by omega)
  refine hW.cat hc (fun j a b x => by rw [aU_miss b, aU_miss a]) (by rw [aU_miss (by omega), aU_hit rfl]; exact wh.2.2.1) (by rw [aU_hit rfl]; omega) (by rw [aU_miss (by omega), aU_miss (by omega)]; exact wc.2.2.1) (fun q => by rw [aU_hit rfl] at q; omega)
theorem moveS_wn {A : Int → Int} (hW : WN A) {c : Int} {up : Bool} (hc : 0 ≤ c ∧ c < A 1) (hi : A (12 + 3 * c + 1) = -1) : WN (moveS A c up) := by
  have wc := hW.2.2.2.2.2.1 c hc.1 hc.2
  refine hW.cat hc (fun j a b x => aU_miss a) (by unfold moveS; rw [aU_hit rfl]; omega) (by unfold moveS; rw [aU_miss (by omega)]; exact wc.2.1) (by unfold moveS; rw [aU_miss (by omega)]; exact wc.2.2.1) (fun q => by unfold moveS at q; rw [aU_miss (by omega), hi] at q; omega)
theorem anewS_wn {A : Int → Int} (hW : WN A) : WN (anewS A) := by
  refine hW.rest (fun j a b x y => aU_miss b) (by unfold anewS; rw [aU_miss (by omega)]; exact hW.2.2.1) (by unfold anewS; rw [aU_hit rfl]; omega) (by unfold anewS; rw [aU_miss (by omega)]; exact hW.2.2.2.2.1) (fun i i0 i1 => ?_)
  unfold anewS at i1 ⊢
  rw [aU_miss (by omega)] at i1 ⊢
  exact hW.2.2.2.2.2.2.2 i i0 i1
theorem wanderS_wn {A : Int → Int} (hW : WN A) {c : Int} (hc : 0 ≤ c ∧ c < A 1) (hi : A (12 + 3 * c + 1) = -1) : WN (wanderS A c) := by
  unfold wanderS
  split
  · exact anewS_wn hW
  · refine moveS_wn (anewS_wn hW) ?_ ?_
    · unfold anewS; rw [aU_miss (by omega)]; exact hc
    · unfold anewS; rw [aU_miss (by omega)]; exact hi
theorem takeS_wn {A : Int → Int} (hW : WN A) {c h t : Int} (hc : 0 ≤ c ∧ c < A 1) (hh : 0 ≤ h ∧ h < A 0) (ht : 0 ≤ t ∧ t ≤ 99) : WN (takeS A c h t) := by
  have w0 := hW.1
  have wc := hW.2.2.2.2.2.1 c hc.1 hc.2
  have wh := hW.2.2.2.2.2.2.1 h hh.1 hh.2
  have hb : 0 ≤ biteS A h t ∧ biteS A h t ≤ 99 + 900 ∧ biteS A h t ≤ A (30 + 2 * h) := by unfold biteS; split <;> omega
  have s1 : WN (aU A (30 + 2 * h) (A (30 + 2 * h) - biteS A h t)) := hW.hous hh (fun j a b => aU_miss a) (by rw [aU_hit rfl]; omega) (by rw [aU_miss (by omega)]; exact wh.2.1)
  have w1 := hW.2.1
  unfold takeS
  refine s1.cat (c := c) (by rw [aU_miss (by omega)]; exact hc) (fun j a b x => aU_miss x) (by rw [aU_miss (by omega), aU_miss (by omega)]; exact wc.1) (by rw [aU_miss (by omega), aU_miss (by omega), aU_miss (by omega)]; exact wc.2.1) (by rw [aU_hit rfl]; split <;> omega) (fun q => ?_)
  have e1 : ∀ x y : Int, aU (aU A (30 + 2 * h) x) (12 + 3 * c + 2) y (12 + 3 * c + 1) = A (12 + 3 * c + 1) := fun x y => by rw [aU_miss (by omega), aU_miss (by omega)]
  have e0 : ∀ x y : Int, aU (aU A (30 + 2 * h) x) (12 + 3 * c + 2) y (12 + 3 * c) = A (12 + 3 * c) := fun x y => by rw [aU_miss (by omega), aU_miss (by omega)]
  rw [e1] at q
  rw [e1, e0, aU_miss (by omega)]
  exact wc.2.2.2.2.2 q
