/-! ===== houses and cats are told ===== -/
/-- cells of houses and cats that are told are as they were -/
def Old (A A' : Int → Int) : Prop :=
  A 0 ≤ A' 0 ∧ A 1 ≤ A' 1 ∧ (∀ j : Int, ((2 ≤ j ∧ j < 12) ∨ (66 ≤ j ∧ j < 1961)) → A' j = A j) ∧ (∀ h : Int, 0 ≤ h → h < A 0 → A' (42 + h) = A (42 + h) ∧ A' (48 + h) = A (48 + h) ∧ A' (30 + 2 * h) = A (30 + 2 * h) ∧ A' (30 + 2 * h + 1) = A (30 + 2 * h + 1)) ∧
  (∀ c : Int, 0 ≤ c → c < A 1 → A' (54 + c) = A (54 + c) ∧ A' (60 + c) = A (60 + c) ∧ A' (12 + 3 * c) = A (12 + 3 * c) ∧ A' (12 + 3 * c + 1) = A (12 + 3 * c + 1) ∧ A' (12 + 3 * c + 2) = A (12 + 3 * c + 2))
/-- a row's own cells -/
theorem row_old {A A' : Int → Int} (ho : Old A A') {s : Int} (hs : 0 ≤ s ∧ s < 30) {j : Int} (hj : j = 0 ∨ j = 1 ∨ (9 ≤ j ∧ j < 42) ∨ (1936 ≤ j ∧ j < 1961)) : rowT A' s j = rowT A s j := by
  have o := ho.2.2.1
  by_cases h0 : j = 0
  · subst h0
    rw [rowT_0, rowT_0, o _ (by omega)]
  · by_cases h1 : j = 1
    · subst h1
      rw [rowT_1, rowT_1, o _ (by omega)]
    · by_cases h9 : 9 ≤ j ∧ j < 42
      · rw [rowT_n h9, rowT_n h9, o _ (by omega)]
      · rw [rowT_b (by omega), rowT_b (by omega), o _ (by omega)]
theorem WN.old {A A' : Int → Int} (ho : Old A A') {s : Int} (hs : 0 ≤ s ∧ s < 30) (h : WN (rowT A s)) (hw : A 0 ≤ 6 ∧ A 1 ≤ 6) (hb : rowT A s 0 ≤ A 0 ∧ rowT A s 1 ≤ A 1) : WN (rowT A' s) := by
  obtain ⟨w0, w1, w9, w10, w11, wc, wh, wb⟩ := h
  have q := fun (j : Int) hj => row_old ho hs (j := j) hj
  have g0 := q 0 (by omega)
  have g1 := q 1 (by omega)
  have g11 := q 11 (by omega)
  have oh := ho.2.2.2.1
  have oc := ho.2.2.2.2
  have t : ∀ (B : Int → Int) (j : Int), 42 ≤ j → j < 66 → rowT B s j = B j := fun B j a b => rowT_o (by omega)
  refine ⟨by rw [g0]; exact w0, by rw [g1]; exact w1, by rw [q 9 (by omega)]; exact w9, by rw [q 10 (by omega)]; exact w10, by rw [g11]; exact w11, fun c c0 c1 => ?_, fun h h0 h1 => ?_, fun i i0 i1 => ?_⟩
  · rw [g1] at c1
    have wk := wc c c0 c1
    have oc1 := oc c c0 (by omega)
    rw [t A (54 + c) (by omega) (by omega), t A (60 + c) (by omega) (by omega)] at wk
    rw [g0, q (12 + 3 * c) (by omega), q (12 + 3 * c + 1) (by omega), q (12 + 3 * c + 2) (by omega), t A' (54 + c) (by omega) (by omega), t A' (60 + c) (by omega) (by omega), oc1.1, oc1.2.1]
    refine ⟨wk.1, wk.2.1, wk.2.2.1, wk.2.2.2.1, wk.2.2.2.2.1, fun z => ?_⟩
    have z2 := wk.2.2.2.2.2 z
    rw [t A _ (by omega) (by omega)] at z2
    rw [t A' _ (by omega) (by omega), (oh _ z (by omega)).1]
    exact z2
  · rw [g0] at h1
    have wk := wh h h0 h1
    have oh1 := oh h h0 (by omega)
    rw [t A (42 + h) (by omega) (by omega), t A (48 + h) (by omega) (by omega)] at wk
    rw [q (30 + 2 * h) (by omega), q (30 + 2 * h + 1) (by omega), t A' (42 + h) (by omega) (by omega), t A' (48 + h) (by omega) (by omega), oh1.1, oh1.2.1]
    exact wk
  · rw [g11] at i1
    rw [q (1936 + i) (by omega)]
    exact wb i i0 i1
theorem SI.rows_le {A : Int → Int} (hS : SI A) (s : Int) (s0 : 0 ≤ s) (s1 : s < A 4) : rowT A s 0 ≤ A 0 ∧ rowT A s 1 ≤ A 1 := by
  have hr := hS.2.2.2.2.1
  have key : ∀ n : Nat, ∀ s : Int, 0 ≤ s → s + n = A 4 - 1 → rowT A s 0 ≤ A 0 ∧ rowT A s 1 ≤ A 1 := by
    intro n
    induction n with
    | zero =>
      intro s a b
      have t := (hr s a (by omega)).2
      unfold stT at t
      rw [if_neg (by omega)] at t
      exact ⟨t.1, t.2.1⟩
    | succ n ih =>
      intro s a b
      have i := ih (s + 1) (by omega) (by omega)
      have t := (hr s a (by omega)).2
      unfold stT at t
      rw [if_pos (by omega)] at t
      have t0 := t.1
      have t1 := t.2.1
      omega
  exact key (A 4 - 1 - s).toNat s s0 (by omega)
theorem SI.tell {A A' : Int → Int} (hS : SI A) (hW : WN A') (ho : Old A A') (tb : TB A A') : SI A' := by
  have hle := hS.rows_le
  obtain ⟨hw, h4, h2, h3, hr, hn⟩ := hS
  have o := ho.2.2.1
  have oh := ho.2.2.2.1
  have oc := ho.2.2.2.2
  have a0 := ho.1
  have a1 := ho.2.1
  have w0 := hw.1
  have w1 := hw.2.1
  have v0 := hW.1
  have v1 := hW.2.1
  have t : ∀ (s : Int) (B : Int → Int) (j : Int), 42 ≤ j → j < 66 → rowT B s j = B j := fun s B j a b => rowT_o (by omega)
  refine ⟨hW, by rw [o 4 (by omega)]; exact h4, by rw [o 2 (by omega)]; exact h2, by rw [o 3 (by omega), o 2 (by omega)]; exact h3, fun s s0 s1 => ?_, ?_⟩
  · rw [o 4 (by omega)] at s1
    obtain ⟨r1, r2⟩ := hr s s0 s1
    have hb := hle s s0 s1
    have q := fun (s : Int) hs (j : Int) hj => row_old ho (s := s) hs (j := j) hj
    have u0 := q s (by omega) 0 (by omega)
    have u1 := q s (by omega) 1 (by omega)
    have y0 := r1.1
    have y1 := r1.2.1
    refine ⟨r1.old ho (by omega) (by omega) hb, ?_⟩
    unfold stT at r2 ⊢
    rw [o 4 (by omega)]
    by_cases h : s + 1 < A 4
    · rw [if_pos h] at r2 ⊢
      have hb2 := hle (s + 1) (by omega) h
      have z0 := q (s + 1) (by omega) 0 (by omega)
      have z1 := q (s + 1) (by omega) 1 (by omega)
      obtain ⟨p0, p1, pc, ph⟩ := r2
      refine ⟨by omega, by omega, fun c c0 c1 => ?_, fun k k0 k1 => ?_⟩
      · have g := pc c (by omega) (by omega)
        rw [t (s + 1) A (60 + c) (by omega) (by omega)] at g
        rw [q (s + 1) (by omega) (12 + 3 * c) (by omega), q (s + 1) (by omega) (12 + 3 * c + 1) (by omega), q (s + 1) (by omega) (12 + 3 * c + 2) (by omega), t (s + 1) A' (60 + c) (by omega) (by omega), (oc c (by omega) (by omega)).2.1]
        exact g
      · have g := ph k (by omega) (by omega)
        rw [t (s + 1) A (48 + k) (by omega) (by omega)] at g
        rw [q (s + 1) (by omega) (30 + 2 * k) (by omega), q (s + 1) (by omega) (30 + 2 * k + 1) (by omega), t (s + 1) A' (48 + k) (by omega) (by omega), (oh k (by omega) (by omega)).2.1]
        exact g
    · rw [if_neg h] at r2 ⊢
      obtain ⟨p0, p1, pc, ph⟩ := r2
      refine ⟨by omega, by omega, fun c c0 c1 => ?_, fun k k0 k1 => ?_⟩
      · by_cases hc : c < A 1
        · have g := pc c (by omega) hc
          have e := oc c (by omega) hc
          rw [e.2.2.1, e.2.2.2.1, e.2.2.2.2, e.2.1]
          exact g
        · exact tb.2.2.1 c (by omega) c1
      · by_cases hc : k < A 0
        · have g := ph k (by omega) hc
          have e := oh k (by omega) hc
          rw [e.2.2.1, e.2.2.2, e.2.1]
          exact g
        · exact tb.2.2.2 k (by omega) k1
  · rw [o 5 (by omega), o 6 (by omega), o 7 (by omega), o 8 (by omega)]
    obtain ⟨n5, n6, n7, n8⟩ := hn
    refine ⟨⟨n5.1, fun i a b => ?_⟩, ⟨n6.1, fun i a b => ?_⟩, ⟨n7.1, fun i a b => ?_⟩, ⟨n8.1, fun i a b => ?_⟩⟩
    · rw [o _ (by omega), o _ (by omega)]; exact n5.2 i a b
    · rw [o (86 + 2 * i) (by omega), o (86 + 2 * i + 1) (by omega)]
      have := n6.2 i a b
      exact ⟨by omega, this.2⟩
    · rw [o _ (by omega), o _ (by omega)]; exact n7.2 i a b
    · rw [o (112 + 3 * i) (by omega), o (112 + 3 * i + 1) (by omega), o (112 + 3 * i + 2) (by omega)]
      have := n8.2 i a b
      exact ⟨by omega, by omega, this.2.2⟩
theorem RW.ag0 {d : aI} {o : Nat} {r : Int} {R R' : Int → Int} (h : RW d o r R) (g : ∀ j : Int, (j = 0 ∨ j = 1 ∨ (9 ≤ j ∧ j < 42) ∨ (1936 ≤ j ∧ j < 1961)) → R' j = R j) (w : R 1 ≤ 6 ∧ R 0 ≤ 6 ∧ R 11 ≤ 25) : RW d o r R' := by
  obtain ⟨h0, h1, h2, h3, h4, hc, hh, hb⟩ := h
  refine ⟨by rw [g 0 (by omega)]; exact h0, by rw [g 1 (by omega)]; exact h1, by rw [g 11 (by omega)]; exact h2, by rw [g 9 (by omega)]; exact h3, by rw [g 10 (by omega)]; exact h4, fun c c1 => ?_, fun h h1 => ?_, fun i i1 => ?_⟩
  · rw [g 1 (by omega)] at c1
    rw [g (12 + 3 * c) (by omega), g (12 + 3 * c + 1) (by omega), g (12 + 3 * c + 2) (by omega)]
    exact hc c c1
  · rw [g 0 (by omega)] at h1
    rw [g (30 + 2 * h) (by omega), g (30 + 2 * h + 1) (by omega)]
    exact hh h h1
  · rw [g 11 (by omega)] at i1
    rw [g (1936 + i) (by omega)]
    exact hb i i1
theorem CW.tell {d d' : aI} {A A' : Int → Int} (h : CW d 1 A) (hS : SI A) (hC : CN d' 1 A') (hf : ∀ k, k = 1 ∨ (11 ≤ k ∧ k < 29) → d' k = d k) (ho : Old A A') : CW d' 1 A' := by
  obtain ⟨c1, ⟨f, f0, f1, g1, g2, gr⟩, c3, c4, c5, c6, c7, c8, c9⟩ := h
  have hn := hS.2.2.2.2.2
  have o := ho.2.2.1
  refine ⟨hC, ⟨f, f0, f1, ?_, ?_, fun s s0 s1 => ?_⟩, ?_, ?_, ?_, ?_, ?_, ?_, ?_⟩
  · rw [hf 11 (by omega)]; exact g1
  · rw [hf 11 (by omega), o 4 (by omega)]; exact g2
  · rw [o 4 (by omega)] at s1
    have h4 := hS.2.1
    have ws := (hS.2.2.2.2.1 s s0 s1).1
    have y0 := ws.1
    have y1 := ws.2.1
    have y11 := ws.2.2.2.2.1
    exact ((gr s s0 s1).of (d' := d') (fun j _ _ => by rw [hf 12 (by omega)]) (by omega) (by omega)).ag0 (fun j hj => row_old ho (by omega) hj) (by omega)
  · rw [hf 1 (by omega), o 2 (by omega)]; exact c3
  · rw [hf 1 (by omega), o 3 (by omega)]; exact c4
  · exact (c5.of (fun k a b => hf k (by omega))).ag (o 5 (by omega)) (fun j hj => ⟨o _ (by omega), o _ (by omega)⟩)
  · exact (c6.of (fun k a b => hf k (by omega))).ag (o 6 (by omega)) (fun j hj => ⟨o _ (by omega), o _ (by omega)⟩)
  · exact (c7.of (fun k a b => hf k (by omega))).ag (o 7 (by omega)) (fun j hj => ⟨o _ (by omega), o _ (by omega)⟩)
  · exact (c8.of (fun k a b => hf k (by omega))).ag (o 8 (by omega)) (fun j hj => ⟨o _ (by omega), o _ (by omega)⟩)
  · rw [hf 28 (by omega), o 8 (by omega)]
    intro j hj
    rw [o _ (by omega)]
    exact c9 j hj
def houseS (A : Int → Int) (p q : Int) : Int → Int := aU (aU (aU (aU (aU A (42 + A 0) p) (48 + A 0) q) (30 + 2 * A 0) q) (30 + 2 * A 0 + 1) 0) 0 (A 0 + 1)
def catOfS (A : Int → Int) (p q : Int) : Int → Int := aU (aU (aU (aU (aU (aU A (60 + A 1) p) (54 + A 1) q) (12 + 3 * A 1) p) (12 + 3 * A 1 + 1) (-1)) (12 + 3 * A 1 + 2) 0) 1 (A 1 + 1)
theorem houseS_ok {A : Int → Int} (hW : WN A) {p q : Int} (hp : 0 ≤ p ∧ p ≤ 9) (hq : 0 ≤ q ∧ q ≤ 999) (h6 : A 0 < 6) : WN (houseS A p q) ∧ Old A (houseS A p q) ∧ TB A (houseS A p q) := by
  obtain ⟨w0, w1, w9, w10, w11, wc, wh, wb⟩ := hW
  have e0 : houseS A p q 0 = A 0 + 1 := aU_hit rfl
  have eo : ∀ j : Int, j ≠ 0 → j ≠ 42 + A 0 → j ≠ 48 + A 0 → j ≠ 30 + 2 * A 0 → j ≠ 30 + 2 * A 0 + 1 → houseS A p q j = A j := fun j a b c e f => by
    unfold houseS
    rw [aU_miss a, aU_miss f, aU_miss e, aU_miss c, aU_miss b]
  have e1 : houseS A p q (42 + A 0) = p := by unfold houseS; rw [aU_miss (by omega), aU_miss (by omega), aU_miss (by omega), aU_miss (by omega), aU_hit rfl]
  have e2 : houseS A p q (48 + A 0) = q := by unfold houseS; rw [aU_miss (by omega), aU_miss (by omega), aU_miss (by omega), aU_hit rfl]
  have e3 : houseS A p q (30 + 2 * A 0) = q := by unfold houseS; rw [aU_miss (by omega), aU_miss (by omega), aU_hit rfl]
  have e4 : houseS A p q (30 + 2 * A 0 + 1) = 0 := by unfold houseS; rw [aU_miss (by omega), aU_hit rfl]
  have f1 : houseS A p q 1 = A 1 := eo 1 (by omega) (by omega) (by omega) (by omega) (by omega)
  have f11 : houseS A p q 11 = A 11 := eo 11 (by omega) (by omega) (by omega) (by omega) (by omega)
  refine ⟨⟨by omega, by omega, by rw [eo 9 (by omega) (by omega) (by omega) (by omega) (by omega)]; exact w9, by rw [eo 10 (by omega) (by omega) (by omega) (by omega) (by omega)]; exact w10, by omega, fun c c0 c1 => ?_, fun h h0 h1 => ?_, fun i i0 i1 => ?_⟩, ⟨by omega, by omega, fun j hj => eo j (by omega) (by omega) (by omega) (by omega) (by omega), fun h h0 h1 => ⟨eo _ (by omega) (by omega) (by omega) (by omega) (by omega), eo _ (by omega) (by omega) (by omega) (by omega) (by omega), eo _ (by omega) (by omega) (by omega) (by omega) (by omega), eo _ (by omega) (by omega) (by omega) (by omega) (by omega)⟩, fun c c0 c1 => ⟨eo _ (by omega) (by omega) (by omega) (by omega) (by omega), eo _ (by omega) (by omega) (by omega) (by omega) (by omega), eo _ (by omega) (by omega) (by omega) (by omega) (by omega), eo _ (by omega) (by omega) (by omega) (by omega) (by omega), eo _ (by omega) (by omega) (by omega) (by omega) (by omega)⟩⟩, ⟨by omega, by omega, fun c c0 c1 => by omega, fun h h0 h1 => ?_⟩⟩
  · rw [f1] at c1
    have wk := wc c c0 c1
    rw [e0, eo (12 + 3 * c) (by omega) (by omega) (by omega) (by omega) (by omega), eo (12 + 3 * c + 1) (by omega) (by omega) (by omega) (by omega) (by omega), eo (12 + 3 * c + 2) (by omega) (by omega) (by omega) (by omega) (by omega), eo (54 + c) (by omega) (by omega) (by omega) (by omega) (by omega), eo (60 + c) (by omega) (by omega) (by omega) (by omega) (by omega)]
    refine ⟨wk.1, by omega, wk.2.2.1, wk.2.2.2.1, wk.2.2.2.2.1, fun z => ?_⟩
    rw [eo _ (by omega) (by omega) (by omega) (by omega) (by omega)]
    exact wk.2.2.2.2.2 z
  · by_cases hh : h = A 0
    · subst hh
      rw [e1, e2, e3, e4]
      exact ⟨hq, by omega, hp, hq⟩
    · have wk := wh h h0 (by omega)
      rw [eo (30 + 2 * h) (by omega) (by omega) (by omega) (by omega) (by omega), eo (30 + 2 * h + 1) (by omega) (by omega) (by omega) (by omega) (by omega), eo (42 + h) (by omega) (by omega) (by omega) (by omega) (by omega), eo (48 + h) (by omega) (by omega) (by omega) (by omega) (by omega)]
      exact wk
  · rw [eo _ (by omega) (by omega) (by omega) (by omega) (by omega)]
    exact wb i i0 (by omega)
  · have hh : h = A 0 := by omega
    subst hh
    rw [e2, e3, e4]
    exact ⟨rfl, rfl⟩
theorem catOfS_ok {A : Int → Int} (hW : WN A) {p q : Int} (hp : 0 ≤ p ∧ p ≤ 9) (hq : 0 ≤ q ∧ q ≤ 9) (h6 : A 1 < 6) : WN (catOfS A p q) ∧ Old A (catOfS A p q) ∧ TB A (catOfS A p q) := by
  obtain ⟨w0, w1, w9, w10, w11, wc, wh, wb⟩ := hW
  have e0 : catOfS A p q 1 = A 1 + 1 := aU_hit rfl
  have eo : ∀ j : Int, j ≠ 1 → j ≠ 60 + A 1 → j ≠ 54 + A 1 → j ≠ 12 + 3 * A 1 → j ≠ 12 + 3 * A 1 + 1 → j ≠ 12 + 3 * A 1 + 2 → catOfS A p q j = A j := fun j a b c e f g => by
    unfold catOfS
    rw [aU_miss a, aU_miss g, aU_miss f, aU_miss e, aU_miss c, aU_miss b]
  have e1 : catOfS A p q (60 + A 1) = p := by unfold catOfS; rw [aU_miss (by omega), aU_miss (by omega), aU_miss (by omega), aU_miss (by omega), aU_miss (by omega), aU_hit rfl]
  have e2 : catOfS A p q (54 + A 1) = q := by unfold catOfS; rw [aU_miss (by omega), aU_miss (by omega), aU_miss (by omega), aU_miss (by omega), aU_hit rfl]
  have e3 : catOfS A p q (12 + 3 * A 1) = p := by unfold catOfS; rw [aU_miss (by omega), aU_miss (by omega), aU_miss (by omega), aU_hit rfl]
  have e4 : catOfS A p q (12 + 3 * A 1 + 1) = -1 := by unfold catOfS; rw [aU_miss (by omega), aU_miss (by omega), aU_hit rfl]
  have e5 : catOfS A p q (12 + 3 * A 1 + 2) = 0 := by unfold catOfS; rw [aU_miss (by omega), aU_hit rfl]
  have o6 : ∀ j : Int, (j ≠ 1 ∧ j ≠ 60 + A 1 ∧ j ≠ 54 + A 1 ∧ j ≠ 12 + 3 * A 1 ∧ j ≠ 12 + 3 * A 1 + 1 ∧ j ≠ 12 + 3 * A 1 + 2) → catOfS A p q j = A j := fun j h => eo j h.1 h.2.1 h.2.2.1 h.2.2.2.1 h.2.2.2.2.1 h.2.2.2.2.2
  have f0 : catOfS A p q 0 = A 0 := o6 0 (by omega)
  have f11 : catOfS A p q 11 = A 11 := o6 11 (by omega)
  refine ⟨⟨by omega, by omega, by rw [o6 9 (by omega)]; exact w9, by rw [o6 10 (by omega)]; exact w10, by omega, fun c c0 c1 => ?_, fun h h0 h1 => ?_, fun i i0 i1 => ?_⟩, ⟨by omega, by omega, fun j hj => o6 j (by omega), fun h h0 h1 => ⟨o6 _ (by omega), o6 _ (by omega), o6 _ (by omega), o6 _ (by omega)⟩, fun c c0 c1 => ⟨o6 _ (by omega), o6 _ (by omega), o6 _ (by omega), o6 _ (by omega), o6 _ (by omega)⟩⟩, ⟨by omega, by omega, fun c c0 c1 => ?_, fun h h0 h1 => by omega⟩⟩
  · by_cases hc : c = A 1
    · subst hc
      rw [e1, e2, e3, e4, e5, f0]
      exact ⟨hp, by omega, by omega, by omega, hp, fun z => by omega⟩
    · have wk := wc c c0 (by omega)
      rw [f0, o6 (12 + 3 * c) (by omega), o6 (12 + 3 * c + 1) (by omega), o6 (12 + 3 * c + 2) (by omega), o6 (54 + c) (by omega), o6 (60 + c) (by omega)]
      refine ⟨wk.1, wk.2.1, wk.2.2.1, wk.2.2.2.1, wk.2.2.2.2.1, fun z => ?_⟩
      rw [o6 _ (by omega)]
      exact wk.2.2.2.2.2 z
  · rw [f0] at h1
    have wk := wh h h0 h1
    rw [o6 (30 + 2 * h) (by omega), o6 (30 + 2 * h + 1) (by omega), o6 (42 + h) (by omega), o6 (48 + h) (by omega)]
    exact wk
  · rw [o6 _ (by omega)]
    exact wb i i0 (by omega)
  · have hc : c = A 1 := by omega
    subst hc
    rw [e1, e3, e4, e5]
    exact ⟨rfl, rfl, rfl⟩
theorem cq_build {d : aI} {e : aJ} {A : Int → Int} (hC : CN d 1 A) (hW : WN A) {p q : Int} (h6 : A 0 < 6) : ∃ d', FX2_build d e (iI p) (iI q) = some (iI (A 0), d', e) ∧ CN d' 1 (houseS A p q) ∧ Kn d d' := by
  have hw := hW
  obtain ⟨q8, q9, q10, q11, q12, q3, q4, q5, q6, q7, qh, qt, qb⟩ := hC
  have k8 : d 2 8 = iI (A 0) := q8
  have k9 : d 2 9 = iI (A 1) := q9
  have k10 : d 2 10 = iI (A 11) := q10
  have k11 : d 2 11 = iI (A 9) := q11
  have k12 : d 2 12 = iI (A 10) := q12
  have k3 : ∀ j : Nat, (j : Int) < A 0 → d 3 j = iI (A (42 + j)) := q3
  have k4 : ∀ j : Nat, (j : Int) < A 0 → d 4 j = iI (A (30 + 2 * j)) := q4
  have k5 : ∀ j : Nat, (j : Int) < A 0 → d 5 j = iI (A (30 + 2 * j + 1)) := q5
  have k6 : ∀ j : Nat, (j : Int) < A 1 → d 6 j = iI (A (54 + j)) := q6
  have k7 : ∀ j : Nat, (j : Int) < A 1 → d 7 j = iI (A (12 + 3 * j)) := q7
  have kh : ∀ j : Nat, (j : Int) < A 1 → d 8 j = iI (A (12 + 3 * j + 1)) := qh
  have kt : ∀ j : Nat, (j : Int) < A 1 → d 9 j = iI (A (12 + 3 * j + 2)) := qt
  have kb : ∀ j : Nat, (j : Int) < A 11 → d 10 j = iI (A (1936 + j)) := qb
  obtain ⟨w0, w1, w9, w10, w11, wc, wh, wb⟩ := hW
  refine ⟨uI (uI (uI (uI d 3 (A 0).toNat (iI p)) 4 (A 0).toNat (iI q)) 5 (A 0).toNat (iI 0)) 2 8 (iI (A 0 + 1)), ?_, ?_, fun k hk => by simp (disch := omega) only [uI_o, uI_hit, uI_miss, uA_o, uA_s, cpy_in, cpy_out, aU_hit, aU_miss, tn_i, if_pos, if_neg]⟩
  · unfold FX2_build
    simp (disch := omega) only [nI_iI, lN_lJ, iI_0, lJ_0, iI_add, iI_sub, iI_mul, iI_neg, lJ_add, lJ_sub, lJ_mul, lJ_neg, i_l, l_i, iI_cl, iI_inb, iI_eqT, iI_eqF, iI_ltT, iI_ltF, iI_leT, iI_leF, lJ_eqT, lJ_eqF, lJ_cG, lJ_cE, lJ_cL, lJ_cF, lJ_cGE, lJ_cLE, lJ_cNL, lJ_cNG, Int.cast_ofNat_Int, c_0, c_1, Int.natCast_add, Int.add_zero, cond_true, cond_false, Bool.and_self, Bool.and_true, Bool.true_and, Option.bind_some, decide_true, uI_hit, uI_miss, uI_o, uA_o, uA_s, ↓reduceIte, eq_self, true_or, or_true, or_false, false_or, true_and, and_true, false_and, and_false, or_self, and_self, not_false_eq_true, not_true_eq_false, tn_i, k8]
    rw [show A 0 + 1 - 1 = A 0 by omega]
  · unfold houseS CN
    refine ⟨?_, ?_, ?_, ?_, ?_, fun j hj => ?_, fun j hj => ?_, fun j hj => ?_, fun j hj => ?_, fun j hj => ?_, fun j hj => ?_, fun j hj => ?_, fun j hj => ?_⟩
    · simp (disch := omega) only [uI_o, uI_hit, uI_miss, uA_o, uA_s, cpy_in, cpy_out, aU_hit, aU_miss, tn_i, if_pos, if_neg]
    · simp (disch := omega) only [uI_o, uI_hit, uI_miss, uA_o, uA_s, cpy_in, cpy_out, aU_hit, aU_miss, tn_i, if_pos, if_neg, k9]
    · simp (disch := omega) only [uI_o, uI_hit, uI_miss, uA_o, uA_s, cpy_in, cpy_out, aU_hit, aU_miss, tn_i, if_pos, if_neg, k10]
    · simp (disch := omega) only [uI_o, uI_hit, uI_miss, uA_o, uA_s, cpy_in, cpy_out, aU_hit, aU_miss, tn_i, if_pos, if_neg, k11]
    · simp (disch := omega) only [uI_o, uI_hit, uI_miss, uA_o, uA_s, cpy_in, cpy_out, aU_hit, aU_miss, tn_i, if_pos, if_neg, k12]
    · rw [aU_hit rfl] at hj
      by_cases h : (j : Int) = A 0
      · simp (disch := omega) only [uI_o, uI_hit, uI_miss, uA_o, uA_s, cpy_in, cpy_out, aU_hit, aU_miss, tn_i, if_pos, if_neg]
      · simp (disch := omega) only [uI_o, uI_hit, uI_miss, uA_o, uA_s, cpy_in, cpy_out, aU_hit, aU_miss, tn_i, if_pos, if_neg, k3]
    · rw [aU_hit rfl] at hj
      by_cases h : (j : Int) = A 0
      · simp (disch := omega) only [uI_o, uI_hit, uI_miss, uA_o, uA_s, cpy_in, cpy_out, aU_hit, aU_miss, tn_i, if_pos, if_neg]
      · simp (disch := omega) only [uI_o, uI_hit, uI_miss, uA_o, uA_s, cpy_in, cpy_out, aU_hit, aU_miss, tn_i, if_pos, if_neg, k4]
    · rw [aU_hit rfl] at hj
      by_cases h : (j : Int) = A 0
      · simp (disch := omega) only [uI_o, uI_hit, uI_miss, uA_o, uA_s, cpy_in, cpy_out, aU_hit, aU_miss, tn_i, if_pos, if_neg]
      · simp (disch := omega) only [uI_o, uI_hit, uI_miss, uA_o, uA_s, cpy_in, cpy_out, aU_hit, aU_miss, tn_i, if_pos, if_neg, k5]
    · rw [aU_miss (by omega), aU_miss (by omega), aU_miss (by omega), aU_miss (by omega), aU_miss (by omega)] at hj
      simp (disch := omega) only [uI_o, uI_hit, uI_miss, uA_o, uA_s, cpy_in, cpy_out, aU_hit, aU_miss, tn_i, if_pos, if_neg, k6]
    · rw [aU_miss (by omega), aU_miss (by omega), aU_miss (by omega), aU_miss (by omega), aU_miss (by omega)] at hj
      simp (disch := omega) only [uI_o, uI_hit, uI_miss, uA_o, uA_s, cpy_in, cpy_out, aU_hit, aU_miss, tn_i, if_pos, if_neg, k7]
    · rw [aU_miss (by omega), aU_miss (by omega), aU_miss (by omega), aU_miss (by omega), aU_miss (by omega)] at hj
      simp (disch := omega) only [uI_o, uI_hit, uI_miss, uA_o, uA_s, cpy_in, cpy_out, aU_hit, aU_miss, tn_i, if_pos, if_neg, kh]
    · rw [aU_miss (by omega), aU_miss (by omega), aU_miss (by omega), aU_miss (by omega), aU_miss (by omega)] at hj
      simp (disch := omega) only [uI_o, uI_hit, uI_miss, uA_o, uA_s, cpy_in, cpy_out, aU_hit, aU_miss, tn_i, if_pos, if_neg, kt]
    · rw [aU_miss (by omega), aU_miss (by omega), aU_miss (by omega), aU_miss (by omega), aU_miss (by omega)] at hj
      simp (disch := omega) only [uI_o, uI_hit, uI_miss, uA_o, uA_s, cpy_in, cpy_out, aU_hit, aU_miss, tn_i, if_pos, if_neg, kb]
theorem cq_bring {d : aI} {e : aJ} {A : Int → Int} (hC : CN d 1 A) (hW : WN A) {p q : Int} (h6 : A 1 < 6) : ∃ d', FX2_bring d e (iI p) (iI q) = some (iI (A 1), d', e) ∧ CN d' 1 (catOfS A p q) ∧ Kn d d' := by
  have hw := hW
  obtain ⟨q8, q9, q10, q11, q12, q3, q4, q5, q6, q7, qh, qt, qb⟩ := hC
  have k8 : d 2 8 = iI (A 0) := q8
  have k9 : d 2 9 = iI (A 1) := q9
  have k10 : d 2 10 = iI (A 11) := q10
  have k11 : d 2 11 = iI (A 9) := q11
  have k12 : d 2 12 = iI (A 10) := q12
  have k3 : ∀ j : Nat, (j : Int) < A 0 → d 3 j = iI (A (42 + j)) := q3
  have k4 : ∀ j : Nat, (j : Int) < A 0 → d 4 j = iI (A (30 + 2 * j)) := q4
  have k5 : ∀ j : Nat, (j : Int) < A 0 → d 5 j = iI (A (30 + 2 * j + 1)) := q5
  have k6 : ∀ j : Nat, (j : Int) < A 1 → d 6 j = iI (A (54 + j)) := q6
  have k7 : ∀ j : Nat, (j : Int) < A 1 → d 7 j = iI (A (12 + 3 * j)) := q7
  have kh : ∀ j : Nat, (j : Int) < A 1 → d 8 j = iI (A (12 + 3 * j + 1)) := qh
  have kt : ∀ j : Nat, (j : Int) < A 1 → d 9 j = iI (A (12 + 3 * j + 2)) := qt
  have kb : ∀ j : Nat, (j : Int) < A 11 → d 10 j = iI (A (1936 + j)) := qb
  obtain ⟨w0, w1, w9, w10, w11, wc, wh, wb⟩ := hW
  refine ⟨uI (uI (uI (uI (uI d 7 (A 1).toNat (iI p)) 6 (A 1).toNat (iI q)) 8 (A 1).toNat (iI (-1))) 9 (A 1).toNat (iI 0)) 2 9 (iI (A 1 + 1)), ?_, ?_, fun k hk => by simp (disch := omega) only [uI_o, uI_hit, uI_miss, uA_o, uA_s, cpy_in, cpy_out, aU_hit, aU_miss, tn_i, if_pos, if_neg]⟩
  · unfold FX2_bring
    simp (disch := omega) only [nI_iI, lN_lJ, iI_0, lJ_0, iI_add, iI_sub, iI_mul, iI_neg, lJ_add, lJ_sub, lJ_mul, lJ_neg, i_l, l_i, iI_cl, iI_inb, iI_eqT, iI_eqF, iI_ltT, iI_ltF, iI_leT, iI_leF, lJ_eqT, lJ_eqF, lJ_cG, lJ_cE, lJ_cL, lJ_cF, lJ_cGE, lJ_cLE, lJ_cNL, lJ_cNG, Int.cast_ofNat_Int, c_0, c_1, Int.natCast_add, Int.add_zero, cond_true, cond_false, Bool.and_self, Bool.and_true, Bool.true_and, Option.bind_some, decide_true, uI_hit, uI_miss, uI_o, uA_o, uA_s, ↓reduceIte, eq_self, true_or, or_true, or_false, false_or, true_and, and_true, false_and, and_false, or_self, and_self, not_false_eq_true, not_true_eq_false, tn_i, k9]
    rw [show A 1 + 1 - 1 = A 1 by omega]
  · unfold catOfS CN
    refine ⟨?_, ?_, ?_, ?_, ?_, fun j hj => ?_, fun j hj => ?_, fun j hj => ?_, fun j hj => ?_, fun j hj => ?_, fun j hj => ?_, fun j hj => ?_, fun j hj => ?_⟩
    · simp (disch := omega) only [uI_o, uI_hit, uI_miss, uA_o, uA_s, cpy_in, cpy_out, aU_hit, aU_miss, tn_i, if_pos, if_neg, k8]
    · simp (disch := omega) only [uI_o, uI_hit, uI_miss, uA_o, uA_s, cpy_in, cpy_out, aU_hit, aU_miss, tn_i, if_pos, if_neg]
    · simp (disch := omega) only [uI_o, uI_hit, uI_miss, uA_o, uA_s, cpy_in, cpy_out, aU_hit, aU_miss, tn_i, if_pos, if_neg, k10]
    · simp (disch := omega) only [uI_o, uI_hit, uI_miss, uA_o, uA_s, cpy_in, cpy_out, aU_hit, aU_miss, tn_i, if_pos, if_neg, k11]
    · simp (disch := omega) only [uI_o, uI_hit, uI_miss, uA_o, uA_s, cpy_in, cpy_out, aU_hit, aU_miss, tn_i, if_pos, if_neg, k12]
    · rw [aU_miss (by omega), aU_miss (by omega), aU_miss (by omega), aU_miss (by omega), aU_miss (by omega), aU_miss (by omega)] at hj
      simp (disch := omega) only [uI_o, uI_hit, uI_miss, uA_o, uA_s, cpy_in, cpy_out, aU_hit, aU_miss, tn_i, if_pos, if_neg, k3]
    · rw [aU_miss (by omega), aU_miss (by omega), aU_miss (by omega), aU_miss (by omega), aU_miss (by omega), aU_miss (by omega)] at hj
      simp (disch := omega) only [uI_o, uI_hit, uI_miss, uA_o, uA_s, cpy_in, cpy_out, aU_hit, aU_miss, tn_i, if_pos, if_neg, k4]
    · rw [aU_miss (by omega), aU_miss (by omega), aU_miss (by omega), aU_miss (by omega), aU_miss (by omega), aU_miss (by omega)] at hj
      simp (disch := omega) only [uI_o, uI_hit, uI_miss, uA_o, uA_s, cpy_in, cpy_out, aU_hit, aU_miss, tn_i, if_pos, if_neg, k5]
    · rw [aU_hit rfl] at hj
      by_cases h : (j : Int) = A 1
      · simp (disch := omega) only [uI_o, uI_hit, uI_miss, uA_o, uA_s, cpy_in, cpy_out, aU_hit, aU_miss, tn_i, if_pos, if_neg]
      · simp (disch := omega) only [uI_o, uI_hit, uI_miss, uA_o, uA_s, cpy_in, cpy_out, aU_hit, aU_miss, tn_i, if_pos, if_neg, k6]
    · rw [aU_hit rfl] at hj
      by_cases h : (j : Int) = A 1
      · simp (disch := omega) only [uI_o, uI_hit, uI_miss, uA_o, uA_s, cpy_in, cpy_out, aU_hit, aU_miss, tn_i, if_pos, if_neg]
      · simp (disch := omega) only [uI_o, uI_hit, uI_miss, uA_o, uA_s, cpy_in, cpy_out, aU_hit, aU_miss, tn_i, if_pos, if_neg, k7]
    · rw [aU_hit rfl] at hj
      by_cases h : (j : Int) = A 1
      · simp (disch := omega) only [uI_o, uI_hit, uI_miss, uA_o, uA_s, cpy_in, cpy_out, aU_hit, aU_miss, tn_i, if_pos, if_neg]
      · simp (disch := omega) only [uI_o, uI_hit, uI_miss, uA_o, uA_s, cpy_in, cpy_out, aU_hit, aU_miss, tn_i, if_pos, if_neg, kh]
    · rw [aU_hit rfl] at hj
      by_cases h : (j : Int) = A 1
      · simp (disch := omega) only [uI_o, uI_hit, uI_miss, uA_o, uA_s, cpy_in, cpy_out, aU_hit, aU_miss, tn_i, if_pos, if_neg]
      · simp (disch := omega) only [uI_o, uI_hit, uI_miss, uA_o, uA_s, cpy_in, cpy_out, aU_hit, aU_miss, tn_i, if_pos, if_neg, kt]
    · rw [aU_miss (by omega), aU_miss (by omega), aU_miss (by omega), aU_miss (by omega), aU_miss (by omega), aU_miss (by omega)] at hj
      simp (disch := omega) only [uI_o, uI_hit, uI_miss, uA_o, uA_s, cpy_in, cpy_out, aU_hit, aU_miss, tn_i, if_pos, if_neg, kb]
