/-! ===== each instruction keeps what it says ===== -/
theorem a_s1_at : ∀ {L : aL} {i : Nat} {v : Value} {j : Nat} {w : Value}, i < L.length → a_ld (a_s1 L i v) j = some w → (j = i ∧ w = v) ∨ (j ≠ i ∧ a_ld L j = some w ∧ ¬ (j + 1 = i ∧ w.category = 2))
  | [], i, v, j, w, hi, h => by simp [a_s1, a_ld] at h
  | a :: l, 0, v, j, w, hi, h => by
    cases j with
    | zero =>
      simp only [a_s1, a_ld, Option.some.injEq] at h
      exact Or.inl ⟨rfl, h.symm⟩
    | succ j => exact Or.inr ⟨by omega, by simpa [a_s1, a_ld] using h, by omega⟩
  | [a], i + 1, v, j, w, hi, h => by simp at hi
  | a :: b :: l, 1, v, j, w, hi, h => by
    simp only [a_s1] at h
    cases j with
    | zero =>
      simp only [a_ld] at h
      obtain ⟨h1, h2⟩ := a_kl_of h
      exact Or.inr ⟨by omega, h1, fun q => h2 q.2⟩
    | succ j =>
      cases j with
      | zero =>
        simp only [a_ld, Option.some.injEq] at h
        exact Or.inl ⟨rfl, h.symm⟩
      | succ j => exact Or.inr ⟨by omega, by simpa [a_ld] using h, by omega⟩
  | a :: b :: l, i + 2, v, j, w, hi, h => by
    simp only [a_s1] at h
    cases j with
    | zero => exact Or.inr ⟨by omega, h, by omega⟩
    | succ j =>
      simp only [a_ld] at h
      rcases a_s1_at (L := b :: l) (by simp at hi ⊢; omega) h with ⟨h1, h2⟩ | ⟨h1, h2, h3⟩
      · exact Or.inl ⟨by omega, h2⟩
      · exact Or.inr ⟨by omega, h2, fun q => h3 ⟨by omega, q.2⟩⟩
theorem a_s2_at : ∀ {L : aL} {i : Nat} {v : Value} {j : Nat} {w : Value}, i + 1 < L.length → a_ld (a_s2 L i v) j = some w → (j = i ∧ w = v) ∨ (j ≠ i ∧ j ≠ i + 1 ∧ a_ld L j = some w ∧ ¬ (j + 1 = i ∧ w.category = 2))
  | [], i, v, j, w, hi, h => by simp at hi
  | [a], i, v, j, w, hi, h => by simp at hi
  | a :: b :: l, 0, v, j, w, hi, h => by
    simp only [a_s2] at h
    cases j with
    | zero =>
      simp only [a_ld, Option.some.injEq] at h
      exact Or.inl ⟨rfl, h.symm⟩
    | succ j =>
      cases j with
      | zero => simp [a_ld] at h
      | succ j => exact Or.inr ⟨by omega, by omega, by simpa [a_ld] using h, by omega⟩
  | [a, b], i + 1, v, j, w, hi, h => by simp at hi; omega
  | a :: b :: c :: l, 1, v, j, w, hi, h => by
    simp only [a_s2] at h
    cases j with
    | zero =>
      simp only [a_ld] at h
      obtain ⟨h1, h2⟩ := a_kl_of h
      exact Or.inr ⟨by omega, by omega, h1, fun q => h2 q.2⟩
    | succ j =>
      cases j with
      | zero =>
        simp only [a_ld, Option.some.injEq] at h
        exact Or.inl ⟨rfl, h.symm⟩
      | succ j =>
        cases j with
        | zero => simp [a_ld] at h
        | succ j => exact Or.inr ⟨by omega, by omega, by simpa [a_ld] using h, by omega⟩
  | a :: b :: c :: l, i + 2, v, j, w, hi, h => by
    simp only [a_s2] at h
    cases j with
    | zero => exact Or.inr ⟨by omega, by omega, h, by omega⟩
    | succ j =>
      simp only [a_ld] at h
      rcases a_s2_at (L := b :: c :: l) (by simp at hi ⊢; omega) h with ⟨h1, h2⟩ | ⟨h1, h1', h2, h3⟩
      · exact Or.inl ⟨by omega, h2⟩
      · exact Or.inr ⟨by omega, by omega, h2, fun q => h3 ⟨by omega, q.2⟩⟩
theorem a_s1_len : ∀ {L : aL} {i : Nat} {v : Value}, (a_s1 L i v).length = L.length
  | [], i, v => rfl
  | a :: l, 0, v => rfl
  | [a], i + 1, v => rfl
  | a :: b :: l, 1, v => rfl
  | a :: b :: l, i + 2, v => by
    simp only [a_s1, List.length_cons]
    rw [a_s1_len, List.length_cons]
theorem a_s2_len : ∀ {L : aL} {i : Nat} {v : Value}, (a_s2 L i v).length = L.length
  | [], i, v => by cases i <;> rfl
  | [a], i, v => by cases i <;> rfl
  | a :: b :: l, 0, v => rfl
  | [a, b], i + 1, v => rfl
  | a :: b :: c :: l, 1, v => rfl
  | a :: b :: c :: l, i + 2, v => by
    simp only [a_s2, List.length_cons]
    rw [a_s2_len, List.length_cons, List.length_cons]
theorem a_LH.s1 {G : aG} {ls ls' : Array Slot} {n i : Nat} {L : aL} {v : Value} (hL : a_LH G ls n L) (hi : i < L.length) (h : lv_has ls' n ((i, a_v G v) :: (a_lv G 0 L).filter (fun q => !(q.1 == i) && !(q.1 + 1 == i && q.2.category == 2)))) : a_LH G ls' n (a_s1 L i v) := by
  refine ⟨a_s1_len.trans hL.1, lv_mem h fun q hq => ?_⟩
  obtain ⟨k, w, h1, rfl⟩ := a_mem_lv.mp hq
  rcases a_s1_at hi h1 with ⟨h2, h3⟩ | ⟨h2, h3, h4⟩
  · subst h2; subst h3
    rw [Nat.zero_add]
    exact List.mem_cons_self
  · refine List.mem_cons_of_mem _ (List.mem_filter.mpr ⟨a_mem_lv.mpr ⟨k, w, h3, rfl⟩, ?_⟩)
    simp only [Nat.zero_add, Bool.and_eq_true, Bool.not_eq_true', beq_eq_false_iff_ne, Bool.and_eq_false_iff]
    refine ⟨h2, ?_⟩
    by_cases hk : k + 1 = i
    · right
      exact fun hc => h4 ⟨hk, by rw [a_v_cat] at hc; exact hc⟩
    · exact Or.inl hk
theorem a_LH.s2 {G : aG} {ls ls' : Array Slot} {n i : Nat} {L : aL} {v : Value} (hL : a_LH G ls n L) (hi : i + 1 < L.length) (h : lv_has ls' n ((i, a_v G v) :: (a_lv G 0 L).filter (fun q => !(q.1 == i) && (!(q.1 == i + 1) && !(q.1 + 1 == i && q.2.category == 2))))) : a_LH G ls' n (a_s2 L i v) := by
  refine ⟨a_s2_len.trans hL.1, lv_mem h fun q hq => ?_⟩
  obtain ⟨k, w, h1, rfl⟩ := a_mem_lv.mp hq
  rcases a_s2_at hi h1 with ⟨h2, h3⟩ | ⟨h2, h2', h3, h4⟩
  · subst h2; subst h3
    rw [Nat.zero_add]
    exact List.mem_cons_self
  · refine List.mem_cons_of_mem _ (List.mem_filter.mpr ⟨a_mem_lv.mpr ⟨k, w, h3, rfl⟩, ?_⟩)
    simp only [Nat.zero_add, Bool.and_eq_true, Bool.not_eq_true', beq_eq_false_iff_ne, Bool.and_eq_false_iff]
    refine ⟨h2, h2', ?_⟩
    by_cases hk : k + 1 = i
    · right
      exact fun hc => h4 ⟨hk, by rw [a_v_cat] at hc; exact hc⟩
    · exact Or.inl hk
-- the entry
theorem a_pad_ld {n : Nat} {l : aL} {k : Nat} {v : Value} (h : a_ld (a_pad n l) k = some v) : a_ld l k = some v := by
  unfold a_pad at h
  generalize n - l.length = m at h
  induction l generalizing k with
  | nil =>
    simp only [List.nil_append] at h
    exfalso
    induction m generalizing k with
    | zero => simp [a_ld] at h
    | succ m ih =>
      cases k with
      | zero => simp [List.replicate_succ, a_ld] at h
      | succ k => exact ih (k := k) (by simpa [List.replicate_succ, a_ld] using h)
  | cons a l ih =>
    cases k with
    | zero => simpa [a_ld] using h
    | succ k => exact ih (k := k) (by simpa [a_ld] using h)
theorem a_ar_ld {G : aG} : ∀ {as : List Value} {i k : Nat} {v : Value}, (∀ a ∈ as, ∀ x, a ≠ .double x) → a_ld (a_ar as) k = some v → (i + k, a_v G v) ∈ lv_args i (as.map (a_v G))
  | [], i, k, v, _, h => by simp [a_ar, a_ld] at h
  | a :: as, i, k, v, hd, h => by
    have hd' : ∀ b ∈ as, ∀ x, b ≠ .double x := fun b hb => hd b (List.mem_cons_of_mem _ hb)
    by_cases hl : ∃ x, a = .long x
    · obtain ⟨x, rfl⟩ := hl
      simp only [a_ar] at h
      rw [List.map_cons, lv_args]
      cases k with
      | zero =>
        simp only [a_ld, Option.some.injEq] at h
        subst h
        exact List.mem_cons_self
      | succ k =>
        cases k with
        | zero => simp [a_ld] at h
        | succ k =>
          refine List.mem_cons_of_mem _ ?_
          have h1 := a_ar_ld (G := G) (i := i + 2) hd' (show a_ld (a_ar as) k = some v by simpa [a_ld] using h)
          rw [show i + (k + 1 + 1) = i + 2 + k by omega]
          exact h1
    · have e : a_ar (a :: as) = some a :: a_ar as := by
        cases a <;> first | rfl | exact absurd ⟨_, rfl⟩ hl
      have hc : ¬ (a_v G a).category = 2 := by
        rw [a_v_cat]
        cases a <;> first | exact absurd ⟨_, rfl⟩ hl | exact absurd rfl (hd _ List.mem_cons_self _) | simp [Value.category]
      rw [e] at h
      rw [List.map_cons, lv_args, if_neg hc]
      cases k with
      | zero =>
        simp only [a_ld, Option.some.injEq] at h
        subst h
        exact List.mem_cons_self
      | succ k =>
        refine List.mem_cons_of_mem _ ?_
        have h1 := a_ar_ld (G := G) (i := i + 1) hd' (show a_ld (a_ar as) k = some v by simpa [a_ld] using h)
        rw [show i + (k + 1) = i + 1 + k by omega]
        exact h1
theorem a_ar_len {G : aG} : ∀ {as : List Value}, (∀ a ∈ as, ∀ x, a ≠ .double x) → (lg_sl (as.map (a_v G))).length = (a_ar as).length
  | [], _ => rfl
  | a :: as, hd => by
    have ih := a_ar_len (G := G) (as := as) (fun b hb => hd b (List.mem_cons_of_mem _ hb))
    unfold lg_sl at ih ⊢
    rw [List.map_cons, List.flatMap_cons, List.length_append, ih]
    cases a <;> first | exact absurd rfl (hd _ List.mem_cons_self _) | (simp [a_ar, a_v, Value.category]; try omega)
/-- a call's contract, by a run from its entry -/
theorem a_Ev.of {G : aG} {l : Launch} {d : Nat} {M : aM} {as : List Value} {h h' : aH} {r : Option Value} (hy : plainName M.1.cls = true) (hlen : h.1.length ≤ h'.1.length ∧ a_sz h.1 ≤ a_sz h'.1) (hd : as.all (fun a => match a with | .double _ => false | _ => true) = true) (hn : (a_ar as).length ≤ M.2.2.1)
    (hi : M.2.2.2.2.2.1 = true → M.1.name = "<init>")
    (k : a_Rn G l d M h.1.length (a_sz h.1) 0 (a_pad M.2.2.1 (a_ar as)) [] h r h') : a_Ev G l d M as h r h' := by
  have hd' : ∀ a ∈ as, ∀ x, a ≠ .double x := by
    intro a ha x e
    subst e
    have h1 := List.all_eq_true.mp hd _ ha
    cases h1
  refine Met.ofW (cc := M.2.1) (maxL := M.2.2.1) (ret := M.2.2.2.1) hy rfl ?_
  intro p e s m args below meth c s₁ B hml hv
  obtain ⟨rfl, hR, hK, hX, hb⟩ := hv
  have hts : ∀ w ∈ a_tb, w.before _ s = true := fun w hw => atoms_spec (ws := Cond.code M.1 M.2.1 M.2.2.1 M.2.2.2.1 :: a_tb) B.pre w (List.mem_cons_of_mem _ hw)
  have hl := lv_entry (as.map (a_v G)) (n := M.2.2.1) (by rw [a_ar_len hd']; exact hn)
  rw [lg_entry_eq]
  generalize (lg_sl (as.map (a_v G)) ++ List.replicate (M.2.2.1 - (lg_sl (as.map (a_v G))).length) Slot.unset).toArray = ls at hl ⊢
  have hL : a_LH G ls M.2.2.1 (a_pad M.2.2.1 (a_ar as)) := by
    refine ⟨by simp [a_pad]; omega, lv_mem hl fun q hq => ?_⟩
    obtain ⟨k, v, h1, rfl⟩ := a_mem_lv.mp hq
    exact a_ar_ld hd' (a_pad_ld h1)
  have h9 := k p e s m _ below meth c s.heap [] ls ⟨B.exec, B.bytes, B.returns, hml, hts, findClass_of_methodNamed B.named, B.notSynchronized, fun q => (name_of_methodNamed B.named B.method).1.trans (hi q), hK, hX, hb⟩ hR hL va_S.rf hR.2.1 (Nat.le_refl _) (Nat.le_refl _) hlen.1 hlen.2
  rw [Nat.sub_self, Nat.sub_self] at h9
  exact h9
