/-! ===== the world's cells ===== -/
theorem a_ws_len (G : aG) (h : aH) : (a_ws G h).length = h.1.length := by simp [a_ws]
theorem a_ws_at {G : aG} {h : aH} {k : Nat} (hk : k < h.1.length) : (a_ws G h)[k]? = some (G.1 + k, a_el G h k) := by
  simp [a_ws, List.getElem?_map, List.getElem?_range hk]
theorem a_getD {h : aH} {k : Nat} {q : Nat × Nat} (hk : h.1[k]? = some q) : h.1.getD k (0, 0) = q := by simp [List.getD_eq_getElem?_getD, hk]
theorem a_lt {h : aH} {k : Nat} {q : Nat × Nat} (hk : h.1[k]? = some q) : k < h.1.length := (List.getElem?_eq_some_iff.mp hk).1
theorem a_ad_in {G : aG} {h : aH} {H : Heap} (hR : a_Rp G h H) {k : Nat} (hk : k < h.1.length) : a_ad G k = G.1 + k := if_pos (Nat.lt_of_lt_of_le hk hR.1)
theorem a_wsD {G : aG} {h : aH} : va_D (fun q => G.1 ≤ q) (a_ws G h) := by
  have key : ∀ (k : Nat) (q : Nat × va_E), (a_ws G h)[k]? = some q → q.1 = G.1 + k := by
    intro k q hq
    have hl : k < h.1.length := by rw [← a_ws_len G h]; exact (List.getElem?_eq_some_iff.mp hq).1
    rw [a_ws_at hl] at hq
    cases hq
    rfl
  refine ⟨fun i j p q hp hq e => ?_, fun k q hq => ?_⟩
  · rw [key i p hp, key j q hq] at e
    omega
  · rw [key k q hq]
    exact Nat.le_add_right _ _
theorem a_ws_set {G : aG} {h h1 : aH} {o : Nat} {x : va_E} (hs : h1.1 = h.1) (hx : a_el G h1 o = x) (ho : ∀ k, k ≠ o → a_el G h1 k = a_el G h k) : (a_ws G h).set o (G.1 + o, x) = a_ws G h1 := by
  apply List.ext_getElem?
  intro k
  by_cases hk : k < h.1.length
  · rw [a_ws_at (h := h1) (by rw [hs]; exact hk)]
    by_cases hko : k = o
    · subst hko
      rw [List.getElem?_set_self (by rw [a_ws_len]; exact hk), hx]
    · rw [List.getElem?_set_ne (Ne.symm hko), a_ws_at hk, ho k hko]
  · rw [List.getElem?_eq_none (by rw [List.length_set, a_ws_len]; omega), List.getElem?_eq_none (by rw [a_ws_len, hs]; omega)]
theorem a_ws_push {G : aG} {h : aH} {q : Nat × Nat} {x : va_E} (hx : a_el G (a_new h q) h.1.length = x) (ho : ∀ k, k < h.1.length → a_el G (a_new h q) k = a_el G h k) : a_ws G h ++ [(G.1 + h.1.length, x)] = a_ws G (a_new h q) := by
  have hl : (a_new h q).1.length = h.1.length + 1 := by simp [a_new]
  apply List.ext_getElem?
  intro k
  by_cases hk : k < h.1.length
  · rw [a_ws_at (h := a_new h q) (by omega), List.getElem?_append_left (by rw [a_ws_len]; exact hk), a_ws_at hk, ho k hk]
  · by_cases hk2 : k = h.1.length
    · subst hk2
      rw [a_ws_at (h := a_new h q) (by omega), List.getElem?_append_right (by rw [a_ws_len]; exact Nat.le_refl _), a_ws_len, Nat.sub_self, hx]
      rfl
    · rw [List.getElem?_eq_none (by simp [a_ws_len]; omega), List.getElem?_eq_none (by rw [a_ws_len, hl]; omega)]
-- what an array or an object is
theorem a_el0 {G : aG} {h : aH} {k n : Nat} (hk : h.1[k]? = some (0, n)) : a_el G h k = .inl (G.2.2.1.1, n, .inl (h.2.2.1 k)) := by unfold a_el; rw [a_getD hk]
theorem a_el1 {G : aG} {h : aH} {k n : Nat} (hk : h.1[k]? = some (1, n)) : a_el G h k = .inl (G.2.2.1.2.1, n, .inr (.inl (h.2.2.2 k))) := by unfold a_el; rw [a_getD hk]
theorem a_el2 {G : aG} {h : aH} {k n : Nat} (hk : h.1[k]? = some (2, n)) : a_el G h k = .inl (G.2.2.1.2.2.1, n, .inl (h.2.2.1 k)) := by unfold a_el; rw [a_getD hk]
theorem a_el3 {G : aG} {h : aH} {k n : Nat} (hk : h.1[k]? = some (3, n)) : a_el G h k = .inl (G.2.2.1.2.2.2, n, .inr (.inr (.inr (.inr fun j => (h.2.1 k j).map (a_ad G))))) := by unfold a_el; rw [a_getD hk]
theorem a_el4 {G : aG} {h : aH} {k c n : Nat} (hk : h.1[k]? = some (c + 4, n)) : a_el G h k = .inr (c, (List.range n).map (fun j => a_fv G (a_ty c j) h k j)) := by unfold a_el; rw [a_getD hk]
/-- a cell that isn't touched -/
theorem a_el_eq {G : aG} {h h1 : aH} {k : Nat} (e1 : h1.1.getD k (0, 0) = h.1.getD k (0, 0)) (e2 : h1.2.1 k = h.2.1 k) (e3 : h1.2.2.1 k = h.2.2.1 k) (e4 : h1.2.2.2 k = h.2.2.2 k) : a_el G h1 k = a_el G h k := by
  unfold a_el a_fv
  rw [e1, e2, e3, e4]
theorem a_fs_set {G : aG} {c n o j : Nat} {h h1 : aH} {v : Value} (hj : j < n) (hv : a_fv G (a_ty c j) h1 o j = v) (hk : ∀ k, k ≠ j → a_fv G (a_ty c k) h1 o k = a_fv G (a_ty c k) h o k) :
    ((List.range n).map (fun j => a_fv G (a_ty c j) h o j)).set j v = (List.range n).map (fun j => a_fv G (a_ty c j) h1 o j) := by
  apply List.ext_getElem?
  intro k
  by_cases hkn : k < n
  · by_cases hkj : k = j
    · subst hkj
      rw [List.getElem?_set_self (by simp; exact hkn), List.getElem?_map, List.getElem?_range hkn, ← hv]
      rfl
    · rw [List.getElem?_set_ne (Ne.symm hkj), List.getElem?_map, List.getElem?_map, List.getElem?_range hkn]
      simp only [Option.map_some, hk k hkj]
  · rw [List.getElem?_eq_none (by simp; omega), List.getElem?_eq_none (by simp; omega)]
section AW
variable {p : Program} {l : Launch} {e : Env} {R : Room} {s : State} {m : MethodId} {args : Array Value} {below : List Frame} {meth : Method} {c : Code} {H : Heap} {locs : List Loc} {cells slots : Nat} {Q : State → Prop}
theorem W.sized {g : JFrame} (h : H.size ≤ s.heap.size + cells → W p l e R s m args below meth c H locs cells slots Q g) : W p l e R s m args below meth c H locs cells slots Q g := by
  intro T hT X
  have h1 : (T.setVm s.vm).heap.size ≤ s.heap.size + cells := X.same.2.2.1
  exact h (by rw [← hT]; exact h1) T hT X
end AW
theorem a_size {G : aG} {h : aH} {H H0 : Heap} {n0 : Nat} {locs : List Loc} (hP : va_P G.2.1 acl (a_ws G h) H) (hS : va_S (fun q => G.1 ≤ q) H0 H locs) (h0 : H0.size = G.1 + n0) (hn : n0 ≤ h.1.length) (hz : H.size ≤ H0.size + (h.1.length - n0)) : H.size = G.1 + h.1.length := by
  have h1 := hS.1
  rcases Nat.eq_or_lt_of_le hn with e | e
  · omega
  · have h2 := (hP (h.1.length - 1) _ (a_ws_at (by omega))).lt
    have h3 : G.1 + (h.1.length - 1) < H.size := h2
    omega
/-- the run goes on behind a change of cells -/
theorem a_Rn.go {G : aG} {l : Launch} {d : Nat} {M : aM} {n0 z0 pc : Nat} {L : aL} {S : List Value} {h h' : aH} {r : Option Value} (k : a_Rn G l d M n0 z0 pc L S h r h')
    {p : Program} {e : Env} {s : State} {m : MethodId} {args : Array Value} {below : List Frame} {meth : Method} {c : Code} {H : Heap} {locs : List Loc} {ls : Array Slot}
    (C : a_cx G M p s m args meth c) (hlen : h.1.length ≤ 1000) (hP : va_P G.2.1 acl (a_ws G h) H) (hL : a_LH G ls M.2.2.1 L) (hS : va_S (fun q => G.1 ≤ q) s.heap H locs) (h0 : s.heap.size = G.1 + n0) (h1 : n0 ≤ h.1.length) (h2 : z0 ≤ a_sz h.1) (h3 : h.1.length ≤ h'.1.length) (h4 : a_sz h.1 ≤ a_sz h'.1) :
    W p l e (a_rm d (h'.1.length - n0) (a_sz h'.1 - z0)) s m args below meth c H locs (h.1.length - n0) (a_sz h.1 - z0) (MQ below (a_Q G r h') args s (h'.1.length - n0) (a_sz h'.1 - z0) (fun q => G.1 ≤ q)) (F0 m pc ls (S.map (a_v G))) :=
  W.sized fun hz => k p e s m args below meth c H locs ls C ⟨hlen, a_size hP hS h0 h1 hz, hP⟩ hL hS h0 h1 h2 h3 h4
