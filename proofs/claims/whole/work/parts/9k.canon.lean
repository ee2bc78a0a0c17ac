/-! ===== the world behind the constructors ===== -/
def a_pn {α : Type} : List α → Nat → α → α → List α
  | [], 0, x, _ => [x]
  | [], n + 1, x, z => z :: a_pn [] n x z
  | _ :: l, 0, x, _ => x :: l
  | a :: l, n + 1, x, z => a :: a_pn l n x z
theorem a_nth_nil {α : Type} (k : Nat) (z : α) : a_nth ([] : List α) k z = z := by cases k <;> rfl
theorem a_pn_nth {α : Type} : ∀ (l : List α) (n k : Nat) (x z : α), a_nth (a_pn l n x z) k z = if k = n then x else a_nth l k z
  | [], 0, 0, x, z => rfl
  | [], 0, k + 1, x, z => by
    rw [if_neg (by omega)]
    show a_nth ([] : List _) k z = a_nth [] (k + 1) z
    rw [a_nth_nil, a_nth_nil]
  | [], n + 1, 0, x, z => by rw [if_neg (by omega)]; rfl
  | [], n + 1, k + 1, x, z => by
    show a_nth (a_pn [] n x z) k z = _
    rw [a_pn_nth [] n k x z, a_nth_nil, a_nth_nil]
    by_cases q : k = n
    · rw [if_pos q, if_pos (by omega)]
    · rw [if_neg q, if_neg (by omega)]
  | a :: l, 0, 0, x, z => rfl
  | a :: l, 0, k + 1, x, z => by rw [if_neg (by omega)]; rfl
  | a :: l, n + 1, 0, x, z => by rw [if_neg (by omega)]; rfl
  | a :: l, n + 1, k + 1, x, z => by
    show a_nth (a_pn l n x z) k z = _
    rw [a_pn_nth l n k x z]
    show _ = if k + 1 = n + 1 then x else a_nth l k z
    by_cases q : k = n
    · rw [if_pos q, if_pos (by omega)]
    · rw [if_neg q, if_neg (by omega)]
theorem a_nth_out {α : Type} : ∀ (l : List α) (k : Nat) (z : α), l.length ≤ k → a_nth l k z = z
  | [], k, z, _ => a_nth_nil k z
  | a :: l, 0, z, h => by
    have h2 : l.length + 1 ≤ 0 := h
    omega
  | a :: l, k + 1, z, h => by
    have h2 : l.length + 1 ≤ k + 1 := h
    exact a_nth_out l k z (by omega)
abbrev w_T : Type := aK × List (List (Option Nat)) × List (List Int32)
def Rw (t : List (List (Option Nat))) : Nat → Nat → Option Nat := fun o j => a_nth (a_nth t o []) j none
def Dw (t : List (List Int32)) : aI := fun o j => a_nth (a_nth t o []) j 0
def w_C (q : w_T) : aH := (q.1, Rw q.2.1, Dw q.2.2, fun _ _ => 0)
abbrev w_E : Type := Nat × Nat × Nat × Nat × Int32
def w_ap (h : aH) (ev : w_E) : aH := match ev.1 with
  | 0 => a_new h (ev.2.1, ev.2.2.1)
  | 1 => a_uR h ev.2.1 ev.2.2.1 (some ev.2.2.2.1)
  | _ => a_uI h ev.2.1 ev.2.2.1 ev.2.2.2.2
def w_a4 (q : w_T) (ev : w_E) : w_T := match ev.1 with
  | 0 => (q.1 ++ [(ev.2.1, ev.2.2.1)], q.2)
  | 1 => (q.1, a_pn q.2.1 ev.2.1 (a_pn (a_nth q.2.1 ev.2.1 []) ev.2.2.1 (some ev.2.2.2.1) none) [], q.2.2)
  | _ => (q.1, q.2.1, a_pn q.2.2 ev.2.1 (a_pn (a_nth q.2.2 ev.2.1 []) ev.2.2.1 ev.2.2.2.2 0) [])
theorem w_step (q : w_T) (ev : w_E) (h : (!(Nat.beq ev.1 0) || (Nat.ble q.2.1.length q.1.length && Nat.ble q.2.2.length q.1.length)) = true) : w_ap (w_C q) ev = w_C (w_a4 q ev) := by
  obtain ⟨k, r, t⟩ := q
  obtain ⟨c, o, f, x, v⟩ := ev
  match c with
  | 0 =>
    have h' : (Nat.ble r.length k.length && Nat.ble t.length k.length) = true := h
    rw [Bool.and_eq_true] at h'
    have h1 := Nat.le_of_ble_eq_true h'.1
    have h2 := Nat.le_of_ble_eq_true h'.2
    show ((k ++ [(o, f)], (fun i => if i = k.length then (fun _ => none) else Rw r i), (fun i => if i = k.length then (fun _ => 0) else Dw t i), (fun i => if i = k.length then (fun _ => 0) else (fun _ => 0))) : aH) = (k ++ [(o, f)], Rw r, Dw t, fun _ _ => 0)
    have e1 : (fun i => if i = k.length then (fun _ => none) else Rw r i) = Rw r := by
      funext i
      by_cases z : i = k.length
      · rw [if_pos z]
        funext j
        show none = a_nth (a_nth r i []) j none
        rw [a_nth_out r i [] (by omega), a_nth_nil]
      · rw [if_neg z]
    have e2 : (fun i => if i = k.length then (fun _ => 0) else Dw t i) = Dw t := by
      funext i
      by_cases z : i = k.length
      · rw [if_pos z]
        funext j
        show 0 = a_nth (a_nth t i []) j 0
        rw [a_nth_out t i [] (by omega), a_nth_nil]
      · rw [if_neg z]
    have e3 : (fun i => if i = k.length then (fun _ => 0) else (fun _ => 0) : Nat → Nat → Int64) = fun _ _ => 0 := by
      funext i
      by_cases z : i = k.length
      · rw [if_pos z]
      · rw [if_neg z]
    rw [e1, e2, e3]
  | 1 =>
    show ((k, (fun i => if i = o then va_up (Rw r o) f (some x) else Rw r i), Dw t, fun _ _ => 0) : aH) = (k, Rw (a_pn r o (a_pn (a_nth r o []) f (some x) none) []), Dw t, fun _ _ => 0)
    have e1 : (fun i => if i = o then va_up (Rw r o) f (some x) else Rw r i) = Rw (a_pn r o (a_pn (a_nth r o []) f (some x) none) []) := by
      funext i j
      show _ = a_nth (a_nth (a_pn r o (a_pn (a_nth r o []) f (some x) none) []) i []) j none
      rw [a_pn_nth]
      by_cases z : i = o
      · rw [if_pos z, if_pos z, a_pn_nth]
        rfl
      · rw [if_neg z, if_neg z]
        rfl
    rw [e1]
  | n + 2 =>
    show ((k, Rw r, (fun i => if i = o then upd (Dw t o) f v else Dw t i), fun _ _ => 0) : aH) = (k, Rw r, Dw (a_pn t o (a_pn (a_nth t o []) f v 0) []), fun _ _ => 0)
    have e1 : (fun i => if i = o then upd (Dw t o) f v else Dw t i) = Dw (a_pn t o (a_pn (a_nth t o []) f v 0) []) := by
      funext i j
      show _ = a_nth (a_nth (a_pn t o (a_pn (a_nth t o []) f v 0) []) i []) j 0
      rw [a_pn_nth]
      by_cases z : i = o
      · rw [if_pos z, if_pos z, a_pn_nth]
        rfl
      · rw [if_neg z, if_neg z]
        rfl
    rw [e1]
def w_all0 {α : Type} [DecidableEq α] (z : α) : List α → Bool
  | [] => true
  | b :: m => decide (b = z) && w_all0 z m
theorem w_all0_nth {α : Type} [DecidableEq α] (z : α) : ∀ (m : List α) (k : Nat), w_all0 z m = true → a_nth m k z = z
  | [], k, _ => a_nth_nil k z
  | b :: m, k, h => by
    have h' : (decide (b = z) && w_all0 z m) = true := h
    rw [Bool.and_eq_true] at h'
    cases k with
    | zero => exact of_decide_eq_true h'.1
    | succ k => exact w_all0_nth z m k h'.2
def w_eq {α : Type} [DecidableEq α] (z : α) : List α → List α → Bool
  | [], m => w_all0 z m
  | a :: l, [] => decide (a = z) && w_eq z l []
  | a :: l, b :: m => decide (a = b) && w_eq z l m
theorem w_eq_nth {α : Type} [DecidableEq α] (z : α) : ∀ (l m : List α) (k : Nat), w_eq z l m = true → a_nth l k z = a_nth m k z
  | [], m, k, h => by
    have h' : w_all0 z m = true := h
    rw [w_all0_nth z m k h', a_nth_nil]
  | a :: l, [], k, h => by
    have h' : (decide (a = z) && w_eq z l []) = true := h
    rw [Bool.and_eq_true] at h'
    have e := of_decide_eq_true h'.1
    cases k with
    | zero => exact e
    | succ k =>
      show a_nth l k z = z
      rw [w_eq_nth z l [] k h'.2, a_nth_nil]
  | a :: l, b :: m, k, h => by
    have h' : (decide (a = b) && w_eq z l m) = true := h
    rw [Bool.and_eq_true] at h'
    have e := of_decide_eq_true h'.1
    cases k with
    | zero => exact e
    | succ k => exact w_eq_nth z l m k h'.2
def w_eq2 {α : Type} [DecidableEq α] (z : α) : List (List α) → List (List α) → Bool
  | [], m => m.all (w_all0 z)
  | a :: l, [] => w_all0 z a && w_eq2 z l []
  | a :: l, b :: m => w_eq z a b && w_eq2 z l m
theorem w_all2 {α : Type} [DecidableEq α] (z : α) : ∀ (m : List (List α)) (k j : Nat), m.all (w_all0 z) = true → a_nth (a_nth m k []) j z = z
  | [], k, j, _ => by rw [a_nth_nil, a_nth_nil]
  | b :: m, k, j, h => by
    rw [List.all_cons, Bool.and_eq_true] at h
    cases k with
    | zero => exact w_all0_nth z b j h.1
    | succ k => exact w_all2 z m k j h.2
theorem w_eq2_nth {α : Type} [DecidableEq α] (z : α) : ∀ (l m : List (List α)) (k j : Nat), w_eq2 z l m = true → a_nth (a_nth l k []) j z = a_nth (a_nth m k []) j z
  | [], m, k, j, h => by
    have h' : m.all (w_all0 z) = true := h
    rw [w_all2 z m k j h', a_nth_nil, a_nth_nil]
  | a :: l, [], k, j, h => by
    have h' : (w_all0 z a && w_eq2 z l []) = true := h
    rw [Bool.and_eq_true] at h'
    cases k with
    | zero =>
      show a_nth a j z = a_nth [] j z
      rw [w_all0_nth z a j h'.1, a_nth_nil]
    | succ k =>
      show a_nth (a_nth l k []) j z = a_nth [] j z
      rw [w_eq2_nth z l [] k j h'.2, a_nth_nil, a_nth_nil]
  | a :: l, b :: m, k, j, h => by
    have h' : (w_eq z a b && w_eq2 z l m) = true := h
    rw [Bool.and_eq_true] at h'
    cases k with
    | zero => exact w_eq_nth z a b j h'.1
    | succ k => exact w_eq2_nth z l m k j h'.2
theorem w_zero : w0 = w_C ([], [], []) := by
  have e1 : Rw [] = fun _ _ => none := by
    funext o j
    show a_nth (a_nth [] o []) j none = none
    rw [a_nth_nil, a_nth_nil]
  have e2 : Dw [] = fun _ _ => 0 := by
    funext o j
    show a_nth (a_nth [] o []) j 0 = 0
    rw [a_nth_nil, a_nth_nil]
  show ([], fun _ _ => none, fun _ _ => 0, fun _ _ => 0) = (([], Rw [], Dw [], fun _ _ => 0) : aH)
  rw [e1, e2]
def s0 : w_T := ([], [], [])
theorem v0 : w0 = w_C s0 := w_zero
def s1 : w_T := w_a4 s0 (0, 14, 11, 0, 0)
theorem v1 : w1 = w_C s1 := by
  show a_new w0 (14, 11) = _
  rw [v0]
  exact w_step s0 (0, 14, 11, 0, 0) (by decide +kernel)
def s2 : w_T := w_a4 s1 (0, 13, 8, 0, 0)
theorem v2 : w2 = w_C s2 := by
  show a_new w1 (13, 8) = _
  rw [v1]
  exact w_step s1 (0, 13, 8, 0, 0) (by decide +kernel)
def s3 : w_T := w_a4 s2 (0, 6, 13, 0, 0)
theorem v3 : w3 = w_C s3 := by
  show a_new w2 (6, 13) = _
  rw [v2]
  exact w_step s2 (0, 6, 13, 0, 0) (by decide +kernel)
def s4 : w_T := w_a4 s3 (0, 0, 6, 0, 0)
theorem v4 : w4 = w_C s4 := by
  show a_new w3 (0, ((nI 6)).toNatClampNeg) = _
  rw [show ((nI 6)).toNatClampNeg = 6 from by decide +kernel]
  rw [v3]
  exact w_step s3 (0, 0, 6, 0, 0) (by decide +kernel)
def s5 : w_T := w_a4 s4 (1, 2, 0, 3, 0)
theorem v5 : w5 = w_C s5 := by
  show a_uR w4 2 0 (some 3) = _
  rw [v4]
  exact w_step s4 (1, 2, 0, 3, 0) (by decide +kernel)
def s6 : w_T := w_a4 s5 (0, 0, 6, 0, 0)
theorem v6 : w6 = w_C s6 := by
  show a_new w5 (0, ((nI 6)).toNatClampNeg) = _
  rw [show ((nI 6)).toNatClampNeg = 6 from by decide +kernel]
  rw [v5]
  exact w_step s5 (0, 0, 6, 0, 0) (by decide +kernel)
def s7 : w_T := w_a4 s6 (1, 2, 1, 4, 0)
theorem v7 : w7 = w_C s7 := by
  show a_uR w6 2 1 (some 4) = _
  rw [v6]
  exact w_step s6 (1, 2, 1, 4, 0) (by decide +kernel)
def s8 : w_T := w_a4 s7 (0, 0, 6, 0, 0)
theorem v8 : w8 = w_C s8 := by
  show a_new w7 (0, ((nI 6)).toNatClampNeg) = _
  rw [show ((nI 6)).toNatClampNeg = 6 from by decide +kernel]
  rw [v7]
  exact w_step s7 (0, 0, 6, 0, 0) (by decide +kernel)
def s9 : w_T := w_a4 s8 (1, 2, 2, 5, 0)
theorem v9 : w9 = w_C s9 := by
  show a_uR w8 2 2 (some 5) = _
  rw [v8]
  exact w_step s8 (1, 2, 2, 5, 0) (by decide +kernel)
def s10 : w_T := w_a4 s9 (0, 0, 6, 0, 0)
theorem v10 : w10 = w_C s10 := by
  show a_new w9 (0, ((nI 6)).toNatClampNeg) = _
  rw [show ((nI 6)).toNatClampNeg = 6 from by decide +kernel]
  rw [v9]
  exact w_step s9 (0, 0, 6, 0, 0) (by decide +kernel)
def s11 : w_T := w_a4 s10 (1, 2, 3, 6, 0)
theorem v11 : w11 = w_C s11 := by
  show a_uR w10 2 3 (some 6) = _
  rw [v10]
  exact w_step s10 (1, 2, 3, 6, 0) (by decide +kernel)
def s12 : w_T := w_a4 s11 (0, 0, 6, 0, 0)
theorem v12 : w12 = w_C s12 := by
  show a_new w11 (0, ((nI 6)).toNatClampNeg) = _
  rw [show ((nI 6)).toNatClampNeg = 6 from by decide +kernel]
  rw [v11]
  exact w_step s11 (0, 0, 6, 0, 0) (by decide +kernel)
def s13 : w_T := w_a4 s12 (1, 2, 4, 7, 0)
theorem v13 : w13 = w_C s13 := by
  show a_uR w12 2 4 (some 7) = _
  rw [v12]
  exact w_step s12 (1, 2, 4, 7, 0) (by decide +kernel)
def s14 : w_T := w_a4 s13 (0, 0, 6, 0, 0)
theorem v14 : w14 = w_C s14 := by
  show a_new w13 (0, ((nI 6)).toNatClampNeg) = _
  rw [show ((nI 6)).toNatClampNeg = 6 from by decide +kernel]
  rw [v13]
  exact w_step s13 (0, 0, 6, 0, 0) (by decide +kernel)
def s15 : w_T := w_a4 s14 (1, 2, 5, 8, 0)
theorem v15 : w15 = w_C s15 := by
  show a_uR w14 2 5 (some 8) = _
  rw [v14]
  exact w_step s14 (1, 2, 5, 8, 0) (by decide +kernel)
def s16 : w_T := w_a4 s15 (0, 0, 6, 0, 0)
theorem v16 : w16 = w_C s16 := by
  show a_new w15 (0, ((nI 6)).toNatClampNeg) = _
  rw [show ((nI 6)).toNatClampNeg = 6 from by decide +kernel]
  rw [v15]
  exact w_step s15 (0, 0, 6, 0, 0) (by decide +kernel)
def s17 : w_T := w_a4 s16 (1, 2, 6, 9, 0)
theorem v17 : w17 = w_C s17 := by
  show a_uR w16 2 6 (some 9) = _
  rw [v16]
  exact w_step s16 (1, 2, 6, 9, 0) (by decide +kernel)
def s18 : w_T := w_a4 s17 (0, 0, 25, 0, 0)
theorem v18 : w18 = w_C s18 := by
  show a_new w17 (0, ((nI 25)).toNatClampNeg) = _
  rw [show ((nI 25)).toNatClampNeg = 25 from by decide +kernel]
  rw [v17]
  exact w_step s17 (0, 0, 25, 0, 0) (by decide +kernel)
def s19 : w_T := w_a4 s18 (1, 2, 7, 10, 0)
theorem v19 : w19 = w_C s19 := by
  show a_uR w18 2 7 (some 10) = _
  rw [v18]
  exact w_step s18 (1, 2, 7, 10, 0) (by decide +kernel)
def s20 : w_T := w_a4 s19 (2, 2, 12, 0, (nI 397))
theorem v20 : w20 = w_C s20 := by
  show a_uI w19 2 12 (nI 397) = _
  rw [v19]
  exact w_step s19 (2, 2, 12, 0, (nI 397)) (by decide +kernel)
def s21 : w_T := w_a4 s20 (1, 1, 0, 2, 0)
theorem v21 : w21 = w_C s21 := by
  show a_uR w20 1 0 (some 2) = _
  rw [v20]
  exact w_step s20 (1, 1, 0, 2, 0) (by decide +kernel)
def s22 : w_T := w_a4 s21 (0, 10, 3, 0, 0)
theorem v22 : w22 = w_C s22 := by
  show a_new w21 (10, 3) = _
  rw [v21]
  exact w_step s21 (0, 10, 3, 0, 0) (by decide +kernel)
def s23 : w_T := w_a4 s22 (0, 0, 1800, 0, 0)
theorem v23 : w23 = w_C s23 := by
  show a_new w22 (0, ((nI 1800)).toNatClampNeg) = _
  rw [show ((nI 1800)).toNatClampNeg = 1800 from by decide +kernel]
  rw [v22]
  exact w_step s22 (0, 0, 1800, 0, 0) (by decide +kernel)
def s24 : w_T := w_a4 s23 (1, 11, 0, 12, 0)
theorem v24 : w24 = w_C s24 := by
  show a_uR w23 11 0 (some 12) = _
  rw [v23]
  exact w_step s23 (1, 11, 0, 12, 0) (by decide +kernel)
def s25 : w_T := w_a4 s24 (2, 11, 1, 0, (nI 0))
theorem v25 : w25 = w_C s25 := by
  show a_uI w24 11 1 (nI 0) = _
  rw [v24]
  exact w_step s24 (2, 11, 1, 0, (nI 0)) (by decide +kernel)
def s26 : w_T := w_a4 s25 (2, 11, 2, 0, (nI 0))
theorem v26 : w26 = w_C s26 := by
  show a_uI w25 11 2 (nI 0) = _
  rw [v25]
  exact w_step s25 (2, 11, 2, 0, (nI 0)) (by decide +kernel)
def s27 : w_T := w_a4 s26 (1, 1, 1, 11, 0)
theorem v27 : w27 = w_C s27 := by
  show a_uR w26 1 1 (some 11) = _
  rw [v26]
  exact w_step s26 (1, 1, 1, 11, 0) (by decide +kernel)
def s28 : w_T := w_a4 s27 (0, 7, 5, 0, 0)
theorem v28 : w28 = w_C s28 := by
  show a_new w27 (7, 5) = _
  rw [v27]
  exact w_step s27 (0, 7, 5, 0, 0) (by decide +kernel)
def s29 : w_T := w_a4 s28 (2, 13, 0, 0, (nI 10))
theorem v29 : w29 = w_C s29 := by
  show a_uI w28 13 0 (a_max (nI 10) (nI 0)) = _
  rw [show (a_max (nI 10) (nI 0)) = (nI 10) from by decide +kernel]
  rw [v28]
  exact w_step s28 (2, 13, 0, 0, (nI 10)) (by decide +kernel)
def s30 : w_T := w_a4 s29 (0, 0, 10, 0, 0)
theorem v30 : w30 = w_C s30 := by
  show a_new w29 (0, ((w29.2.2.1 13 0)).toNatClampNeg) = _
  rw [show ((w29.2.2.1 13 0)).toNatClampNeg = 10 from by decide +kernel]
  rw [v29]
  exact w_step s29 (0, 0, 10, 0, 0) (by decide +kernel)
def s31 : w_T := w_a4 s30 (1, 13, 1, 14, 0)
theorem v31 : w31 = w_C s31 := by
  show a_uR w30 13 1 (some 14) = _
  rw [v30]
  exact w_step s30 (1, 13, 1, 14, 0) (by decide +kernel)
def s32 : w_T := w_a4 s31 (0, 0, 10, 0, 0)
theorem v32 : w32 = w_C s32 := by
  show a_new w31 (0, ((w31.2.2.1 13 0)).toNatClampNeg) = _
  rw [show ((w31.2.2.1 13 0)).toNatClampNeg = 10 from by decide +kernel]
  rw [v31]
  exact w_step s31 (0, 0, 10, 0, 0) (by decide +kernel)
def s33 : w_T := w_a4 s32 (1, 13, 2, 15, 0)
theorem v33 : w33 = w_C s33 := by
  show a_uR w32 13 2 (some 15) = _
  rw [v32]
  exact w_step s32 (1, 13, 2, 15, 0) (by decide +kernel)
def s34 : w_T := w_a4 s33 (0, 0, 10, 0, 0)
theorem v34 : w34 = w_C s34 := by
  show a_new w33 (0, ((w33.2.2.1 13 0)).toNatClampNeg) = _
  rw [show ((w33.2.2.1 13 0)).toNatClampNeg = 10 from by decide +kernel]
  rw [v33]
  exact w_step s33 (0, 0, 10, 0, 0) (by decide +kernel)
def s35 : w_T := w_a4 s34 (1, 13, 3, 16, 0)
theorem v35 : w35 = w_C s35 := by
  show a_uR w34 13 3 (some 16) = _
  rw [v34]
  exact w_step s34 (1, 13, 3, 16, 0) (by decide +kernel)
def s36 : w_T := w_a4 s35 (2, 13, 4, 0, (nI 0))
theorem v36 : w36 = w_C s36 := by
  show a_uI w35 13 4 (nI 0) = _
  rw [v35]
  exact w_step s35 (2, 13, 4, 0, (nI 0)) (by decide +kernel)
def s37 : w_T := w_a4 s36 (1, 1, 2, 13, 0)
theorem v37 : w37 = w_C s37 := by
  show a_uR w36 1 2 (some 13) = _
  rw [v36]
  exact w_step s36 (1, 1, 2, 13, 0) (by decide +kernel)
def s38 : w_T := w_a4 s37 (0, 7, 5, 0, 0)
theorem v38 : w38 = w_C s38 := by
  show a_new w37 (7, 5) = _
  rw [v37]
  exact w_step s37 (0, 7, 5, 0, 0) (by decide +kernel)
def s39 : w_T := w_a4 s38 (2, 17, 0, 0, (nI 8))
theorem v39 : w39 = w_C s39 := by
  show a_uI w38 17 0 (a_max (nI 8) (nI 0)) = _
  rw [show (a_max (nI 8) (nI 0)) = (nI 8) from by decide +kernel]
  rw [v38]
  exact w_step s38 (2, 17, 0, 0, (nI 8)) (by decide +kernel)
def s40 : w_T := w_a4 s39 (0, 0, 8, 0, 0)
theorem v40 : w40 = w_C s40 := by
  show a_new w39 (0, ((w39.2.2.1 17 0)).toNatClampNeg) = _
  rw [show ((w39.2.2.1 17 0)).toNatClampNeg = 8 from by decide +kernel]
  rw [v39]
  exact w_step s39 (0, 0, 8, 0, 0) (by decide +kernel)
def s41 : w_T := w_a4 s40 (1, 17, 1, 18, 0)
theorem v41 : w41 = w_C s41 := by
  show a_uR w40 17 1 (some 18) = _
  rw [v40]
  exact w_step s40 (1, 17, 1, 18, 0) (by decide +kernel)
def s42 : w_T := w_a4 s41 (0, 0, 8, 0, 0)
theorem v42 : w42 = w_C s42 := by
  show a_new w41 (0, ((w41.2.2.1 17 0)).toNatClampNeg) = _
  rw [show ((w41.2.2.1 17 0)).toNatClampNeg = 8 from by decide +kernel]
  rw [v41]
  exact w_step s41 (0, 0, 8, 0, 0) (by decide +kernel)
def s43 : w_T := w_a4 s42 (1, 17, 2, 19, 0)
theorem v43 : w43 = w_C s43 := by
  show a_uR w42 17 2 (some 19) = _
  rw [v42]
  exact w_step s42 (1, 17, 2, 19, 0) (by decide +kernel)
def s44 : w_T := w_a4 s43 (0, 0, 8, 0, 0)
theorem v44 : w44 = w_C s44 := by
  show a_new w43 (0, ((w43.2.2.1 17 0)).toNatClampNeg) = _
  rw [show ((w43.2.2.1 17 0)).toNatClampNeg = 8 from by decide +kernel]
  rw [v43]
  exact w_step s43 (0, 0, 8, 0, 0) (by decide +kernel)
def s45 : w_T := w_a4 s44 (1, 17, 3, 20, 0)
theorem v45 : w45 = w_C s45 := by
  show a_uR w44 17 3 (some 20) = _
  rw [v44]
  exact w_step s44 (1, 17, 3, 20, 0) (by decide +kernel)
def s46 : w_T := w_a4 s45 (2, 17, 4, 0, (nI 0))
theorem v46 : w46 = w_C s46 := by
  show a_uI w45 17 4 (nI 0) = _
  rw [v45]
  exact w_step s45 (2, 17, 4, 0, (nI 0)) (by decide +kernel)
def s47 : w_T := w_a4 s46 (1, 1, 3, 17, 0)
theorem v47 : w47 = w_C s47 := by
  show a_uR w46 1 3 (some 17) = _
  rw [v46]
  exact w_step s46 (1, 1, 3, 17, 0) (by decide +kernel)
def s48 : w_T := w_a4 s47 (0, 7, 5, 0, 0)
theorem v48 : w48 = w_C s48 := by
  show a_new w47 (7, 5) = _
  rw [v47]
  exact w_step s47 (0, 7, 5, 0, 0) (by decide +kernel)
def s49 : w_T := w_a4 s48 (2, 21, 0, 0, (nI 5))
theorem v49 : w49 = w_C s49 := by
  show a_uI w48 21 0 (a_max (nI 5) (nI 0)) = _
  rw [show (a_max (nI 5) (nI 0)) = (nI 5) from by decide +kernel]
  rw [v48]
  exact w_step s48 (2, 21, 0, 0, (nI 5)) (by decide +kernel)
def s50 : w_T := w_a4 s49 (0, 0, 5, 0, 0)
theorem v50 : w50 = w_C s50 := by
  show a_new w49 (0, ((w49.2.2.1 21 0)).toNatClampNeg) = _
  rw [show ((w49.2.2.1 21 0)).toNatClampNeg = 5 from by decide +kernel]
  rw [v49]
  exact w_step s49 (0, 0, 5, 0, 0) (by decide +kernel)
def s51 : w_T := w_a4 s50 (1, 21, 1, 22, 0)
theorem v51 : w51 = w_C s51 := by
  show a_uR w50 21 1 (some 22) = _
  rw [v50]
  exact w_step s50 (1, 21, 1, 22, 0) (by decide +kernel)
def s52 : w_T := w_a4 s51 (0, 0, 5, 0, 0)
theorem v52 : w52 = w_C s52 := by
  show a_new w51 (0, ((w51.2.2.1 21 0)).toNatClampNeg) = _
  rw [show ((w51.2.2.1 21 0)).toNatClampNeg = 5 from by decide +kernel]
  rw [v51]
  exact w_step s51 (0, 0, 5, 0, 0) (by decide +kernel)
def s53 : w_T := w_a4 s52 (1, 21, 2, 23, 0)
theorem v53 : w53 = w_C s53 := by
  show a_uR w52 21 2 (some 23) = _
  rw [v52]
  exact w_step s52 (1, 21, 2, 23, 0) (by decide +kernel)
def s54 : w_T := w_a4 s53 (0, 0, 5, 0, 0)
theorem v54 : w54 = w_C s54 := by
  show a_new w53 (0, ((w53.2.2.1 21 0)).toNatClampNeg) = _
  rw [show ((w53.2.2.1 21 0)).toNatClampNeg = 5 from by decide +kernel]
  rw [v53]
  exact w_step s53 (0, 0, 5, 0, 0) (by decide +kernel)
def s55 : w_T := w_a4 s54 (1, 21, 3, 24, 0)
theorem v55 : w55 = w_C s55 := by
  show a_uR w54 21 3 (some 24) = _
  rw [v54]
  exact w_step s54 (1, 21, 3, 24, 0) (by decide +kernel)
def s56 : w_T := w_a4 s55 (2, 21, 4, 0, (nI 0))
theorem v56 : w56 = w_C s56 := by
  show a_uI w55 21 4 (nI 0) = _
  rw [v55]
  exact w_step s55 (2, 21, 4, 0, (nI 0)) (by decide +kernel)
def s57 : w_T := w_a4 s56 (1, 1, 4, 21, 0)
theorem v57 : w57 = w_C s57 := by
  show a_uR w56 1 4 (some 21) = _
  rw [v56]
  exact w_step s56 (1, 1, 4, 21, 0) (by decide +kernel)
def s58 : w_T := w_a4 s57 (0, 7, 5, 0, 0)
theorem v58 : w58 = w_C s58 := by
  show a_new w57 (7, 5) = _
  rw [v57]
  exact w_step s57 (0, 7, 5, 0, 0) (by decide +kernel)
def s59 : w_T := w_a4 s58 (2, 25, 0, 0, (nI 8))
theorem v59 : w59 = w_C s59 := by
  show a_uI w58 25 0 (a_max (nI 8) (nI 0)) = _
  rw [show (a_max (nI 8) (nI 0)) = (nI 8) from by decide +kernel]
  rw [v58]
  exact w_step s58 (2, 25, 0, 0, (nI 8)) (by decide +kernel)
def s60 : w_T := w_a4 s59 (0, 0, 8, 0, 0)
theorem v60 : w60 = w_C s60 := by
  show a_new w59 (0, ((w59.2.2.1 25 0)).toNatClampNeg) = _
  rw [show ((w59.2.2.1 25 0)).toNatClampNeg = 8 from by decide +kernel]
  rw [v59]
  exact w_step s59 (0, 0, 8, 0, 0) (by decide +kernel)
def s61 : w_T := w_a4 s60 (1, 25, 1, 26, 0)
theorem v61 : w61 = w_C s61 := by
  show a_uR w60 25 1 (some 26) = _
  rw [v60]
  exact w_step s60 (1, 25, 1, 26, 0) (by decide +kernel)
def s62 : w_T := w_a4 s61 (0, 0, 8, 0, 0)
theorem v62 : w62 = w_C s62 := by
  show a_new w61 (0, ((w61.2.2.1 25 0)).toNatClampNeg) = _
  rw [show ((w61.2.2.1 25 0)).toNatClampNeg = 8 from by decide +kernel]
  rw [v61]
  exact w_step s61 (0, 0, 8, 0, 0) (by decide +kernel)
def s63 : w_T := w_a4 s62 (1, 25, 2, 27, 0)
theorem v63 : w63 = w_C s63 := by
  show a_uR w62 25 2 (some 27) = _
  rw [v62]
  exact w_step s62 (1, 25, 2, 27, 0) (by decide +kernel)
def s64 : w_T := w_a4 s63 (0, 0, 8, 0, 0)
theorem v64 : w64 = w_C s64 := by
  show a_new w63 (0, ((w63.2.2.1 25 0)).toNatClampNeg) = _
  rw [show ((w63.2.2.1 25 0)).toNatClampNeg = 8 from by decide +kernel]
  rw [v63]
  exact w_step s63 (0, 0, 8, 0, 0) (by decide +kernel)
def s65 : w_T := w_a4 s64 (1, 25, 3, 28, 0)
theorem v65 : w65 = w_C s65 := by
  show a_uR w64 25 3 (some 28) = _
  rw [v64]
  exact w_step s64 (1, 25, 3, 28, 0) (by decide +kernel)
def s66 : w_T := w_a4 s65 (2, 25, 4, 0, (nI 0))
theorem v66 : w66 = w_C s66 := by
  show a_uI w65 25 4 (nI 0) = _
  rw [v65]
  exact w_step s65 (2, 25, 4, 0, (nI 0)) (by decide +kernel)
def s67 : w_T := w_a4 s66 (1, 1, 5, 25, 0)
theorem v67 : w67 = w_C s67 := by
  show a_uR w66 1 5 (some 25) = _
  rw [v66]
  exact w_step s66 (1, 1, 5, 25, 0) (by decide +kernel)
def s68 : w_T := w_a4 s67 (2, 1, 6, 0, (nI 0))
theorem v68 : w68 = w_C s68 := by
  show a_uI w67 1 6 (nI 0) = _
  rw [v67]
  exact w_step s67 (2, 1, 6, 0, (nI 0)) (by decide +kernel)
def s69 : w_T := w_a4 s68 (2, 1, 7, 0, (-(nI 1)))
theorem v69 : w69 = w_C s69 := by
  show a_uI w68 1 7 (-(nI 1)) = _
  rw [v68]
  exact w_step s68 (2, 1, 7, 0, (-(nI 1))) (by decide +kernel)
def s70 : w_T := w_a4 s69 (1, 0, 0, 1, 0)
theorem v70 : w70 = w_C s70 := by
  show a_uR w69 0 0 (some 1) = _
  rw [v69]
  exact w_step s69 (1, 0, 0, 1, 0) (by decide +kernel)
def s71 : w_T := w_a4 s70 (0, 13, 8, 0, 0)
theorem v71 : w71 = w_C s71 := by
  show a_new w70 (13, 8) = _
  rw [v70]
  exact w_step s70 (0, 13, 8, 0, 0) (by decide +kernel)
def s72 : w_T := w_a4 s71 (0, 6, 13, 0, 0)
theorem v72 : w72 = w_C s72 := by
  show a_new w71 (6, 13) = _
  rw [v71]
  exact w_step s71 (0, 6, 13, 0, 0) (by decide +kernel)
def s73 : w_T := w_a4 s72 (0, 0, 6, 0, 0)
theorem v73 : w73 = w_C s73 := by
  show a_new w72 (0, ((nI 6)).toNatClampNeg) = _
  rw [show ((nI 6)).toNatClampNeg = 6 from by decide +kernel]
  rw [v72]
  exact w_step s72 (0, 0, 6, 0, 0) (by decide +kernel)
def s74 : w_T := w_a4 s73 (1, 30, 0, 31, 0)
theorem v74 : w74 = w_C s74 := by
  show a_uR w73 30 0 (some 31) = _
  rw [v73]
  exact w_step s73 (1, 30, 0, 31, 0) (by decide +kernel)
def s75 : w_T := w_a4 s74 (0, 0, 6, 0, 0)
theorem v75 : w75 = w_C s75 := by
  show a_new w74 (0, ((nI 6)).toNatClampNeg) = _
  rw [show ((nI 6)).toNatClampNeg = 6 from by decide +kernel]
  rw [v74]
  exact w_step s74 (0, 0, 6, 0, 0) (by decide +kernel)
def s76 : w_T := w_a4 s75 (1, 30, 1, 32, 0)
theorem v76 : w76 = w_C s76 := by
  show a_uR w75 30 1 (some 32) = _
  rw [v75]
  exact w_step s75 (1, 30, 1, 32, 0) (by decide +kernel)
def s77 : w_T := w_a4 s76 (0, 0, 6, 0, 0)
theorem v77 : w77 = w_C s77 := by
  show a_new w76 (0, ((nI 6)).toNatClampNeg) = _
  rw [show ((nI 6)).toNatClampNeg = 6 from by decide +kernel]
  rw [v76]
  exact w_step s76 (0, 0, 6, 0, 0) (by decide +kernel)
def s78 : w_T := w_a4 s77 (1, 30, 2, 33, 0)
theorem v78 : w78 = w_C s78 := by
  show a_uR w77 30 2 (some 33) = _
  rw [v77]
  exact w_step s77 (1, 30, 2, 33, 0) (by decide +kernel)
def s79 : w_T := w_a4 s78 (0, 0, 6, 0, 0)
theorem v79 : w79 = w_C s79 := by
  show a_new w78 (0, ((nI 6)).toNatClampNeg) = _
  rw [show ((nI 6)).toNatClampNeg = 6 from by decide +kernel]
  rw [v78]
  exact w_step s78 (0, 0, 6, 0, 0) (by decide +kernel)
def s80 : w_T := w_a4 s79 (1, 30, 3, 34, 0)
theorem v80 : w80 = w_C s80 := by
  show a_uR w79 30 3 (some 34) = _
  rw [v79]
  exact w_step s79 (1, 30, 3, 34, 0) (by decide +kernel)
def s81 : w_T := w_a4 s80 (0, 0, 6, 0, 0)
theorem v81 : w81 = w_C s81 := by
  show a_new w80 (0, ((nI 6)).toNatClampNeg) = _
  rw [show ((nI 6)).toNatClampNeg = 6 from by decide +kernel]
  rw [v80]
  exact w_step s80 (0, 0, 6, 0, 0) (by decide +kernel)
def s82 : w_T := w_a4 s81 (1, 30, 4, 35, 0)
theorem v82 : w82 = w_C s82 := by
  show a_uR w81 30 4 (some 35) = _
  rw [v81]
  exact w_step s81 (1, 30, 4, 35, 0) (by decide +kernel)
def s83 : w_T := w_a4 s82 (0, 0, 6, 0, 0)
theorem v83 : w83 = w_C s83 := by
  show a_new w82 (0, ((nI 6)).toNatClampNeg) = _
  rw [show ((nI 6)).toNatClampNeg = 6 from by decide +kernel]
  rw [v82]
  exact w_step s82 (0, 0, 6, 0, 0) (by decide +kernel)
def s84 : w_T := w_a4 s83 (1, 30, 5, 36, 0)
theorem v84 : w84 = w_C s84 := by
  show a_uR w83 30 5 (some 36) = _
  rw [v83]
  exact w_step s83 (1, 30, 5, 36, 0) (by decide +kernel)
def s85 : w_T := w_a4 s84 (0, 0, 6, 0, 0)
theorem v85 : w85 = w_C s85 := by
  show a_new w84 (0, ((nI 6)).toNatClampNeg) = _
  rw [show ((nI 6)).toNatClampNeg = 6 from by decide +kernel]
  rw [v84]
  exact w_step s84 (0, 0, 6, 0, 0) (by decide +kernel)
def s86 : w_T := w_a4 s85 (1, 30, 6, 37, 0)
theorem v86 : w86 = w_C s86 := by
  show a_uR w85 30 6 (some 37) = _
  rw [v85]
  exact w_step s85 (1, 30, 6, 37, 0) (by decide +kernel)
def s87 : w_T := w_a4 s86 (0, 0, 25, 0, 0)
theorem v87 : w87 = w_C s87 := by
  show a_new w86 (0, ((nI 25)).toNatClampNeg) = _
  rw [show ((nI 25)).toNatClampNeg = 25 from by decide +kernel]
  rw [v86]
  exact w_step s86 (0, 0, 25, 0, 0) (by decide +kernel)
def s88 : w_T := w_a4 s87 (1, 30, 7, 38, 0)
theorem v88 : w88 = w_C s88 := by
  show a_uR w87 30 7 (some 38) = _
  rw [v87]
  exact w_step s87 (1, 30, 7, 38, 0) (by decide +kernel)
def s89 : w_T := w_a4 s88 (2, 30, 12, 0, (nI 397))
theorem v89 : w89 = w_C s89 := by
  show a_uI w88 30 12 (nI 397) = _
  rw [v88]
  exact w_step s88 (2, 30, 12, 0, (nI 397)) (by decide +kernel)
def s90 : w_T := w_a4 s89 (1, 29, 0, 30, 0)
theorem v90 : w90 = w_C s90 := by
  show a_uR w89 29 0 (some 30) = _
  rw [v89]
  exact w_step s89 (1, 29, 0, 30, 0) (by decide +kernel)
def s91 : w_T := w_a4 s90 (0, 10, 3, 0, 0)
theorem v91 : w91 = w_C s91 := by
  show a_new w90 (10, 3) = _
  rw [v90]
  exact w_step s90 (0, 10, 3, 0, 0) (by decide +kernel)
def s92 : w_T := w_a4 s91 (0, 0, 1800, 0, 0)
theorem v92 : w92 = w_C s92 := by
  show a_new w91 (0, ((nI 1800)).toNatClampNeg) = _
  rw [show ((nI 1800)).toNatClampNeg = 1800 from by decide +kernel]
  rw [v91]
  exact w_step s91 (0, 0, 1800, 0, 0) (by decide +kernel)
def s93 : w_T := w_a4 s92 (1, 39, 0, 40, 0)
theorem v93 : w93 = w_C s93 := by
  show a_uR w92 39 0 (some 40) = _
  rw [v92]
  exact w_step s92 (1, 39, 0, 40, 0) (by decide +kernel)
def s94 : w_T := w_a4 s93 (2, 39, 1, 0, (nI 0))
theorem v94 : w94 = w_C s94 := by
  show a_uI w93 39 1 (nI 0) = _
  rw [v93]
  exact w_step s93 (2, 39, 1, 0, (nI 0)) (by decide +kernel)
def s95 : w_T := w_a4 s94 (2, 39, 2, 0, (nI 0))
theorem v95 : w95 = w_C s95 := by
  show a_uI w94 39 2 (nI 0) = _
  rw [v94]
  exact w_step s94 (2, 39, 2, 0, (nI 0)) (by decide +kernel)
def s96 : w_T := w_a4 s95 (1, 29, 1, 39, 0)
theorem v96 : w96 = w_C s96 := by
  show a_uR w95 29 1 (some 39) = _
  rw [v95]
  exact w_step s95 (1, 29, 1, 39, 0) (by decide +kernel)
def s97 : w_T := w_a4 s96 (0, 7, 5, 0, 0)
theorem v97 : w97 = w_C s97 := by
  show a_new w96 (7, 5) = _
  rw [v96]
  exact w_step s96 (0, 7, 5, 0, 0) (by decide +kernel)
def s98 : w_T := w_a4 s97 (2, 41, 0, 0, (nI 10))
theorem v98 : w98 = w_C s98 := by
  show a_uI w97 41 0 (a_max (nI 10) (nI 0)) = _
  rw [show (a_max (nI 10) (nI 0)) = (nI 10) from by decide +kernel]
  rw [v97]
  exact w_step s97 (2, 41, 0, 0, (nI 10)) (by decide +kernel)
def s99 : w_T := w_a4 s98 (0, 0, 10, 0, 0)
theorem v99 : w99 = w_C s99 := by
  show a_new w98 (0, ((w98.2.2.1 41 0)).toNatClampNeg) = _
  rw [show ((w98.2.2.1 41 0)).toNatClampNeg = 10 from by decide +kernel]
  rw [v98]
  exact w_step s98 (0, 0, 10, 0, 0) (by decide +kernel)
def s100 : w_T := w_a4 s99 (1, 41, 1, 42, 0)
theorem v100 : w100 = w_C s100 := by
  show a_uR w99 41 1 (some 42) = _
  rw [v99]
  exact w_step s99 (1, 41, 1, 42, 0) (by decide +kernel)
def s101 : w_T := w_a4 s100 (0, 0, 10, 0, 0)
theorem v101 : w101 = w_C s101 := by
  show a_new w100 (0, ((w100.2.2.1 41 0)).toNatClampNeg) = _
  rw [show ((w100.2.2.1 41 0)).toNatClampNeg = 10 from by decide +kernel]
  rw [v100]
  exact w_step s100 (0, 0, 10, 0, 0) (by decide +kernel)
def s102 : w_T := w_a4 s101 (1, 41, 2, 43, 0)
theorem v102 : w102 = w_C s102 := by
  show a_uR w101 41 2 (some 43) = _
  rw [v101]
  exact w_step s101 (1, 41, 2, 43, 0) (by decide +kernel)
def s103 : w_T := w_a4 s102 (0, 0, 10, 0, 0)
theorem v103 : w103 = w_C s103 := by
  show a_new w102 (0, ((w102.2.2.1 41 0)).toNatClampNeg) = _
  rw [show ((w102.2.2.1 41 0)).toNatClampNeg = 10 from by decide +kernel]
  rw [v102]
  exact w_step s102 (0, 0, 10, 0, 0) (by decide +kernel)
def s104 : w_T := w_a4 s103 (1, 41, 3, 44, 0)
theorem v104 : w104 = w_C s104 := by
  show a_uR w103 41 3 (some 44) = _
  rw [v103]
  exact w_step s103 (1, 41, 3, 44, 0) (by decide +kernel)
def s105 : w_T := w_a4 s104 (2, 41, 4, 0, (nI 0))
theorem v105 : w105 = w_C s105 := by
  show a_uI w104 41 4 (nI 0) = _
  rw [v104]
  exact w_step s104 (2, 41, 4, 0, (nI 0)) (by decide +kernel)
def s106 : w_T := w_a4 s105 (1, 29, 2, 41, 0)
theorem v106 : w106 = w_C s106 := by
  show a_uR w105 29 2 (some 41) = _
  rw [v105]
  exact w_step s105 (1, 29, 2, 41, 0) (by decide +kernel)
def s107 : w_T := w_a4 s106 (0, 7, 5, 0, 0)
theorem v107 : w107 = w_C s107 := by
  show a_new w106 (7, 5) = _
  rw [v106]
  exact w_step s106 (0, 7, 5, 0, 0) (by decide +kernel)
def s108 : w_T := w_a4 s107 (2, 45, 0, 0, (nI 8))
theorem v108 : w108 = w_C s108 := by
  show a_uI w107 45 0 (a_max (nI 8) (nI 0)) = _
  rw [show (a_max (nI 8) (nI 0)) = (nI 8) from by decide +kernel]
  rw [v107]
  exact w_step s107 (2, 45, 0, 0, (nI 8)) (by decide +kernel)
def s109 : w_T := w_a4 s108 (0, 0, 8, 0, 0)
theorem v109 : w109 = w_C s109 := by
  show a_new w108 (0, ((w108.2.2.1 45 0)).toNatClampNeg) = _
  rw [show ((w108.2.2.1 45 0)).toNatClampNeg = 8 from by decide +kernel]
  rw [v108]
  exact w_step s108 (0, 0, 8, 0, 0) (by decide +kernel)
def s110 : w_T := w_a4 s109 (1, 45, 1, 46, 0)
theorem v110 : w110 = w_C s110 := by
  show a_uR w109 45 1 (some 46) = _
  rw [v109]
  exact w_step s109 (1, 45, 1, 46, 0) (by decide +kernel)
def s111 : w_T := w_a4 s110 (0, 0, 8, 0, 0)
theorem v111 : w111 = w_C s111 := by
  show a_new w110 (0, ((w110.2.2.1 45 0)).toNatClampNeg) = _
  rw [show ((w110.2.2.1 45 0)).toNatClampNeg = 8 from by decide +kernel]
  rw [v110]
  exact w_step s110 (0, 0, 8, 0, 0) (by decide +kernel)
def s112 : w_T := w_a4 s111 (1, 45, 2, 47, 0)
theorem v112 : w112 = w_C s112 := by
  show a_uR w111 45 2 (some 47) = _
  rw [v111]
  exact w_step s111 (1, 45, 2, 47, 0) (by decide +kernel)
def s113 : w_T := w_a4 s112 (0, 0, 8, 0, 0)
theorem v113 : w113 = w_C s113 := by
  show a_new w112 (0, ((w112.2.2.1 45 0)).toNatClampNeg) = _
  rw [show ((w112.2.2.1 45 0)).toNatClampNeg = 8 from by decide +kernel]
  rw [v112]
  exact w_step s112 (0, 0, 8, 0, 0) (by decide +kernel)
def s114 : w_T := w_a4 s113 (1, 45, 3, 48, 0)
theorem v114 : w114 = w_C s114 := by
  show a_uR w113 45 3 (some 48) = _
  rw [v113]
  exact w_step s113 (1, 45, 3, 48, 0) (by decide +kernel)
def s115 : w_T := w_a4 s114 (2, 45, 4, 0, (nI 0))
theorem v115 : w115 = w_C s115 := by
  show a_uI w114 45 4 (nI 0) = _
  rw [v114]
  exact w_step s114 (2, 45, 4, 0, (nI 0)) (by decide +kernel)
def s116 : w_T := w_a4 s115 (1, 29, 3, 45, 0)
theorem v116 : w116 = w_C s116 := by
  show a_uR w115 29 3 (some 45) = _
  rw [v115]
  exact w_step s115 (1, 29, 3, 45, 0) (by decide +kernel)
def s117 : w_T := w_a4 s116 (0, 7, 5, 0, 0)
theorem v117 : w117 = w_C s117 := by
  show a_new w116 (7, 5) = _
  rw [v116]
  exact w_step s116 (0, 7, 5, 0, 0) (by decide +kernel)
def s118 : w_T := w_a4 s117 (2, 49, 0, 0, (nI 5))
theorem v118 : w118 = w_C s118 := by
  show a_uI w117 49 0 (a_max (nI 5) (nI 0)) = _
  rw [show (a_max (nI 5) (nI 0)) = (nI 5) from by decide +kernel]
  rw [v117]
  exact w_step s117 (2, 49, 0, 0, (nI 5)) (by decide +kernel)
def s119 : w_T := w_a4 s118 (0, 0, 5, 0, 0)
theorem v119 : w119 = w_C s119 := by
  show a_new w118 (0, ((w118.2.2.1 49 0)).toNatClampNeg) = _
  rw [show ((w118.2.2.1 49 0)).toNatClampNeg = 5 from by decide +kernel]
  rw [v118]
  exact w_step s118 (0, 0, 5, 0, 0) (by decide +kernel)
def s120 : w_T := w_a4 s119 (1, 49, 1, 50, 0)
theorem v120 : w120 = w_C s120 := by
  show a_uR w119 49 1 (some 50) = _
  rw [v119]
  exact w_step s119 (1, 49, 1, 50, 0) (by decide +kernel)
def s121 : w_T := w_a4 s120 (0, 0, 5, 0, 0)
theorem v121 : w121 = w_C s121 := by
  show a_new w120 (0, ((w120.2.2.1 49 0)).toNatClampNeg) = _
  rw [show ((w120.2.2.1 49 0)).toNatClampNeg = 5 from by decide +kernel]
  rw [v120]
  exact w_step s120 (0, 0, 5, 0, 0) (by decide +kernel)
def s122 : w_T := w_a4 s121 (1, 49, 2, 51, 0)
theorem v122 : w122 = w_C s122 := by
  show a_uR w121 49 2 (some 51) = _
  rw [v121]
  exact w_step s121 (1, 49, 2, 51, 0) (by decide +kernel)
def s123 : w_T := w_a4 s122 (0, 0, 5, 0, 0)
theorem v123 : w123 = w_C s123 := by
  show a_new w122 (0, ((w122.2.2.1 49 0)).toNatClampNeg) = _
  rw [show ((w122.2.2.1 49 0)).toNatClampNeg = 5 from by decide +kernel]
  rw [v122]
  exact w_step s122 (0, 0, 5, 0, 0) (by decide +kernel)
def s124 : w_T := w_a4 s123 (1, 49, 3, 52, 0)
theorem v124 : w124 = w_C s124 := by
  show a_uR w123 49 3 (some 52) = _
  rw [v123]
  exact w_step s123 (1, 49, 3, 52, 0) (by decide +kernel)
def s125 : w_T := w_a4 s124 (2, 49, 4, 0, (nI 0))
theorem v125 : w125 = w_C s125 := by
  show a_uI w124 49 4 (nI 0) = _
  rw [v124]
  exact w_step s124 (2, 49, 4, 0, (nI 0)) (by decide +kernel)
def s126 : w_T := w_a4 s125 (1, 29, 4, 49, 0)
theorem v126 : w126 = w_C s126 := by
  show a_uR w125 29 4 (some 49) = _
  rw [v125]
  exact w_step s125 (1, 29, 4, 49, 0) (by decide +kernel)
def s127 : w_T := w_a4 s126 (0, 7, 5, 0, 0)
theorem v127 : w127 = w_C s127 := by
  show a_new w126 (7, 5) = _
  rw [v126]
  exact w_step s126 (0, 7, 5, 0, 0) (by decide +kernel)
def s128 : w_T := w_a4 s127 (2, 53, 0, 0, (nI 8))
theorem v128 : w128 = w_C s128 := by
  show a_uI w127 53 0 (a_max (nI 8) (nI 0)) = _
  rw [show (a_max (nI 8) (nI 0)) = (nI 8) from by decide +kernel]
  rw [v127]
  exact w_step s127 (2, 53, 0, 0, (nI 8)) (by decide +kernel)
def s129 : w_T := w_a4 s128 (0, 0, 8, 0, 0)
theorem v129 : w129 = w_C s129 := by
  show a_new w128 (0, ((w128.2.2.1 53 0)).toNatClampNeg) = _
  rw [show ((w128.2.2.1 53 0)).toNatClampNeg = 8 from by decide +kernel]
  rw [v128]
  exact w_step s128 (0, 0, 8, 0, 0) (by decide +kernel)
def s130 : w_T := w_a4 s129 (1, 53, 1, 54, 0)
theorem v130 : w130 = w_C s130 := by
  show a_uR w129 53 1 (some 54) = _
  rw [v129]
  exact w_step s129 (1, 53, 1, 54, 0) (by decide +kernel)
def s131 : w_T := w_a4 s130 (0, 0, 8, 0, 0)
theorem v131 : w131 = w_C s131 := by
  show a_new w130 (0, ((w130.2.2.1 53 0)).toNatClampNeg) = _
  rw [show ((w130.2.2.1 53 0)).toNatClampNeg = 8 from by decide +kernel]
  rw [v130]
  exact w_step s130 (0, 0, 8, 0, 0) (by decide +kernel)
def s132 : w_T := w_a4 s131 (1, 53, 2, 55, 0)
theorem v132 : w132 = w_C s132 := by
  show a_uR w131 53 2 (some 55) = _
  rw [v131]
  exact w_step s131 (1, 53, 2, 55, 0) (by decide +kernel)
def s133 : w_T := w_a4 s132 (0, 0, 8, 0, 0)
theorem v133 : w133 = w_C s133 := by
  show a_new w132 (0, ((w132.2.2.1 53 0)).toNatClampNeg) = _
  rw [show ((w132.2.2.1 53 0)).toNatClampNeg = 8 from by decide +kernel]
  rw [v132]
  exact w_step s132 (0, 0, 8, 0, 0) (by decide +kernel)
def s134 : w_T := w_a4 s133 (1, 53, 3, 56, 0)
theorem v134 : w134 = w_C s134 := by
  show a_uR w133 53 3 (some 56) = _
  rw [v133]
  exact w_step s133 (1, 53, 3, 56, 0) (by decide +kernel)
def s135 : w_T := w_a4 s134 (2, 53, 4, 0, (nI 0))
theorem v135 : w135 = w_C s135 := by
  show a_uI w134 53 4 (nI 0) = _
  rw [v134]
  exact w_step s134 (2, 53, 4, 0, (nI 0)) (by decide +kernel)
def s136 : w_T := w_a4 s135 (1, 29, 5, 53, 0)
theorem v136 : w136 = w_C s136 := by
  show a_uR w135 29 5 (some 53) = _
  rw [v135]
  exact w_step s135 (1, 29, 5, 53, 0) (by decide +kernel)
def s137 : w_T := w_a4 s136 (2, 29, 6, 0, (nI 0))
theorem v137 : w137 = w_C s137 := by
  show a_uI w136 29 6 (nI 0) = _
  rw [v136]
  exact w_step s136 (2, 29, 6, 0, (nI 0)) (by decide +kernel)
def s138 : w_T := w_a4 s137 (2, 29, 7, 0, (-(nI 1)))
theorem v138 : w138 = w_C s138 := by
  show a_uI w137 29 7 (-(nI 1)) = _
  rw [v137]
  exact w_step s137 (2, 29, 7, 0, (-(nI 1))) (by decide +kernel)
def s139 : w_T := w_a4 s138 (1, 0, 1, 29, 0)
theorem v139 : w139 = w_C s139 := by
  show a_uR w138 0 1 (some 29) = _
  rw [v138]
  exact w_step s138 (1, 0, 1, 29, 0) (by decide +kernel)
def s140 : w_T := w_a4 s139 (0, 3, 4, 0, 0)
theorem v140 : w140 = w_C s140 := by
  show a_new w139 (3, ((nI 4)).toNatClampNeg) = _
  rw [show ((nI 4)).toNatClampNeg = 4 from by decide +kernel]
  rw [v139]
  exact w_step s139 (0, 3, 4, 0, 0) (by decide +kernel)
def s141 : w_T := w_a4 s140 (1, 0, 2, 57, 0)
theorem v141 : w141 = w_C s141 := by
  show a_uR w140 0 2 (some 57) = _
  rw [v140]
  exact w_step s140 (1, 0, 2, 57, 0) (by decide +kernel)
def s142 : w_T := w_a4 s141 (0, 11, 10, 0, 0)
theorem v142 : w142 = w_C s142 := by
  show a_new w141 (11, 10) = _
  rw [v141]
  exact w_step s141 (0, 11, 10, 0, 0) (by decide +kernel)
def s143 : w_T := w_a4 s142 (0, 0, 24, 0, 0)
theorem v143 : w143 = w_C s143 := by
  show a_new w142 (0, ((nI 24)).toNatClampNeg) = _
  rw [show ((nI 24)).toNatClampNeg = 24 from by decide +kernel]
  rw [v142]
  exact w_step s142 (0, 0, 24, 0, 0) (by decide +kernel)
def s144 : w_T := w_a4 s143 (1, 58, 0, 59, 0)
theorem v144 : w144 = w_C s144 := by
  show a_uR w143 58 0 (some 59) = _
  rw [v143]
  exact w_step s143 (1, 58, 0, 59, 0) (by decide +kernel)
def s145 : w_T := w_a4 s144 (0, 0, 24, 0, 0)
theorem v145 : w145 = w_C s145 := by
  show a_new w144 (0, ((nI 24)).toNatClampNeg) = _
  rw [show ((nI 24)).toNatClampNeg = 24 from by decide +kernel]
  rw [v144]
  exact w_step s144 (0, 0, 24, 0, 0) (by decide +kernel)
def s146 : w_T := w_a4 s145 (1, 58, 1, 60, 0)
theorem v146 : w146 = w_C s146 := by
  show a_uR w145 58 1 (some 60) = _
  rw [v145]
  exact w_step s145 (1, 58, 1, 60, 0) (by decide +kernel)
def s147 : w_T := w_a4 s146 (0, 0, 24, 0, 0)
theorem v147 : w147 = w_C s147 := by
  show a_new w146 (0, ((nI 24)).toNatClampNeg) = _
  rw [show ((nI 24)).toNatClampNeg = 24 from by decide +kernel]
  rw [v146]
  exact w_step s146 (0, 0, 24, 0, 0) (by decide +kernel)
def s148 : w_T := w_a4 s147 (1, 58, 2, 61, 0)
theorem v148 : w148 = w_C s148 := by
  show a_uR w147 58 2 (some 61) = _
  rw [v147]
  exact w_step s147 (1, 58, 2, 61, 0) (by decide +kernel)
def s149 : w_T := w_a4 s148 (0, 0, 300, 0, 0)
theorem v149 : w149 = w_C s149 := by
  show a_new w148 (0, ((nI 300)).toNatClampNeg) = _
  rw [show ((nI 300)).toNatClampNeg = 300 from by decide +kernel]
  rw [v148]
  exact w_step s148 (0, 0, 300, 0, 0) (by decide +kernel)
def s150 : w_T := w_a4 s149 (1, 58, 3, 62, 0)
theorem v150 : w150 = w_C s150 := by
  show a_uR w149 58 3 (some 62) = _
  rw [v149]
  exact w_step s149 (1, 58, 3, 62, 0) (by decide +kernel)
def s151 : w_T := w_a4 s150 (2, 58, 4, 0, (nI 0))
theorem v151 : w151 = w_C s151 := by
  show a_uI w150 58 4 (nI 0) = _
  rw [v150]
  exact w_step s150 (2, 58, 4, 0, (nI 0)) (by decide +kernel)
def s152 : w_T := w_a4 s151 (2, 58, 5, 0, (nI 0))
theorem v152 : w152 = w_C s152 := by
  show a_uI w151 58 5 (nI 0) = _
  rw [v151]
  exact w_step s151 (2, 58, 5, 0, (nI 0)) (by decide +kernel)
def s153 : w_T := w_a4 s152 (2, 58, 6, 0, (-(nI 1)))
theorem v153 : w153 = w_C s153 := by
  show a_uI w152 58 6 (-(nI 1)) = _
  rw [v152]
  exact w_step s152 (2, 58, 6, 0, (-(nI 1))) (by decide +kernel)
def s154 : w_T := w_a4 s153 (2, 58, 7, 0, (-(nI 1)))
theorem v154 : w154 = w_C s154 := by
  show a_uI w153 58 7 (-(nI 1)) = _
  rw [v153]
  exact w_step s153 (2, 58, 7, 0, (-(nI 1))) (by decide +kernel)
def s155 : w_T := w_a4 s154 (2, 58, 8, 0, (-(nI 1)))
theorem v155 : w155 = w_C s155 := by
  show a_uI w154 58 8 (-(nI 1)) = _
  rw [v154]
  exact w_step s154 (2, 58, 8, 0, (-(nI 1))) (by decide +kernel)
def s156 : w_T := w_a4 s155 (2, 58, 9, 0, (-(nI 1)))
theorem v156 : w156 = w_C s156 := by
  show a_uI w155 58 9 (-(nI 1)) = _
  rw [v155]
  exact w_step s155 (2, 58, 9, 0, (-(nI 1))) (by decide +kernel)
def s157 : w_T := w_a4 s156 (1, 57, 0, 58, 0)
theorem v157 : w157 = w_C s157 := by
  show a_uR w156 57 ((nI 0)).toNatClampNeg (some 58) = _
  rw [show ((nI 0)).toNatClampNeg = 0 from by decide +kernel]
  rw [v156]
  exact w_step s156 (1, 57, 0, 58, 0) (by decide +kernel)
def s158 : w_T := w_a4 s157 (0, 11, 10, 0, 0)
theorem v158 : w158 = w_C s158 := by
  show a_new w157 (11, 10) = _
  rw [v157]
  exact w_step s157 (0, 11, 10, 0, 0) (by decide +kernel)
def s159 : w_T := w_a4 s158 (0, 0, 24, 0, 0)
theorem v159 : w159 = w_C s159 := by
  show a_new w158 (0, ((nI 24)).toNatClampNeg) = _
  rw [show ((nI 24)).toNatClampNeg = 24 from by decide +kernel]
  rw [v158]
  exact w_step s158 (0, 0, 24, 0, 0) (by decide +kernel)
def s160 : w_T := w_a4 s159 (1, 63, 0, 64, 0)
theorem v160 : w160 = w_C s160 := by
  show a_uR w159 63 0 (some 64) = _
  rw [v159]
  exact w_step s159 (1, 63, 0, 64, 0) (by decide +kernel)
def s161 : w_T := w_a4 s160 (0, 0, 24, 0, 0)
theorem v161 : w161 = w_C s161 := by
  show a_new w160 (0, ((nI 24)).toNatClampNeg) = _
  rw [show ((nI 24)).toNatClampNeg = 24 from by decide +kernel]
  rw [v160]
  exact w_step s160 (0, 0, 24, 0, 0) (by decide +kernel)
def s162 : w_T := w_a4 s161 (1, 63, 1, 65, 0)
theorem v162 : w162 = w_C s162 := by
  show a_uR w161 63 1 (some 65) = _
  rw [v161]
  exact w_step s161 (1, 63, 1, 65, 0) (by decide +kernel)
def s163 : w_T := w_a4 s162 (0, 0, 24, 0, 0)
theorem v163 : w163 = w_C s163 := by
  show a_new w162 (0, ((nI 24)).toNatClampNeg) = _
  rw [show ((nI 24)).toNatClampNeg = 24 from by decide +kernel]
  rw [v162]
  exact w_step s162 (0, 0, 24, 0, 0) (by decide +kernel)
def s164 : w_T := w_a4 s163 (1, 63, 2, 66, 0)
theorem v164 : w164 = w_C s164 := by
  show a_uR w163 63 2 (some 66) = _
  rw [v163]
  exact w_step s163 (1, 63, 2, 66, 0) (by decide +kernel)
def s165 : w_T := w_a4 s164 (0, 0, 300, 0, 0)
theorem v165 : w165 = w_C s165 := by
  show a_new w164 (0, ((nI 300)).toNatClampNeg) = _
  rw [show ((nI 300)).toNatClampNeg = 300 from by decide +kernel]
  rw [v164]
  exact w_step s164 (0, 0, 300, 0, 0) (by decide +kernel)
def s166 : w_T := w_a4 s165 (1, 63, 3, 67, 0)
theorem v166 : w166 = w_C s166 := by
  show a_uR w165 63 3 (some 67) = _
  rw [v165]
  exact w_step s165 (1, 63, 3, 67, 0) (by decide +kernel)
def s167 : w_T := w_a4 s166 (2, 63, 4, 0, (nI 0))
theorem v167 : w167 = w_C s167 := by
  show a_uI w166 63 4 (nI 0) = _
  rw [v166]
  exact w_step s166 (2, 63, 4, 0, (nI 0)) (by decide +kernel)
def s168 : w_T := w_a4 s167 (2, 63, 5, 0, (nI 0))
theorem v168 : w168 = w_C s168 := by
  show a_uI w167 63 5 (nI 0) = _
  rw [v167]
  exact w_step s167 (2, 63, 5, 0, (nI 0)) (by decide +kernel)
def s169 : w_T := w_a4 s168 (2, 63, 6, 0, (-(nI 1)))
theorem v169 : w169 = w_C s169 := by
  show a_uI w168 63 6 (-(nI 1)) = _
  rw [v168]
  exact w_step s168 (2, 63, 6, 0, (-(nI 1))) (by decide +kernel)
def s170 : w_T := w_a4 s169 (2, 63, 7, 0, (-(nI 1)))
theorem v170 : w170 = w_C s170 := by
  show a_uI w169 63 7 (-(nI 1)) = _
  rw [v169]
  exact w_step s169 (2, 63, 7, 0, (-(nI 1))) (by decide +kernel)
def s171 : w_T := w_a4 s170 (2, 63, 8, 0, (-(nI 1)))
theorem v171 : w171 = w_C s171 := by
  show a_uI w170 63 8 (-(nI 1)) = _
  rw [v170]
  exact w_step s170 (2, 63, 8, 0, (-(nI 1))) (by decide +kernel)
def s172 : w_T := w_a4 s171 (2, 63, 9, 0, (-(nI 1)))
theorem v172 : w172 = w_C s172 := by
  show a_uI w171 63 9 (-(nI 1)) = _
  rw [v171]
  exact w_step s171 (2, 63, 9, 0, (-(nI 1))) (by decide +kernel)
def s173 : w_T := w_a4 s172 (1, 57, 1, 63, 0)
theorem v173 : w173 = w_C s173 := by
  show a_uR w172 57 (((nI 0) + (nI 1))).toNatClampNeg (some 63) = _
  rw [show (((nI 0) + (nI 1))).toNatClampNeg = 1 from by decide +kernel]
  rw [v172]
  exact w_step s172 (1, 57, 1, 63, 0) (by decide +kernel)
def s174 : w_T := w_a4 s173 (0, 11, 10, 0, 0)
theorem v174 : w174 = w_C s174 := by
  show a_new w173 (11, 10) = _
  rw [v173]
  exact w_step s173 (0, 11, 10, 0, 0) (by decide +kernel)
def s175 : w_T := w_a4 s174 (0, 0, 24, 0, 0)
theorem v175 : w175 = w_C s175 := by
  show a_new w174 (0, ((nI 24)).toNatClampNeg) = _
  rw [show ((nI 24)).toNatClampNeg = 24 from by decide +kernel]
  rw [v174]
  exact w_step s174 (0, 0, 24, 0, 0) (by decide +kernel)
def s176 : w_T := w_a4 s175 (1, 68, 0, 69, 0)
theorem v176 : w176 = w_C s176 := by
  show a_uR w175 68 0 (some 69) = _
  rw [v175]
  exact w_step s175 (1, 68, 0, 69, 0) (by decide +kernel)
def s177 : w_T := w_a4 s176 (0, 0, 24, 0, 0)
theorem v177 : w177 = w_C s177 := by
  show a_new w176 (0, ((nI 24)).toNatClampNeg) = _
  rw [show ((nI 24)).toNatClampNeg = 24 from by decide +kernel]
  rw [v176]
  exact w_step s176 (0, 0, 24, 0, 0) (by decide +kernel)
def s178 : w_T := w_a4 s177 (1, 68, 1, 70, 0)
theorem v178 : w178 = w_C s178 := by
  show a_uR w177 68 1 (some 70) = _
  rw [v177]
  exact w_step s177 (1, 68, 1, 70, 0) (by decide +kernel)
def s179 : w_T := w_a4 s178 (0, 0, 24, 0, 0)
theorem v179 : w179 = w_C s179 := by
  show a_new w178 (0, ((nI 24)).toNatClampNeg) = _
  rw [show ((nI 24)).toNatClampNeg = 24 from by decide +kernel]
  rw [v178]
  exact w_step s178 (0, 0, 24, 0, 0) (by decide +kernel)
def s180 : w_T := w_a4 s179 (1, 68, 2, 71, 0)
theorem v180 : w180 = w_C s180 := by
  show a_uR w179 68 2 (some 71) = _
  rw [v179]
  exact w_step s179 (1, 68, 2, 71, 0) (by decide +kernel)
def s181 : w_T := w_a4 s180 (0, 0, 300, 0, 0)
theorem v181 : w181 = w_C s181 := by
  show a_new w180 (0, ((nI 300)).toNatClampNeg) = _
  rw [show ((nI 300)).toNatClampNeg = 300 from by decide +kernel]
  rw [v180]
  exact w_step s180 (0, 0, 300, 0, 0) (by decide +kernel)
def s182 : w_T := w_a4 s181 (1, 68, 3, 72, 0)
theorem v182 : w182 = w_C s182 := by
  show a_uR w181 68 3 (some 72) = _
  rw [v181]
  exact w_step s181 (1, 68, 3, 72, 0) (by decide +kernel)
def s183 : w_T := w_a4 s182 (2, 68, 4, 0, (nI 0))
theorem v183 : w183 = w_C s183 := by
  show a_uI w182 68 4 (nI 0) = _
  rw [v182]
  exact w_step s182 (2, 68, 4, 0, (nI 0)) (by decide +kernel)
def s184 : w_T := w_a4 s183 (2, 68, 5, 0, (nI 0))
theorem v184 : w184 = w_C s184 := by
  show a_uI w183 68 5 (nI 0) = _
  rw [v183]
  exact w_step s183 (2, 68, 5, 0, (nI 0)) (by decide +kernel)
def s185 : w_T := w_a4 s184 (2, 68, 6, 0, (-(nI 1)))
theorem v185 : w185 = w_C s185 := by
  show a_uI w184 68 6 (-(nI 1)) = _
  rw [v184]
  exact w_step s184 (2, 68, 6, 0, (-(nI 1))) (by decide +kernel)
def s186 : w_T := w_a4 s185 (2, 68, 7, 0, (-(nI 1)))
theorem v186 : w186 = w_C s186 := by
  show a_uI w185 68 7 (-(nI 1)) = _
  rw [v185]
  exact w_step s185 (2, 68, 7, 0, (-(nI 1))) (by decide +kernel)
def s187 : w_T := w_a4 s186 (2, 68, 8, 0, (-(nI 1)))
theorem v187 : w187 = w_C s187 := by
  show a_uI w186 68 8 (-(nI 1)) = _
  rw [v186]
  exact w_step s186 (2, 68, 8, 0, (-(nI 1))) (by decide +kernel)
def s188 : w_T := w_a4 s187 (2, 68, 9, 0, (-(nI 1)))
theorem v188 : w188 = w_C s188 := by
  show a_uI w187 68 9 (-(nI 1)) = _
  rw [v187]
  exact w_step s187 (2, 68, 9, 0, (-(nI 1))) (by decide +kernel)
def s189 : w_T := w_a4 s188 (1, 57, 2, 68, 0)
theorem v189 : w189 = w_C s189 := by
  show a_uR w188 57 ((((nI 0) + (nI 1)) + (nI 1))).toNatClampNeg (some 68) = _
  rw [show ((((nI 0) + (nI 1)) + (nI 1))).toNatClampNeg = 2 from by decide +kernel]
  rw [v188]
  exact w_step s188 (1, 57, 2, 68, 0) (by decide +kernel)
def s190 : w_T := w_a4 s189 (0, 11, 10, 0, 0)
theorem v190 : w190 = w_C s190 := by
  show a_new w189 (11, 10) = _
  rw [v189]
  exact w_step s189 (0, 11, 10, 0, 0) (by decide +kernel)
def s191 : w_T := w_a4 s190 (0, 0, 24, 0, 0)
theorem v191 : w191 = w_C s191 := by
  show a_new w190 (0, ((nI 24)).toNatClampNeg) = _
  rw [show ((nI 24)).toNatClampNeg = 24 from by decide +kernel]
  rw [v190]
  exact w_step s190 (0, 0, 24, 0, 0) (by decide +kernel)
def s192 : w_T := w_a4 s191 (1, 73, 0, 74, 0)
theorem v192 : w192 = w_C s192 := by
  show a_uR w191 73 0 (some 74) = _
  rw [v191]
  exact w_step s191 (1, 73, 0, 74, 0) (by decide +kernel)
def s193 : w_T := w_a4 s192 (0, 0, 24, 0, 0)
theorem v193 : w193 = w_C s193 := by
  show a_new w192 (0, ((nI 24)).toNatClampNeg) = _
  rw [show ((nI 24)).toNatClampNeg = 24 from by decide +kernel]
  rw [v192]
  exact w_step s192 (0, 0, 24, 0, 0) (by decide +kernel)
def s194 : w_T := w_a4 s193 (1, 73, 1, 75, 0)
theorem v194 : w194 = w_C s194 := by
  show a_uR w193 73 1 (some 75) = _
  rw [v193]
  exact w_step s193 (1, 73, 1, 75, 0) (by decide +kernel)
def s195 : w_T := w_a4 s194 (0, 0, 24, 0, 0)
theorem v195 : w195 = w_C s195 := by
  show a_new w194 (0, ((nI 24)).toNatClampNeg) = _
  rw [show ((nI 24)).toNatClampNeg = 24 from by decide +kernel]
  rw [v194]
  exact w_step s194 (0, 0, 24, 0, 0) (by decide +kernel)
def s196 : w_T := w_a4 s195 (1, 73, 2, 76, 0)
theorem v196 : w196 = w_C s196 := by
  show a_uR w195 73 2 (some 76) = _
  rw [v195]
  exact w_step s195 (1, 73, 2, 76, 0) (by decide +kernel)
def s197 : w_T := w_a4 s196 (0, 0, 300, 0, 0)
theorem v197 : w197 = w_C s197 := by
  show a_new w196 (0, ((nI 300)).toNatClampNeg) = _
  rw [show ((nI 300)).toNatClampNeg = 300 from by decide +kernel]
  rw [v196]
  exact w_step s196 (0, 0, 300, 0, 0) (by decide +kernel)
def s198 : w_T := w_a4 s197 (1, 73, 3, 77, 0)
theorem v198 : w198 = w_C s198 := by
  show a_uR w197 73 3 (some 77) = _
  rw [v197]
  exact w_step s197 (1, 73, 3, 77, 0) (by decide +kernel)
def s199 : w_T := w_a4 s198 (2, 73, 4, 0, (nI 0))
theorem v199 : w199 = w_C s199 := by
  show a_uI w198 73 4 (nI 0) = _
  rw [v198]
  exact w_step s198 (2, 73, 4, 0, (nI 0)) (by decide +kernel)
def s200 : w_T := w_a4 s199 (2, 73, 5, 0, (nI 0))
theorem v200 : w200 = w_C s200 := by
  show a_uI w199 73 5 (nI 0) = _
  rw [v199]
  exact w_step s199 (2, 73, 5, 0, (nI 0)) (by decide +kernel)
def s201 : w_T := w_a4 s200 (2, 73, 6, 0, (-(nI 1)))
theorem v201 : w201 = w_C s201 := by
  show a_uI w200 73 6 (-(nI 1)) = _
  rw [v200]
  exact w_step s200 (2, 73, 6, 0, (-(nI 1))) (by decide +kernel)
def s202 : w_T := w_a4 s201 (2, 73, 7, 0, (-(nI 1)))
theorem v202 : w202 = w_C s202 := by
  show a_uI w201 73 7 (-(nI 1)) = _
  rw [v201]
  exact w_step s201 (2, 73, 7, 0, (-(nI 1))) (by decide +kernel)
def s203 : w_T := w_a4 s202 (2, 73, 8, 0, (-(nI 1)))
theorem v203 : w203 = w_C s203 := by
  show a_uI w202 73 8 (-(nI 1)) = _
  rw [v202]
  exact w_step s202 (2, 73, 8, 0, (-(nI 1))) (by decide +kernel)
def s204 : w_T := w_a4 s203 (2, 73, 9, 0, (-(nI 1)))
theorem v204 : w204 = w_C s204 := by
  show a_uI w203 73 9 (-(nI 1)) = _
  rw [v203]
  exact w_step s203 (2, 73, 9, 0, (-(nI 1))) (by decide +kernel)
def s205 : w_T := w_a4 s204 (1, 57, 3, 73, 0)
theorem v205 : w205 = w_C s205 := by
  show a_uR w204 57 (((((nI 0) + (nI 1)) + (nI 1)) + (nI 1))).toNatClampNeg (some 73) = _
  rw [show (((((nI 0) + (nI 1)) + (nI 1)) + (nI 1))).toNatClampNeg = 3 from by decide +kernel]
  rw [v204]
  exact w_step s204 (1, 57, 3, 73, 0) (by decide +kernel)
def s206 : w_T := w_a4 s205 (0, 11, 10, 0, 0)
theorem v206 : w206 = w_C s206 := by
  show a_new w205 (11, 10) = _
  rw [v205]
  exact w_step s205 (0, 11, 10, 0, 0) (by decide +kernel)
def s207 : w_T := w_a4 s206 (0, 0, 24, 0, 0)
theorem v207 : w207 = w_C s207 := by
  show a_new w206 (0, ((nI 24)).toNatClampNeg) = _
  rw [show ((nI 24)).toNatClampNeg = 24 from by decide +kernel]
  rw [v206]
  exact w_step s206 (0, 0, 24, 0, 0) (by decide +kernel)
def s208 : w_T := w_a4 s207 (1, 78, 0, 79, 0)
theorem v208 : w208 = w_C s208 := by
  show a_uR w207 78 0 (some 79) = _
  rw [v207]
  exact w_step s207 (1, 78, 0, 79, 0) (by decide +kernel)
def s209 : w_T := w_a4 s208 (0, 0, 24, 0, 0)
theorem v209 : w209 = w_C s209 := by
  show a_new w208 (0, ((nI 24)).toNatClampNeg) = _
  rw [show ((nI 24)).toNatClampNeg = 24 from by decide +kernel]
  rw [v208]
  exact w_step s208 (0, 0, 24, 0, 0) (by decide +kernel)
def s210 : w_T := w_a4 s209 (1, 78, 1, 80, 0)
theorem v210 : w210 = w_C s210 := by
  show a_uR w209 78 1 (some 80) = _
  rw [v209]
  exact w_step s209 (1, 78, 1, 80, 0) (by decide +kernel)
def s211 : w_T := w_a4 s210 (0, 0, 24, 0, 0)
theorem v211 : w211 = w_C s211 := by
  show a_new w210 (0, ((nI 24)).toNatClampNeg) = _
  rw [show ((nI 24)).toNatClampNeg = 24 from by decide +kernel]
  rw [v210]
  exact w_step s210 (0, 0, 24, 0, 0) (by decide +kernel)
def s212 : w_T := w_a4 s211 (1, 78, 2, 81, 0)
theorem v212 : w212 = w_C s212 := by
  show a_uR w211 78 2 (some 81) = _
  rw [v211]
  exact w_step s211 (1, 78, 2, 81, 0) (by decide +kernel)
def s213 : w_T := w_a4 s212 (0, 0, 300, 0, 0)
theorem v213 : w213 = w_C s213 := by
  show a_new w212 (0, ((nI 300)).toNatClampNeg) = _
  rw [show ((nI 300)).toNatClampNeg = 300 from by decide +kernel]
  rw [v212]
  exact w_step s212 (0, 0, 300, 0, 0) (by decide +kernel)
def s214 : w_T := w_a4 s213 (1, 78, 3, 82, 0)
theorem v214 : w214 = w_C s214 := by
  show a_uR w213 78 3 (some 82) = _
  rw [v213]
  exact w_step s213 (1, 78, 3, 82, 0) (by decide +kernel)
def s215 : w_T := w_a4 s214 (2, 78, 4, 0, (nI 0))
theorem v215 : w215 = w_C s215 := by
  show a_uI w214 78 4 (nI 0) = _
  rw [v214]
  exact w_step s214 (2, 78, 4, 0, (nI 0)) (by decide +kernel)
def s216 : w_T := w_a4 s215 (2, 78, 5, 0, (nI 0))
theorem v216 : w216 = w_C s216 := by
  show a_uI w215 78 5 (nI 0) = _
  rw [v215]
  exact w_step s215 (2, 78, 5, 0, (nI 0)) (by decide +kernel)
def s217 : w_T := w_a4 s216 (2, 78, 6, 0, (-(nI 1)))
theorem v217 : w217 = w_C s217 := by
  show a_uI w216 78 6 (-(nI 1)) = _
  rw [v216]
  exact w_step s216 (2, 78, 6, 0, (-(nI 1))) (by decide +kernel)
def s218 : w_T := w_a4 s217 (2, 78, 7, 0, (-(nI 1)))
theorem v218 : w218 = w_C s218 := by
  show a_uI w217 78 7 (-(nI 1)) = _
  rw [v217]
  exact w_step s217 (2, 78, 7, 0, (-(nI 1))) (by decide +kernel)
def s219 : w_T := w_a4 s218 (2, 78, 8, 0, (-(nI 1)))
theorem v219 : w219 = w_C s219 := by
  show a_uI w218 78 8 (-(nI 1)) = _
  rw [v218]
  exact w_step s218 (2, 78, 8, 0, (-(nI 1))) (by decide +kernel)
def s220 : w_T := w_a4 s219 (2, 78, 9, 0, (-(nI 1)))
theorem v220 : w220 = w_C s220 := by
  show a_uI w219 78 9 (-(nI 1)) = _
  rw [v219]
  exact w_step s219 (2, 78, 9, 0, (-(nI 1))) (by decide +kernel)
def s221 : w_T := w_a4 s220 (1, 0, 3, 78, 0)
theorem v221 : w221 = w_C s221 := by
  show a_uR w220 0 3 (some 78) = _
  rw [v220]
  exact w_step s220 (1, 0, 3, 78, 0) (by decide +kernel)
def s222 : w_T := w_a4 s221 (0, 9, 12, 0, 0)
theorem v222 : w222 = w_C s222 := by
  show a_new w221 (9, 12) = _
  rw [v221]
  exact w_step s221 (0, 9, 12, 0, 0) (by decide +kernel)
def s223 : w_T := w_a4 s222 (0, 0, 300, 0, 0)
theorem v223 : w223 = w_C s223 := by
  show a_new w222 (0, ((nI 300)).toNatClampNeg) = _
  rw [show ((nI 300)).toNatClampNeg = 300 from by decide +kernel]
  rw [v222]
  exact w_step s222 (0, 0, 300, 0, 0) (by decide +kernel)
def s224 : w_T := w_a4 s223 (1, 83, 0, 84, 0)
theorem v224 : w224 = w_C s224 := by
  show a_uR w223 83 0 (some 84) = _
  rw [v223]
  exact w_step s223 (1, 83, 0, 84, 0) (by decide +kernel)
def s225 : w_T := w_a4 s224 (0, 0, 301, 0, 0)
theorem v225 : w225 = w_C s225 := by
  show a_new w224 (0, ((nI 301)).toNatClampNeg) = _
  rw [show ((nI 301)).toNatClampNeg = 301 from by decide +kernel]
  rw [v224]
  exact w_step s224 (0, 0, 301, 0, 0) (by decide +kernel)
def s226 : w_T := w_a4 s225 (1, 83, 5, 85, 0)
theorem v226 : w226 = w_C s226 := by
  show a_uR w225 83 5 (some 85) = _
  rw [v225]
  exact w_step s225 (1, 83, 5, 85, 0) (by decide +kernel)
def s227 : w_T := w_a4 s226 (0, 0, 301, 0, 0)
theorem v227 : w227 = w_C s227 := by
  show a_new w226 (0, ((nI 301)).toNatClampNeg) = _
  rw [show ((nI 301)).toNatClampNeg = 301 from by decide +kernel]
  rw [v226]
  exact w_step s226 (0, 0, 301, 0, 0) (by decide +kernel)
def s228 : w_T := w_a4 s227 (1, 83, 6, 86, 0)
theorem v228 : w228 = w_C s228 := by
  show a_uR w227 83 6 (some 86) = _
  rw [v227]
  exact w_step s227 (1, 83, 6, 86, 0) (by decide +kernel)
def s229 : w_T := w_a4 s228 (0, 0, 301, 0, 0)
theorem v229 : w229 = w_C s229 := by
  show a_new w228 (0, ((nI 301)).toNatClampNeg) = _
  rw [show ((nI 301)).toNatClampNeg = 301 from by decide +kernel]
  rw [v228]
  exact w_step s228 (0, 0, 301, 0, 0) (by decide +kernel)
def s230 : w_T := w_a4 s229 (1, 83, 7, 87, 0)
theorem v230 : w230 = w_C s230 := by
  show a_uR w229 83 7 (some 87) = _
  rw [v229]
  exact w_step s229 (1, 83, 7, 87, 0) (by decide +kernel)
def s231 : w_T := w_a4 s230 (0, 11, 10, 0, 0)
theorem v231 : w231 = w_C s231 := by
  show a_new w230 (11, 10) = _
  rw [v230]
  exact w_step s230 (0, 11, 10, 0, 0) (by decide +kernel)
def s232 : w_T := w_a4 s231 (0, 0, 24, 0, 0)
theorem v232 : w232 = w_C s232 := by
  show a_new w231 (0, ((nI 24)).toNatClampNeg) = _
  rw [show ((nI 24)).toNatClampNeg = 24 from by decide +kernel]
  rw [v231]
  exact w_step s231 (0, 0, 24, 0, 0) (by decide +kernel)
def s233 : w_T := w_a4 s232 (1, 88, 0, 89, 0)
theorem v233 : w233 = w_C s233 := by
  show a_uR w232 88 0 (some 89) = _
  rw [v232]
  exact w_step s232 (1, 88, 0, 89, 0) (by decide +kernel)
def s234 : w_T := w_a4 s233 (0, 0, 24, 0, 0)
theorem v234 : w234 = w_C s234 := by
  show a_new w233 (0, ((nI 24)).toNatClampNeg) = _
  rw [show ((nI 24)).toNatClampNeg = 24 from by decide +kernel]
  rw [v233]
  exact w_step s233 (0, 0, 24, 0, 0) (by decide +kernel)
def s235 : w_T := w_a4 s234 (1, 88, 1, 90, 0)
theorem v235 : w235 = w_C s235 := by
  show a_uR w234 88 1 (some 90) = _
  rw [v234]
  exact w_step s234 (1, 88, 1, 90, 0) (by decide +kernel)
def s236 : w_T := w_a4 s235 (0, 0, 24, 0, 0)
theorem v236 : w236 = w_C s236 := by
  show a_new w235 (0, ((nI 24)).toNatClampNeg) = _
  rw [show ((nI 24)).toNatClampNeg = 24 from by decide +kernel]
  rw [v235]
  exact w_step s235 (0, 0, 24, 0, 0) (by decide +kernel)
def s237 : w_T := w_a4 s236 (1, 88, 2, 91, 0)
theorem v237 : w237 = w_C s237 := by
  show a_uR w236 88 2 (some 91) = _
  rw [v236]
  exact w_step s236 (1, 88, 2, 91, 0) (by decide +kernel)
def s238 : w_T := w_a4 s237 (0, 0, 300, 0, 0)
theorem v238 : w238 = w_C s238 := by
  show a_new w237 (0, ((nI 300)).toNatClampNeg) = _
  rw [show ((nI 300)).toNatClampNeg = 300 from by decide +kernel]
  rw [v237]
  exact w_step s237 (0, 0, 300, 0, 0) (by decide +kernel)
def s239 : w_T := w_a4 s238 (1, 88, 3, 92, 0)
theorem v239 : w239 = w_C s239 := by
  show a_uR w238 88 3 (some 92) = _
  rw [v238]
  exact w_step s238 (1, 88, 3, 92, 0) (by decide +kernel)
def s240 : w_T := w_a4 s239 (2, 88, 4, 0, (nI 0))
theorem v240 : w240 = w_C s240 := by
  show a_uI w239 88 4 (nI 0) = _
  rw [v239]
  exact w_step s239 (2, 88, 4, 0, (nI 0)) (by decide +kernel)
def s241 : w_T := w_a4 s240 (2, 88, 5, 0, (nI 0))
theorem v241 : w241 = w_C s241 := by
  show a_uI w240 88 5 (nI 0) = _
  rw [v240]
  exact w_step s240 (2, 88, 5, 0, (nI 0)) (by decide +kernel)
def s242 : w_T := w_a4 s241 (2, 88, 6, 0, (-(nI 1)))
theorem v242 : w242 = w_C s242 := by
  show a_uI w241 88 6 (-(nI 1)) = _
  rw [v241]
  exact w_step s241 (2, 88, 6, 0, (-(nI 1))) (by decide +kernel)
def s243 : w_T := w_a4 s242 (2, 88, 7, 0, (-(nI 1)))
theorem v243 : w243 = w_C s243 := by
  show a_uI w242 88 7 (-(nI 1)) = _
  rw [v242]
  exact w_step s242 (2, 88, 7, 0, (-(nI 1))) (by decide +kernel)
def s244 : w_T := w_a4 s243 (2, 88, 8, 0, (-(nI 1)))
theorem v244 : w244 = w_C s244 := by
  show a_uI w243 88 8 (-(nI 1)) = _
  rw [v243]
  exact w_step s243 (2, 88, 8, 0, (-(nI 1))) (by decide +kernel)
def s245 : w_T := w_a4 s244 (2, 88, 9, 0, (-(nI 1)))
theorem v245 : w245 = w_C s245 := by
  show a_uI w244 88 9 (-(nI 1)) = _
  rw [v244]
  exact w_step s244 (2, 88, 9, 0, (-(nI 1))) (by decide +kernel)
def s246 : w_T := w_a4 s245 (1, 83, 1, 88, 0)
theorem v246 : w246 = w_C s246 := by
  show a_uR w245 83 1 (some 88) = _
  rw [v245]
  exact w_step s245 (1, 83, 1, 88, 0) (by decide +kernel)
def s247 : w_T := w_a4 s246 (2, 83, 3, 0, (-(nI 1)))
theorem v247 : w247 = w_C s247 := by
  show a_uI w246 83 3 (-(nI 1)) = _
  rw [v246]
  exact w_step s246 (2, 83, 3, 0, (-(nI 1))) (by decide +kernel)
def s248 : w_T := w_a4 s247 (2, 83, 4, 0, (-(nI 1)))
theorem v248 : w248 = w_C s248 := by
  show a_uI w247 83 4 (-(nI 1)) = _
  rw [v247]
  exact w_step s247 (2, 83, 4, 0, (-(nI 1))) (by decide +kernel)
def s249 : w_T := w_a4 s248 (1, 0, 4, 83, 0)
theorem v249 : w249 = w_C s249 := by
  show a_uR w248 0 4 (some 83) = _
  rw [v248]
  exact w_step s248 (1, 0, 4, 83, 0) (by decide +kernel)
def s250 : w_T := w_a4 s249 (0, 5, 2, 0, 0)
theorem v250 : w250 = w_C s250 := by
  show a_new w249 (5, 2) = _
  rw [v249]
  exact w_step s249 (0, 5, 2, 0, 0) (by decide +kernel)
def s251 : w_T := w_a4 s250 (0, 0, 64, 0, 0)
theorem v251 : w251 = w_C s251 := by
  show a_new w250 (0, ((nI 64)).toNatClampNeg) = _
  rw [show ((nI 64)).toNatClampNeg = 64 from by decide +kernel]
  rw [v250]
  exact w_step s250 (0, 0, 64, 0, 0) (by decide +kernel)
def s252 : w_T := w_a4 s251 (1, 93, 0, 94, 0)
theorem v252 : w252 = w_C s252 := by
  show a_uR w251 93 0 (some 94) = _
  rw [v251]
  exact w_step s251 (1, 93, 0, 94, 0) (by decide +kernel)
def s253 : w_T := w_a4 s252 (2, 93, 1, 0, (nI 0))
theorem v253 : w253 = w_C s253 := by
  show a_uI w252 93 1 (nI 0) = _
  rw [v252]
  exact w_step s252 (2, 93, 1, 0, (nI 0)) (by decide +kernel)
def s254 : w_T := w_a4 s253 (1, 0, 5, 93, 0)
theorem v254 : w254 = w_C s254 := by
  show a_uR w253 0 5 (some 93) = _
  rw [v253]
  exact w_step s253 (1, 0, 5, 93, 0) (by decide +kernel)
def s255 : w_T := w_a4 s254 (0, 8, 7, 0, 0)
theorem v255 : w255 = w_C s255 := by
  show a_new w254 (8, 7) = _
  rw [v254]
  exact w_step s254 (0, 8, 7, 0, 0) (by decide +kernel)
def s256 : w_T := w_a4 s255 (0, 0, 448, 0, 0)
theorem v256 : w256 = w_C s256 := by
  show a_new w255 (0, ((nI 448)).toNatClampNeg) = _
  rw [show ((nI 448)).toNatClampNeg = 448 from by decide +kernel]
  rw [v255]
  exact w_step s255 (0, 0, 448, 0, 0) (by decide +kernel)
def s257 : w_T := w_a4 s256 (1, 95, 0, 96, 0)
theorem v257 : w257 = w_C s257 := by
  show a_uR w256 95 0 (some 96) = _
  rw [v256]
  exact w_step s256 (1, 95, 0, 96, 0) (by decide +kernel)
def s258 : w_T := w_a4 s257 (0, 0, 6, 0, 0)
theorem v258 : w258 = w_C s258 := by
  show a_new w257 (0, ((nI 6)).toNatClampNeg) = _
  rw [show ((nI 6)).toNatClampNeg = 6 from by decide +kernel]
  rw [v257]
  exact w_step s257 (0, 0, 6, 0, 0) (by decide +kernel)
def s259 : w_T := w_a4 s258 (1, 95, 1, 97, 0)
theorem v259 : w259 = w_C s259 := by
  show a_uR w258 95 1 (some 97) = _
  rw [v258]
  exact w_step s258 (1, 95, 1, 97, 0) (by decide +kernel)
def s260 : w_T := w_a4 s259 (0, 0, 6, 0, 0)
theorem v260 : w260 = w_C s260 := by
  show a_new w259 (0, ((nI 6)).toNatClampNeg) = _
  rw [show ((nI 6)).toNatClampNeg = 6 from by decide +kernel]
  rw [v259]
  exact w_step s259 (0, 0, 6, 0, 0) (by decide +kernel)
def s261 : w_T := w_a4 s260 (1, 95, 2, 98, 0)
theorem v261 : w261 = w_C s261 := by
  show a_uR w260 95 2 (some 98) = _
  rw [v260]
  exact w_step s260 (1, 95, 2, 98, 0) (by decide +kernel)
def s262 : w_T := w_a4 s261 (2, 95, 6, 0, (nI 0))
theorem v262 : w262 = w_C s262 := by
  show a_uI w261 95 6 (nI 0) = _
  rw [v261]
  exact w_step s261 (2, 95, 6, 0, (nI 0)) (by decide +kernel)
def s263 : w_T := w_a4 s262 (1, 0, 6, 95, 0)
theorem v263 : w263 = w_C s263 := by
  show a_uR w262 0 6 (some 95) = _
  rw [v262]
  exact w_step s262 (1, 0, 6, 95, 0) (by decide +kernel)
def s264 : w_T := w_a4 s263 (0, 12, 4, 0, 0)
theorem v264 : w264 = w_C s264 := by
  show a_new w263 (12, 4) = _
  rw [v263]
  exact w_step s263 (0, 12, 4, 0, 0) (by decide +kernel)
def s265 : w_T := w_a4 s264 (0, 0, 10, 0, 0)
theorem v265 : w265 = w_C s265 := by
  show a_new w264 (0, ((nI 10)).toNatClampNeg) = _
  rw [show ((nI 10)).toNatClampNeg = 10 from by decide +kernel]
  rw [v264]
  exact w_step s264 (0, 0, 10, 0, 0) (by decide +kernel)
def s266 : w_T := w_a4 s265 (1, 99, 0, 100, 0)
theorem v266 : w266 = w_C s266 := by
  show a_uR w265 99 0 (some 100) = _
  rw [v265]
  exact w_step s265 (1, 99, 0, 100, 0) (by decide +kernel)
def s267 : w_T := w_a4 s266 (0, 0, 10, 0, 0)
theorem v267 : w267 = w_C s267 := by
  show a_new w266 (0, ((nI 10)).toNatClampNeg) = _
  rw [show ((nI 10)).toNatClampNeg = 10 from by decide +kernel]
  rw [v266]
  exact w_step s266 (0, 0, 10, 0, 0) (by decide +kernel)
def s268 : w_T := w_a4 s267 (1, 99, 1, 101, 0)
theorem v268 : w268 = w_C s268 := by
  show a_uR w267 99 1 (some 101) = _
  rw [v267]
  exact w_step s267 (1, 99, 1, 101, 0) (by decide +kernel)
def s269 : w_T := w_a4 s268 (0, 0, 10, 0, 0)
theorem v269 : w269 = w_C s269 := by
  show a_new w268 (0, ((nI 10)).toNatClampNeg) = _
  rw [show ((nI 10)).toNatClampNeg = 10 from by decide +kernel]
  rw [v268]
  exact w_step s268 (0, 0, 10, 0, 0) (by decide +kernel)
def s270 : w_T := w_a4 s269 (1, 99, 2, 102, 0)
theorem v270 : w270 = w_C s270 := by
  show a_uR w269 99 2 (some 102) = _
  rw [v269]
  exact w_step s269 (1, 99, 2, 102, 0) (by decide +kernel)
def s271 : w_T := w_a4 s270 (2, 99, 3, 0, (nI 0))
theorem v271 : w271 = w_C s271 := by
  show a_uI w270 99 3 (nI 0) = _
  rw [v270]
  exact w_step s270 (2, 99, 3, 0, (nI 0)) (by decide +kernel)
def s272 : w_T := w_a4 s271 (1, 0, 7, 99, 0)
theorem v272 : w272 = w_C s272 := by
  show a_uR w271 0 7 (some 99) = _
  rw [v271]
  exact w_step s271 (1, 0, 7, 99, 0) (by decide +kernel)
def s273 : w_T := w_a4 s272 (0, 4, 3, 0, 0)
theorem v273 : w273 = w_C s273 := by
  show a_new w272 (4, 3) = _
  rw [v272]
  exact w_step s272 (0, 4, 3, 0, 0) (by decide +kernel)
def s274 : w_T := w_a4 s273 (0, 0, 5, 0, 0)
theorem v274 : w274 = w_C s274 := by
  show a_new w273 (0, ((nI 5)).toNatClampNeg) = _
  rw [show ((nI 5)).toNatClampNeg = 5 from by decide +kernel]
  rw [v273]
  exact w_step s273 (0, 0, 5, 0, 0) (by decide +kernel)
def s275 : w_T := w_a4 s274 (1, 103, 0, 104, 0)
theorem v275 : w275 = w_C s275 := by
  show a_uR w274 103 0 (some 104) = _
  rw [v274]
  exact w_step s274 (1, 103, 0, 104, 0) (by decide +kernel)
def s276 : w_T := w_a4 s275 (0, 0, 5, 0, 0)
theorem v276 : w276 = w_C s276 := by
  show a_new w275 (0, ((nI 5)).toNatClampNeg) = _
  rw [show ((nI 5)).toNatClampNeg = 5 from by decide +kernel]
  rw [v275]
  exact w_step s275 (0, 0, 5, 0, 0) (by decide +kernel)
def s277 : w_T := w_a4 s276 (1, 103, 1, 105, 0)
theorem v277 : w277 = w_C s277 := by
  show a_uR w276 103 1 (some 105) = _
  rw [v276]
  exact w_step s276 (1, 103, 1, 105, 0) (by decide +kernel)
def s278 : w_T := w_a4 s277 (2, 103, 2, 0, (nI 0))
theorem v278 : w278 = w_C s278 := by
  show a_uI w277 103 2 (nI 0) = _
  rw [v277]
  exact w_step s277 (2, 103, 2, 0, (nI 0)) (by decide +kernel)
def s279 : w_T := w_a4 s278 (1, 0, 8, 103, 0)
theorem v279 : w279 = w_C s279 := by
  show a_uR w278 0 8 (some 103) = _
  rw [v278]
  exact w_step s278 (1, 0, 8, 103, 0) (by decide +kernel)
def s280 : w_T := w_a4 s279 (0, 0, 6, 0, 0)
theorem v280 : w280 = w_C s280 := by
  show a_new w279 (0, ((nI 6)).toNatClampNeg) = _
  rw [show ((nI 6)).toNatClampNeg = 6 from by decide +kernel]
  rw [v279]
  exact w_step s279 (0, 0, 6, 0, 0) (by decide +kernel)
def s281 : w_T := w_a4 s280 (1, 0, 9, 106, 0)
theorem v281 : w281 = w_C s281 := by
  show a_uR w280 0 9 (some 106) = _
  rw [v280]
  exact w_step s280 (1, 0, 9, 106, 0) (by decide +kernel)
def s282 : w_T := w_a4 s281 (0, 0, 60, 0, 0)
theorem v282 : w282 = w_C s282 := by
  show a_new w281 (0, ((nI 60)).toNatClampNeg) = _
  rw [show ((nI 60)).toNatClampNeg = 60 from by decide +kernel]
  rw [v281]
  exact w_step s281 (0, 0, 60, 0, 0) (by decide +kernel)
def s283 : w_T := w_a4 s282 (1, 0, 10, 107, 0)
theorem v283 : w283 = w_C s283 := by
  show a_uR w282 0 10 (some 107) = _
  rw [v282]
  exact w_step s282 (1, 0, 10, 107, 0) (by decide +kernel)
def s284 : w_T := w_a4 s283 (0, 15, 33, 0, 0)
theorem v284 : w284 = w_C s284 := by
  show a_new w283 (15, 33) = _
  rw [v283]
  exact w_step s283 (0, 15, 33, 0, 0) (by decide +kernel)
