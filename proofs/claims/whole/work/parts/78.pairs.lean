/-! ===== pairs: who should be let in where (pure) ===== -/
def dgM (x h : Nat) : Nat := x / 7 ^ (5 - h) % 7
theorem dgM_lt {x h : Nat} : dgM x h < 7 := Nat.mod_lt _ (by omega)
theorem dvM {x h : Nat} (hh : h < 6) : x / 7 ^ (5 - h) = 7 * (x / 7 ^ (6 - h)) + dgM x h := by
  unfold dgM
  rw [show 6 - h = (5 - h) + 1 by omega, Nat.pow_succ, ← Nat.div_div_eq_div_mul]
  generalize x / 7 ^ (5 - h) = z
  omega
theorem topM {x y h : Nat} (hx : x < 117649) (hy : y < 117649) (hh : h ≤ 6) (g : ∀ j, j < h → dgM x j = dgM y j) : x / 7 ^ (6 - h) = y / 7 ^ (6 - h) := by
  induction h with
  | zero =>
    rw [Nat.div_eq_of_lt (show x < 7 ^ (6 - 0) from hx), Nat.div_eq_of_lt (show y < 7 ^ (6 - 0) from hy)]
  | succ h ih =>
    have e := ih (by omega) (fun j hj => g j (by omega))
    rw [show 6 - (h + 1) = 5 - h by omega, dvM (by omega), dvM (by omega), e, g h (by omega)]
theorem ltM {x y h : Nat} (hx : x < 117649) (hy : y < 117649) (hh : h < 6) (g : ∀ j, j < h → dgM x j = dgM y j) (l : dgM x h < dgM y h) : x < y := by
  have e := topM hx hy (by omega) g
  have a := dvM (x := x) hh
  have b := dvM (x := y) hh
  have q : x / 7 ^ (5 - h) < y / 7 ^ (5 - h) := by omega
  exact Nat.lt_of_not_le (fun z => by have := Nat.div_le_div_right (c := 7 ^ (5 - h)) z; omega)
theorem mkM {x h p : Nat} (hx : x < 117649) (hh : h < 6) (hp : p < 7) : ∃ y, y < 117649 ∧ (∀ j, j < h → dgM y j = dgM x j) ∧ dgM y h = p := by
  have q0 : 0 < 7 ^ (5 - h) := Nat.pow_pos (by omega)
  refine ⟨(x / 7 ^ (6 - h) * 7 + p) * 7 ^ (5 - h), ?_, fun j hj => ?_, ?_⟩
  · have e1 : 7 ^ (6 - h) * 7 ^ h = 117649 := by rw [← Nat.pow_add, show 6 - h + h = 6 by omega]
    have a1 : x / 7 ^ (6 - h) < 7 ^ h := Nat.div_lt_of_lt_mul (by rw [e1]; exact hx)
    have a2 : x / 7 ^ (6 - h) * 7 + p + 1 ≤ 7 ^ h * 7 := by omega
    have a3 : (x / 7 ^ (6 - h) * 7 + p + 1) * 7 ^ (5 - h) ≤ 7 ^ h * 7 * 7 ^ (5 - h) := Nat.mul_le_mul_right _ a2
    have e2 : 7 ^ h * 7 * 7 ^ (5 - h) = 117649 := by rw [← Nat.pow_succ, ← Nat.pow_add, show h + 1 + (5 - h) = 6 by omega]
    rw [e2, Nat.succ_mul] at a3
    omega
  · unfold dgM
    obtain ⟨r, hr⟩ : ∃ r, 5 - j = (5 - h) + (1 + r) := ⟨h - j - 1, by omega⟩
    have hr2 : 5 - j = (6 - h) + r := by omega
    have e1 : (x / 7 ^ (6 - h) * 7 + p) * 7 ^ (5 - h) / 7 ^ (5 - j) = x / 7 ^ (6 - h) / 7 ^ r := by
      rw [hr, Nat.pow_add, ← Nat.div_div_eq_div_mul, Nat.mul_div_cancel _ q0, Nat.pow_add, ← Nat.div_div_eq_div_mul, show (x / 7 ^ (6 - h) * 7 + p) / 7 ^ 1 = x / 7 ^ (6 - h) by omega]
    have e2 : x / 7 ^ (5 - j) = x / 7 ^ (6 - h) / 7 ^ r := by rw [hr2, Nat.pow_add, Nat.div_div_eq_div_mul]
    rw [e1, e2]
  · unfold dgM
    rw [Nat.mul_div_cancel _ q0]
    omega
-- those of a kind, in their order
def gaF (P : Nat → Prop) [DecidablePred P] (c : Nat) (s : Nat × (Nat → Nat)) : Nat × (Nat → Nat) := if P c then (s.1 + 1, upT s.2 s.1 c) else s
def gaS (P : Nat → Prop) [DecidablePred P] (k : Nat) : Nat × (Nat → Nat) := itr (gaF P) k (0, fun _ => 0)
theorem gaS_s {P : Nat → Prop} [DecidablePred P] {k : Nat} : gaS P (k + 1) = if P k then ((gaS P k).1 + 1, upT (gaS P k).2 (gaS P k).1 k) else gaS P k := rfl
theorem gaS_ok {P : Nat → Prop} [DecidablePred P] (k : Nat) : (gaS P k).1 ≤ k ∧ (∀ i, i < (gaS P k).1 → (gaS P k).2 i < k ∧ P ((gaS P k).2 i)) ∧ (∀ i j, i < j → j < (gaS P k).1 → (gaS P k).2 i < (gaS P k).2 j) ∧ (∀ c, c < k → P c → ∃ i, i < (gaS P k).1 ∧ (gaS P k).2 i = c) := by
  induction k with
  | zero => exact ⟨Nat.le_refl _, fun i h => absurd h (Nat.not_lt_zero i), fun i j _ h => absurd h (Nat.not_lt_zero j), fun c h => absurd h (Nat.not_lt_zero c)⟩
  | succ k ih =>
    obtain ⟨h1, h2, h3, h4⟩ := ih
    rw [gaS_s]
    by_cases q : P k
    · rw [if_pos q]
      refine ⟨by show (gaS P k).1 + 1 ≤ k + 1; omega, fun i hi => ?_, fun i j hij hj => ?_, fun c hc pc => ?_⟩
      · have hi2 : i < (gaS P k).1 + 1 := hi
        show upT (gaS P k).2 (gaS P k).1 k i < k + 1 ∧ P (upT (gaS P k).2 (gaS P k).1 k i)
        by_cases w : i = (gaS P k).1
        · rw [w, upT_h]; exact ⟨by omega, q⟩
        · rw [upT_o w]; have := h2 i (by omega); exact ⟨by omega, this.2⟩
      · have hj2 : j < (gaS P k).1 + 1 := hj
        show upT (gaS P k).2 (gaS P k).1 k i < upT (gaS P k).2 (gaS P k).1 k j
        by_cases w : j = (gaS P k).1
        · rw [w, upT_h, upT_o (by omega)]; exact (h2 i (by omega)).1
        · rw [upT_o w, upT_o (by omega)]; exact h3 i j hij (by omega)
      · by_cases w : c = k
        · exact ⟨(gaS P k).1, by show (gaS P k).1 < (gaS P k).1 + 1; omega, by show upT (gaS P k).2 (gaS P k).1 k (gaS P k).1 = c; rw [upT_h, w]⟩
        · obtain ⟨i, i1, i2⟩ := h4 c (by omega) pc
          exact ⟨i, by show i < (gaS P k).1 + 1; omega, by show upT (gaS P k).2 (gaS P k).1 k i = c; rw [upT_o (by omega)]; exact i2⟩
    · rw [if_neg q]
      refine ⟨by omega, fun i hi => ⟨by have := h2 i hi; omega, (h2 i hi).2⟩, h3, fun c hc pc => ?_⟩
      by_cases w : c = k
      · rw [w] at pc; exact absurd pc q
      · exact h4 c (by omega) pc
theorem gaS_mono {P : Nat → Prop} [DecidablePred P] {h : Nat} : ∀ r, (gaS P h).1 ≤ (gaS P (h + r)).1
  | 0 => Nat.le_refl _
  | r + 1 => by
    show _ ≤ (gaS P (h + r + 1)).1
    have ih := gaS_mono (P := P) (h := h) r
    rw [gaS_s]
    split
    · show _ ≤ (gaS P (h + r)).1 + 1; omega
    · exact ih
theorem gaS_at {P : Nat → Prop} [DecidablePred P] {h : Nat} (hp : P h) : ∀ r, (gaS P h).1 < (gaS P (h + 1 + r)).1 ∧ (gaS P (h + 1 + r)).2 (gaS P h).1 = h
  | 0 => by
    show (gaS P h).1 < (gaS P (h + 1)).1 ∧ (gaS P (h + 1)).2 (gaS P h).1 = h
    rw [gaS_s, if_pos hp]
    exact ⟨Nat.lt_succ_self _, upT_h⟩
  | r + 1 => by
    show (gaS P h).1 < (gaS P (h + 1 + r + 1)).1 ∧ (gaS P (h + 1 + r + 1)).2 (gaS P h).1 = h
    obtain ⟨a, b⟩ := gaS_at hp r
    rw [gaS_s]
    by_cases q : P (h + 1 + r)
    · rw [if_pos q]
      refine ⟨by show _ < (gaS P (h + 1 + r)).1 + 1; omega, ?_⟩
      show upT (gaS P (h + 1 + r)).2 (gaS P (h + 1 + r)).1 (h + 1 + r) (gaS P h).1 = h
      rw [upT_o (by omega)]
      exact b
    · rw [if_neg q]; exact ⟨a, b⟩
theorem gaS_stop {P : Nat → Prop} [DecidablePred P] {k : Nat} (hp : ∀ c, k ≤ c → ¬P c) : ∀ r, gaS P (k + r) = gaS P k
  | 0 => rfl
  | r + 1 => by
    show gaS P (k + r + 1) = _
    rw [gaS_s, if_neg (hp (k + r) (by omega))]
    exact gaS_stop hp r
-- the table
def cbM (w : Bool) (a b : Nat) : Nat := if w = true then (if a < b then b else a) else a + b
theorem cbM_0 {w : Bool} {a : Nat} : cbM w a 0 = a := by
  unfold cbM
  split
  · rw [if_neg (by omega)]
  · omega
theorem cbM_as {w : Bool} {a b c : Nat} : cbM w (cbM w a b) c = cbM w a (cbM w b c) := by
  unfold cbM
  by_cases q : w = true
  · simp only [if_pos q]
    by_cases h1 : a < b
    · rw [if_pos h1]
      by_cases h2 : b < c
      · rw [if_pos h2, if_pos (by omega)]
      · rw [if_neg h2, if_pos h1]
    · rw [if_neg h1]
      by_cases h2 : b < c
      · rw [if_pos h2]
      · rw [if_neg h2, if_neg (by omega), if_neg h1]
  · simp only [if_neg q]
    omega
theorem cbM_mono {w : Bool} {a b c : Nat} (h : b ≤ c) : cbM w a b ≤ cbM w a c := by
  unfold cbM
  split
  · split <;> split <;> omega
  · omega
theorem cbM_ge {w : Bool} {a b : Nat} : b ≤ cbM w a b := by
  unfold cbM
  split
  · split <;> omega
  · omega
theorem cbM_le {w : Bool} {a b : Nat} : cbM w a b ≤ a + b := by
  unfold cbM
  split
  · split <;> omega
  · omega
theorem bt_add1 : ∀ i, i < 6 → ∀ g, g < 64 → g / 2 ^ i % 2 ≠ 1 → g + 2 ^ i < 64 ∧ bcN (g + 2 ^ i) = bcN g + 1 := by decide +kernel
theorem bt_add2 : ∀ i, i < 6 → ∀ j, j < 6 → ∀ g, g < 64 → g / 2 ^ i % 2 ≠ 1 → (g + 2 ^ i) / 2 ^ j % 2 = if j = i then 1 else g / 2 ^ j % 2 := by decide +kernel
theorem bt_add (i : Nat) (hi : i < 6) (g : Nat) (hg : g < 64) (h : g / 2 ^ i % 2 ≠ 1) : g + 2 ^ i < 64 ∧ bcN (g + 2 ^ i) = bcN g + 1 ∧ (∀ j, j < 6 → ((g + 2 ^ i) / 2 ^ j % 2 = 1 ↔ (g / 2 ^ j % 2 = 1 ∨ j = i))) := ⟨(bt_add1 i hi g hg h).1, (bt_add1 i hi g hg h).2, fun j hj => by
  rw [bt_add2 i hi j hj g hg h]
  by_cases q : j = i
  · rw [if_pos q]; exact ⟨fun _ => Or.inr q, fun _ => rfl⟩
  · rw [if_neg q]; exact ⟨fun z => Or.inl z, fun z => z.resolve_right q⟩⟩
theorem bt_n : ∀ n, n < 7 → ∀ i, i < n → ∀ g, g < 2 ^ n → g / 2 ^ i % 2 ≠ 1 → g + 2 ^ i < 2 ^ n := by decide +kernel
theorem bt_full : ∀ n, n < 7 → ∀ g, g < 2 ^ n → bcN g ≤ n ∧ ((∀ i, i < n → g / 2 ^ i % 2 = 1) → bcN g = n) := by decide +kernel
theorem bt_64 {n g : Nat} (hn : n < 7) (hg : g < 2 ^ n) : g < 64 := by
  have : 2 ^ n ≤ 2 ^ 6 := Nat.pow_le_pow_right (by omega) (by omega)
  omega
def vmF (w : Bool) (f : Nat → Nat) (V : Nat → Nat) (g i v : Nat) : Nat := if g / 2 ^ i % 2 = 1 then v else (if v ≤ cbM w (f i) (V (g + 2 ^ i)) then v else cbM w (f i) (V (g + 2 ^ i)))
theorem vmF_s {w : Bool} {f V : Nat → Nat} {g k v : Nat} : itr (vmF w f V g) (k + 1) v = if g / 2 ^ k % 2 = 1 then itr (vmF w f V g) k v else (if itr (vmF w f V g) k v ≤ cbM w (f k) (V (g + 2 ^ k)) then itr (vmF w f V g) k v else cbM w (f k) (V (g + 2 ^ k))) := rfl
theorem vmF_ub {w : Bool} {f V : Nat → Nat} {g v : Nat} (k : Nat) : itr (vmF w f V g) k v ≤ v ∧ (∀ i, i < k → g / 2 ^ i % 2 ≠ 1 → itr (vmF w f V g) k v ≤ cbM w (f i) (V (g + 2 ^ i))) := by
  induction k with
  | zero => exact ⟨Nat.le_refl _, fun i h => absurd h (Nat.not_lt_zero i)⟩
  | succ k ih =>
    rw [vmF_s]
    by_cases q : g / 2 ^ k % 2 = 1
    · rw [if_pos q]
      refine ⟨ih.1, fun i hi b => ?_⟩
      by_cases z : i = k
      · rw [z] at b; exact absurd q b
      · exact ih.2 i (by omega) b
    · rw [if_neg q]
      generalize itr (vmF w f V g) k v = R at ih
      by_cases c : R ≤ cbM w (f k) (V (g + 2 ^ k))
      · rw [if_pos c]
        refine ⟨ih.1, fun i hi b => ?_⟩
        by_cases z : i = k
        · rw [z]; exact c
        · exact ih.2 i (by omega) b
      · rw [if_neg c]
        refine ⟨by omega, fun i hi b => ?_⟩
        by_cases z : i = k
        · rw [z]; exact Nat.le_refl _
        · have := ih.2 i (by omega) b; omega
theorem vmF_at {w : Bool} {f V : Nat → Nat} {g v : Nat} (k : Nat) : itr (vmF w f V g) k v = v ∨ ∃ i, i < k ∧ g / 2 ^ i % 2 ≠ 1 ∧ itr (vmF w f V g) k v = cbM w (f i) (V (g + 2 ^ i)) := by
  induction k with
  | zero => exact Or.inl rfl
  | succ k ih =>
    rw [vmF_s]
    by_cases q : g / 2 ^ k % 2 = 1
    · rw [if_pos q]
      rcases ih with h | ⟨i, a, b, c⟩
      · exact Or.inl h
      · exact Or.inr ⟨i, by omega, b, c⟩
    · rw [if_neg q]
      by_cases c : itr (vmF w f V g) k v ≤ cbM w (f k) (V (g + 2 ^ k))
      · rw [if_pos c]
        rcases ih with h | ⟨i, a, b, c⟩
        · exact Or.inl h
        · exact Or.inr ⟨i, by omega, b, c⟩
      · rw [if_neg c]
        exact Or.inr ⟨k, by omega, q, rfl⟩
/-- the fewest steps from there on; 1000: it can't be -/
def vmS (w : Bool) (most n m : Nat) (fr : Nat → Nat → Nat) : Nat → Nat → Nat
  | 0 => fun g => if bcN g = most then 0 else 1000
  | t + 1 => fun g => itr (vmF w (fun i => fr i (m - (t + 1))) (vmS w most n m fr t) g) n (vmS w most n m fr t g)
theorem vmS_0 {w : Bool} {most n m : Nat} {fr : Nat → Nat → Nat} {g : Nat} : vmS w most n m fr 0 g = if bcN g = most then 0 else 1000 := rfl
theorem vmS_s {w : Bool} {most n m : Nat} {fr : Nat → Nat → Nat} {t g : Nat} : vmS w most n m fr (t + 1) g = itr (vmF w (fun i => fr i (m - (t + 1))) (vmS w most n m fr t) g) n (vmS w most n m fr t g) := rfl
theorem vmS_le {w : Bool} {most n m : Nat} {fr : Nat → Nat → Nat} (t : Nat) (g : Nat) : vmS w most n m fr t g ≤ 1000 := by
  induction t with
  | zero => rw [vmS_0]; split <;> omega
  | succ t ih =>
    rw [vmS_s]
    have := (vmF_ub (w := w) (f := fun i => fr i (m - (t + 1))) (V := vmS w most n m fr t) (g := g) (v := vmS w most n m fr t g) n).1
    omega
theorem vmS_no {w : Bool} {most n m : Nat} {fr : Nat → Nat → Nat} (hn : n < 7) : ∀ (t g : Nat), g < 64 → bcN g + t < most → vmS w most n m fr t g = 1000
  | 0, g, hg, h => by rw [vmS_0, if_neg (by omega)]
  | t + 1, g, hg, h => by
    have v0 := vmS_no (w := w) (most := most) (n := n) (m := m) (fr := fr) hn t g hg (by omega)
    have le := vmS_le (w := w) (most := most) (n := n) (m := m) (fr := fr) (t + 1) g
    rw [vmS_s] at le ⊢
    rcases vmF_at (w := w) (f := fun i => fr i (m - (t + 1))) (V := vmS w most n m fr t) (g := g) (v := vmS w most n m fr t g) n with h1 | ⟨i, a, b, c⟩
    · rw [h1]; exact v0
    · have ba := bt_add i (by omega) g hg b
      have v1 := vmS_no (w := w) (most := most) (n := n) (m := m) (fr := fr) hn t (g + 2 ^ i) ba.1 (by omega)
      have ge := cbM_ge (w := w) (a := fr i (m - (t + 1))) (b := vmS w most n m fr t (g + 2 ^ i))
      have c2 : itr (vmF w (fun i => fr i (m - (t + 1))) (vmS w most n m fr t) g) n (vmS w most n m fr t g) = cbM w (fr i (m - (t + 1))) (vmS w most n m fr t (g + 2 ^ i)) := c
      omega
theorem vmS_can {w : Bool} {most n m : Nat} {fr : Nat → Nat → Nat} (hn : n < 7) (hm : most ≤ n) (hf : ∀ i j, fr i j ≤ 5) : ∀ (t g : Nat), g < 2 ^ n → bcN g ≤ most → most ≤ bcN g + t → vmS w most n m fr t g ≤ 5 * t
  | 0, g, hg, h1, h2 => by rw [vmS_0, if_pos (by omega)]; omega
  | t + 1, g, hg, h1, h2 => by
    rw [vmS_s]
    have ub := vmF_ub (w := w) (f := fun i => fr i (m - (t + 1))) (V := vmS w most n m fr t) (g := g) (v := vmS w most n m fr t g) n
    by_cases q : bcN g = most
    · have v0 := vmS_can (w := w) (most := most) (n := n) (m := m) (fr := fr) hn hm hf t g hg h1 (by omega)
      omega
    · have ex : ∃ i, i < n ∧ g / 2 ^ i % 2 ≠ 1 := Classical.byContradiction (fun z => by
        have := (bt_full n hn g hg).2 (fun i hi => Classical.byContradiction (fun y => z ⟨i, hi, y⟩))
        omega)
      obtain ⟨i, i1, i2⟩ := ex
      have ba := bt_add i (by omega) g (bt_64 hn hg) i2
      have v1 := vmS_can (w := w) (most := most) (n := n) (m := m) (fr := fr) hn hm hf t (g + 2 ^ i) (bt_n n hn i i1 g hg i2) (by omega) (by omega)
      have u := ub.2 i i1 i2
      have u2 : itr (vmF w (fun i => fr i (m - (t + 1))) (vmS w most n m fr t) g) n (vmS w most n m fr t g) ≤ cbM w (fr i (m - (t + 1))) (vmS w most n m fr t (g + 2 ^ i)) := u
      have l := cbM_le (w := w) (a := fr i (m - (t + 1))) (b := vmS w most n m fr t (g + 2 ^ i))
      have f5 := hf i (m - (t + 1))
      omega
-- the codes
abbrev frP (A : Int → Int) (h : Nat) : Prop := (h : Int) < A 0 ∧ gst A h = -1
abbrev ouP (A : Int → Int) (c : Nat) : Prop := (c : Int) < A 1 ∧ A (12 + 3 * c + 1) = -1
def frN (A : Int → Int) (c h : Nat) : Nat := (farS A c h).toNat
def msM (w : Bool) (A : Int → Int) (x : Nat) : Nat → Nat
  | 0 => 0
  | h + 1 => if dgM x h = 0 then msM w A x h else cbM w (msM w A x h) (frN A (dgM x h - 1) h)
def pcM (x : Nat) : Nat → Nat
  | 0 => 0
  | h + 1 => if dgM x h = 0 then pcM x h else pcM x h + 1
abbrev okM (A : Int → Int) (x h : Nat) : Prop := dgM x h = 0 ∨ ((frP A h ∧ ouP A (dgM x h - 1)) ∧ ∀ j, j < h → dgM x j ≠ dgM x h)
theorem msM_s {w : Bool} {A : Int → Int} {x h : Nat} : msM w A x (h + 1) = if dgM x h = 0 then msM w A x h else cbM w (msM w A x h) (frN A (dgM x h - 1) h) := rfl
theorem pcM_s {x h : Nat} : pcM x (h + 1) = if dgM x h = 0 then pcM x h else pcM x h + 1 := rfl
theorem msM_cg {w : Bool} {A : Int → Int} {x y : Nat} : ∀ h, (∀ j, j < h → dgM x j = dgM y j) → msM w A x h = msM w A y h ∧ pcM x h = pcM y h
  | 0, _ => ⟨rfl, rfl⟩
  | h + 1, g => by
    obtain ⟨a, b⟩ := msM_cg (w := w) (A := A) h (fun j hj => g j (by omega))
    rw [msM_s, msM_s, pcM_s, pcM_s, a, b, g h (by omega)]
    exact ⟨rfl, rfl⟩
theorem okM_cg {A : Int → Int} {x y h : Nat} (g : ∀ j, j ≤ h → dgM x j = dgM y j) (o : okM A x h) : okM A y h := by
  rcases o with o | ⟨o1, o2⟩
  · exact Or.inl (by rw [← g h (by omega)]; exact o)
  · refine Or.inr ⟨by rw [← g h (by omega)]; exact o1, fun j hj => ?_⟩
    rw [← g h (by omega), ← g j (by omega)]
    exact o2 j hj
theorem msM_le {w : Bool} {A : Int → Int} (hf : ∀ i j, frN A i j ≤ 5) {x : Nat} : ∀ h, msM w A x h ≤ 5 * h ∧ pcM x h ≤ h
  | 0 => ⟨Nat.le_refl _, Nat.le_refl _⟩
  | h + 1 => by
    obtain ⟨a, b⟩ := msM_le (w := w) hf (x := x) h
    have f := hf (dgM x h - 1) h
    have c := cbM_le (w := w) (a := msM w A x h) (b := frN A (dgM x h - 1) h)
    rw [msM_s, pcM_s]
    constructor
    · split <;> omega
    · split <;> omega
/-- the free houses and the cats who are out -/
def hsM (A : Int → Int) (h : Nat) : Nat × (Nat → Nat) := gaS (frP A) h
def csM (A : Int → Int) : Nat × (Nat → Nat) := gaS (ouP A) 6
/-- as far as laid down: who are gone -/
def stM (A : Int → Int) (x h g : Nat) : Prop := (∀ j, j < h → okM A x j) ∧ (∀ i, i < (csM A).1 → (g / 2 ^ i % 2 = 1 ↔ ∃ j, j < h ∧ dgM x j = (csM A).2 i + 1)) ∧ g < 2 ^ (csM A).1 ∧ bcN g = pcM x h ∧ pcM x h ≤ (hsM A h).1
theorem csM_n (A : Int → Int) : (csM A).1 < 7 := by
  have := (gaS_ok (P := ouP A) 6).1
  show (gaS (ouP A) 6).1 < 7
  omega
theorem stM_0 {A : Int → Int} {x : Nat} : stM A x 0 0 := by
  have n7 := csM_n A
  refine ⟨fun j hj => absurd hj (Nat.not_lt_zero j), fun i hi => ⟨fun z => ?_, fun z => ?_⟩, Nat.pow_pos (by omega), rfl, Nat.zero_le _⟩
  · rw [Nat.zero_div] at z; omega
  · obtain ⟨j, j1, _⟩ := z; exact absurd j1 (Nat.not_lt_zero j)
theorem stM_cg {A : Int → Int} {x y h g : Nat} (s : stM A x h g) (e : ∀ j, j < h → dgM x j = dgM y j) : stM A y h g := by
  obtain ⟨a, b, c, d, f⟩ := s
  have p := (msM_cg (w := true) (A := A) h e).2
  refine ⟨fun j hj => okM_cg (fun i hi => e i (by omega)) (a j hj), fun i hi => (b i hi).trans ⟨fun z => ?_, fun z => ?_⟩, c, by rw [← p]; exact d, by rw [← p]; exact f⟩
  · obtain ⟨j, j1, j2⟩ := z; exact ⟨j, j1, by rw [← e j j1]; exact j2⟩
  · obtain ⟨j, j1, j2⟩ := z; exact ⟨j, j1, by rw [e j j1]; exact j2⟩
theorem stM_n {A : Int → Int} {x h g : Nat} (s : stM A x h g) (z : dgM x h = 0) : stM A x (h + 1) g := by
  obtain ⟨a, b, c, d, f⟩ := s
  have m := gaS_mono (P := frP A) (h := h) 1
  refine ⟨fun j hj => ?_, fun i hi => (b i hi).trans ⟨fun y => ?_, fun y => ?_⟩, c, by rw [pcM_s, if_pos z]; exact d, by rw [pcM_s, if_pos z]; exact Nat.le_trans f m⟩
  · by_cases q : j = h
    · rw [q]; exact Or.inl z
    · exact a j (by omega)
  · obtain ⟨j, j1, j2⟩ := y; exact ⟨j, by omega, j2⟩
  · obtain ⟨j, j1, j2⟩ := y
    by_cases q : j = h
    · rw [q] at j2; omega
    · exact ⟨j, by omega, j2⟩
theorem stM_y {A : Int → Int} {x h g i : Nat} (s : stM A x h g) (hi : i < (csM A).1) (z : dgM x h = (csM A).2 i + 1) (hf : frP A h) (hb : g / 2 ^ i % 2 ≠ 1) : stM A x (h + 1) (g + 2 ^ i) := by
  obtain ⟨a, b, c, d, f⟩ := s
  have n7 := csM_n A
  obtain ⟨g1, g2, g3⟩ := bt_add i (by omega) g (bt_64 n7 c) hb
  have ok := gaS_ok (P := ouP A) 6
  have oi : (csM A).2 i < 6 ∧ ouP A ((csM A).2 i) := ok.2.1 i hi
  have hs : (hsM A (h + 1)).1 = (hsM A h).1 + 1 := by
    show (gaS (frP A) (h + 1)).1 = (gaS (frP A) h).1 + 1
    rw [gaS_s, if_pos hf]
  refine ⟨fun j hj => ?_, fun k hk => (g3 k (by omega)).trans ⟨fun y => ?_, fun y => ?_⟩, bt_n _ n7 i hi g c hb, ?_, ?_⟩
  · by_cases q : j = h
    · rw [q]
      refine Or.inr ⟨⟨hf, by rw [z]; exact oi.2⟩, fun j2 hj2 e => hb ((b i hi).mpr ⟨j2, hj2, by rw [e, z]⟩)⟩
    · exact a j (by omega)
  · rcases y with y | y
    · obtain ⟨j, j1, j2⟩ := (b k hk).mp y; exact ⟨j, by omega, j2⟩
    · exact ⟨h, by omega, by rw [y]; exact z⟩
  · obtain ⟨j, j1, j2⟩ := y
    by_cases q : j = h
    · rw [q, z] at j2
      refine Or.inr ?_
      by_cases l : k < i
      · have : (csM A).2 k < (csM A).2 i := ok.2.2.1 k i l hi
        omega
      · by_cases l2 : i < k
        · have : (csM A).2 i < (csM A).2 k := ok.2.2.1 i k l2 hk
          omega
        · omega
    · exact Or.inl ((b k hk).mpr ⟨j, by omega, j2⟩)
  · rw [pcM_s, if_neg (by omega), g2, d]
  · rw [pcM_s, if_neg (by omega), hs]; omega
theorem okM_y {A : Int → Int} {x h g : Nat} (s : stM A x h g) (o : okM A x h) (z : dgM x h ≠ 0) : frP A h ∧ ∃ i, i < (csM A).1 ∧ dgM x h = (csM A).2 i + 1 ∧ g / 2 ^ i % 2 ≠ 1 := by
  rcases o with o | ⟨⟨o1, o2⟩, o3⟩
  · exact absurd o z
  · have d7 := dgM_lt (x := x) (h := h)
    obtain ⟨i, i1, i2⟩ := (gaS_ok (P := ouP A) 6).2.2.2 (dgM x h - 1) (by omega) o2
    have i3 : (csM A).2 i = dgM x h - 1 := i2
    refine ⟨o1, i, i1, by omega, fun q => ?_⟩
    obtain ⟨j, j1, j2⟩ := (s.2.1 i i1).mp q
    exact o3 j j1 (by omega)
abbrev goM (A : Int → Int) (most x : Nat) : Prop := (∀ j, j < 6 → okM A x j) ∧ most ≤ pcM x 6
/-- how far the i-th cat is from the j-th house -/
def ffM (A : Int → Int) (i j : Nat) : Nat := frN A ((csM A).2 i) ((hsM A 6).2 j)
def tbM (w : Bool) (A : Int → Int) (most : Nat) : Nat → Nat → Nat := vmS w most (csM A).1 (hsM A 6).1 (ffM A)
theorem hsM_y {A : Int → Int} {h : Nat} (hh : h < 6) (hf : frP A h) : (hsM A (h + 1)).1 = (hsM A h).1 + 1 ∧ (hsM A h).1 < (hsM A 6).1 ∧ (hsM A 6).2 (hsM A h).1 = h := by
  have a := gaS_at (P := frP A) hf (5 - h)
  rw [show h + 1 + (5 - h) = 6 by omega] at a
  refine ⟨?_, a.1, a.2⟩
  show (gaS (frP A) (h + 1)).1 = (gaS (frP A) h).1 + 1
  rw [gaS_s, if_pos hf]
theorem hsM_n {A : Int → Int} {h : Nat} (hf : ¬frP A h) : (hsM A (h + 1)).1 = (hsM A h).1 := by
  show (gaS (frP A) (h + 1)).1 = (gaS (frP A) h).1
  rw [gaS_s, if_neg hf]
theorem lbM {w : Bool} {A : Int → Int} {most : Nat} (hm : most ≤ (csM A).1 ∧ most ≤ (hsM A 6).1 ∧ ((csM A).1 ≤ most ∨ (hsM A 6).1 ≤ most)) {x : Nat} (go : goM A most x) : ∀ (r h g : Nat), h + r = 6 → stM A x h g → cbM w (msM w A x h) (tbM w A most ((hsM A 6).1 - (hsM A h).1) g) ≤ msM w A x 6
  | 0, h, g, hr, s => by
    have h6 : h = 6 := by omega
    subst h6
    have n7 := csM_n A
    have b := bt_full _ n7 g s.2.2.1
    have e : bcN g = most := by
      have a1 := go.2
      have a2 := s.2.2.2.1
      have a3 := s.2.2.2.2
      omega
    rw [Nat.sub_self]
    show cbM w _ (vmS w most (csM A).1 (hsM A 6).1 (ffM A) 0 g) ≤ _
    rw [vmS_0, if_pos e, cbM_0]
    exact Nat.le_refl _
  | r + 1, h, g, hr, s => by
    have hh : h < 6 := by omega
    by_cases z : dgM x h = 0
    · have ih := lbM (w := w) hm go r (h + 1) g (by omega) (stM_n s z)
      rw [msM_s, if_pos z] at ih
      by_cases f : frP A h
      · obtain ⟨e1, e2, e3⟩ := hsM_y hh f
        obtain ⟨t, ht⟩ : ∃ t, (hsM A 6).1 - (hsM A h).1 = t + 1 := ⟨(hsM A 6).1 - (hsM A h).1 - 1, by omega⟩
        rw [show (hsM A 6).1 - (hsM A (h + 1)).1 = t by omega] at ih
        rw [ht]
        refine Nat.le_trans (cbM_mono ?_) ih
        exact (vmF_ub (w := w) (f := fun i => ffM A i ((hsM A 6).1 - (t + 1))) (V := tbM w A most t) (g := g) (v := tbM w A most t g) (csM A).1).1
      · rw [hsM_n f] at ih
        exact ih
    · obtain ⟨f, i, i1, i2, i3⟩ := okM_y s (go.1 h hh) z
      have ih := lbM (w := w) hm go r (h + 1) (g + 2 ^ i) (by omega) (stM_y s i1 i2 f i3)
      rw [msM_s, if_neg z, cbM_as] at ih
      obtain ⟨e1, e2, e3⟩ := hsM_y hh f
      obtain ⟨t, ht⟩ : ∃ t, (hsM A 6).1 - (hsM A h).1 = t + 1 := ⟨(hsM A 6).1 - (hsM A h).1 - 1, by omega⟩
      rw [show (hsM A 6).1 - (hsM A (h + 1)).1 = t by omega] at ih
      rw [ht]
      refine Nat.le_trans (cbM_mono ?_) ih
      have u := (vmF_ub (w := w) (f := fun i => ffM A i ((hsM A 6).1 - (t + 1))) (V := tbM w A most t) (g := g) (v := tbM w A most t g) (csM A).1).2 i i1 i3
      refine Nat.le_trans u ?_
      show cbM w (ffM A i ((hsM A 6).1 - (t + 1))) (tbM w A most t (g + 2 ^ i)) ≤ _
      unfold ffM
      rw [show (hsM A 6).1 - (t + 1) = (hsM A h).1 by omega, e3, show dgM x h - 1 = (csM A).2 i by omega]
      exact Nat.le_refl _
theorem ceM {w : Bool} {A : Int → Int} {most : Nat} : ∀ (r h x g : Nat), h + r = 6 → x < 117649 → stM A x h g → tbM w A most ((hsM A 6).1 - (hsM A h).1) g < 1000 → ∃ y, y < 117649 ∧ (∀ j, j < h → dgM y j = dgM x j) ∧ goM A most y ∧ msM w A y 6 = cbM w (msM w A x h) (tbM w A most ((hsM A 6).1 - (hsM A h).1) g)
  | 0, h, x, g, hr, hx, s, hv => by
    have h6 : h = 6 := by omega
    subst h6
    rw [Nat.sub_self] at hv ⊢
    have hv2 : (if bcN g = most then 0 else 1000) < 1000 := hv
    by_cases e : bcN g = most
    · refine ⟨x, hx, fun _ _ => rfl, ⟨s.1, by have := s.2.2.2.1; omega⟩, ?_⟩
      show _ = cbM w _ (if bcN g = most then 0 else 1000)
      rw [if_pos e, cbM_0]
    · rw [if_neg e] at hv2; omega
  | r + 1, h, x, g, hr, hx, s, hv => by
    have hh : h < 6 := by omega
    have none_ : tbM w A most ((hsM A 6).1 - (hsM A (h + 1)).1) g < 1000 → ∃ y, y < 117649 ∧ (∀ j, j < h → dgM y j = dgM x j) ∧ goM A most y ∧ msM w A y 6 = cbM w (msM w A x h) (tbM w A most ((hsM A 6).1 - (hsM A (h + 1)).1) g) := by
      intro q
      obtain ⟨x1, a1, a2, a3⟩ := mkM (x := x) (h := h) (p := 0) hx hh (by omega)
      obtain ⟨y, b1, b2, b3, b4⟩ := ceM (w := w) (most := most) r (h + 1) x1 g (by omega) a1 (stM_n (stM_cg s (fun j hj => (a2 j hj).symm)) a3) q
      refine ⟨y, b1, fun j hj => by rw [b2 j (by omega), a2 j hj], b3, ?_⟩
      rw [b4, msM_s, if_pos a3, (msM_cg (w := w) (A := A) h a2).1]
    by_cases f : frP A h
    · obtain ⟨e1, e2, e3⟩ := hsM_y hh f
      obtain ⟨t, ht⟩ : ∃ t, (hsM A 6).1 - (hsM A h).1 = t + 1 := ⟨(hsM A 6).1 - (hsM A h).1 - 1, by omega⟩
      rw [show (hsM A 6).1 - (hsM A (h + 1)).1 = t by omega] at none_
      rw [ht] at hv ⊢
      rcases vmF_at (w := w) (f := fun i => ffM A i ((hsM A 6).1 - (t + 1))) (V := tbM w A most t) (g := g) (v := tbM w A most t g) (csM A).1 with q | ⟨i, i1, i2, i3⟩
      · have q2 : tbM w A most (t + 1) g = tbM w A most t g := q
        rw [q2] at hv ⊢
        exact none_ hv
      · have q2 : tbM w A most (t + 1) g = cbM w (ffM A i ((hsM A 6).1 - (t + 1))) (tbM w A most t (g + 2 ^ i)) := i3
        rw [q2] at hv ⊢
        have ge := cbM_ge (w := w) (a := ffM A i ((hsM A 6).1 - (t + 1))) (b := tbM w A most t (g + 2 ^ i))
        have ci : (csM A).2 i < 6 := ((gaS_ok (P := ouP A) 6).2.1 i i1).1
        obtain ⟨x1, a1, a2, a3⟩ := mkM (x := x) (h := h) (p := (csM A).2 i + 1) hx hh (by omega)
        obtain ⟨y, b1, b2, b3, b4⟩ := ceM (w := w) (most := most) r (h + 1) x1 (g + 2 ^ i) (by omega) a1 (stM_y (stM_cg s (fun j hj => (a2 j hj).symm)) i1 a3 f i2) (by rw [show (hsM A 6).1 - (hsM A (h + 1)).1 = t by omega]; omega)
        refine ⟨y, b1, fun j hj => by rw [b2 j (by omega), a2 j hj], b3, ?_⟩
        rw [b4, msM_s, if_neg (by omega), (msM_cg (w := w) (A := A) h a2).1, cbM_as, show (hsM A 6).1 - (hsM A (h + 1)).1 = t by omega, a3]
        unfold ffM
        rw [show (hsM A 6).1 - (t + 1) = (hsM A h).1 by omega, e3, Nat.add_sub_cancel]
    · rw [hsM_n f] at none_
      exact none_ hv
-- the reference's best
def bmF (w : Bool) (A : Int → Int) (most x : Nat) (s : Int × Nat) : Int × Nat := if goM A most x ∧ msM w A x 6 < s.2 then ((x : Int), msM w A x 6) else s
def bmS (w : Bool) (A : Int → Int) (most x : Nat) : Int × Nat := itr (bmF w A most) x (-1, 1000000)
theorem bmS_s {w : Bool} {A : Int → Int} {most x : Nat} : bmS w A most (x + 1) = if goM A most x ∧ msM w A x 6 < (bmS w A most x).2 then ((x : Int), msM w A x 6) else bmS w A most x := rfl
theorem bmS_ok {w : Bool} {A : Int → Int} {most : Nat} (x : Nat) : (∀ y, y < x → goM A most y → (bmS w A most x).2 ≤ msM w A y 6) ∧ (bmS w A most x = (-1, 1000000) ∨ ∃ b : Nat, b < x ∧ goM A most b ∧ bmS w A most x = ((b : Int), msM w A b 6) ∧ ∀ y, y < b → goM A most y → msM w A b 6 < msM w A y 6) := by
  induction x with
  | zero => exact ⟨fun y h => absurd h (Nat.not_lt_zero y), Or.inl rfl⟩
  | succ x ih =>
    obtain ⟨h1, h2⟩ := ih
    rw [bmS_s]
    by_cases q : goM A most x ∧ msM w A x 6 < (bmS w A most x).2
    · rw [if_pos q]
      refine ⟨fun y hy gy => ?_, Or.inr ⟨x, by omega, q.1, rfl, fun y hy gy => ?_⟩⟩
      · show msM w A x 6 ≤ _
        by_cases e : y = x
        · rw [e]; exact Nat.le_refl _
        · have := h1 y (by omega) gy; omega
      · have := h1 y hy gy; omega
    · rw [if_neg q]
      refine ⟨fun y hy gy => ?_, ?_⟩
      · by_cases e : y = x
        · subst e
          exact Nat.le_of_not_lt (fun z => q ⟨gy, z⟩)
        · exact h1 y (by omega) gy
      · rcases h2 with h2 | ⟨b, b1, b2⟩
        · exact Or.inl h2
        · exact Or.inr ⟨b, by omega, b2⟩
/-- it is found, and it is what the table says -/
theorem bmS_tb {w : Bool} {A : Int → Int} {most : Nat} (hm : most ≤ (csM A).1 ∧ most ≤ (hsM A 6).1 ∧ ((csM A).1 ≤ most ∨ (hsM A 6).1 ≤ most)) (hf : ∀ i j, frN A i j ≤ 5) : ∃ b : Nat, b < 117649 ∧ goM A most b ∧ pcM b 6 = most ∧ bmS w A most 117649 = ((b : Int), msM w A b 6) ∧ msM w A b 6 = tbM w A most (hsM A 6).1 0 ∧ (∀ y, y < 117649 → goM A most y → msM w A b 6 ≤ msM w A y 6) ∧ ∀ y, y < b → goM A most y → msM w A b 6 < msM w A y 6 := by
  have n7 := csM_n A
  have hs6 : (hsM A 6).1 ≤ 6 := (gaS_ok (P := frP A) 6).1
  have can := vmS_can (w := w) (most := most) (m := (hsM A 6).1) (fr := ffM A) n7 hm.1 (fun i j => hf _ _) (hsM A 6).1 0 (Nat.pow_pos (by omega)) (by show 0 ≤ most; omega) (by show most ≤ 0 + _; omega)
  have hs0 : (hsM A 0).1 = 0 := rfl
  have can2 : tbM w A most ((hsM A 6).1 - (hsM A 0).1) 0 < 1000 := by
    rw [hs0, Nat.sub_zero]
    show vmS w most (csM A).1 (hsM A 6).1 (ffM A) (hsM A 6).1 0 < 1000
    omega
  have e0 : ∀ v, cbM w 0 v = v := fun v => by
    unfold cbM
    split
    · split <;> omega
    · omega
  obtain ⟨y, y1, y2, y3, y4⟩ := ceM (w := w) (A := A) (most := most) 6 0 0 0 rfl (by omega) stM_0 can2
  obtain ⟨k1, k2⟩ := bmS_ok (w := w) (A := A) (most := most) 117649
  have ky := k1 y y1 y3
  have my := (msM_le (w := w) hf (x := y) 6).1
  rcases k2 with k2 | ⟨b, b1, b2, b3, b4⟩
  · rw [k2] at ky
    have ky2 : 1000000 ≤ msM w A y 6 := ky
    omega
  · have lb := lbM (w := w) hm b2 6 0 0 rfl stM_0
    have l2 : cbM w 0 (tbM w A most ((hsM A 6).1 - (hsM A 0).1) 0) ≤ msM w A b 6 := lb
    have y5 : msM w A y 6 = cbM w 0 (tbM w A most ((hsM A 6).1 - (hsM A 0).1) 0) := y4
    rw [e0, hs0, Nat.sub_zero] at l2 y5
    rw [b3] at k1 ky
    have k1' : ∀ y, y < 117649 → goM A most y → msM w A b 6 ≤ msM w A y 6 := k1
    have ky2 : msM w A b 6 ≤ msM w A y 6 := ky
    have full : ∀ r h, h + r = 6 → ∀ g, stM A b h g → ∃ g', stM A b 6 g' := by
      intro r
      induction r with
      | zero =>
        intro h hr g s
        have h6 : h = 6 := by omega
        rw [h6] at s
        exact ⟨g, s⟩
      | succ r ih =>
        intro h hr g s
        by_cases z : dgM b h = 0
        · exact ih (h + 1) (by omega) g (stM_n s z)
        · obtain ⟨f, i, i1, i2, i3⟩ := okM_y s (b2.1 h (by omega)) z
          exact ih (h + 1) (by omega) _ (stM_y s i1 i2 f i3)
    obtain ⟨g', s'⟩ := full 6 0 rfl 0 stM_0
    have bf := bt_full _ n7 g' s'.2.2.1
    have a2 := s'.2.2.2.1
    have a3 := s'.2.2.2.2
    have a1 := b2.2
    exact ⟨b, b1, b2, by omega, b3, by omega, k1', b4⟩
