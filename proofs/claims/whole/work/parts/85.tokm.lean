/-! ===== the reference's tokens: numbers ===== -/
theorem lJ_nat {v : Nat} (h : v < 2 ^ 63) : (lJ (v : Nat)).toBitVec.toNat = v := by
  have e : (lJ ((v : Nat) : Int)).toBitVec = BitVec.ofNat 64 v := rfl
  rw [e, BitVec.toNat_ofNat]
  omega
theorem lJ_int {v : Nat} (h : v < 2 ^ 63) : (lJ (v : Nat)).toBitVec.toInt = (v : Int) := by
  rw [BitVec.toInt_eq_toNat_cond, lJ_nat h, if_pos (by omega)]
theorem jshl8 {v b : Nat} (hv : v < 2 ^ 48) (hb : b < 256) : (a_jshl (lJ (v : Nat)) (iI 8) ||| Int32.toInt64 (iI (b : Nat))) = lJ ((v * 256 + b : Nat) : Int) := by
  have sm : ((Int32.toInt64 (iI 8) &&& 63).toBitVec.smod 64).toNat = 8 := by decide +kernel
  have e : (a_jshl (lJ (v : Nat)) (iI 8)).toBitVec = (lJ (v : Nat)).toBitVec <<< ((Int32.toInt64 (iI 8) &&& 63).toBitVec.smod 64).toNat := rfl
  rw [sm] at e
  rw [i_l (by omega)]
  apply Int64.toBitVec_inj.mp
  apply BitVec.eq_of_toNat_eq
  have e2 : (a_jshl (lJ (v : Nat)) (iI 8) ||| lJ (b : Nat)).toBitVec = (a_jshl (lJ (v : Nat)) (iI 8)).toBitVec ||| (lJ (b : Nat)).toBitVec := rfl
  rw [e2, BitVec.toNat_or, e, BitVec.toNat_shiftLeft, lJ_nat (by omega), lJ_nat (by omega), lJ_nat (by omega)]
  have m : v <<< 8 % 2 ^ 64 = v <<< 8 := Nat.mod_eq_of_lt (by rw [Nat.shiftLeft_eq]; omega)
  rw [m, ← Nat.shiftLeft_add_eq_or_of_lt (show b < 2 ^ 8 by omega), Nat.shiftLeft_eq]
theorem jshr48 {v : Nat} (hv : v < 2 ^ 62) : a_jshr (lJ (v : Nat)) (iI 48) = lJ ((v / 2 ^ 48 : Nat) : Int) := by
  have sm : ((Int32.toInt64 (iI 48) &&& 63).toBitVec.smod 64).toNat = 48 := by decide +kernel
  have e : (a_jshr (lJ (v : Nat)) (iI 48)).toBitVec = (lJ (v : Nat)).toBitVec.sshiftRight ((Int32.toInt64 (iI 48) &&& 63).toBitVec.smod 64).toNat := rfl
  rw [sm] at e
  apply Int64.toBitVec_inj.mp
  apply BitVec.eq_of_toInt_eq
  rw [e, BitVec.toInt_sshiftRight, lJ_int (by omega), lJ_int (by omega), Int.shiftRight_eq_div_pow]
  omega
/-- the packed letters -/
def wdT (tp : Nat → Int) (i : Nat) : Nat → Nat
  | 0 => 0
  | l + 1 => if wdT tp i l / 2 ^ 48 ≠ 0 then 2 ^ 60 else wdT tp i l * 256 + (tp (i + l)).toNat
theorem wdT_lt {tp : Nat → Int} (h : ∀ j, 0 ≤ tp j ∧ tp j ≤ 255) (i : Nat) : ∀ l, wdT tp i l ≤ 2 ^ 60
  | 0 => Nat.zero_le _
  | l + 1 => by
    have ih := wdT_lt h i l
    have g := h (i + l)
    show (if wdT tp i l / 2 ^ 48 ≠ 0 then 2 ^ 60 else wdT tp i l * 256 + (tp (i + l)).toNat) ≤ 2 ^ 60
    by_cases q : wdT tp i l / 2 ^ 48 ≠ 0
    · rw [if_pos q]; exact Nat.le_refl _
    · rw [if_neg q]; omega
def nvT (tp : Nat → Int) (i : Nat) : Nat → Int
  | 0 => 0
  | l + 1 => if 99999 < nvT tp i l then nvT tp i l else 10 * nvT tp i l + tp (i + l) - 48
/-- both read the same number -/
theorem nv_vl {tp : Nat → Int} {i : Nat} : ∀ k, (∀ j, j < k → fgT (tp (i + j))) → (0 ≤ nvT tp i k ∧ nvT tp i k ≤ 999999) ∧ ((nvT tp i k ≤ 9999 ∧ vlT tp i k = nvT tp i k) ∨ (9999 < nvT tp i k ∧ vlT tp i k = 10000))
  | 0, _ => by
    have e1 : nvT tp i 0 = 0 := rfl
    have e2 : vlT tp i 0 = 0 := rfl
    omega
  | k + 1, h => by
    have ih := nv_vl k (fun j hj => h j (by omega))
    have g := h k (by omega)
    have e1 : nvT tp i (k + 1) = if 99999 < nvT tp i k then nvT tp i k else 10 * nvT tp i k + tp (i + k) - 48 := rfl
    have e2 : vlT tp i (k + 1) = if vlT tp i k * 10 + tp (i + k) - 48 ≤ 10000 then vlT tp i k * 10 + tp (i + k) - 48 else 10000 := rfl
    rw [e1, e2]
    split <;> split <;> omega
-- a word's letters
def wlT (w : Nat) : Nat := if wcT (6 * w + 2) = 32 then 2 else if wcT (6 * w + 3) = 32 then 3 else if wcT (6 * w + 4) = 32 then 4 else if wcT (6 * w + 5) = 32 then 5 else 6
def pkT (f : Nat → Nat) : Nat → Nat
  | 0 => 0
  | l + 1 => pkT f l * 256 + f l
def wzT (w : Nat) : Nat := pkT (fun j => (wcT (6 * w + j)).toNat) (wlT w)
theorem pkT_eq {f g : Nat → Nat} : ∀ l m, (∀ j, j < l → 1 ≤ f j ∧ f j < 256) → (∀ j, j < m → 1 ≤ g j ∧ g j < 256) → pkT f l = pkT g m → l = m ∧ ∀ j, j < l → f j = g j
  | 0, 0, _, _, _ => ⟨rfl, fun j h => absurd h (Nat.not_lt_zero j)⟩
  | 0, m + 1, _, hg, h => by
    have g1 := hg m (by omega)
    have e : pkT g (m + 1) = pkT g m * 256 + g m := rfl
    have e0 : pkT f 0 = 0 := rfl
    omega
  | l + 1, 0, hf, _, h => by
    have g1 := hf l (by omega)
    have e : pkT f (l + 1) = pkT f l * 256 + f l := rfl
    have e0 : pkT g 0 = 0 := rfl
    omega
  | l + 1, m + 1, hf, hg, h => by
    have e : pkT f (l + 1) = pkT f l * 256 + f l := rfl
    have e2 : pkT g (m + 1) = pkT g m * 256 + g m := rfl
    have a := hf l (by omega)
    have b := hg m (by omega)
    obtain ⟨x, y⟩ := pkT_eq l m (fun j hj => hf j (by omega)) (fun j hj => hg j (by omega)) (by omega)
    subst x
    refine ⟨rfl, fun j hj => ?_⟩
    by_cases z : j = l
    · rw [z]; omega
    · exact y j (by omega)
theorem wl_ok : ∀ w, w < 26 → (2 ≤ wlT w ∧ wlT w ≤ 6) ∧ (∀ j, j < 6 → (j < wlT w → 97 ≤ wcT (6 * w + j) ∧ wcT (6 * w + j) ≤ 122) ∧ (wlT w ≤ j → wcT (6 * w + j) = 32)) := by decide +kernel
theorem wz_lt : ∀ w, w < 26 → wzT w < 2 ^ 48 := by decide +kernel
theorem wz_inj : ∀ w, w < 26 → ∀ v, v < 26 → wzT w = wzT v → w = v := by decide +kernel
theorem wd_pk {tp : Nat → Int} (h : ∀ j, 0 ≤ tp j ∧ tp j ≤ 255) (i : Nat) : ∀ l, l ≤ 6 → wdT tp i l = pkT (fun j => (tp (i + j)).toNat) l ∧ wdT tp i l < 2 ^ (8 * l)
  | 0, _ => ⟨rfl, by show 0 < 2 ^ 0; decide⟩
  | l + 1, hl => by
    obtain ⟨a, b⟩ := wd_pk h i l (by omega)
    have g := h (i + l)
    have e : wdT tp i (l + 1) = if wdT tp i l / 2 ^ 48 ≠ 0 then 2 ^ 60 else wdT tp i l * 256 + (tp (i + l)).toNat := rfl
    have p : 2 ^ (8 * l) ≤ 2 ^ 48 := Nat.pow_le_pow_right (by omega) (by omega)
    have z : wdT tp i l / 2 ^ 48 = 0 := Nat.div_eq_of_lt (by omega)
    have p2 : 2 ^ (8 * (l + 1)) = 2 ^ (8 * l) * 256 := by rw [show 8 * (l + 1) = 8 * l + 8 by omega, Nat.pow_add]
    rw [e, if_neg (fun y => y z), p2]
    exact ⟨by rw [a]; rfl, by omega⟩
theorem wd_7 {tp : Nat → Int} (h : ∀ j, 0 ≤ tp j ∧ tp j ≤ 255) (i : Nat) (h1 : 1 ≤ tp i) : ∀ l, (1 ≤ l → l ≤ 7 → 2 ^ (8 * (l - 1)) ≤ wdT tp i l) ∧ (7 ≤ l → 2 ^ 48 ≤ wdT tp i l)
  | 0 => ⟨fun z => by omega, fun z => by omega⟩
  | l + 1 => by
    obtain ⟨a, b⟩ := wd_7 h i h1 l
    have g := h (i + l)
    have e : wdT tp i (l + 1) = if wdT tp i l / 2 ^ 48 ≠ 0 then 2 ^ 60 else wdT tp i l * 256 + (tp (i + l)).toNat := rfl
    have key : 1 ≤ l + 1 → l + 1 ≤ 7 → 2 ^ (8 * (l + 1 - 1)) ≤ wdT tp i (l + 1) := by
      intro _ h7
      rw [e, Nat.add_sub_cancel]
      by_cases l0 : l = 0
      · subst l0
        have e0 : wdT tp i 0 = 0 := rfl
        rw [e0]
        show 1 ≤ 0 * 256 + (tp (i + 0)).toNat
        rw [Nat.add_zero]
        omega
      · have c := a (by omega) (by omega)
        have lt := (wd_pk h i l (by omega)).2
        have p : 2 ^ (8 * l) ≤ 2 ^ 48 := Nat.pow_le_pow_right (by omega) (by omega)
        have z : wdT tp i l / 2 ^ 48 = 0 := Nat.div_eq_of_lt (by omega)
        have p2 : 2 ^ (8 * l) = 2 ^ (8 * (l - 1)) * 256 := by rw [show 8 * l = 8 * (l - 1) + 8 by omega, Nat.pow_add]
        rw [if_neg (fun y => y z), p2]
        omega
    refine ⟨key, fun h7 => ?_⟩
    by_cases l7 : l + 1 = 7
    · have k := key (by omega) (by omega)
      rw [l7] at k ⊢
      exact k
    · have c := b (by omega)
      rw [e]
      by_cases z : wdT tp i l / 2 ^ 48 ≠ 0
      · rw [if_pos z]; decide
      · have : wdT tp i l / 2 ^ 48 = 0 := Classical.byContradiction z
        omega
/-- a word is known by its packed letters -/
theorem wm_wz {tp : Nat → Int} (h : ∀ j, 0 ≤ tp j ∧ tp j ≤ 255) {i l w : Nat} (hl : 1 ≤ l) (hlt : ∀ j, j < l → ltT (tp (i + j))) (hw : w < 26) : wdT tp i l = wzT w ↔ wmT tp i l w := by
  obtain ⟨⟨k1, k2⟩, k3⟩ := wl_ok w hw
  have g0 := hlt 0 (by omega)
  rw [Nat.add_zero] at g0
  constructor
  · intro z
    by_cases l6 : l ≤ 6
    · rw [(wd_pk h i l l6).1] at z
      obtain ⟨a, b⟩ := pkT_eq l (wlT w) (fun j hj => by have := hlt j hj; omega) (fun j hj => by have := (k3 j (by omega)).1 hj; omega) z
      refine ⟨l6, fun j hj => ?_, ?_⟩
      · have c := b j hj
        have g := hlt j hj
        have g2 := (k3 j (by omega)).1 (by omega)
        omega
      · by_cases q : l = 6
        · exact Or.inl q
        · exact Or.inr ((k3 l (by omega)).2 (by omega))
    · have a := (wd_7 h i (by omega) l).2 (by omega)
      have b := wz_lt w hw
      omega
  · rintro ⟨a, b, c⟩
    have lw : l = wlT w := by
      have l1 : l ≤ wlT w := Classical.byContradiction (fun z => by
        have g := hlt (wlT w) (by omega)
        have x := (k3 (wlT w) (by omega)).2 (Nat.le_refl _)
        have y := b (wlT w) (by omega)
        omega)
      have l2 : wlT w ≤ l := Classical.byContradiction (fun z => by
        have x := (k3 l (by omega)).1 (by omega)
        rcases c with c | c
        · omega
        · omega)
      omega
    rw [(wd_pk h i l a).1]
    have pc : ∀ m, m ≤ l → pkT (fun j => (tp (i + j)).toNat) m = pkT (fun j => (wcT (6 * w + j)).toNat) m := by
      intro m
      induction m with
      | zero => intro _; rfl
      | succ m ih =>
        intro hm
        show pkT (fun j => (tp (i + j)).toNat) m * 256 + (tp (i + m)).toNat = pkT (fun j => (wcT (6 * w + j)).toNat) m * 256 + (wcT (6 * w + m)).toNat
        rw [ih (by omega), b m (by omega)]
    unfold wzT
    rw [pc l (Nat.le_refl _), lw]
theorem wk_wz {tp : Nat → Int} (h : ∀ j, 0 ≤ tp j ∧ tp j ≤ 255) {i l w : Nat} (hl : 1 ≤ l) (hlt : ∀ j, j < l → ltT (tp (i + j))) (hw : w < 26) : wdT tp i l = wzT w ↔ wkT tp i l = 300 + (w : Int) := by
  have fl := fnd_le (p := fun w => wmT tp i l w) 26
  unfold wkT
  constructor
  · intro z
    have m := (wm_wz h hl hlt hw).mp z
    by_cases f : fnd (fun w => wmT tp i l w) 26 = -1
    · exact absurd m (fnd_no f w hw)
    · rw [if_neg f]
      have y := fnd_yes f
      have e := (wm_wz h hl hlt (w := (fnd (fun w => wmT tp i l w) 26).toNat) (by omega)).mpr y
      have := wz_inj w hw _ (by omega) (z.symm.trans e)
      omega
  · intro z
    by_cases f : fnd (fun w => wmT tp i l w) 26 = -1
    · rw [if_pos f] at z; omega
    · rw [if_neg f] at z
      have y := fnd_yes f
      have e : (fnd (fun w => wmT tp i l w) 26).toNat = w := by omega
      rw [e] at y
      exact (wm_wz h hl hlt hw).mpr y
