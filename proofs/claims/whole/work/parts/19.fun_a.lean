/-! ===== functions out of the methods ===== -/
def a_inb (i : Int32) (n : Nat) : Bool := decide (¬ (i < 0 ∨ n ≤ i.toNatClampNeg))
theorem a_inb_vp {i : Int32} {n : Nat} (h : a_inb i n = true) : vp_in i n := by
  unfold a_inb at h
  have h1 := of_decide_eq_true h
  exact h1
theorem a_inb_of {i : Int32} {n : Nat} (h : vp_in i n) : a_inb i n = true := by
  unfold a_inb
  exact decide_eq_true h
theorem a_inb_n {k n : Nat} (h : k < n) (hn : n < 2 ^ 31) : a_inb (nI k) n = true := a_inb_of (vp_in_nI h hn)
theorem a_inb_lt {i : Int32} {n : Nat} (h : a_inb i n = true) : i.toNatClampNeg < n := by
  have h1 := a_inb_vp h
  unfold vp_in at h1
  omega
theorem a_inb_nI {i : Int32} {n : Nat} (h : a_inb i n = true) : i = nI i.toNatClampNeg := by
  have h1 := a_inb_vp h
  unfold vp_in at h1
  obtain ⟨j, hj, e⟩ := nI_of (x := i) (fun q => h1 (Or.inl q))
  rw [e, nI_clamp hj]
theorem a_dom4 {i : Int32} (h : a_inb i 4 = true) : 58 + 5 * i.toNatClampNeg = 58 ∨ 58 + 5 * i.toNatClampNeg = 63 ∨ 58 + 5 * i.toNatClampNeg = 68 ∨ 58 + 5 * i.toNatClampNeg = 73 := by
  have := a_inb_lt h
  omega
theorem a_ite {c : Prop} [inst : Decidable c] {α : Type} {x y z : α} {P : Prop} (h : (if c then x else y) = z) (ht : c → x = z → P) (hf : ¬ c → y = z → P) : P := by
  by_cases hc : c
  · rw [if_pos hc] at h; exact ht hc h
  · rw [if_neg hc] at h; exact hf hc h
theorem a_and {a b : Bool} (h : (a && b) = true) : a = true ∧ b = true := Bool.and_eq_true_iff.mp h
theorem a_nz {v : Int32} (h : v = 0 ∨ v = 1) : narrow .boolean (.int v) = .int v := by rcases h with rfl | rfl <;> rfl
def a_rt : aL → Option Value
  | [] => none
  | a :: _ => a

def FX0_follows (d : aI) (e : aJ) (x1 : Int32) (x2 : Int32) : Option (Int32 × aI × aJ) := (bif ((a_inb x2 5) && (a_inb x2 5) && (a_inb x1 5)) then (if ((a_shr (d 23 (x2).toNatClampNeg) ((d 22 (x2).toNatClampNeg) - (nI 1))) &&& (nI 1)) = ((d 23 (x1).toNatClampNeg) &&& (nI 1)) then (some ((nI 1), d, e)) else (some ((nI 0), d, e))) else none)
theorem evX0_follows {Γ : aG × Launch} {d : aI} {e : aJ} {x1 : Int32} {x2 : Int32} {q : Int32 × aI × aJ} (h : FX0_follows d e x1 x2 = some q) : Ev Γ 0 mX0_follows [.ref 21, .int x1, .int x2] d e (some (.int q.1)) q.2.1 q.2.2 := by
  refine Ev.of (by decide) rfl (Nat.le_of_ble_eq_true rfl) (fun z => by cases z) ?_
  show Rn Γ 0 mX0_follows 0 [some (.ref 21), some (.int x1), some (.int x2), none] [] d e _ _ _
  unfold FX0_follows at h
  obtain ⟨g1, h⟩ := a_cond h
  obtain ⟨g1x2, g1_2⟩ := a_and g1
  obtain ⟨g1x1, g1_1⟩ := a_and g1x2
  have g1_0 := g1x1
  refine a_ite h (fun c2 h => ?_) (fun c2 h => ?_)
  · refine bX0_follows_0 ⟨(a_inb_vp g1_0), (a_inb_vp g1_1), (a_inb_vp g1_2)⟩ (fun z => absurd c2 z) (fun _ => ?_)
    refine bX0_follows_30 ?_
    cases h
    exact bX0_follows_35 (a_nz (Or.inr rfl))
  · refine bX0_follows_0 ⟨(a_inb_vp g1_0), (a_inb_vp g1_1), (a_inb_vp g1_2)⟩ (fun _ => ?_) (fun z => absurd z c2)
    refine bX0_follows_34 ?_
    cases h
    exact bX0_follows_35 (a_nz (Or.inl rfl))

def FX1_push (d : aI) (e : aJ) (x1 : Int32) : Option (Unit × aI × aJ) := (if (nI 64) ≤ (d 93 1) then (some ((), d, e)) else (bif ((a_inb (d 93 1) 64)) then (some ((), (uI (uI d 94 ((d 93 1)).toNatClampNeg x1) 93 1 ((d 93 1) + (nI 1))), e)) else none))
theorem evX1_push {Γ : aG × Launch} {d : aI} {e : aJ} {x1 : Int32} {q : Unit × aI × aJ} (h : FX1_push d e x1 = some q) : Ev Γ 0 mX1_push [.ref 93, .int x1] d e none q.2.1 q.2.2 := by
  refine Ev.of (by decide) rfl (Nat.le_of_ble_eq_true rfl) (fun z => by cases z) ?_
  show Rn Γ 0 mX1_push 0 [some (.ref 93), some (.int x1)] [] d e _ _ _
  unfold FX1_push at h
  refine a_ite h (fun c1 h => ?_) (fun c1 h => ?_)
  · refine bX1_push_0 (fun _ => ?_) (fun z => absurd c1 z)
    cases h
    exact bX1_push_29
  · refine bX1_push_0 (fun z => absurd z c1) (fun _ => ?_)
    obtain ⟨g2, h⟩ := a_cond h
    refine bX1_push_9 (a_inb_vp g2) ?_
    cases h
    exact bX1_push_29

def FX1_pop (d : aI) (e : aJ)  : Option (Int32 × aI × aJ) := (if 0 < (d 93 1) then (bif ((a_inb ((d 93 1) - (nI 1)) 64)) then (some ((d 94 (((d 93 1) - (nI 1))).toNatClampNeg), (uI d 93 1 ((d 93 1) - (nI 1))), e)) else none) else (some ((nI 0), d, e)))
theorem evX1_pop {Γ : aG × Launch} {d : aI} {e : aJ}  {q : Int32 × aI × aJ} (h : FX1_pop d e  = some q) : Ev Γ 0 mX1_pop [.ref 93] d e (some (.int q.1)) q.2.1 q.2.2 := by
  refine Ev.of (by decide) rfl (Nat.le_of_ble_eq_true rfl) (fun z => by cases z) ?_
  show Rn Γ 0 mX1_pop 0 [some (.ref 93)] [] d e _ _ _
  unfold FX1_pop at h
  refine a_ite h (fun c1 h => ?_) (fun c1 h => ?_)
  · refine bX1_pop_0 (fun _ => ?_) (fun z => absurd c1 z)
    obtain ⟨g2, h⟩ := a_cond h
    cases h
    exact bX1_pop_9 (a_inb_vp g2)
  · refine bX1_pop_0 (fun z => absurd z c1) (fun _ => ?_)
    cases h
    exact bX1_pop_7

def FX1_isName (d : aI) (e : aJ) (x0 : Int32) : Option (Int32 × aI × aJ) := (if x0 = (nI 308) then (some ((nI 1), d, e)) else (if x0 = (nI 309) then (some ((nI 1), d, e)) else (if x0 = (nI 310) then (some ((nI 1), d, e)) else (if x0 < (nI 321) then (some ((nI 0), d, e)) else (if (nI 325) < x0 then (some ((nI 0), d, e)) else (some ((nI 1), d, e)))))))
theorem evX1_isName {Γ : aG × Launch} {d : aI} {e : aJ} {x0 : Int32} {q : Int32 × aI × aJ} (h : FX1_isName d e x0 = some q) : Ev Γ 0 mX1_isName [.int x0] d e (some (.int q.1)) q.2.1 q.2.2 := by
  refine Ev.of (by decide) rfl (Nat.le_of_ble_eq_true rfl) (fun z => by cases z) ?_
  show Rn Γ 0 mX1_isName 0 [some (.int x0)] [] d e _ _ _
  unfold FX1_isName at h
  refine a_ite h (fun c1 h => ?_) (fun c1 h => ?_)
  · refine bX1_isName_0 (fun _ => ?_) (fun z => absurd c1 z)
    refine bX1_isName_35 ?_
    cases h
    exact bX1_isName_40 (a_nz (Or.inr rfl))
  · refine bX1_isName_0 (fun z => absurd z c1) (fun _ => ?_)
    refine a_ite h (fun c2 h => ?_) (fun c2 h => ?_)
    · refine bX1_isName_7 (fun _ => ?_) (fun z => absurd c2 z)
      refine bX1_isName_35 ?_
      cases h
      exact bX1_isName_40 (a_nz (Or.inr rfl))
    · refine bX1_isName_7 (fun z => absurd z c2) (fun _ => ?_)
      refine a_ite h (fun c3 h => ?_) (fun c3 h => ?_)
      · refine bX1_isName_14 (fun _ => ?_) (fun z => absurd c3 z)
        refine bX1_isName_35 ?_
        cases h
        exact bX1_isName_40 (a_nz (Or.inr rfl))
      · refine bX1_isName_14 (fun z => absurd z c3) (fun _ => ?_)
        refine a_ite h (fun c4 h => ?_) (fun c4 h => ?_)
        · refine bX1_isName_21 (fun _ => ?_) (fun z => absurd c4 z)
          refine bX1_isName_39 ?_
          cases h
          exact bX1_isName_40 (a_nz (Or.inl rfl))
        · refine bX1_isName_21 (fun z => absurd z c4) (fun _ => ?_)
          refine a_ite h (fun c5 h => ?_) (fun c5 h => ?_)
          · refine bX1_isName_28 (fun _ => ?_) (fun z => absurd c5 z)
            refine bX1_isName_39 ?_
            cases h
            exact bX1_isName_40 (a_nz (Or.inl rfl))
          · refine bX1_isName_28 (fun z => absurd z c5) (fun _ => ?_)
            refine bX1_isName_35 ?_
            cases h
            exact bX1_isName_40 (a_nz (Or.inr rfl))

def FX1_compares (d : aI) (e : aJ) (x0 : Int32) (y1 : Int64) (y3 : Int64) : Option (Int32 × aI × aJ) := (if x0 = (nI 3) then (if 0 < (lg_cmp y1 y3) then (some ((nI 0), d, e)) else (some ((nI 1), d, e))) else (if x0 = (nI 4) then (if (lg_cmp y1 y3) < 0 then (some ((nI 0), d, e)) else (some ((nI 1), d, e))) else (if x0 = (nI 60) then (if 0 ≤ (lg_cmp y1 y3) then (some ((nI 0), d, e)) else (some ((nI 1), d, e))) else (if x0 = (nI 61) then (if (lg_cmp y1 y3) = 0 then (some ((nI 1), d, e)) else (some ((nI 0), d, e))) else (if x0 = (nI 62) then (if (lg_cmp y1 y3) ≤ 0 then (some ((nI 0), d, e)) else (some ((nI 1), d, e))) else (if (lg_cmp y1 y3) = 0 then (some ((nI 0), d, e)) else (some ((nI 1), d, e))))))))
theorem evX1_compares {Γ : aG × Launch} {d : aI} {e : aJ} {x0 : Int32} {y1 : Int64} {y3 : Int64} {q : Int32 × aI × aJ} (h : FX1_compares d e x0 y1 y3 = some q) : Ev Γ 0 mX1_compares [.int x0, .long y1, .long y3] d e (some (.int q.1)) q.2.1 q.2.2 := by
  refine Ev.of (by decide) rfl (Nat.le_of_ble_eq_true rfl) (fun z => by cases z) ?_
  show Rn Γ 0 mX1_compares 0 [some (.int x0), some (.long y1), none, some (.long y3), none] [] d e _ _ _
  unfold FX1_compares at h
  refine a_ite h (fun c1 h => ?_) (fun c1 h => ?_)
  · refine bX1_compares_0 (fun n0 _ _ _ _ => absurd c1 n0) (fun _ => ?_) (fun z => absurd (c1.symm.trans z) (by decide)) (fun z => absurd (c1.symm.trans z) (by decide)) (fun z => absurd (c1.symm.trans z) (by decide)) (fun z => absurd (c1.symm.trans z) (by decide))
    refine a_ite h (fun c2 h => ?_) (fun c2 h => ?_)
    · refine bX1_compares_64 (fun _ => ?_) (fun z => absurd c2 z)
      refine bX1_compares_74 ?_
      cases h
      exact bX1_compares_75 (a_nz (Or.inl rfl))
    · refine bX1_compares_64 (fun z => absurd z c2) (fun _ => ?_)
      refine bX1_compares_70 ?_
      cases h
      exact bX1_compares_75 (a_nz (Or.inr rfl))
  · skip
    refine a_ite h (fun c3 h => ?_) (fun c3 h => ?_)
    · refine bX1_compares_0 (fun _ n1 _ _ _ => absurd c3 n1) (fun z => absurd z c1) (fun _ => ?_) (fun z => absurd (c3.symm.trans z) (by decide)) (fun z => absurd (c3.symm.trans z) (by decide)) (fun z => absurd (c3.symm.trans z) (by decide))
      refine a_ite h (fun c4 h => ?_) (fun c4 h => ?_)
      · refine bX1_compares_88 (fun _ => ?_) (fun z => absurd c4 z)
        refine bX1_compares_98 ?_
        cases h
        exact bX1_compares_99 (a_nz (Or.inl rfl))
      · refine bX1_compares_88 (fun z => absurd z c4) (fun _ => ?_)
        refine bX1_compares_94 ?_
        cases h
        exact bX1_compares_99 (a_nz (Or.inr rfl))
    · skip
      refine a_ite h (fun c5 h => ?_) (fun c5 h => ?_)
      · refine bX1_compares_0 (fun _ _ n2 _ _ => absurd c5 n2) (fun z => absurd z c1) (fun z => absurd z c3) (fun _ => ?_) (fun z => absurd (c5.symm.trans z) (by decide)) (fun z => absurd (c5.symm.trans z) (by decide))
        refine a_ite h (fun c6 h => ?_) (fun c6 h => ?_)
        · refine bX1_compares_52 (fun _ => ?_) (fun z => absurd c6 z)
          refine bX1_compares_62 ?_
          cases h
          exact bX1_compares_63 (a_nz (Or.inl rfl))
        · refine bX1_compares_52 (fun z => absurd z c6) (fun _ => ?_)
          refine bX1_compares_58 ?_
          cases h
          exact bX1_compares_63 (a_nz (Or.inr rfl))
      · skip
        refine a_ite h (fun c7 h => ?_) (fun c7 h => ?_)
        · refine bX1_compares_0 (fun _ _ _ n3 _ => absurd c7 n3) (fun z => absurd z c1) (fun z => absurd z c3) (fun z => absurd z c5) (fun _ => ?_) (fun z => absurd (c7.symm.trans z) (by decide))
          refine a_ite h (fun c8 h => ?_) (fun c8 h => ?_)
          · refine bX1_compares_100 (fun z => absurd c8 z) (fun _ => ?_)
            refine bX1_compares_106 ?_
            cases h
            exact bX1_compares_111 (a_nz (Or.inr rfl))
          · refine bX1_compares_100 (fun _ => ?_) (fun z => absurd z c8)
            refine bX1_compares_110 ?_
            cases h
            exact bX1_compares_111 (a_nz (Or.inl rfl))
        · skip
          refine a_ite h (fun c9 h => ?_) (fun c9 h => ?_)
          · refine bX1_compares_0 (fun _ _ _ _ n4 => absurd c9 n4) (fun z => absurd z c1) (fun z => absurd z c3) (fun z => absurd z c5) (fun z => absurd z c7) (fun _ => ?_)
            refine a_ite h (fun c10 h => ?_) (fun c10 h => ?_)
            · refine bX1_compares_76 (fun _ => ?_) (fun z => absurd c10 z)
              refine bX1_compares_86 ?_
              cases h
              exact bX1_compares_87 (a_nz (Or.inl rfl))
            · refine bX1_compares_76 (fun z => absurd z c10) (fun _ => ?_)
              refine bX1_compares_82 ?_
              cases h
              exact bX1_compares_87 (a_nz (Or.inr rfl))
          · skip
            refine bX1_compares_0 (fun _ _ _ _ _ => ?_) (fun z => absurd z c1) (fun z => absurd z c3) (fun z => absurd z c5) (fun z => absurd z c7) (fun z => absurd z c9)
            refine a_ite h (fun c11 h => ?_) (fun c11 h => ?_)
            · refine bX1_compares_112 (fun _ => ?_) (fun z => absurd c11 z)
              refine bX1_compares_122 ?_
              cases h
              exact bX1_compares_123 (a_nz (Or.inl rfl))
            · refine bX1_compares_112 (fun z => absurd z c11) (fun _ => ?_)
              refine bX1_compares_118 ?_
              cases h
              exact bX1_compares_123 (a_nz (Or.inr rfl))

def FX1_limited (d : aI) (e : aJ) (y0 : Int64) : Option (Int32 × aI × aJ) := (some ((Int64.toInt32 (a_maxJ (-(lN 1000000)) (a_minJ (lN 1000000) y0))), d, e))
theorem evX1_limited {Γ : aG × Launch} {d : aI} {e : aJ} {y0 : Int64} {q : Int32 × aI × aJ} (h : FX1_limited d e y0 = some q) : Ev Γ 0 mX1_limited [.long y0] d e (some (.int q.1)) q.2.1 q.2.2 := by
  refine Ev.of (by decide) rfl (Nat.le_of_ble_eq_true rfl) (fun z => by cases z) ?_
  show Rn Γ 0 mX1_limited 0 [some (.long y0), none] [] d e _ _ _
  unfold FX1_limited at h
  cases h
  exact bX1_limited_0

def FX2_isHouse (d : aI) (e : aJ) (x1 : Int32) : Option (Int32 × aI × aJ) := (if x1 < 0 then (some ((nI 0), d, e)) else (if (d 2 8) ≤ x1 then (some ((nI 0), d, e)) else (some ((nI 1), d, e))))
theorem evX2_isHouse {Γ : aG × Launch} {d : aI} {e : aJ} {x1 : Int32} {q : Int32 × aI × aJ} (h : FX2_isHouse d e x1 = some q) : Ev Γ 0 mX2_isHouse [.ref 2, .int x1] d e (some (.int q.1)) q.2.1 q.2.2 := by
  refine Ev.of (by decide) rfl (Nat.le_of_ble_eq_true rfl) (fun z => by cases z) ?_
  show Rn Γ 0 mX2_isHouse 0 [some (.ref 2), some (.int x1)] [] d e _ _ _
  unfold FX2_isHouse at h
  refine a_ite h (fun c1 h => ?_) (fun c1 h => ?_)
  · refine bX2_isHouse_0 (fun _ => ?_) (fun z => absurd c1 z)
    refine bX2_isHouse_16 ?_
    cases h
    exact bX2_isHouse_17 (a_nz (Or.inl rfl))
  · refine bX2_isHouse_0 (fun z => absurd z c1) (fun _ => ?_)
    refine a_ite h (fun c2 h => ?_) (fun c2 h => ?_)
    · refine bX2_isHouse_4 (fun _ => ?_) (fun z => absurd c2 z)
      refine bX2_isHouse_16 ?_
      cases h
      exact bX2_isHouse_17 (a_nz (Or.inl rfl))
    · refine bX2_isHouse_4 (fun z => absurd z c2) (fun _ => ?_)
      refine bX2_isHouse_12 ?_
      cases h
      exact bX2_isHouse_17 (a_nz (Or.inr rfl))

def FX2_isCat (d : aI) (e : aJ) (x1 : Int32) : Option (Int32 × aI × aJ) := (if x1 < 0 then (some ((nI 0), d, e)) else (if (d 2 9) ≤ x1 then (some ((nI 0), d, e)) else (some ((nI 1), d, e))))
theorem evX2_isCat {Γ : aG × Launch} {d : aI} {e : aJ} {x1 : Int32} {q : Int32 × aI × aJ} (h : FX2_isCat d e x1 = some q) : Ev Γ 0 mX2_isCat [.ref 2, .int x1] d e (some (.int q.1)) q.2.1 q.2.2 := by
  refine Ev.of (by decide) rfl (Nat.le_of_ble_eq_true rfl) (fun z => by cases z) ?_
  show Rn Γ 0 mX2_isCat 0 [some (.ref 2), some (.int x1)] [] d e _ _ _
  unfold FX2_isCat at h
  refine a_ite h (fun c1 h => ?_) (fun c1 h => ?_)
  · refine bX2_isCat_0 (fun _ => ?_) (fun z => absurd c1 z)
    refine bX2_isCat_16 ?_
    cases h
    exact bX2_isCat_17 (a_nz (Or.inl rfl))
  · refine bX2_isCat_0 (fun z => absurd z c1) (fun _ => ?_)
    refine a_ite h (fun c2 h => ?_) (fun c2 h => ?_)
    · refine bX2_isCat_4 (fun _ => ?_) (fun z => absurd c2 z)
      refine bX2_isCat_16 ?_
      cases h
      exact bX2_isCat_17 (a_nz (Or.inl rfl))
    · refine bX2_isCat_4 (fun z => absurd z c2) (fun _ => ?_)
      refine bX2_isCat_12 ?_
      cases h
      exact bX2_isCat_17 (a_nz (Or.inr rfl))

def FX2_build (d : aI) (e : aJ) (x1 : Int32) (x2 : Int32) : Option (Int32 × aI × aJ) := (if (d 2 8) < (nI 6) then (bif ((a_inb (d 2 8) 6) && (a_inb (d 2 8) 6) && (a_inb (d 2 8) 6)) then (some ((((d 2 8) + (nI 1)) - (nI 1)), (uI (uI (uI (uI d 3 ((d 2 8)).toNatClampNeg x1) 4 ((d 2 8)).toNatClampNeg x2) 5 ((d 2 8)).toNatClampNeg (nI 0)) 2 8 ((d 2 8) + (nI 1))), e)) else none) else (some ((-(nI 1)), d, e)))
theorem evX2_build {Γ : aG × Launch} {d : aI} {e : aJ} {x1 : Int32} {x2 : Int32} {q : Int32 × aI × aJ} (h : FX2_build d e x1 x2 = some q) : Ev Γ 0 mX2_build [.ref 2, .int x1, .int x2] d e (some (.int q.1)) q.2.1 q.2.2 := by
  refine Ev.of (by decide) rfl (Nat.le_of_ble_eq_true rfl) (fun z => by cases z) ?_
  show Rn Γ 0 mX2_build 0 [some (.ref 2), some (.int x1), some (.int x2)] [] d e _ _ _
  unfold FX2_build at h
  refine a_ite h (fun c1 h => ?_) (fun c1 h => ?_)
  · refine bX2_build_0 (fun _ => ?_) (fun z => absurd c1 z)
    obtain ⟨g2, h⟩ := a_cond h
    obtain ⟨g2x2, g2_2⟩ := a_and g2
    obtain ⟨g2x1, g2_1⟩ := a_and g2x2
    have g2_0 := g2x1
    cases h
    exact bX2_build_11 ⟨(a_inb_vp g2_0), (a_inb_vp g2_1), (a_inb_vp g2_2)⟩
  · refine bX2_build_0 (fun z => absurd z c1) (fun _ => ?_)
    cases h
    exact bX2_build_9

def FX2_bring (d : aI) (e : aJ) (x1 : Int32) (x2 : Int32) : Option (Int32 × aI × aJ) := (if (d 2 9) < (nI 6) then (bif ((a_inb (d 2 9) 6) && (a_inb (d 2 9) 6) && (a_inb (d 2 9) 6) && (a_inb (d 2 9) 6)) then (some ((((d 2 9) + (nI 1)) - (nI 1)), (uI (uI (uI (uI (uI d 7 ((d 2 9)).toNatClampNeg x1) 6 ((d 2 9)).toNatClampNeg x2) 8 ((d 2 9)).toNatClampNeg (-(nI 1))) 9 ((d 2 9)).toNatClampNeg (nI 0)) 2 9 ((d 2 9) + (nI 1))), e)) else none) else (some ((-(nI 1)), d, e)))
theorem evX2_bring {Γ : aG × Launch} {d : aI} {e : aJ} {x1 : Int32} {x2 : Int32} {q : Int32 × aI × aJ} (h : FX2_bring d e x1 x2 = some q) : Ev Γ 0 mX2_bring [.ref 2, .int x1, .int x2] d e (some (.int q.1)) q.2.1 q.2.2 := by
  refine Ev.of (by decide) rfl (Nat.le_of_ble_eq_true rfl) (fun z => by cases z) ?_
  show Rn Γ 0 mX2_bring 0 [some (.ref 2), some (.int x1), some (.int x2)] [] d e _ _ _
  unfold FX2_bring at h
  refine a_ite h (fun c1 h => ?_) (fun c1 h => ?_)
  · refine bX2_bring_0 (fun _ => ?_) (fun z => absurd c1 z)
    obtain ⟨g2, h⟩ := a_cond h
    obtain ⟨g2x3, g2_3⟩ := a_and g2
    obtain ⟨g2x2, g2_2⟩ := a_and g2x3
    obtain ⟨g2x1, g2_1⟩ := a_and g2x2
    have g2_0 := g2x1
    cases h
    exact bX2_bring_11 ⟨(a_inb_vp g2_0), (a_inb_vp g2_1), (a_inb_vp g2_2), (a_inb_vp g2_3)⟩
  · refine bX2_bring_0 (fun z => absurd z c1) (fun _ => ?_)
    cases h
    exact bX2_bring_9

def FX2_move (d : aI) (e : aJ) (x1 : Int32) (x2 : Int32) : Option (Unit × aI × aJ) := (bif ((a_inb x1 6) && (decide (¬ (nI 10) = 0)) && (a_inb x1 6)) then (some ((), (uI d 7 (x1).toNatClampNeg (a_irm (((d 7 (x1).toNatClampNeg) + x2) + (nI 10)) (nI 10))), e)) else none)
theorem evX2_move {Γ : aG × Launch} {d : aI} {e : aJ} {x1 : Int32} {x2 : Int32} {q : Unit × aI × aJ} (h : FX2_move d e x1 x2 = some q) : Ev Γ 0 mX2_move [.ref 2, .int x1, .int x2] d e none q.2.1 q.2.2 := by
  refine Ev.of (by decide) rfl (Nat.le_of_ble_eq_true rfl) (fun z => by cases z) ?_
  show Rn Γ 0 mX2_move 0 [some (.ref 2), some (.int x1), some (.int x2)] [] d e _ _ _
  unfold FX2_move at h
  obtain ⟨g1, h⟩ := a_cond h
  obtain ⟨g1x2, g1_2⟩ := a_and g1
  obtain ⟨g1x1, g1_1⟩ := a_and g1x2
  have g1_0 := g1x1
  cases h
  exact bX2_move_0 ⟨(a_inb_vp g1_0), (of_decide_eq_true g1_1), (a_inb_vp g1_2)⟩

def FX2_draw (d : aI) (e : aJ)  : Option (Int32 × aI × aJ) := (bif ((decide (¬ (nI 30931) = 0))) then (some ((d 2 12), (uI d 2 12 (a_irm (((d 2 12) * (nI 647)) + (nI 509)) (nI 30931))), e)) else none)
theorem evX2_draw {Γ : aG × Launch} {d : aI} {e : aJ}  {q : Int32 × aI × aJ} (h : FX2_draw d e  = some q) : Ev Γ 0 mX2_draw [.ref 2] d e (some (.int q.1)) q.2.1 q.2.2 := by
  refine Ev.of (by decide) rfl (Nat.le_of_ble_eq_true rfl) (fun z => by cases z) ?_
  show Rn Γ 0 mX2_draw 0 [some (.ref 2), none] [] d e _ _ _
  unfold FX2_draw at h
  obtain ⟨g1, h⟩ := a_cond h
  cases h
  exact bX2_draw_0 (of_decide_eq_true g1)

def FX2_take (d : aI) (e : aJ) (x1 : Int32) (x2 : Int32) (x3 : Int32) : Option (Int32 × aI × aJ) := (bif ((a_inb x2 6) && (a_inb x2 6) && (a_inb x2 6) && (a_inb x1 6) && (a_inb x1 6)) then (some ((a_min x3 (d 4 (x2).toNatClampNeg)), (uI (uI d 4 (x2).toNatClampNeg ((d 4 (x2).toNatClampNeg) - (a_min x3 (d 4 (x2).toNatClampNeg)))) 9 (x1).toNatClampNeg (a_min ((d 9 (x1).toNatClampNeg) + (a_min x3 (d 4 (x2).toNatClampNeg))) (nI 9999))), e)) else none)
theorem evX2_take {Γ : aG × Launch} {d : aI} {e : aJ} {x1 : Int32} {x2 : Int32} {x3 : Int32} {q : Int32 × aI × aJ} (h : FX2_take d e x1 x2 x3 = some q) : Ev Γ 0 mX2_take [.ref 2, .int x1, .int x2, .int x3] d e (some (.int q.1)) q.2.1 q.2.2 := by
  refine Ev.of (by decide) rfl (Nat.le_of_ble_eq_true rfl) (fun z => by cases z) ?_
  show Rn Γ 0 mX2_take 0 [some (.ref 2), some (.int x1), some (.int x2), some (.int x3), none] [] d e _ _ _
  unfold FX2_take at h
  obtain ⟨g1, h⟩ := a_cond h
  obtain ⟨g1x4, g1_4⟩ := a_and g1
  obtain ⟨g1x3, g1_3⟩ := a_and g1x4
  obtain ⟨g1x2, g1_2⟩ := a_and g1x3
  obtain ⟨g1x1, g1_1⟩ := a_and g1x2
  have g1_0 := g1x1
  cases h
  exact bX2_take_0 ⟨(a_inb_vp g1_0), (a_inb_vp g1_1), (a_inb_vp g1_2), (a_inb_vp g1_3), (a_inb_vp g1_4)⟩

def FX2_note (d : aI) (e : aJ) (x1 : Int32) (x2 : Int32) (x3 : Int32) : Option (Unit × aI × aJ) := (if (d 2 10) < (nI 25) then (bif ((a_inb (d 2 10) 25)) then (some ((), (uI (uI d 10 ((d 2 10)).toNatClampNeg (((((((d 2 11) * (nI 6)) + x1) * (nI 6)) + x2) * (nI 3)) + x3)) 2 10 ((d 2 10) + (nI 1))), e)) else none) else (bif ((decide (¬ (nI 1) < 0 ∧ ¬ (nI 0) < 0 ∧ ¬ (nI 24) < 0 ∧ 1 + 24 ≤ 25 ∧ 0 + 24 ≤ 25))) then (bif ((a_inb ((uI (uA d 10 (va_cpy (d 10) (d 10) 1 0 24)) 2 10 (nI 24)) 2 10) 25)) then (some ((), (uI (uI (uI (uA d 10 (va_cpy (d 10) (d 10) 1 0 24)) 2 10 (nI 24)) 10 (((uI (uA d 10 (va_cpy (d 10) (d 10) 1 0 24)) 2 10 (nI 24)) 2 10)).toNatClampNeg ((((((((uI (uA d 10 (va_cpy (d 10) (d 10) 1 0 24)) 2 10 (nI 24)) 2 11) * (nI 6)) + x1) * (nI 6)) + x2) * (nI 3)) + x3)) 2 10 (((uI (uA d 10 (va_cpy (d 10) (d 10) 1 0 24)) 2 10 (nI 24)) 2 10) + (nI 1))), e)) else none) else none))
theorem evX2_note {Γ : aG × Launch} {d : aI} {e : aJ} {x1 : Int32} {x2 : Int32} {x3 : Int32} {q : Unit × aI × aJ} (h : FX2_note d e x1 x2 x3 = some q) : Ev Γ 0 mX2_note [.ref 2, .int x1, .int x2, .int x3] d e none q.2.1 q.2.2 := by
  refine Ev.of (by decide) rfl (Nat.le_of_ble_eq_true rfl) (fun z => by cases z) ?_
  show Rn Γ 0 mX2_note 0 [some (.ref 2), some (.int x1), some (.int x2), some (.int x3)] [] d e _ _ _
  unfold FX2_note at h
  refine a_ite h (fun c1 h => ?_) (fun c1 h => ?_)
  · refine bX2_note_0 (fun _ => ?_) (fun z => absurd c1 z)
    obtain ⟨g2, h⟩ := a_cond h
    cases h
    exact bX2_note_30 (a_inb_vp g2)
  · refine bX2_note_0 (fun z => absurd z c1) (fun _ => ?_)
    obtain ⟨g3, h⟩ := a_cond h
    refine bX2_note_9 (of_decide_eq_true g3) ?_
    refine bX2_note_24 ?_
    obtain ⟨g4, h⟩ := a_cond h
    cases h
    exact bX2_note_30 (a_inb_vp g4)

def FX3_has (d : aI) (e : aJ) (o0 : Nat) (x1 : Int32) : Option (Int32 × aI × aJ) := (bif (decide (o0 = 13 ∨ o0 = 21)) then (if x1 < 0 then (some ((nI 0), d, e)) else (if (d o0 4) ≤ x1 then (some ((nI 0), d, e)) else (some ((nI 1), d, e)))) else none)
theorem evX3_has {Γ : aG × Launch} {d : aI} {e : aJ} {o0 : Nat} {x1 : Int32} {q : Int32 × aI × aJ} (h : FX3_has d e o0 x1 = some q) : Ev Γ 0 mX3_has [.ref o0, .int x1] d e (some (.int q.1)) q.2.1 q.2.2 := by
  refine Ev.of (by decide) rfl (Nat.le_of_ble_eq_true rfl) (fun z => by cases z) ?_
  show Rn Γ 0 mX3_has 0 [some (.ref o0), some (.int x1)] [] d e _ _ _
  unfold FX3_has at h
  obtain ⟨ho0x, h⟩ := a_cond h
  have ho0 := of_decide_eq_true ho0x
  refine a_ite h (fun c1 h => ?_) (fun c1 h => ?_)
  · refine bX3_has_0 (fun _ => ?_) (fun z => absurd c1 z)
    refine bX3_has_16 ?_
    cases h
    exact bX3_has_17 (a_nz (Or.inl rfl))
  · refine bX3_has_0 (fun z => absurd z c1) (fun _ => ?_)
    refine a_ite h (fun c2 h => ?_) (fun c2 h => ?_)
    · refine bX3_has_4 ho0 (fun _ => ?_) (fun z => absurd c2 z)
      refine bX3_has_16 ?_
      cases h
      exact bX3_has_17 (a_nz (Or.inl rfl))
    · refine bX3_has_4 ho0 (fun z => absurd z c2) (fun _ => ?_)
      refine bX3_has_12 ?_
      cases h
      exact bX3_has_17 (a_nz (Or.inr rfl))

def FX3_add (d : aI) (e : aJ) (o0 : Nat) (x1 : Int32) (x2 : Int32) (x3 : Int32) : Option (Int32 × aI × aJ) := (bif (decide (o0 = 13 ∨ o0 = 17 ∨ o0 = 21 ∨ o0 = 25)) then (if (d o0 4) < (d o0 0) then (bif ((a_inb (d o0 4) (szOf (o0 + 1))) && (a_inb ((uI d (o0 + 1) ((d o0 4)).toNatClampNeg x1) o0 4) (szOf (o0 + 2))) && (a_inb ((uI (uI d (o0 + 1) ((d o0 4)).toNatClampNeg x1) (o0 + 2) (((uI d (o0 + 1) ((d o0 4)).toNatClampNeg x1) o0 4)).toNatClampNeg x2) o0 4) (szOf (o0 + 3)))) then (some ((nI 1), (uI (uI (uI (uI d (o0 + 1) ((d o0 4)).toNatClampNeg x1) (o0 + 2) (((uI d (o0 + 1) ((d o0 4)).toNatClampNeg x1) o0 4)).toNatClampNeg x2) (o0 + 3) (((uI (uI d (o0 + 1) ((d o0 4)).toNatClampNeg x1) (o0 + 2) (((uI d (o0 + 1) ((d o0 4)).toNatClampNeg x1) o0 4)).toNatClampNeg x2) o0 4)).toNatClampNeg x3) o0 4 (((uI (uI (uI d (o0 + 1) ((d o0 4)).toNatClampNeg x1) (o0 + 2) (((uI d (o0 + 1) ((d o0 4)).toNatClampNeg x1) o0 4)).toNatClampNeg x2) (o0 + 3) (((uI (uI d (o0 + 1) ((d o0 4)).toNatClampNeg x1) (o0 + 2) (((uI d (o0 + 1) ((d o0 4)).toNatClampNeg x1) o0 4)).toNatClampNeg x2) o0 4)).toNatClampNeg x3) o0 4) + (nI 1))), e)) else none) else (some ((nI 0), d, e))) else none)
theorem evX3_add {Γ : aG × Launch} {d : aI} {e : aJ} {o0 : Nat} {x1 : Int32} {x2 : Int32} {x3 : Int32} {q : Int32 × aI × aJ} (h : FX3_add d e o0 x1 x2 x3 = some q) : Ev Γ 0 mX3_add [.ref o0, .int x1, .int x2, .int x3] d e (some (.int q.1)) q.2.1 q.2.2 := by
  refine Ev.of (by decide) rfl (Nat.le_of_ble_eq_true rfl) (fun z => by cases z) ?_
  show Rn Γ 0 mX3_add 0 [some (.ref o0), some (.int x1), some (.int x2), some (.int x3)] [] d e _ _ _
  unfold FX3_add at h
  obtain ⟨ho0x, h⟩ := a_cond h
  have ho0 := of_decide_eq_true ho0x
  refine a_ite h (fun c1 h => ?_) (fun c1 h => ?_)
  · refine bX3_add_0 ho0 (fun _ => ?_) (fun z => absurd c1 z)
    obtain ⟨g2, h⟩ := a_cond h
    obtain ⟨g2x2, g2_2⟩ := a_and g2
    obtain ⟨g2x1, g2_1⟩ := a_and g2x2
    have g2_0 := g2x1
    cases h
    exact bX3_add_13 ho0 ⟨(a_inb_vp g2_0), (a_inb_vp g2_1), (a_inb_vp g2_2)⟩
  · refine bX3_add_0 ho0 (fun z => absurd z c1) (fun _ => ?_)
    cases h
    exact bX3_add_11

def FX4_cell (d : aI) (e : aJ) (x0 : Int32) (x1 : Int32) : Option (Int32 × aI × aJ) := (some (((a_shl x0 (nI 6)) + x1), d, e))
theorem evX4_cell {Γ : aG × Launch} {d : aI} {e : aJ} {x0 : Int32} {x1 : Int32} {q : Int32 × aI × aJ} (h : FX4_cell d e x0 x1 = some q) : Ev Γ 0 mX4_cell [.int x0, .int x1] d e (some (.int q.1)) q.2.1 q.2.2 := by
  refine Ev.of (by decide) rfl (Nat.le_of_ble_eq_true rfl) (fun z => by cases z) ?_
  show Rn Γ 0 mX4_cell 0 [some (.int x0), some (.int x1)] [] d e _ _ _
  unfold FX4_cell at h
  cases h
  exact bX4_cell_0

def FX4_leastSteps (d : aI) (e : aJ)  : Option (Int32 × aI × aJ) := ((FX4_cell d e (nI 0) (nI 0)).bind fun q1 => (bif ((a_inb q1.1 448)) then (some ((q1.2.1 96 (q1.1).toNatClampNeg), q1.2.1, q1.2.2)) else none))
theorem evX4_leastSteps {Γ : aG × Launch} {d : aI} {e : aJ}  {q : Int32 × aI × aJ} (h : FX4_leastSteps d e  = some q) : Ev Γ 1 mX4_leastSteps [.ref 95] d e (some (.int q.1)) q.2.1 q.2.2 := by
  refine Ev.of (by decide) rfl (Nat.le_of_ble_eq_true rfl) (fun z => by cases z) ?_
  show Rn Γ 1 mX4_leastSteps 0 [some (.ref 95)] [] d e _ _ _
  unfold FX4_leastSteps at h
  obtain ⟨q1, hq1, h⟩ := Option.bind_eq_some_iff.mp h
  refine bX4_leastSteps_0 (evX4_cell hq1) (Nat.le_of_ble_eq_true rfl) ?_
  obtain ⟨g2, h⟩ := a_cond h
  cases h
  exact bX4_leastSteps_9 (a_inb_vp g2)

def FX5_blame (d : aI) (e : aJ) (x1 : Int32) : Option (Unit × aI × aJ) := (if (d 83 3) = 0 then (bif ((a_inb (d 83 9) 301)) then (some ((), (uI (uI d 83 3 x1) 83 4 (d 86 ((d 83 9)).toNatClampNeg)), e)) else none) else (some ((), d, e)))
theorem evX5_blame {Γ : aG × Launch} {d : aI} {e : aJ} {x1 : Int32} {q : Unit × aI × aJ} (h : FX5_blame d e x1 = some q) : Ev Γ 0 mX5_blame [.ref 83, .int x1] d e none q.2.1 q.2.2 := by
  refine Ev.of (by decide) rfl (Nat.le_of_ble_eq_true rfl) (fun z => by cases z) ?_
  show Rn Γ 0 mX5_blame 0 [some (.ref 83), some (.int x1)] [] d e _ _ _
  unfold FX5_blame at h
  refine a_ite h (fun c1 h => ?_) (fun c1 h => ?_)
  · refine bX5_blame_0 (fun z => absurd c1 z) (fun _ => ?_)
    obtain ⟨g2, h⟩ := a_cond h
    refine bX5_blame_7 (a_inb_vp g2) ?_
    cases h
    exact bX5_blame_25
  · refine bX5_blame_0 (fun _ => ?_) (fun z => absurd z c1)
    cases h
    exact bX5_blame_25

def FX5_isLetter (d : aI) (e : aJ) (x0 : Int32) : Option (Int32 × aI × aJ) := (if x0 < (nI 97) then (if x0 < (nI 65) then (some ((nI 0), d, e)) else (if (nI 90) < x0 then (some ((nI 0), d, e)) else (some ((nI 1), d, e)))) else (if x0 ≤ (nI 122) then (some ((nI 1), d, e)) else (if x0 < (nI 65) then (some ((nI 0), d, e)) else (if (nI 90) < x0 then (some ((nI 0), d, e)) else (some ((nI 1), d, e))))))
theorem evX5_isLetter {Γ : aG × Launch} {d : aI} {e : aJ} {x0 : Int32} {q : Int32 × aI × aJ} (h : FX5_isLetter d e x0 = some q) : Ev Γ 0 mX5_isLetter [.int x0] d e (some (.int q.1)) q.2.1 q.2.2 := by
  refine Ev.of (by decide) rfl (Nat.le_of_ble_eq_true rfl) (fun z => by cases z) ?_
  show Rn Γ 0 mX5_isLetter 0 [some (.int x0)] [] d e _ _ _
  unfold FX5_isLetter at h
  refine a_ite h (fun c1 h => ?_) (fun c1 h => ?_)
  · refine bX5_isLetter_0 (fun _ => ?_) (fun z => absurd c1 z)
    refine a_ite h (fun c2 h => ?_) (fun c2 h => ?_)
    · refine bX5_isLetter_12 (fun _ => ?_) (fun z => absurd c2 z)
      refine bX5_isLetter_28 ?_
      cases h
      exact bX5_isLetter_29 (a_nz (Or.inl rfl))
    · refine bX5_isLetter_12 (fun z => absurd z c2) (fun _ => ?_)
      refine a_ite h (fun c3 h => ?_) (fun c3 h => ?_)
      · refine bX5_isLetter_18 (fun _ => ?_) (fun z => absurd c3 z)
        refine bX5_isLetter_28 ?_
        cases h
        exact bX5_isLetter_29 (a_nz (Or.inl rfl))
      · refine bX5_isLetter_18 (fun z => absurd z c3) (fun _ => ?_)
        refine bX5_isLetter_24 ?_
        cases h
        exact bX5_isLetter_29 (a_nz (Or.inr rfl))
  · refine bX5_isLetter_0 (fun z => absurd z c1) (fun _ => ?_)
    refine a_ite h (fun c4 h => ?_) (fun c4 h => ?_)
    · refine bX5_isLetter_6 (fun _ => ?_) (fun z => absurd c4 z)
      refine bX5_isLetter_24 ?_
      cases h
      exact bX5_isLetter_29 (a_nz (Or.inr rfl))
    · refine bX5_isLetter_6 (fun z => absurd z c4) (fun _ => ?_)
      refine a_ite h (fun c5 h => ?_) (fun c5 h => ?_)
      · refine bX5_isLetter_12 (fun _ => ?_) (fun z => absurd c5 z)
        refine bX5_isLetter_28 ?_
        cases h
        exact bX5_isLetter_29 (a_nz (Or.inl rfl))
      · refine bX5_isLetter_12 (fun z => absurd z c5) (fun _ => ?_)
        refine a_ite h (fun c6 h => ?_) (fun c6 h => ?_)
        · refine bX5_isLetter_18 (fun _ => ?_) (fun z => absurd c6 z)
          refine bX5_isLetter_28 ?_
          cases h
          exact bX5_isLetter_29 (a_nz (Or.inl rfl))
        · refine bX5_isLetter_18 (fun z => absurd z c6) (fun _ => ?_)
          refine bX5_isLetter_24 ?_
          cases h
          exact bX5_isLetter_29 (a_nz (Or.inr rfl))

def FX5_isDigit (d : aI) (e : aJ) (x0 : Int32) : Option (Int32 × aI × aJ) := (if x0 < (nI 48) then (some ((nI 0), d, e)) else (if (nI 57) < x0 then (some ((nI 0), d, e)) else (some ((nI 1), d, e))))
theorem evX5_isDigit {Γ : aG × Launch} {d : aI} {e : aJ} {x0 : Int32} {q : Int32 × aI × aJ} (h : FX5_isDigit d e x0 = some q) : Ev Γ 0 mX5_isDigit [.int x0] d e (some (.int q.1)) q.2.1 q.2.2 := by
  refine Ev.of (by decide) rfl (Nat.le_of_ble_eq_true rfl) (fun z => by cases z) ?_
  show Rn Γ 0 mX5_isDigit 0 [some (.int x0)] [] d e _ _ _
  unfold FX5_isDigit at h
  refine a_ite h (fun c1 h => ?_) (fun c1 h => ?_)
  · refine bX5_isDigit_0 (fun _ => ?_) (fun z => absurd c1 z)
    refine bX5_isDigit_16 ?_
    cases h
    exact bX5_isDigit_17 (a_nz (Or.inl rfl))
  · refine bX5_isDigit_0 (fun z => absurd z c1) (fun _ => ?_)
    refine a_ite h (fun c2 h => ?_) (fun c2 h => ?_)
    · refine bX5_isDigit_6 (fun _ => ?_) (fun z => absurd c2 z)
      refine bX5_isDigit_16 ?_
      cases h
      exact bX5_isDigit_17 (a_nz (Or.inl rfl))
    · refine bX5_isDigit_6 (fun z => absurd z c2) (fun _ => ?_)
      refine bX5_isDigit_12 ?_
      cases h
      exact bX5_isDigit_17 (a_nz (Or.inr rfl))

def FX5_next (d : aI) (e : aJ)  : Option (Unit × aI × aJ) := (if (d 83 8) ≤ (d 83 9) then (bif ((a_inb (d 83 9) 301)) then (some ((), (uI d 83 10 (d 85 ((d 83 9)).toNatClampNeg)), e)) else none) else (bif ((a_inb ((uI d 83 9 ((d 83 9) + (nI 1))) 83 9) 301)) then (some ((), (uI (uI d 83 9 ((d 83 9) + (nI 1))) 83 10 ((uI d 83 9 ((d 83 9) + (nI 1))) 85 (((uI d 83 9 ((d 83 9) + (nI 1))) 83 9)).toNatClampNeg)), e)) else none))
theorem evX5_next {Γ : aG × Launch} {d : aI} {e : aJ}  {q : Unit × aI × aJ} (h : FX5_next d e  = some q) : Ev Γ 0 mX5_next [.ref 83] d e none q.2.1 q.2.2 := by
  refine Ev.of (by decide) rfl (Nat.le_of_ble_eq_true rfl) (fun z => by cases z) ?_
  show Rn Γ 0 mX5_next 0 [some (.ref 83)] [] d e _ _ _
  unfold FX5_next at h
  refine a_ite h (fun c1 h => ?_) (fun c1 h => ?_)
  · refine bX5_next_0 (fun _ => ?_) (fun z => absurd c1 z)
    obtain ⟨g2, h⟩ := a_cond h
    cases h
    exact bX5_next_21 (a_inb_vp g2)
  · refine bX5_next_0 (fun z => absurd z c1) (fun _ => ?_)
    refine bX5_next_11 ?_
    obtain ⟨g3, h⟩ := a_cond h
    cases h
    exact bX5_next_21 (a_inb_vp g3)

def FX5_expect (d : aI) (e : aJ) (x1 : Int32) : Option (Unit × aI × aJ) := (if (d 83 10) = x1 then ((FX5_next d e).bind fun q2 => (some ((), q2.2.1, q2.2.2))) else ((FX5_blame d e (nI 1)).bind fun q3 => (some ((), q3.2.1, q3.2.2))))
theorem evX5_expect {Γ : aG × Launch} {d : aI} {e : aJ} {x1 : Int32} {q : Unit × aI × aJ} (h : FX5_expect d e x1 = some q) : Ev Γ 1 mX5_expect [.ref 83, .int x1] d e none q.2.1 q.2.2 := by
  refine Ev.of (by decide) rfl (Nat.le_of_ble_eq_true rfl) (fun z => by cases z) ?_
  show Rn Γ 1 mX5_expect 0 [some (.ref 83), some (.int x1)] [] d e _ _ _
  unfold FX5_expect at h
  refine a_ite h (fun c1 h => ?_) (fun c1 h => ?_)
  · refine bX5_expect_0 (fun z => absurd c1 z) (fun _ => ?_)
    obtain ⟨q2, hq2, h⟩ := Option.bind_eq_some_iff.mp h
    refine bX5_expect_8 (evX5_next hq2) (Nat.le_of_ble_eq_true rfl) ?_
    refine bX5_expect_12 ?_
    cases h
    exact bX5_expect_20
  · refine bX5_expect_0 (fun _ => ?_) (fun z => absurd z c1)
    obtain ⟨q3, hq3, h⟩ := Option.bind_eq_some_iff.mp h
    refine bX5_expect_15 (evX5_blame hq3) (Nat.le_of_ble_eq_true rfl) ?_
    cases h
    exact bX5_expect_20

def FX5_number (d : aI) (e : aJ) (x1 : Int32) (x2 : Int32) : Option (Int32 × aI × aJ) := (if (d 83 10) = (nI 1) then (bif ((a_inb (d 83 9) 301)) then (if (d 87 ((d 83 9)).toNatClampNeg) < x1 then ((FX5_blame d e (nI 2)).bind fun q4 => (some (x1, q4.2.1, q4.2.2))) else (if (d 87 ((d 83 9)).toNatClampNeg) ≤ x2 then ((FX5_next d e).bind fun q6 => (some ((d 87 ((d 83 9)).toNatClampNeg), q6.2.1, q6.2.2))) else ((FX5_blame d e (nI 2)).bind fun q7 => (some (x1, q7.2.1, q7.2.2))))) else none) else ((FX5_blame d e (nI 1)).bind fun q8 => (some (x1, q8.2.1, q8.2.2))))
theorem evX5_number {Γ : aG × Launch} {d : aI} {e : aJ} {x1 : Int32} {x2 : Int32} {q : Int32 × aI × aJ} (h : FX5_number d e x1 x2 = some q) : Ev Γ 1 mX5_number [.ref 83, .int x1, .int x2] d e (some (.int q.1)) q.2.1 q.2.2 := by
  refine Ev.of (by decide) rfl (Nat.le_of_ble_eq_true rfl) (fun z => by cases z) ?_
  show Rn Γ 1 mX5_number 0 [some (.ref 83), some (.int x1), some (.int x2), none] [] d e _ _ _
  unfold FX5_number at h
  refine a_ite h (fun c1 h => ?_) (fun c1 h => ?_)
  · refine bX5_number_0 (fun _ => ?_) (fun z => absurd c1 z)
    obtain ⟨g2, h⟩ := a_cond h
    refine a_ite h (fun c3 h => ?_) (fun c3 h => ?_)
    · refine bX5_number_15 (a_inb_vp g2) (fun _ => ?_) (fun z => absurd c3 z)
      obtain ⟨q4, hq4, h⟩ := Option.bind_eq_some_iff.mp h
      refine bX5_number_35 (evX5_blame hq4) (Nat.le_of_ble_eq_true rfl) ?_
      cases h
      exact bX5_number_40
    · refine bX5_number_15 (a_inb_vp g2) (fun z => absurd z c3) (fun _ => ?_)
      refine a_ite h (fun c5 h => ?_) (fun c5 h => ?_)
      · refine bX5_number_30 (fun _ => ?_) (fun z => absurd c5 z)
        obtain ⟨q6, hq6, h⟩ := Option.bind_eq_some_iff.mp h
        refine bX5_number_42 (evX5_next hq6) (Nat.le_of_ble_eq_true rfl) ?_
        cases h
        exact bX5_number_46
      · refine bX5_number_30 (fun z => absurd z c5) (fun _ => ?_)
        obtain ⟨q7, hq7, h⟩ := Option.bind_eq_some_iff.mp h
        refine bX5_number_35 (evX5_blame hq7) (Nat.le_of_ble_eq_true rfl) ?_
        cases h
        exact bX5_number_40
  · refine bX5_number_0 (fun z => absurd z c1) (fun _ => ?_)
    obtain ⟨q8, hq8, h⟩ := Option.bind_eq_some_iff.mp h
    refine bX5_number_8 (evX5_blame hq8) (Nat.le_of_ble_eq_true rfl) ?_
    cases h
    exact bX5_number_13

def FX5_isComparison (d : aI) (e : aJ) (x0 : Int32) : Option (Int32 × aI × aJ) := (if x0 = (nI 60) then (some ((nI 1), d, e)) else (if x0 = (nI 3) then (some ((nI 1), d, e)) else (if x0 = (nI 62) then (some ((nI 1), d, e)) else (if x0 = (nI 4) then (some ((nI 1), d, e)) else (if x0 = (nI 61) then (some ((nI 1), d, e)) else (if x0 = (nI 35) then (some ((nI 1), d, e)) else (some ((nI 0), d, e))))))))
theorem evX5_isComparison {Γ : aG × Launch} {d : aI} {e : aJ} {x0 : Int32} {q : Int32 × aI × aJ} (h : FX5_isComparison d e x0 = some q) : Ev Γ 0 mX5_isComparison [.int x0] d e (some (.int q.1)) q.2.1 q.2.2 := by
  refine Ev.of (by decide) rfl (Nat.le_of_ble_eq_true rfl) (fun z => by cases z) ?_
  show Rn Γ 0 mX5_isComparison 0 [some (.int x0)] [] d e _ _ _
  unfold FX5_isComparison at h
  refine a_ite h (fun c1 h => ?_) (fun c1 h => ?_)
  · refine bX5_isComparison_0 (fun _ => ?_) (fun z => absurd c1 z)
    refine bX5_isComparison_34 ?_
    cases h
    exact bX5_isComparison_39 (a_nz (Or.inr rfl))
  · refine bX5_isComparison_0 (fun z => absurd z c1) (fun _ => ?_)
    refine a_ite h (fun c2 h => ?_) (fun c2 h => ?_)
    · refine bX5_isComparison_6 (fun _ => ?_) (fun z => absurd c2 z)
      refine bX5_isComparison_34 ?_
      cases h
      exact bX5_isComparison_39 (a_nz (Or.inr rfl))
    · refine bX5_isComparison_6 (fun z => absurd z c2) (fun _ => ?_)
      refine a_ite h (fun c3 h => ?_) (fun c3 h => ?_)
      · refine bX5_isComparison_11 (fun _ => ?_) (fun z => absurd c3 z)
        refine bX5_isComparison_34 ?_
        cases h
        exact bX5_isComparison_39 (a_nz (Or.inr rfl))
      · refine bX5_isComparison_11 (fun z => absurd z c3) (fun _ => ?_)
        refine a_ite h (fun c4 h => ?_) (fun c4 h => ?_)
        · refine bX5_isComparison_17 (fun _ => ?_) (fun z => absurd c4 z)
          refine bX5_isComparison_34 ?_
          cases h
          exact bX5_isComparison_39 (a_nz (Or.inr rfl))
        · refine bX5_isComparison_17 (fun z => absurd z c4) (fun _ => ?_)
          refine a_ite h (fun c5 h => ?_) (fun c5 h => ?_)
          · refine bX5_isComparison_22 (fun _ => ?_) (fun z => absurd c5 z)
            refine bX5_isComparison_34 ?_
            cases h
            exact bX5_isComparison_39 (a_nz (Or.inr rfl))
          · refine bX5_isComparison_22 (fun z => absurd z c5) (fun _ => ?_)
            refine a_ite h (fun c6 h => ?_) (fun c6 h => ?_)
            · refine bX5_isComparison_28 (fun z => absurd c6 z) (fun _ => ?_)
              refine bX5_isComparison_34 ?_
              cases h
              exact bX5_isComparison_39 (a_nz (Or.inr rfl))
            · refine bX5_isComparison_28 (fun _ => ?_) (fun z => absurd z c6)
              refine bX5_isComparison_38 ?_
              cases h
              exact bX5_isComparison_39 (a_nz (Or.inl rfl))

def FX5_blameUnless (d : aI) (e : aJ) (x1 : Int32) : Option (Unit × aI × aJ) := (if x1 = 0 then ((FX5_blame d e (nI 5)).bind fun q2 => (some ((), q2.2.1, q2.2.2))) else (some ((), d, e)))
theorem evX5_blameUnless {Γ : aG × Launch} {d : aI} {e : aJ} {x1 : Int32} {q : Unit × aI × aJ} (h : FX5_blameUnless d e x1 = some q) : Ev Γ 1 mX5_blameUnless [.ref 83, .int x1] d e none q.2.1 q.2.2 := by
  refine Ev.of (by decide) rfl (Nat.le_of_ble_eq_true rfl) (fun z => by cases z) ?_
  show Rn Γ 1 mX5_blameUnless 0 [some (.ref 83), some (.int x1)] [] d e _ _ _
  unfold FX5_blameUnless at h
  refine a_ite h (fun c1 h => ?_) (fun c1 h => ?_)
  · refine bX5_blameUnless_0 (fun z => absurd c1 z) (fun _ => ?_)
    obtain ⟨q2, hq2, h⟩ := Option.bind_eq_some_iff.mp h
    refine bX5_blameUnless_4 (evX5_blame hq2) (Nat.le_of_ble_eq_true rfl) ?_
    cases h
    exact bX5_blameUnless_9
  · refine bX5_blameUnless_0 (fun _ => ?_) (fun z => absurd z c1)
    cases h
    exact bX5_blameUnless_9

def FX7_wipe (d : aI) (e : aJ)  : Option (Unit × aI × aJ) := (some ((), (uI (uI (uI (uI (uI (uI d 88 4 (nI 0)) 88 5 (nI 0)) 88 6 (-(nI 1))) 88 7 (-(nI 1))) 88 8 (-(nI 1))) 88 9 (-(nI 1))), e))
theorem evX7_wipe {Γ : aG × Launch} {d : aI} {e : aJ}  {q : Unit × aI × aJ} (h : FX7_wipe d e  = some q) : Ev Γ 0 mX7_wipe [.ref 88] d e none q.2.1 q.2.2 := by
  refine Ev.of (by decide) rfl (Nat.le_of_ble_eq_true rfl) (fun z => by cases z) ?_
  show Rn Γ 0 mX7_wipe 0 [some (.ref 88)] [] d e _ _ _
  unfold FX7_wipe at h
  cases h
  exact bX7_wipe_0

def FX7_hasTakes (d : aI) (e : aJ) (o0 : Nat) : Option (Int32 × aI × aJ) := (bif (decide (o0 = 58 ∨ o0 = 63 ∨ o0 = 68 ∨ o0 = 73 ∨ o0 = 78 ∨ o0 = 88)) then (if (d o0 6) = (-(nI 1)) then (some ((nI 0), d, e)) else (some ((nI 1), d, e))) else none)
theorem evX7_hasTakes {Γ : aG × Launch} {d : aI} {e : aJ} {o0 : Nat} {q : Int32 × aI × aJ} (h : FX7_hasTakes d e o0 = some q) : Ev Γ 0 mX7_hasTakes [.ref o0] d e (some (.int q.1)) q.2.1 q.2.2 := by
  refine Ev.of (by decide) rfl (Nat.le_of_ble_eq_true rfl) (fun z => by cases z) ?_
  show Rn Γ 0 mX7_hasTakes 0 [some (.ref o0)] [] d e _ _ _
  unfold FX7_hasTakes at h
  obtain ⟨ho0x, h⟩ := a_cond h
  have ho0 := of_decide_eq_true ho0x
  refine a_ite h (fun c1 h => ?_) (fun c1 h => ?_)
  · refine bX7_hasTakes_0 ho0 (fun _ => ?_) (fun z => absurd c1 z)
    refine bX7_hasTakes_12 ?_
    cases h
    exact bX7_hasTakes_13 (a_nz (Or.inl rfl))
  · refine bX7_hasTakes_0 ho0 (fun z => absurd z c1) (fun _ => ?_)
    refine bX7_hasTakes_8 ?_
    cases h
    exact bX7_hasTakes_13 (a_nz (Or.inr rfl))

def FX7_hasGoes (d : aI) (e : aJ) (o0 : Nat) : Option (Int32 × aI × aJ) := (bif (decide (o0 = 58 ∨ o0 = 63 ∨ o0 = 68 ∨ o0 = 73 ∨ o0 = 78 ∨ o0 = 88)) then (if (d o0 8) = (-(nI 1)) then (some ((nI 0), d, e)) else (some ((nI 1), d, e))) else none)
theorem evX7_hasGoes {Γ : aG × Launch} {d : aI} {e : aJ} {o0 : Nat} {q : Int32 × aI × aJ} (h : FX7_hasGoes d e o0 = some q) : Ev Γ 0 mX7_hasGoes [.ref o0] d e (some (.int q.1)) q.2.1 q.2.2 := by
  refine Ev.of (by decide) rfl (Nat.le_of_ble_eq_true rfl) (fun z => by cases z) ?_
  show Rn Γ 0 mX7_hasGoes 0 [some (.ref o0)] [] d e _ _ _
  unfold FX7_hasGoes at h
  obtain ⟨ho0x, h⟩ := a_cond h
  have ho0 := of_decide_eq_true ho0x
  refine a_ite h (fun c1 h => ?_) (fun c1 h => ?_)
  · refine bX7_hasGoes_0 ho0 (fun _ => ?_) (fun z => absurd c1 z)
    refine bX7_hasGoes_12 ?_
    cases h
    exact bX7_hasGoes_13 (a_nz (Or.inl rfl))
  · refine bX7_hasGoes_0 ho0 (fun z => absurd z c1) (fun _ => ?_)
    refine bX7_hasGoes_8 ?_
    cases h
    exact bX7_hasGoes_13 (a_nz (Or.inr rfl))

def FX7_add (d : aI) (e : aJ) (x1 : Int32) (x2 : Int32) (x3 : Int32) : Option (Unit × aI × aJ) := (if (nI 24) ≤ (d 88 4) then (some ((), d, e)) else (bif ((a_inb (d 88 4) 24) && (a_inb (d 88 4) 24) && (a_inb (d 88 4) 24)) then (some ((), (uI (uI (uI (uI d 89 ((d 88 4)).toNatClampNeg x1) 90 ((d 88 4)).toNatClampNeg x2) 91 ((d 88 4)).toNatClampNeg x3) 88 4 ((d 88 4) + (nI 1))), e)) else none))
theorem evX7_add {Γ : aG × Launch} {d : aI} {e : aJ} {x1 : Int32} {x2 : Int32} {x3 : Int32} {q : Unit × aI × aJ} (h : FX7_add d e x1 x2 x3 = some q) : Ev Γ 0 mX7_add [.ref 88, .int x1, .int x2, .int x3] d e none q.2.1 q.2.2 := by
  refine Ev.of (by decide) rfl (Nat.le_of_ble_eq_true rfl) (fun z => by cases z) ?_
  show Rn Γ 0 mX7_add 0 [some (.ref 88), some (.int x1), some (.int x2), some (.int x3)] [] d e _ _ _
  unfold FX7_add at h
  refine a_ite h (fun c1 h => ?_) (fun c1 h => ?_)
  · refine bX7_add_0 (fun _ => ?_) (fun z => absurd c1 z)
    cases h
    exact bX7_add_49
  · refine bX7_add_0 (fun z => absurd z c1) (fun _ => ?_)
    obtain ⟨g2, h⟩ := a_cond h
    obtain ⟨g2x2, g2_2⟩ := a_and g2
    obtain ⟨g2x1, g2_1⟩ := a_and g2x2
    have g2_0 := g2x1
    refine bX7_add_9 ⟨(a_inb_vp g2_0), (a_inb_vp g2_1), (a_inb_vp g2_2)⟩ ?_
    cases h
    exact bX7_add_49

def FX7_put (d : aI) (e : aJ) (x1 : Int32) : Option (Int32 × aI × aJ) := (if (nI 300) ≤ (d 88 5) then (some (((d 88 5) - (nI 1)), d, e)) else (bif ((a_inb (d 88 5) 300)) then (some ((((uI (uI d 92 ((d 88 5)).toNatClampNeg x1) 88 5 ((d 88 5) + (nI 1))) 88 5) - (nI 1)), (uI (uI d 92 ((d 88 5)).toNatClampNeg x1) 88 5 ((d 88 5) + (nI 1))), e)) else none))
theorem evX7_put {Γ : aG × Launch} {d : aI} {e : aJ} {x1 : Int32} {q : Int32 × aI × aJ} (h : FX7_put d e x1 = some q) : Ev Γ 0 mX7_put [.ref 88, .int x1] d e (some (.int q.1)) q.2.1 q.2.2 := by
  refine Ev.of (by decide) rfl (Nat.le_of_ble_eq_true rfl) (fun z => by cases z) ?_
  show Rn Γ 0 mX7_put 0 [some (.ref 88), some (.int x1)] [] d e _ _ _
  unfold FX7_put at h
  refine a_ite h (fun c1 h => ?_) (fun c1 h => ?_)
  · refine bX7_put_0 (fun _ => ?_) (fun z => absurd c1 z)
    cases h
    exact bX7_put_30
  · refine bX7_put_0 (fun z => absurd z c1) (fun _ => ?_)
    obtain ⟨g2, h⟩ := a_cond h
    refine bX7_put_10 (a_inb_vp g2) ?_
    cases h
    exact bX7_put_30

def FX7_land (d : aI) (e : aJ) (x1 : Int32) : Option (Unit × aI × aJ) := (if x1 < 0 then (some ((), d, e)) else (if (nI 300) ≤ x1 then (some ((), d, e)) else (bif ((a_inb x1 300)) then (some ((), (uI d 92 (x1).toNatClampNeg (d 88 5)), e)) else none)))
theorem evX7_land {Γ : aG × Launch} {d : aI} {e : aJ} {x1 : Int32} {q : Unit × aI × aJ} (h : FX7_land d e x1 = some q) : Ev Γ 0 mX7_land [.ref 88, .int x1] d e none q.2.1 q.2.2 := by
  refine Ev.of (by decide) rfl (Nat.le_of_ble_eq_true rfl) (fun z => by cases z) ?_
  show Rn Γ 0 mX7_land 0 [some (.ref 88), some (.int x1)] [] d e _ _ _
  unfold FX7_land at h
  refine a_ite h (fun c1 h => ?_) (fun c1 h => ?_)
  · refine bX7_land_0 (fun _ => ?_) (fun z => absurd c1 z)
    cases h
    exact bX7_land_21
  · refine bX7_land_0 (fun z => absurd z c1) (fun _ => ?_)
    refine a_ite h (fun c2 h => ?_) (fun c2 h => ?_)
    · refine bX7_land_4 (fun _ => ?_) (fun z => absurd c2 z)
      cases h
      exact bX7_land_21
    · refine bX7_land_4 (fun z => absurd z c2) (fun _ => ?_)
      obtain ⟨g3, h⟩ := a_cond h
      refine bX7_land_11 (a_inb_vp g3) ?_
      cases h
      exact bX7_land_21

def FX10_fault (d : aI) (e : aJ) (x1 : Int32) : Option (Int32 × aI × aJ) := (if x1 = (nI 0) then (some ((d 83 3), d, e)) else (if x1 = (nI 1) then (some ((d 83 4), d, e)) else (some ((-(nI 1)), d, e))))
theorem evX10_fault {Γ : aG × Launch} {d : aI} {e : aJ} {x1 : Int32} {q : Int32 × aI × aJ} (h : FX10_fault d e x1 = some q) : Ev Γ 0 mX10_fault [.ref 0, .int x1] d e (some (.int q.1)) q.2.1 q.2.2 := by
  refine Ev.of (by decide) rfl (Nat.le_of_ble_eq_true rfl) (fun z => by cases z) ?_
  show Rn Γ 0 mX10_fault 0 [some (.ref 0), some (.int x1)] [] d e _ _ _
  unfold FX10_fault at h
  refine a_ite h (fun c1 h => ?_) (fun c1 h => ?_)
  · refine bX10_fault_0 (fun n0 _ => absurd c1 n0) (fun _ => ?_) (fun z => absurd (c1.symm.trans z) (by decide))
    cases h
    exact bX10_fault_28
  · skip
    refine a_ite h (fun c2 h => ?_) (fun c2 h => ?_)
    · refine bX10_fault_0 (fun _ n1 => absurd c2 n1) (fun z => absurd z c1) (fun _ => ?_)
      cases h
      exact bX10_fault_36
    · skip
      refine bX10_fault_0 (fun _ _ => ?_) (fun z => absurd z c1) (fun z => absurd z c2)
      cases h
      exact bX10_fault_44

def FX10_of (d : aI) (e : aJ) (x1 : Int32) (x2 : Int32) : Option (Int32 × aI × aJ) := ((FX2_isCat d e x1).bind fun q1 => (if q1.1 = 0 then (some ((-(nI 2)), q1.2.1, q1.2.2)) else (if x2 = (nI 0) then (bif ((a_inb x1 6)) then (some ((q1.2.1 7 (x1).toNatClampNeg), q1.2.1, q1.2.2)) else none) else (if x2 = (nI 1) then (bif ((a_inb x1 6)) then (some ((q1.2.1 6 (x1).toNatClampNeg), q1.2.1, q1.2.2)) else none) else (if x2 = (nI 2) then (bif ((a_inb x1 6)) then (some ((q1.2.1 8 (x1).toNatClampNeg), q1.2.1, q1.2.2)) else none) else (if x2 = (nI 3) then (bif ((a_inb x1 6)) then (some ((q1.2.1 9 (x1).toNatClampNeg), q1.2.1, q1.2.2)) else none) else (some ((-(nI 2)), q1.2.1, q1.2.2))))))))
theorem evX10_of {Γ : aG × Launch} {d : aI} {e : aJ} {x1 : Int32} {x2 : Int32} {q : Int32 × aI × aJ} (h : FX10_of d e x1 x2 = some q) : Ev Γ 1 mX10_of [.ref 0, .int x1, .int x2] d e (some (.int q.1)) q.2.1 q.2.2 := by
  refine Ev.of (by decide) rfl (Nat.le_of_ble_eq_true rfl) (fun z => by cases z) ?_
  show Rn Γ 1 mX10_of 0 [some (.ref 0), some (.int x1), some (.int x2), none] [] d e _ _ _
  unfold FX10_of at h
  obtain ⟨q1, hq1, h⟩ := Option.bind_eq_some_iff.mp h
  refine bX10_of_0 (evX2_isCat hq1) (Nat.le_of_ble_eq_true rfl) ?_
  refine a_ite h (fun c2 h => ?_) (fun c2 h => ?_)
  · refine bX10_of_13 (fun z => absurd c2 z) (fun _ => ?_)
    cases h
    exact bX10_of_16
  · refine bX10_of_13 (fun _ => ?_) (fun z => absurd z c2)
    refine a_ite h (fun c3 h => ?_) (fun c3 h => ?_)
    · refine bX10_of_19 (fun n0 _ _ _ => absurd c3 n0) (fun _ => ?_) (fun z => absurd (c3.symm.trans z) (by decide)) (fun z => absurd (c3.symm.trans z) (by decide)) (fun z => absurd (c3.symm.trans z) (by decide))
      obtain ⟨g4, h⟩ := a_cond h
      cases h
      exact bX10_of_52 (a_inb_vp g4)
    · skip
      refine a_ite h (fun c5 h => ?_) (fun c5 h => ?_)
      · refine bX10_of_19 (fun _ n1 _ _ => absurd c5 n1) (fun z => absurd z c3) (fun _ => ?_) (fun z => absurd (c5.symm.trans z) (by decide)) (fun z => absurd (c5.symm.trans z) (by decide))
        obtain ⟨g6, h⟩ := a_cond h
        cases h
        exact bX10_of_59 (a_inb_vp g6)
      · skip
        refine a_ite h (fun c7 h => ?_) (fun c7 h => ?_)
        · refine bX10_of_19 (fun _ _ n2 _ => absurd c7 n2) (fun z => absurd z c3) (fun z => absurd z c5) (fun _ => ?_) (fun z => absurd (c7.symm.trans z) (by decide))
          obtain ⟨g8, h⟩ := a_cond h
          cases h
          exact bX10_of_66 (a_inb_vp g8)
        · skip
          refine a_ite h (fun c9 h => ?_) (fun c9 h => ?_)
          · refine bX10_of_19 (fun _ _ _ n3 => absurd c9 n3) (fun z => absurd z c3) (fun z => absurd z c5) (fun z => absurd z c7) (fun _ => ?_)
            obtain ⟨g10, h⟩ := a_cond h
            cases h
            exact bX10_of_73 (a_inb_vp g10)
          · skip
            refine bX10_of_19 (fun _ _ _ _ => ?_) (fun z => absurd z c3) (fun z => absurd z c5) (fun z => absurd z c7) (fun z => absurd z c9)
            cases h
            exact bX10_of_80

def FX10_about (d : aI) (e : aJ) (x1 : Int32) : Option (Int32 × aI × aJ) := (if x1 = (nI 0) then (some ((d 2 8), d, e)) else (if x1 = (nI 1) then (some ((d 2 9), d, e)) else (if x1 = (nI 2) then (some ((d 1 6), d, e)) else (if x1 = (nI 3) then (some ((d 1 7), d, e)) else (if x1 = (nI 4) then (some ((d 11 2), d, e)) else (if x1 = (nI 5) then (some ((d 13 4), d, e)) else (if x1 = (nI 6) then (some ((d 17 4), d, e)) else (if x1 = (nI 7) then (some ((d 21 4), d, e)) else (if x1 = (nI 8) then (some ((d 25 4), d, e)) else (if x1 = (nI 9) then (some ((d 83 2), d, e)) else (some ((-(nI 2)), d, e))))))))))))
theorem evX10_about {Γ : aG × Launch} {d : aI} {e : aJ} {x1 : Int32} {q : Int32 × aI × aJ} (h : FX10_about d e x1 = some q) : Ev Γ 0 mX10_about [.ref 0, .int x1] d e (some (.int q.1)) q.2.1 q.2.2 := by
  refine Ev.of (by decide) rfl (Nat.le_of_ble_eq_true rfl) (fun z => by cases z) ?_
  show Rn Γ 0 mX10_about 0 [some (.ref 0), some (.int x1)] [] d e _ _ _
  unfold FX10_about at h
  refine a_ite h (fun c1 h => ?_) (fun c1 h => ?_)
  · refine bX10_about_0 (fun n0 _ _ _ _ _ _ _ _ _ => absurd c1 n0) (fun _ => ?_) (fun z => absurd (c1.symm.trans z) (by decide)) (fun z => absurd (c1.symm.trans z) (by decide)) (fun z => absurd (c1.symm.trans z) (by decide)) (fun z => absurd (c1.symm.trans z) (by decide)) (fun z => absurd (c1.symm.trans z) (by decide)) (fun z => absurd (c1.symm.trans z) (by decide)) (fun z => absurd (c1.symm.trans z) (by decide)) (fun z => absurd (c1.symm.trans z) (by decide)) (fun z => absurd (c1.symm.trans z) (by decide))
    cases h
    exact bX10_about_56
  · skip
    refine a_ite h (fun c2 h => ?_) (fun c2 h => ?_)
    · refine bX10_about_0 (fun _ n1 _ _ _ _ _ _ _ _ => absurd c2 n1) (fun z => absurd z c1) (fun _ => ?_) (fun z => absurd (c2.symm.trans z) (by decide)) (fun z => absurd (c2.symm.trans z) (by decide)) (fun z => absurd (c2.symm.trans z) (by decide)) (fun z => absurd (c2.symm.trans z) (by decide)) (fun z => absurd (c2.symm.trans z) (by decide)) (fun z => absurd (c2.symm.trans z) (by decide)) (fun z => absurd (c2.symm.trans z) (by decide)) (fun z => absurd (c2.symm.trans z) (by decide))
      cases h
      exact bX10_about_67
    · skip
      refine a_ite h (fun c3 h => ?_) (fun c3 h => ?_)
      · refine bX10_about_0 (fun _ _ n2 _ _ _ _ _ _ _ => absurd c3 n2) (fun z => absurd z c1) (fun z => absurd z c2) (fun _ => ?_) (fun z => absurd (c3.symm.trans z) (by decide)) (fun z => absurd (c3.symm.trans z) (by decide)) (fun z => absurd (c3.symm.trans z) (by decide)) (fun z => absurd (c3.symm.trans z) (by decide)) (fun z => absurd (c3.symm.trans z) (by decide)) (fun z => absurd (c3.symm.trans z) (by decide)) (fun z => absurd (c3.symm.trans z) (by decide))
        cases h
        exact bX10_about_78
      · skip
        refine a_ite h (fun c4 h => ?_) (fun c4 h => ?_)
        · refine bX10_about_0 (fun _ _ _ n3 _ _ _ _ _ _ => absurd c4 n3) (fun z => absurd z c1) (fun z => absurd z c2) (fun z => absurd z c3) (fun _ => ?_) (fun z => absurd (c4.symm.trans z) (by decide)) (fun z => absurd (c4.symm.trans z) (by decide)) (fun z => absurd (c4.symm.trans z) (by decide)) (fun z => absurd (c4.symm.trans z) (by decide)) (fun z => absurd (c4.symm.trans z) (by decide)) (fun z => absurd (c4.symm.trans z) (by decide))
          cases h
          exact bX10_about_86
        · skip
          refine a_ite h (fun c5 h => ?_) (fun c5 h => ?_)
          · refine bX10_about_0 (fun _ _ _ _ n4 _ _ _ _ _ => absurd c5 n4) (fun z => absurd z c1) (fun z => absurd z c2) (fun z => absurd z c3) (fun z => absurd z c4) (fun _ => ?_) (fun z => absurd (c5.symm.trans z) (by decide)) (fun z => absurd (c5.symm.trans z) (by decide)) (fun z => absurd (c5.symm.trans z) (by decide)) (fun z => absurd (c5.symm.trans z) (by decide)) (fun z => absurd (c5.symm.trans z) (by decide))
            cases h
            exact bX10_about_94
          · skip
            refine a_ite h (fun c6 h => ?_) (fun c6 h => ?_)
            · refine bX10_about_0 (fun _ _ _ _ _ n5 _ _ _ _ => absurd c6 n5) (fun z => absurd z c1) (fun z => absurd z c2) (fun z => absurd z c3) (fun z => absurd z c4) (fun z => absurd z c5) (fun _ => ?_) (fun z => absurd (c6.symm.trans z) (by decide)) (fun z => absurd (c6.symm.trans z) (by decide)) (fun z => absurd (c6.symm.trans z) (by decide)) (fun z => absurd (c6.symm.trans z) (by decide))
              cases h
              exact bX10_about_105
            · skip
              refine a_ite h (fun c7 h => ?_) (fun c7 h => ?_)
              · refine bX10_about_0 (fun _ _ _ _ _ _ n6 _ _ _ => absurd c7 n6) (fun z => absurd z c1) (fun z => absurd z c2) (fun z => absurd z c3) (fun z => absurd z c4) (fun z => absurd z c5) (fun z => absurd z c6) (fun _ => ?_) (fun z => absurd (c7.symm.trans z) (by decide)) (fun z => absurd (c7.symm.trans z) (by decide)) (fun z => absurd (c7.symm.trans z) (by decide))
                cases h
                exact bX10_about_116
              · skip
                refine a_ite h (fun c8 h => ?_) (fun c8 h => ?_)
                · refine bX10_about_0 (fun _ _ _ _ _ _ _ n7 _ _ => absurd c8 n7) (fun z => absurd z c1) (fun z => absurd z c2) (fun z => absurd z c3) (fun z => absurd z c4) (fun z => absurd z c5) (fun z => absurd z c6) (fun z => absurd z c7) (fun _ => ?_) (fun z => absurd (c8.symm.trans z) (by decide)) (fun z => absurd (c8.symm.trans z) (by decide))
                  cases h
                  exact bX10_about_127
                · skip
                  refine a_ite h (fun c9 h => ?_) (fun c9 h => ?_)
                  · refine bX10_about_0 (fun _ _ _ _ _ _ _ _ n8 _ => absurd c9 n8) (fun z => absurd z c1) (fun z => absurd z c2) (fun z => absurd z c3) (fun z => absurd z c4) (fun z => absurd z c5) (fun z => absurd z c6) (fun z => absurd z c7) (fun z => absurd z c8) (fun _ => ?_) (fun z => absurd (c9.symm.trans z) (by decide))
                    cases h
                    exact bX10_about_138
                  · skip
                    refine a_ite h (fun c10 h => ?_) (fun c10 h => ?_)
                    · refine bX10_about_0 (fun _ _ _ _ _ _ _ _ _ n9 => absurd c10 n9) (fun z => absurd z c1) (fun z => absurd z c2) (fun z => absurd z c3) (fun z => absurd z c4) (fun z => absurd z c5) (fun z => absurd z c6) (fun z => absurd z c7) (fun z => absurd z c8) (fun z => absurd z c9) (fun _ => ?_)
                      cases h
                      exact bX10_about_149
                    · skip
                      refine bX10_about_0 (fun _ _ _ _ _ _ _ _ _ _ => ?_) (fun z => absurd z c1) (fun z => absurd z c2) (fun z => absurd z c3) (fun z => absurd z c4) (fun z => absurd z c5) (fun z => absurd z c6) (fun z => absurd z c7) (fun z => absurd z c8) (fun z => absurd z c9) (fun z => absurd z c10)
                      cases h
                      exact bX10_about_157

def FX10_within (d : aI) (e : aJ) (x0 : Int32) (x1 : Int32) (x2 : Int32) : Option (Int32 × aI × aJ) := (if x0 < x1 then (some ((nI 0), d, e)) else (if x2 < x0 then (some ((nI 0), d, e)) else (some ((nI 1), d, e))))
theorem evX10_within {Γ : aG × Launch} {d : aI} {e : aJ} {x0 : Int32} {x1 : Int32} {x2 : Int32} {q : Int32 × aI × aJ} (h : FX10_within d e x0 x1 x2 = some q) : Ev Γ 0 mX10_within [.int x0, .int x1, .int x2] d e (some (.int q.1)) q.2.1 q.2.2 := by
  refine Ev.of (by decide) rfl (Nat.le_of_ble_eq_true rfl) (fun z => by cases z) ?_
  show Rn Γ 0 mX10_within 0 [some (.int x0), some (.int x1), some (.int x2)] [] d e _ _ _
  unfold FX10_within at h
  refine a_ite h (fun c1 h => ?_) (fun c1 h => ?_)
  · refine bX10_within_0 (fun _ => ?_) (fun z => absurd c1 z)
    refine bX10_within_14 ?_
    cases h
    exact bX10_within_15 (a_nz (Or.inl rfl))
  · refine bX10_within_0 (fun z => absurd z c1) (fun _ => ?_)
    refine a_ite h (fun c2 h => ?_) (fun c2 h => ?_)
    · refine bX10_within_5 (fun _ => ?_) (fun z => absurd c2 z)
      refine bX10_within_14 ?_
      cases h
      exact bX10_within_15 (a_nz (Or.inl rfl))
    · refine bX10_within_5 (fun z => absurd z c2) (fun _ => ?_)
      refine bX10_within_10 ?_
      cases h
      exact bX10_within_15 (a_nz (Or.inr rfl))

def FX10_hasBit (d : aI) (e : aJ) (x0 : Int32) (x1 : Int32) : Option (Int32 × aI × aJ) := (if ((a_shr x0 x1) &&& (nI 1)) = (nI 1) then (some ((nI 1), d, e)) else (some ((nI 0), d, e)))
theorem evX10_hasBit {Γ : aG × Launch} {d : aI} {e : aJ} {x0 : Int32} {x1 : Int32} {q : Int32 × aI × aJ} (h : FX10_hasBit d e x0 x1 = some q) : Ev Γ 0 mX10_hasBit [.int x0, .int x1] d e (some (.int q.1)) q.2.1 q.2.2 := by
  refine Ev.of (by decide) rfl (Nat.le_of_ble_eq_true rfl) (fun z => by cases z) ?_
  show Rn Γ 0 mX10_hasBit 0 [some (.int x0), some (.int x1)] [] d e _ _ _
  unfold FX10_hasBit at h
  refine a_ite h (fun c1 h => ?_) (fun c1 h => ?_)
  · refine bX10_hasBit_0 (fun z => absurd c1 z) (fun _ => ?_)
    refine bX10_hasBit_9 ?_
    cases h
    exact bX10_hasBit_14 (a_nz (Or.inr rfl))
  · refine bX10_hasBit_0 (fun _ => ?_) (fun z => absurd z c1)
    refine bX10_hasBit_13 ?_
    cases h
    exact bX10_hasBit_14 (a_nz (Or.inl rfl))

def FX10_isText (d : aI) (e : aJ) (x1 : Int32) : Option (Int32 × aI × aJ) := ((FX10_within d e x1 (nI 0) ((d 1 6) - (nI 1))).bind fun q1 => (bif (decide (q1.1 = 0 ∨ q1.1 = 1)) then (some (q1.1, q1.2.1, q1.2.2)) else none))
theorem evX10_isText {Γ : aG × Launch} {d : aI} {e : aJ} {x1 : Int32} {q : Int32 × aI × aJ} (h : FX10_isText d e x1 = some q) : Ev Γ 1 mX10_isText [.ref 0, .int x1] d e (some (.int q.1)) q.2.1 q.2.2 := by
  refine Ev.of (by decide) rfl (Nat.le_of_ble_eq_true rfl) (fun z => by cases z) ?_
  show Rn Γ 1 mX10_isText 0 [some (.ref 0), some (.int x1)] [] d e _ _ _
  unfold FX10_isText at h
  obtain ⟨q1, hq1, h⟩ := Option.bind_eq_some_iff.mp h
  refine bX10_isText_0 (evX10_within hq1) (Nat.le_of_ble_eq_true rfl) ?_
  obtain ⟨z2, h⟩ := a_cond h
  cases h
  exact bX10_isText_14 (a_nz (of_decide_eq_true z2))

def FX10_rule (d : aI) (e : aJ)  : Option (Nat × aI × aJ) := ((FX10_isText d e (d 1 7)).bind fun q1 => (if q1.1 = 0 then (some (78, q1.2.1, q1.2.2)) else (bif (a_inb (q1.2.1 1 7) 4) then (some ((58 + 5 * ((q1.2.1 1 7)).toNatClampNeg), q1.2.1, q1.2.2)) else none)))
theorem evX10_rule {Γ : aG × Launch} {d : aI} {e : aJ}  {q : Nat × aI × aJ} (h : FX10_rule d e  = some q) : Ev Γ 2 mX10_rule [.ref 0] d e (some (.ref q.1)) q.2.1 q.2.2 := by
  refine Ev.of (by decide) rfl (Nat.le_of_ble_eq_true rfl) (fun z => by cases z) ?_
  show Rn Γ 2 mX10_rule 0 [some (.ref 0)] [] d e _ _ _
  unfold FX10_rule at h
  obtain ⟨q1, hq1, h⟩ := Option.bind_eq_some_iff.mp h
  refine bX10_rule_0 (evX10_isText hq1) (Nat.le_of_ble_eq_true rfl) ?_
  refine a_ite h (fun c2 h => ?_) (fun c2 h => ?_)
  · refine bX10_rule_11 (fun _ => ?_) (fun z => absurd c2 z)
    refine bX10_rule_29 ?_
    cases h
    exact bX10_rule_33
  · refine bX10_rule_11 (fun z => absurd z c2) (fun _ => ?_)
    obtain ⟨g3, h⟩ := a_cond h
    refine bX10_rule_14 (a_inb_lt g3) (a_inb_nI g3) ?_
    refine bX10_rule_26 ?_
    cases h
    exact bX10_rule_33

def FX10_hourOf (d : aI) (e : aJ) (x0 : Int32) : Option (Int32 × aI × aJ) := (bif ((decide (¬ (nI 108) = 0))) then (some ((x0 / (nI 108)), d, e)) else none)
theorem evX10_hourOf {Γ : aG × Launch} {d : aI} {e : aJ} {x0 : Int32} {q : Int32 × aI × aJ} (h : FX10_hourOf d e x0 = some q) : Ev Γ 0 mX10_hourOf [.int x0] d e (some (.int q.1)) q.2.1 q.2.2 := by
  refine Ev.of (by decide) rfl (Nat.le_of_ble_eq_true rfl) (fun z => by cases z) ?_
  show Rn Γ 0 mX10_hourOf 0 [some (.int x0)] [] d e _ _ _
  unfold FX10_hourOf at h
  obtain ⟨g1, h⟩ := a_cond h
  cases h
  exact bX10_hourOf_0 (of_decide_eq_true g1)

def FX10_catOf (d : aI) (e : aJ) (x0 : Int32) : Option (Int32 × aI × aJ) := (bif ((decide (¬ (nI 18) = 0)) && (decide (¬ (nI 6) = 0))) then (some ((a_irm (x0 / (nI 18)) (nI 6)), d, e)) else none)
theorem evX10_catOf {Γ : aG × Launch} {d : aI} {e : aJ} {x0 : Int32} {q : Int32 × aI × aJ} (h : FX10_catOf d e x0 = some q) : Ev Γ 0 mX10_catOf [.int x0] d e (some (.int q.1)) q.2.1 q.2.2 := by
  refine Ev.of (by decide) rfl (Nat.le_of_ble_eq_true rfl) (fun z => by cases z) ?_
  show Rn Γ 0 mX10_catOf 0 [some (.int x0)] [] d e _ _ _
  unfold FX10_catOf at h
  obtain ⟨g1, h⟩ := a_cond h
  obtain ⟨g1x1, g1_1⟩ := a_and g1
  have g1_0 := g1x1
  cases h
  exact bX10_catOf_0 ⟨(of_decide_eq_true g1_0), (of_decide_eq_true g1_1)⟩

def FX10_houseOf (d : aI) (e : aJ) (x0 : Int32) : Option (Int32 × aI × aJ) := (bif ((decide (¬ (nI 3) = 0)) && (decide (¬ (nI 6) = 0))) then (some ((a_irm (x0 / (nI 3)) (nI 6)), d, e)) else none)
theorem evX10_houseOf {Γ : aG × Launch} {d : aI} {e : aJ} {x0 : Int32} {q : Int32 × aI × aJ} (h : FX10_houseOf d e x0 = some q) : Ev Γ 0 mX10_houseOf [.int x0] d e (some (.int q.1)) q.2.1 q.2.2 := by
  refine Ev.of (by decide) rfl (Nat.le_of_ble_eq_true rfl) (fun z => by cases z) ?_
  show Rn Γ 0 mX10_houseOf 0 [some (.int x0)] [] d e _ _ _
  unfold FX10_houseOf at h
  obtain ⟨g1, h⟩ := a_cond h
  obtain ⟨g1x1, g1_1⟩ := a_and g1
  have g1_0 := g1x1
  cases h
  exact bX10_houseOf_0 ⟨(of_decide_eq_true g1_0), (of_decide_eq_true g1_1)⟩

def FX10_deedOf (d : aI) (e : aJ) (x0 : Int32) : Option (Int32 × aI × aJ) := (bif ((decide (¬ (nI 3) = 0))) then (some ((a_irm x0 (nI 3)), d, e)) else none)
theorem evX10_deedOf {Γ : aG × Launch} {d : aI} {e : aJ} {x0 : Int32} {q : Int32 × aI × aJ} (h : FX10_deedOf d e x0 = some q) : Ev Γ 0 mX10_deedOf [.int x0] d e (some (.int q.1)) q.2.1 q.2.2 := by
  refine Ev.of (by decide) rfl (Nat.le_of_ble_eq_true rfl) (fun z => by cases z) ?_
  show Rn Γ 0 mX10_deedOf 0 [some (.int x0)] [] d e _ _ _
  unfold FX10_deedOf at h
  obtain ⟨g1, h⟩ := a_cond h
  cases h
  exact bX10_deedOf_0 (of_decide_eq_true g1)

def FX10_tell (d : aI) (e : aJ) (o0 : Nat) (x1 : Int32) (x2 : Int32) (x3 : Int32) (x4 : Int32) : Option (Int32 × aI × aJ) := (bif (decide (o0 = 13 ∨ o0 = 17 ∨ o0 = 25)) then (if x1 = (-(nI 1)) then (some ((nI 0), (uI d o0 4 (nI 0)), e)) else (if x4 = 0 then (some ((-(nI 2)), d, e)) else ((FX3_add d e o0 x1 x2 x3).bind fun q3 => (if q3.1 = 0 then (some ((-(nI 2)), q3.2.1, q3.2.2)) else (some ((q3.2.1 o0 4), q3.2.1, q3.2.2)))))) else none)
theorem evX10_tell {Γ : aG × Launch} {d : aI} {e : aJ} {o0 : Nat} {x1 : Int32} {x2 : Int32} {x3 : Int32} {x4 : Int32} {q : Int32 × aI × aJ} (h : FX10_tell d e o0 x1 x2 x3 x4 = some q) : Ev Γ 1 mX10_tell [.ref o0, .int x1, .int x2, .int x3, .int x4] d e (some (.int q.1)) q.2.1 q.2.2 := by
  refine Ev.of (by decide) rfl (Nat.le_of_ble_eq_true rfl) (fun z => by cases z) ?_
  show Rn Γ 1 mX10_tell 0 [some (.ref o0), some (.int x1), some (.int x2), some (.int x3), some (.int x4)] [] d e _ _ _
  unfold FX10_tell at h
  obtain ⟨ho0x, h⟩ := a_cond h
  have ho0 := of_decide_eq_true ho0x
  refine a_ite h (fun c1 h => ?_) (fun c1 h => ?_)
  · refine bX10_tell_0 (fun z => absurd c1 z) (fun _ => ?_)
    cases h
    exact bX10_tell_5 ho0
  · refine bX10_tell_0 (fun _ => ?_) (fun z => absurd z c1)
    refine a_ite h (fun c2 h => ?_) (fun c2 h => ?_)
    · refine bX10_tell_12 (fun _ => ?_) (fun z => absurd c2 z)
      cases h
      exact bX10_tell_27
    · refine bX10_tell_12 (fun z => absurd z c2) (fun _ => ?_)
      obtain ⟨q3, hq3, h⟩ := Option.bind_eq_some_iff.mp h
      refine bX10_tell_17 ho0 (evX3_add hq3) (Nat.le_of_ble_eq_true rfl) ?_
      refine a_ite h (fun c4 h => ?_) (fun c4 h => ?_)
      · refine bX10_tell_24 (fun z => absurd c4 z) (fun _ => ?_)
        cases h
        exact bX10_tell_27
      · refine bX10_tell_24 (fun _ => ?_) (fun z => absurd z c4)
        cases h
        exact bX10_tell_30 ho0

def FX10_around (d : aI) (e : aJ) (x0 : Int32) (x1 : Int32) : Option (Int32 × aI × aJ) := (some ((a_min (a_abs (x0 - x1)) ((nI 10) - (a_abs (x0 - x1)))), d, e))
theorem evX10_around {Γ : aG × Launch} {d : aI} {e : aJ} {x0 : Int32} {x1 : Int32} {q : Int32 × aI × aJ} (h : FX10_around d e x0 x1 = some q) : Ev Γ 0 mX10_around [.int x0, .int x1] d e (some (.int q.1)) q.2.1 q.2.2 := by
  refine Ev.of (by decide) rfl (Nat.le_of_ble_eq_true rfl) (fun z => by cases z) ?_
  show Rn Γ 0 mX10_around 0 [some (.int x0), some (.int x1), none] [] d e _ _ _
  unfold FX10_around at h
  cases h
  exact bX10_around_0

def FX10_isMove (d : aI) (e : aJ) (x0 : Int32) (x1 : Int32) : Option (Int32 × aI × aJ) := (if (x0 + x1) ≤ 0 then (some ((nI 0), d, e)) else (if x0 = 0 then (some ((nI 1), d, e)) else (if x1 = 0 then (some ((nI 1), d, e)) else (if x0 = x1 then (some ((nI 1), d, e)) else (some ((nI 0), d, e))))))
theorem evX10_isMove {Γ : aG × Launch} {d : aI} {e : aJ} {x0 : Int32} {x1 : Int32} {q : Int32 × aI × aJ} (h : FX10_isMove d e x0 x1 = some q) : Ev Γ 0 mX10_isMove [.int x0, .int x1] d e (some (.int q.1)) q.2.1 q.2.2 := by
  refine Ev.of (by decide) rfl (Nat.le_of_ble_eq_true rfl) (fun z => by cases z) ?_
  show Rn Γ 0 mX10_isMove 0 [some (.int x0), some (.int x1)] [] d e _ _ _
  unfold FX10_isMove at h
  refine a_ite h (fun c1 h => ?_) (fun c1 h => ?_)
  · refine bX10_isMove_0 (fun _ => ?_) (fun z => absurd c1 z)
    refine bX10_isMove_23 ?_
    cases h
    exact bX10_isMove_24 (a_nz (Or.inl rfl))
  · refine bX10_isMove_0 (fun z => absurd z c1) (fun _ => ?_)
    refine a_ite h (fun c2 h => ?_) (fun c2 h => ?_)
    · refine bX10_isMove_6 (fun _ => ?_) (fun z => absurd c2 z)
      refine bX10_isMove_19 ?_
      cases h
      exact bX10_isMove_24 (a_nz (Or.inr rfl))
    · refine bX10_isMove_6 (fun z => absurd z c2) (fun _ => ?_)
      refine a_ite h (fun c3 h => ?_) (fun c3 h => ?_)
      · refine bX10_isMove_10 (fun _ => ?_) (fun z => absurd c3 z)
        refine bX10_isMove_19 ?_
        cases h
        exact bX10_isMove_24 (a_nz (Or.inr rfl))
      · refine bX10_isMove_10 (fun z => absurd z c3) (fun _ => ?_)
        refine a_ite h (fun c4 h => ?_) (fun c4 h => ?_)
        · refine bX10_isMove_14 (fun z => absurd c4 z) (fun _ => ?_)
          refine bX10_isMove_19 ?_
          cases h
          exact bX10_isMove_24 (a_nz (Or.inr rfl))
        · refine bX10_isMove_14 (fun _ => ?_) (fun z => absurd z c4)
          refine bX10_isMove_23 ?_
          cases h
          exact bX10_isMove_24 (a_nz (Or.inl rfl))

def FX10_isLost (d : aI) (e : aJ) (x0 : Int32) (x1 : Int32) : Option (Int32 × aI × aJ) := (bif ((decide (¬ (nI 3) = 0))) then (if (a_irm (x0 + x1) (nI 3)) = 0 then (some ((nI 1), d, e)) else (some ((nI 0), d, e))) else none)
theorem evX10_isLost {Γ : aG × Launch} {d : aI} {e : aJ} {x0 : Int32} {x1 : Int32} {q : Int32 × aI × aJ} (h : FX10_isLost d e x0 x1 = some q) : Ev Γ 0 mX10_isLost [.int x0, .int x1] d e (some (.int q.1)) q.2.1 q.2.2 := by
  refine Ev.of (by decide) rfl (Nat.le_of_ble_eq_true rfl) (fun z => by cases z) ?_
  show Rn Γ 0 mX10_isLost 0 [some (.int x0), some (.int x1)] [] d e _ _ _
  unfold FX10_isLost at h
  obtain ⟨g1, h⟩ := a_cond h
  refine a_ite h (fun c2 h => ?_) (fun c2 h => ?_)
  · refine bX10_isLost_0 (of_decide_eq_true g1) (fun z => absurd c2 z) (fun _ => ?_)
    refine bX10_isLost_8 ?_
    cases h
    exact bX10_isLost_13 (a_nz (Or.inr rfl))
  · refine bX10_isLost_0 (of_decide_eq_true g1) (fun _ => ?_) (fun z => absurd z c2)
    refine bX10_isLost_12 ?_
    cases h
    exact bX10_isLost_13 (a_nz (Or.inl rfl))

def FX11_isIn (d : aI) (e : aJ) (x0 : Int32) (x1 : Int32) (x2 : Int32) : Option (Int32 × aI × aJ) := (if x0 < x1 then (some ((nI 0), d, e)) else (if x2 < x0 then (some ((nI 0), d, e)) else (some ((nI 1), d, e))))
theorem evX11_isIn {Γ : aG × Launch} {d : aI} {e : aJ} {x0 : Int32} {x1 : Int32} {x2 : Int32} {q : Int32 × aI × aJ} (h : FX11_isIn d e x0 x1 x2 = some q) : Ev Γ 0 mX11_isIn [.int x0, .int x1, .int x2] d e (some (.int q.1)) q.2.1 q.2.2 := by
  refine Ev.of (by decide) rfl (Nat.le_of_ble_eq_true rfl) (fun z => by cases z) ?_
  show Rn Γ 0 mX11_isIn 0 [some (.int x0), some (.int x1), some (.int x2)] [] d e _ _ _
  unfold FX11_isIn at h
  refine a_ite h (fun c1 h => ?_) (fun c1 h => ?_)
  · refine bX11_isIn_0 (fun _ => ?_) (fun z => absurd c1 z)
    refine bX11_isIn_14 ?_
    cases h
    exact bX11_isIn_15 (a_nz (Or.inl rfl))
  · refine bX11_isIn_0 (fun z => absurd z c1) (fun _ => ?_)
    refine a_ite h (fun c2 h => ?_) (fun c2 h => ?_)
    · refine bX11_isIn_5 (fun _ => ?_) (fun z => absurd c2 z)
      refine bX11_isIn_14 ?_
      cases h
      exact bX11_isIn_15 (a_nz (Or.inl rfl))
    · refine bX11_isIn_5 (fun z => absurd z c2) (fun _ => ?_)
      refine bX11_isIn_10 ?_
      cases h
      exact bX11_isIn_15 (a_nz (Or.inr rfl))

def FX11_held (d : aI) (e : aJ) (y0 : Int64) (x2 : Int32) (x3 : Int32) : Option (Int32 × aI × aJ) := (if 0 ≤ (lg_cmp y0 (Int32.toInt64 x2)) then (if (lg_cmp y0 (Int32.toInt64 x3)) ≤ 0 then (some ((Int64.toInt32 y0), d, e)) else (some (x3, d, e))) else (some (x2, d, e)))
theorem evX11_held {Γ : aG × Launch} {d : aI} {e : aJ} {y0 : Int64} {x2 : Int32} {x3 : Int32} {q : Int32 × aI × aJ} (h : FX11_held d e y0 x2 x3 = some q) : Ev Γ 0 mX11_held [.long y0, .int x2, .int x3] d e (some (.int q.1)) q.2.1 q.2.2 := by
  refine Ev.of (by decide) rfl (Nat.le_of_ble_eq_true rfl) (fun z => by cases z) ?_
  show Rn Γ 0 mX11_held 0 [some (.long y0), none, some (.int x2), some (.int x3)] [] d e _ _ _
  unfold FX11_held at h
  refine a_ite h (fun c1 h => ?_) (fun c1 h => ?_)
  · refine bX11_held_0 (fun _ => ?_) (fun z => absurd c1 z)
    refine a_ite h (fun c2 h => ?_) (fun c2 h => ?_)
    · refine bX11_held_11 (fun _ => ?_) (fun z => absurd c2 z)
      refine bX11_held_22 ?_
      cases h
      exact bX11_held_24
    · refine bX11_held_11 (fun z => absurd z c2) (fun _ => ?_)
      refine bX11_held_18 ?_
      cases h
      exact bX11_held_24
  · refine bX11_held_0 (fun z => absurd z c1) (fun _ => ?_)
    refine bX11_held_7 ?_
    cases h
    exact bX11_held_24

def FX11_has (d : aI) (e : aJ) (x0 : Int32) (x1 : Int32) : Option (Int32 × aI × aJ) := (if ((a_shr x0 x1) &&& (nI 1)) = (nI 1) then (some ((nI 1), d, e)) else (some ((nI 0), d, e)))
theorem evX11_has {Γ : aG × Launch} {d : aI} {e : aJ} {x0 : Int32} {x1 : Int32} {q : Int32 × aI × aJ} (h : FX11_has d e x0 x1 = some q) : Ev Γ 0 mX11_has [.int x0, .int x1] d e (some (.int q.1)) q.2.1 q.2.2 := by
  refine Ev.of (by decide) rfl (Nat.le_of_ble_eq_true rfl) (fun z => by cases z) ?_
  show Rn Γ 0 mX11_has 0 [some (.int x0), some (.int x1)] [] d e _ _ _
  unfold FX11_has at h
  refine a_ite h (fun c1 h => ?_) (fun c1 h => ?_)
  · refine bX11_has_0 (fun z => absurd c1 z) (fun _ => ?_)
    refine bX11_has_9 ?_
    cases h
    exact bX11_has_14 (a_nz (Or.inr rfl))
  · refine bX11_has_0 (fun _ => ?_) (fun z => absurd z c1)
    refine bX11_has_13 ?_
    cases h
    exact bX11_has_14 (a_nz (Or.inl rfl))

def FX11_isHouse (d : aI) (e : aJ) (x1 : Int32) : Option (Int32 × aI × aJ) := (bif ((a_inb (nI 0) 1961)) then ((FX11_isIn d e x1 (nI 0) ((d 109 0) - (nI 1))).bind fun q2 => (bif (decide (q2.1 = 0 ∨ q2.1 = 1)) then (some (q2.1, q2.2.1, q2.2.2)) else none)) else none)
theorem evX11_isHouse {Γ : aG × Launch} {d : aI} {e : aJ} {x1 : Int32} {q : Int32 × aI × aJ} (h : FX11_isHouse d e x1 = some q) : Ev Γ 1 mX11_isHouse [.ref 108, .int x1] d e (some (.int q.1)) q.2.1 q.2.2 := by
  refine Ev.of (by decide) rfl (Nat.le_of_ble_eq_true rfl) (fun z => by cases z) ?_
  show Rn Γ 1 mX11_isHouse 0 [some (.ref 108), some (.int x1)] [] d e _ _ _
  unfold FX11_isHouse at h
  obtain ⟨g1, h⟩ := a_cond h
  obtain ⟨q2, hq2, h⟩ := Option.bind_eq_some_iff.mp h
  refine bX11_isHouse_0 (a_inb_vp g1) (evX11_isIn hq2) (Nat.le_of_ble_eq_true rfl) ?_
  obtain ⟨z3, h⟩ := a_cond h
  cases h
  exact bX11_isHouse_13 (a_nz (of_decide_eq_true z3))

def FX11_isCat (d : aI) (e : aJ) (x1 : Int32) : Option (Int32 × aI × aJ) := (bif ((a_inb (nI 1) 1961)) then ((FX11_isIn d e x1 (nI 0) ((d 109 1) - (nI 1))).bind fun q2 => (bif (decide (q2.1 = 0 ∨ q2.1 = 1)) then (some (q2.1, q2.2.1, q2.2.2)) else none)) else none)
theorem evX11_isCat {Γ : aG × Launch} {d : aI} {e : aJ} {x1 : Int32} {q : Int32 × aI × aJ} (h : FX11_isCat d e x1 = some q) : Ev Γ 1 mX11_isCat [.ref 108, .int x1] d e (some (.int q.1)) q.2.1 q.2.2 := by
  refine Ev.of (by decide) rfl (Nat.le_of_ble_eq_true rfl) (fun z => by cases z) ?_
  show Rn Γ 1 mX11_isCat 0 [some (.ref 108), some (.int x1)] [] d e _ _ _
  unfold FX11_isCat at h
  obtain ⟨g1, h⟩ := a_cond h
  obtain ⟨q2, hq2, h⟩ := Option.bind_eq_some_iff.mp h
  refine bX11_isCat_0 (a_inb_vp g1) (evX11_isIn hq2) (Nat.le_of_ble_eq_true rfl) ?_
  obtain ⟨z3, h⟩ := a_cond h
  cases h
  exact bX11_isCat_13 (a_nz (of_decide_eq_true z3))

def FX11_isPlace (d : aI) (e : aJ) (x0 : Int32) : Option (Int32 × aI × aJ) := ((FX11_isIn d e x0 (nI 0) (nI 9)).bind fun q1 => (bif (decide (q1.1 = 0 ∨ q1.1 = 1)) then (some (q1.1, q1.2.1, q1.2.2)) else none))
theorem evX11_isPlace {Γ : aG × Launch} {d : aI} {e : aJ} {x0 : Int32} {q : Int32 × aI × aJ} (h : FX11_isPlace d e x0 = some q) : Ev Γ 1 mX11_isPlace [.int x0] d e (some (.int q.1)) q.2.1 q.2.2 := by
  refine Ev.of (by decide) rfl (Nat.le_of_ble_eq_true rfl) (fun z => by cases z) ?_
  show Rn Γ 1 mX11_isPlace 0 [some (.int x0)] [] d e _ _ _
  unfold FX11_isPlace at h
  obtain ⟨q1, hq1, h⟩ := Option.bind_eq_some_iff.mp h
  refine bX11_isPlace_0 (evX11_isIn hq1) (Nat.le_of_ble_eq_true rfl) ?_
  obtain ⟨z2, h⟩ := a_cond h
  cases h
  exact bX11_isPlace_7 (a_nz (of_decide_eq_true z2))

def FX11_get (d : aI) (e : aJ) (x1 : Int32) (x2 : Int32) : Option (Int32 × aI × aJ) := (bif ((a_inb (((nI 12) + ((nI 3) * x1)) + x2) 1961)) then (some ((d 109 ((((nI 12) + ((nI 3) * x1)) + x2)).toNatClampNeg), d, e)) else none)
theorem evX11_get {Γ : aG × Launch} {d : aI} {e : aJ} {x1 : Int32} {x2 : Int32} {q : Int32 × aI × aJ} (h : FX11_get d e x1 x2 = some q) : Ev Γ 0 mX11_get [.ref 108, .int x1, .int x2] d e (some (.int q.1)) q.2.1 q.2.2 := by
  refine Ev.of (by decide) rfl (Nat.le_of_ble_eq_true rfl) (fun z => by cases z) ?_
  show Rn Γ 0 mX11_get 0 [some (.ref 108), some (.int x1), some (.int x2)] [] d e _ _ _
  unfold FX11_get at h
  obtain ⟨g1, h⟩ := a_cond h
  cases h
  exact bX11_get_0 (a_inb_vp g1)

def FX11_lay (d : aI) (e : aJ) (x1 : Int32) (x2 : Int32) (x3 : Int32) : Option (Unit × aI × aJ) := (bif ((a_inb (((nI 12) + ((nI 3) * x1)) + x2) 1961)) then (some ((), (uI d 109 ((((nI 12) + ((nI 3) * x1)) + x2)).toNatClampNeg x3), e)) else none)
theorem evX11_lay {Γ : aG × Launch} {d : aI} {e : aJ} {x1 : Int32} {x2 : Int32} {x3 : Int32} {q : Unit × aI × aJ} (h : FX11_lay d e x1 x2 x3 = some q) : Ev Γ 0 mX11_lay [.ref 108, .int x1, .int x2, .int x3] d e none q.2.1 q.2.2 := by
  refine Ev.of (by decide) rfl (Nat.le_of_ble_eq_true rfl) (fun z => by cases z) ?_
  show Rn Γ 0 mX11_lay 0 [some (.ref 108), some (.int x1), some (.int x2), some (.int x3)] [] d e _ _ _
  unfold FX11_lay at h
  obtain ⟨g1, h⟩ := a_cond h
  cases h
  exact bX11_lay_0 (a_inb_vp g1)

def FX11_getOf (d : aI) (e : aJ) (x1 : Int32) (x2 : Int32) : Option (Int32 × aI × aJ) := (bif ((a_inb (((nI 30) + ((nI 2) * x1)) + x2) 1961)) then (some ((d 109 ((((nI 30) + ((nI 2) * x1)) + x2)).toNatClampNeg), d, e)) else none)
theorem evX11_getOf {Γ : aG × Launch} {d : aI} {e : aJ} {x1 : Int32} {x2 : Int32} {q : Int32 × aI × aJ} (h : FX11_getOf d e x1 x2 = some q) : Ev Γ 0 mX11_getOf [.ref 108, .int x1, .int x2] d e (some (.int q.1)) q.2.1 q.2.2 := by
  refine Ev.of (by decide) rfl (Nat.le_of_ble_eq_true rfl) (fun z => by cases z) ?_
  show Rn Γ 0 mX11_getOf 0 [some (.ref 108), some (.int x1), some (.int x2)] [] d e _ _ _
  unfold FX11_getOf at h
  obtain ⟨g1, h⟩ := a_cond h
  cases h
  exact bX11_getOf_0 (a_inb_vp g1)

def FX11_layOf (d : aI) (e : aJ) (x1 : Int32) (x2 : Int32) (x3 : Int32) : Option (Unit × aI × aJ) := (bif ((a_inb (((nI 30) + ((nI 2) * x1)) + x2) 1961)) then (some ((), (uI d 109 ((((nI 30) + ((nI 2) * x1)) + x2)).toNatClampNeg x3), e)) else none)
theorem evX11_layOf {Γ : aG × Launch} {d : aI} {e : aJ} {x1 : Int32} {x2 : Int32} {x3 : Int32} {q : Unit × aI × aJ} (h : FX11_layOf d e x1 x2 x3 = some q) : Ev Γ 0 mX11_layOf [.ref 108, .int x1, .int x2, .int x3] d e none q.2.1 q.2.2 := by
  refine Ev.of (by decide) rfl (Nat.le_of_ble_eq_true rfl) (fun z => by cases z) ?_
  show Rn Γ 0 mX11_layOf 0 [some (.ref 108), some (.int x1), some (.int x2), some (.int x3)] [] d e _ _ _
  unfold FX11_layOf at h
  obtain ⟨g1, h⟩ := a_cond h
  cases h
  exact bX11_layOf_0 (a_inb_vp g1)

def FX11_isWithout (d : aI) (e : aJ) (x1 : Int32) : Option (Int32 × aI × aJ) := ((FX11_get d e x1 (nI 1)).bind fun q1 => (if q1.1 = (-(nI 1)) then (some ((nI 1), q1.2.1, q1.2.2)) else (some ((nI 0), q1.2.1, q1.2.2))))
theorem evX11_isWithout {Γ : aG × Launch} {d : aI} {e : aJ} {x1 : Int32} {q : Int32 × aI × aJ} (h : FX11_isWithout d e x1 = some q) : Ev Γ 1 mX11_isWithout [.ref 108, .int x1] d e (some (.int q.1)) q.2.1 q.2.2 := by
  refine Ev.of (by decide) rfl (Nat.le_of_ble_eq_true rfl) (fun z => by cases z) ?_
  show Rn Γ 1 mX11_isWithout 0 [some (.ref 108), some (.int x1)] [] d e _ _ _
  unfold FX11_isWithout at h
  obtain ⟨q1, hq1, h⟩ := Option.bind_eq_some_iff.mp h
  refine bX11_isWithout_0 (evX11_get hq1) (Nat.le_of_ble_eq_true rfl) ?_
  refine a_ite h (fun c2 h => ?_) (fun c2 h => ?_)
  · refine bX11_isWithout_6 (fun z => absurd c2 z) (fun _ => ?_)
    refine bX11_isWithout_10 ?_
    cases h
    exact bX11_isWithout_15 (a_nz (Or.inr rfl))
  · refine bX11_isWithout_6 (fun _ => ?_) (fun z => absurd z c2)
    refine bX11_isWithout_14 ?_
    cases h
    exact bX11_isWithout_15 (a_nz (Or.inl rfl))

def FX11_placeOf (d : aI) (e : aJ) (x1 : Int32) : Option (Int32 × aI × aJ) := ((FX11_isWithout d e x1).bind fun q1 => (if q1.1 = 0 then ((FX11_get q1.2.1 q1.2.2 x1 (nI 1)).bind fun q3 => (bif ((a_inb ((nI 42) + q3.1) 1961)) then (some ((q3.2.1 109 (((nI 42) + q3.1)).toNatClampNeg), q3.2.1, q3.2.2)) else none)) else ((FX11_get q1.2.1 q1.2.2 x1 (nI 0)).bind fun q5 => (some (q5.1, q5.2.1, q5.2.2)))))
theorem evX11_placeOf {Γ : aG × Launch} {d : aI} {e : aJ} {x1 : Int32} {q : Int32 × aI × aJ} (h : FX11_placeOf d e x1 = some q) : Ev Γ 2 mX11_placeOf [.ref 108, .int x1] d e (some (.int q.1)) q.2.1 q.2.2 := by
  refine Ev.of (by decide) rfl (Nat.le_of_ble_eq_true rfl) (fun z => by cases z) ?_
  show Rn Γ 2 mX11_placeOf 0 [some (.ref 108), some (.int x1)] [] d e _ _ _
  unfold FX11_placeOf at h
  obtain ⟨q1, hq1, h⟩ := Option.bind_eq_some_iff.mp h
  refine bX11_placeOf_0 (evX11_isWithout hq1) (Nat.le_of_ble_eq_true rfl) ?_
  refine a_ite h (fun c2 h => ?_) (fun c2 h => ?_)
  · refine bX11_placeOf_5 (fun _ => ?_) (fun z => absurd c2 z)
    obtain ⟨q3, hq3, h⟩ := Option.bind_eq_some_iff.mp h
    refine bX11_placeOf_17 (evX11_get hq3) (Nat.le_of_ble_eq_true rfl) ?_
    obtain ⟨g4, h⟩ := a_cond h
    refine bX11_placeOf_29 (a_inb_vp g4) ?_
    cases h
    exact bX11_placeOf_31
  · refine bX11_placeOf_5 (fun z => absurd z c2) (fun _ => ?_)
    obtain ⟨q5, hq5, h⟩ := Option.bind_eq_some_iff.mp h
    refine bX11_placeOf_8 (evX11_get hq5) (Nat.le_of_ble_eq_true rfl) ?_
    refine bX11_placeOf_14 ?_
    cases h
    exact bX11_placeOf_31

def FX11_apart (d : aI) (e : aJ) (x0 : Int32) (x1 : Int32) : Option (Int32 × aI × aJ) := (if x1 ≤ x0 then (if (x0 - x1) ≤ ((nI 10) - (x0 - x1)) then (some ((x0 - x1), d, e)) else (some (((nI 10) - (x0 - x1)), d, e))) else (if (x1 - x0) ≤ ((nI 10) - (x1 - x0)) then (some ((x1 - x0), d, e)) else (some (((nI 10) - (x1 - x0)), d, e))))
theorem evX11_apart {Γ : aG × Launch} {d : aI} {e : aJ} {x0 : Int32} {x1 : Int32} {q : Int32 × aI × aJ} (h : FX11_apart d e x0 x1 = some q) : Ev Γ 0 mX11_apart [.int x0, .int x1] d e (some (.int q.1)) q.2.1 q.2.2 := by
  refine Ev.of (by decide) rfl (Nat.le_of_ble_eq_true rfl) (fun z => by cases z) ?_
  show Rn Γ 0 mX11_apart 0 [some (.int x0), some (.int x1), none] [] d e _ _ _
  unfold FX11_apart at h
  refine a_ite h (fun c1 h => ?_) (fun c1 h => ?_)
  · refine bX11_apart_0 (fun _ => ?_) (fun z => absurd c1 z)
    refine bX11_apart_11 ?_
    refine a_ite h (fun c2 h => ?_) (fun c2 h => ?_)
    · refine bX11_apart_14 (fun _ => ?_) (fun z => absurd c2 z)
      refine bX11_apart_30 ?_
      cases h
      exact bX11_apart_31
    · refine bX11_apart_14 (fun z => absurd z c2) (fun _ => ?_)
      refine bX11_apart_23 ?_
      cases h
      exact bX11_apart_31
  · refine bX11_apart_0 (fun z => absurd z c1) (fun _ => ?_)
    refine bX11_apart_5 ?_
    refine a_ite h (fun c3 h => ?_) (fun c3 h => ?_)
    · refine bX11_apart_14 (fun _ => ?_) (fun z => absurd c3 z)
      refine bX11_apart_30 ?_
      cases h
      exact bX11_apart_31
    · refine bX11_apart_14 (fun z => absurd z c3) (fun _ => ?_)
      refine bX11_apart_23 ?_
      cases h
      exact bX11_apart_31

def FX11_farOf (d : aI) (e : aJ) (x1 : Int32) (x2 : Int32) : Option (Int32 × aI × aJ) := ((FX11_placeOf d e x1).bind fun q1 => (bif ((a_inb ((nI 42) + x2) 1961)) then ((FX11_apart q1.2.1 q1.2.2 q1.1 (q1.2.1 109 (((nI 42) + x2)).toNatClampNeg)).bind fun q3 => (some (q3.1, q3.2.1, q3.2.2))) else none))
theorem evX11_farOf {Γ : aG × Launch} {d : aI} {e : aJ} {x1 : Int32} {x2 : Int32} {q : Int32 × aI × aJ} (h : FX11_farOf d e x1 x2 = some q) : Ev Γ 3 mX11_farOf [.ref 108, .int x1, .int x2] d e (some (.int q.1)) q.2.1 q.2.2 := by
  refine Ev.of (by decide) rfl (Nat.le_of_ble_eq_true rfl) (fun z => by cases z) ?_
  show Rn Γ 3 mX11_farOf 0 [some (.ref 108), some (.int x1), some (.int x2)] [] d e _ _ _
  unfold FX11_farOf at h
  obtain ⟨q1, hq1, h⟩ := Option.bind_eq_some_iff.mp h
  refine bX11_farOf_0 (evX11_placeOf hq1) (Nat.le_of_ble_eq_true rfl) ?_
  obtain ⟨g2, h⟩ := a_cond h
  obtain ⟨q3, hq3, h⟩ := Option.bind_eq_some_iff.mp h
  refine bX11_farOf_5 (a_inb_vp g2) (evX11_apart hq3) (Nat.le_of_ble_eq_true rfl) ?_
  cases h
  exact bX11_farOf_17

def FX11_beginHouse (d : aI) (e : aJ) (x1 : Int32) : Option (Unit × aI × aJ) := (bif ((a_inb ((nI 48) + x1) 1961)) then ((FX11_layOf d e x1 (nI 0) (d 109 (((nI 48) + x1)).toNatClampNeg)).bind fun q2 => ((FX11_layOf q2.2.1 q2.2.2 x1 (nI 1) (nI 0)).bind fun q3 => (some ((), q3.2.1, q3.2.2)))) else none)
theorem evX11_beginHouse {Γ : aG × Launch} {d : aI} {e : aJ} {x1 : Int32} {q : Unit × aI × aJ} (h : FX11_beginHouse d e x1 = some q) : Ev Γ 1 mX11_beginHouse [.ref 108, .int x1] d e none q.2.1 q.2.2 := by
  refine Ev.of (by decide) rfl (Nat.le_of_ble_eq_true rfl) (fun z => by cases z) ?_
  show Rn Γ 1 mX11_beginHouse 0 [some (.ref 108), some (.int x1)] [] d e _ _ _
  unfold FX11_beginHouse at h
  obtain ⟨g1, h⟩ := a_cond h
  obtain ⟨q2, hq2, h⟩ := Option.bind_eq_some_iff.mp h
  refine bX11_beginHouse_0 (a_inb_vp g1) (evX11_layOf hq2) (Nat.le_of_ble_eq_true rfl) ?_
  obtain ⟨q3, hq3, h⟩ := Option.bind_eq_some_iff.mp h
  refine bX11_beginHouse_15 (evX11_layOf hq3) (Nat.le_of_ble_eq_true rfl) ?_
  cases h
  exact bX11_beginHouse_22

def FX11_beginCat (d : aI) (e : aJ) (x1 : Int32) : Option (Unit × aI × aJ) := (bif ((a_inb ((nI 60) + x1) 1961)) then ((FX11_lay d e x1 (nI 0) (d 109 (((nI 60) + x1)).toNatClampNeg)).bind fun q2 => ((FX11_lay q2.2.1 q2.2.2 x1 (nI 1) (-(nI 1))).bind fun q3 => ((FX11_lay q3.2.1 q3.2.2 x1 (nI 2) (nI 0)).bind fun q4 => (some ((), q4.2.1, q4.2.2))))) else none)
theorem evX11_beginCat {Γ : aG × Launch} {d : aI} {e : aJ} {x1 : Int32} {q : Unit × aI × aJ} (h : FX11_beginCat d e x1 = some q) : Ev Γ 1 mX11_beginCat [.ref 108, .int x1] d e none q.2.1 q.2.2 := by
  refine Ev.of (by decide) rfl (Nat.le_of_ble_eq_true rfl) (fun z => by cases z) ?_
  show Rn Γ 1 mX11_beginCat 0 [some (.ref 108), some (.int x1)] [] d e _ _ _
  unfold FX11_beginCat at h
  obtain ⟨g1, h⟩ := a_cond h
  obtain ⟨q2, hq2, h⟩ := Option.bind_eq_some_iff.mp h
  refine bX11_beginCat_0 (a_inb_vp g1) (evX11_lay hq2) (Nat.le_of_ble_eq_true rfl) ?_
  obtain ⟨q3, hq3, h⟩ := Option.bind_eq_some_iff.mp h
  refine bX11_beginCat_15 (evX11_lay hq3) (Nat.le_of_ble_eq_true rfl) ?_
  obtain ⟨q4, hq4, h⟩ := Option.bind_eq_some_iff.mp h
  refine bX11_beginCat_22 (evX11_lay hq4) (Nat.le_of_ble_eq_true rfl) ?_
  cases h
  exact bX11_beginCat_29

def FX11_end (d : aI) (e : aJ) (x1 : Int32) : Option (Int32 × aI × aJ) := ((FX11_isIn d e x1 (nI 0) (d 108 4)).bind fun q1 => (if q1.1 = 0 then (some ((-(nI 1)), q1.2.1, q1.2.2)) else (some (x1, (uI q1.2.1 108 4 x1), q1.2.2))))
theorem evX11_end {Γ : aG × Launch} {d : aI} {e : aJ} {x1 : Int32} {q : Int32 × aI × aJ} (h : FX11_end d e x1 = some q) : Ev Γ 1 mX11_end [.ref 108, .int x1] d e (some (.int q.1)) q.2.1 q.2.2 := by
  refine Ev.of (by decide) rfl (Nat.le_of_ble_eq_true rfl) (fun z => by cases z) ?_
  show Rn Γ 1 mX11_end 0 [some (.ref 108), some (.int x1)] [] d e _ _ _
  unfold FX11_end at h
  obtain ⟨q1, hq1, h⟩ := Option.bind_eq_some_iff.mp h
  refine bX11_end_0 (evX11_isIn hq1) (Nat.le_of_ble_eq_true rfl) ?_
  refine a_ite h (fun c2 h => ?_) (fun c2 h => ?_)
  · refine bX11_end_9 (fun z => absurd c2 z) (fun _ => ?_)
    cases h
    exact bX11_end_12
  · refine bX11_end_9 (fun _ => ?_) (fun z => absurd z c2)
    cases h
    exact bX11_end_14

def FX11_byteAt (d : aI) (e : aJ) (x1 : Int32) : Option (Int32 × aI × aJ) := (if (d 108 4) ≤ x1 then (some ((-(nI 1)), d, e)) else (bif ((a_inb x1 300)) then (some ((d 112 (x1).toNatClampNeg), d, e)) else none))
theorem evX11_byteAt {Γ : aG × Launch} {d : aI} {e : aJ} {x1 : Int32} {q : Int32 × aI × aJ} (h : FX11_byteAt d e x1 = some q) : Ev Γ 0 mX11_byteAt [.ref 108, .int x1] d e (some (.int q.1)) q.2.1 q.2.2 := by
  refine Ev.of (by decide) rfl (Nat.le_of_ble_eq_true rfl) (fun z => by cases z) ?_
  show Rn Γ 0 mX11_byteAt 0 [some (.ref 108), some (.int x1)] [] d e _ _ _
  unfold FX11_byteAt at h
  refine a_ite h (fun c1 h => ?_) (fun c1 h => ?_)
  · refine bX11_byteAt_0 (fun _ => ?_) (fun z => absurd c1 z)
    refine bX11_byteAt_17 ?_
    cases h
    exact bX11_byteAt_18
  · refine bX11_byteAt_0 (fun z => absurd z c1) (fun _ => ?_)
    obtain ⟨g2, h⟩ := a_cond h
    refine bX11_byteAt_8 (a_inb_vp g2) ?_
    cases h
    exact bX11_byteAt_18

def FX11_isLetterByte (d : aI) (e : aJ) (x0 : Int32) : Option (Int32 × aI × aJ) := (if x0 < (nI 97) then (if x0 < (nI 65) then (some ((nI 0), d, e)) else (if (nI 90) < x0 then (some ((nI 0), d, e)) else (some ((nI 1), d, e)))) else (if x0 ≤ (nI 122) then (some ((nI 1), d, e)) else (if x0 < (nI 65) then (some ((nI 0), d, e)) else (if (nI 90) < x0 then (some ((nI 0), d, e)) else (some ((nI 1), d, e))))))
theorem evX11_isLetterByte {Γ : aG × Launch} {d : aI} {e : aJ} {x0 : Int32} {q : Int32 × aI × aJ} (h : FX11_isLetterByte d e x0 = some q) : Ev Γ 0 mX11_isLetterByte [.int x0] d e (some (.int q.1)) q.2.1 q.2.2 := by
  refine Ev.of (by decide) rfl (Nat.le_of_ble_eq_true rfl) (fun z => by cases z) ?_
  show Rn Γ 0 mX11_isLetterByte 0 [some (.int x0)] [] d e _ _ _
  unfold FX11_isLetterByte at h
  refine a_ite h (fun c1 h => ?_) (fun c1 h => ?_)
  · refine bX11_isLetterByte_0 (fun _ => ?_) (fun z => absurd c1 z)
    refine a_ite h (fun c2 h => ?_) (fun c2 h => ?_)
    · refine bX11_isLetterByte_12 (fun _ => ?_) (fun z => absurd c2 z)
      refine bX11_isLetterByte_28 ?_
      cases h
      exact bX11_isLetterByte_29 (a_nz (Or.inl rfl))
    · refine bX11_isLetterByte_12 (fun z => absurd z c2) (fun _ => ?_)
      refine a_ite h (fun c3 h => ?_) (fun c3 h => ?_)
      · refine bX11_isLetterByte_18 (fun _ => ?_) (fun z => absurd c3 z)
        refine bX11_isLetterByte_28 ?_
        cases h
        exact bX11_isLetterByte_29 (a_nz (Or.inl rfl))
      · refine bX11_isLetterByte_18 (fun z => absurd z c3) (fun _ => ?_)
        refine bX11_isLetterByte_24 ?_
        cases h
        exact bX11_isLetterByte_29 (a_nz (Or.inr rfl))
  · refine bX11_isLetterByte_0 (fun z => absurd z c1) (fun _ => ?_)
    refine a_ite h (fun c4 h => ?_) (fun c4 h => ?_)
    · refine bX11_isLetterByte_6 (fun _ => ?_) (fun z => absurd c4 z)
      refine bX11_isLetterByte_24 ?_
      cases h
      exact bX11_isLetterByte_29 (a_nz (Or.inr rfl))
    · refine bX11_isLetterByte_6 (fun z => absurd z c4) (fun _ => ?_)
      refine a_ite h (fun c5 h => ?_) (fun c5 h => ?_)
      · refine bX11_isLetterByte_12 (fun _ => ?_) (fun z => absurd c5 z)
        refine bX11_isLetterByte_28 ?_
        cases h
        exact bX11_isLetterByte_29 (a_nz (Or.inl rfl))
      · refine bX11_isLetterByte_12 (fun z => absurd z c5) (fun _ => ?_)
        refine a_ite h (fun c6 h => ?_) (fun c6 h => ?_)
        · refine bX11_isLetterByte_18 (fun _ => ?_) (fun z => absurd c6 z)
          refine bX11_isLetterByte_28 ?_
          cases h
          exact bX11_isLetterByte_29 (a_nz (Or.inl rfl))
        · refine bX11_isLetterByte_18 (fun z => absurd z c6) (fun _ => ?_)
          refine bX11_isLetterByte_24 ?_
          cases h
          exact bX11_isLetterByte_29 (a_nz (Or.inr rfl))

def FX11_isFigure (d : aI) (e : aJ) (x0 : Int32) : Option (Int32 × aI × aJ) := (if x0 < (nI 48) then (some ((nI 0), d, e)) else (if (nI 57) < x0 then (some ((nI 0), d, e)) else (some ((nI 1), d, e))))
theorem evX11_isFigure {Γ : aG × Launch} {d : aI} {e : aJ} {x0 : Int32} {q : Int32 × aI × aJ} (h : FX11_isFigure d e x0 = some q) : Ev Γ 0 mX11_isFigure [.int x0] d e (some (.int q.1)) q.2.1 q.2.2 := by
  refine Ev.of (by decide) rfl (Nat.le_of_ble_eq_true rfl) (fun z => by cases z) ?_
  show Rn Γ 0 mX11_isFigure 0 [some (.int x0)] [] d e _ _ _
  unfold FX11_isFigure at h
  refine a_ite h (fun c1 h => ?_) (fun c1 h => ?_)
  · refine bX11_isFigure_0 (fun _ => ?_) (fun z => absurd c1 z)
    refine bX11_isFigure_16 ?_
    cases h
    exact bX11_isFigure_17 (a_nz (Or.inl rfl))
  · refine bX11_isFigure_0 (fun z => absurd z c1) (fun _ => ?_)
    refine a_ite h (fun c2 h => ?_) (fun c2 h => ?_)
    · refine bX11_isFigure_6 (fun _ => ?_) (fun z => absurd c2 z)
      refine bX11_isFigure_16 ?_
      cases h
      exact bX11_isFigure_17 (a_nz (Or.inl rfl))
    · refine bX11_isFigure_6 (fun z => absurd z c2) (fun _ => ?_)
      refine bX11_isFigure_12 ?_
      cases h
      exact bX11_isFigure_17 (a_nz (Or.inr rfl))

def FX11_isSign (d : aI) (e : aJ) (x0 : Int32) : Option (Int32 × aI × aJ) := (if x0 = (nI 35) then (some ((nI 1), d, e)) else (if x0 = (nI 36) then (some ((nI 0), d, e)) else (if x0 = (nI 37) then (some ((nI 0), d, e)) else (if x0 = (nI 38) then (some ((nI 0), d, e)) else (if x0 = (nI 39) then (some ((nI 0), d, e)) else (if x0 = (nI 40) then (some ((nI 1), d, e)) else (if x0 = (nI 41) then (some ((nI 1), d, e)) else (if x0 = (nI 42) then (some ((nI 1), d, e)) else (if x0 = (nI 43) then (some ((nI 1), d, e)) else (if x0 = (nI 44) then (some ((nI 0), d, e)) else (if x0 = (nI 45) then (some ((nI 1), d, e)) else (if x0 = (nI 46) then (some ((nI 0), d, e)) else (if x0 = (nI 47) then (some ((nI 1), d, e)) else (if x0 = (nI 48) then (some ((nI 0), d, e)) else (if x0 = (nI 49) then (some ((nI 0), d, e)) else (if x0 = (nI 50) then (some ((nI 0), d, e)) else (if x0 = (nI 51) then (some ((nI 0), d, e)) else (if x0 = (nI 52) then (some ((nI 0), d, e)) else (if x0 = (nI 53) then (some ((nI 0), d, e)) else (if x0 = (nI 54) then (some ((nI 0), d, e)) else (if x0 = (nI 55) then (some ((nI 0), d, e)) else (if x0 = (nI 56) then (some ((nI 0), d, e)) else (if x0 = (nI 57) then (some ((nI 0), d, e)) else (if x0 = (nI 58) then (some ((nI 1), d, e)) else (if x0 = (nI 59) then (some ((nI 1), d, e)) else (if x0 = (nI 60) then (some ((nI 1), d, e)) else (if x0 = (nI 61) then (some ((nI 1), d, e)) else (if x0 = (nI 62) then (some ((nI 1), d, e)) else (some ((nI 0), d, e))))))))))))))))))))))))))))))
theorem evX11_isSign {Γ : aG × Launch} {d : aI} {e : aJ} {x0 : Int32} {q : Int32 × aI × aJ} (h : FX11_isSign d e x0 = some q) : Ev Γ 0 mX11_isSign [.int x0] d e (some (.int q.1)) q.2.1 q.2.2 := by
  refine Ev.of (by decide) rfl (Nat.le_of_ble_eq_true rfl) (fun z => by cases z) ?_
  show Rn Γ 0 mX11_isSign 0 [some (.int x0)] [] d e _ _ _
  unfold FX11_isSign at h
  refine a_ite h (fun c1 h => ?_) (fun c1 h => ?_)
  · refine bX11_isSign_0 (fun n0 _ _ _ _ _ _ _ _ _ _ _ _ _ _ _ _ _ _ _ _ _ _ _ _ _ _ _ => absurd c1 n0) (fun _ => ?_) (fun z => absurd (c1.symm.trans z) (by decide)) (fun z => absurd (c1.symm.trans z) (by decide)) (fun z => absurd (c1.symm.trans z) (by decide)) (fun z => absurd (c1.symm.trans z) (by decide)) (fun z => absurd (c1.symm.trans z) (by decide)) (fun z => absurd (c1.symm.trans z) (by decide)) (fun z => absurd (c1.symm.trans z) (by decide)) (fun z => absurd (c1.symm.trans z) (by decide)) (fun z => absurd (c1.symm.trans z) (by decide)) (fun z => absurd (c1.symm.trans z) (by decide)) (fun z => absurd (c1.symm.trans z) (by decide)) (fun z => absurd (c1.symm.trans z) (by decide)) (fun z => absurd (c1.symm.trans z) (by decide)) (fun z => absurd (c1.symm.trans z) (by decide)) (fun z => absurd (c1.symm.trans z) (by decide)) (fun z => absurd (c1.symm.trans z) (by decide)) (fun z => absurd (c1.symm.trans z) (by decide)) (fun z => absurd (c1.symm.trans z) (by decide)) (fun z => absurd (c1.symm.trans z) (by decide)) (fun z => absurd (c1.symm.trans z) (by decide)) (fun z => absurd (c1.symm.trans z) (by decide)) (fun z => absurd (c1.symm.trans z) (by decide)) (fun z => absurd (c1.symm.trans z) (by decide)) (fun z => absurd (c1.symm.trans z) (by decide)) (fun z => absurd (c1.symm.trans z) (by decide)) (fun z => absurd (c1.symm.trans z) (by decide)) (fun z => absurd (c1.symm.trans z) (by decide))
    cases h
    exact bX11_isSign_128
  · skip
    refine a_ite h (fun c2 h => ?_) (fun c2 h => ?_)
    · refine bX11_isSign_0 (fun _ n1 _ _ _ _ _ _ _ _ _ _ _ _ _ _ _ _ _ _ _ _ _ _ _ _ _ _ => absurd c2 n1) (fun z => absurd z c1) (fun _ => ?_) (fun z => absurd (c2.symm.trans z) (by decide)) (fun z => absurd (c2.symm.trans z) (by decide)) (fun z => absurd (c2.symm.trans z) (by decide)) (fun z => absurd (c2.symm.trans z) (by decide)) (fun z => absurd (c2.symm.trans z) (by decide)) (fun z => absurd (c2.symm.trans z) (by decide)) (fun z => absurd (c2.symm.trans z) (by decide)) (fun z => absurd (c2.symm.trans z) (by decide)) (fun z => absurd (c2.symm.trans z) (by decide)) (fun z => absurd (c2.symm.trans z) (by decide)) (fun z => absurd (c2.symm.trans z) (by decide)) (fun z => absurd (c2.symm.trans z) (by decide)) (fun z => absurd (c2.symm.trans z) (by decide)) (fun z => absurd (c2.symm.trans z) (by decide)) (fun z => absurd (c2.symm.trans z) (by decide)) (fun z => absurd (c2.symm.trans z) (by decide)) (fun z => absurd (c2.symm.trans z) (by decide)) (fun z => absurd (c2.symm.trans z) (by decide)) (fun z => absurd (c2.symm.trans z) (by decide)) (fun z => absurd (c2.symm.trans z) (by decide)) (fun z => absurd (c2.symm.trans z) (by decide)) (fun z => absurd (c2.symm.trans z) (by decide)) (fun z => absurd (c2.symm.trans z) (by decide)) (fun z => absurd (c2.symm.trans z) (by decide)) (fun z => absurd (c2.symm.trans z) (by decide)) (fun z => absurd (c2.symm.trans z) (by decide))
      cases h
      exact bX11_isSign_130
    · skip
      refine a_ite h (fun c3 h => ?_) (fun c3 h => ?_)
      · refine bX11_isSign_0 (fun _ _ n2 _ _ _ _ _ _ _ _ _ _ _ _ _ _ _ _ _ _ _ _ _ _ _ _ _ => absurd c3 n2) (fun z => absurd z c1) (fun z => absurd z c2) (fun _ => ?_) (fun z => absurd (c3.symm.trans z) (by decide)) (fun z => absurd (c3.symm.trans z) (by decide)) (fun z => absurd (c3.symm.trans z) (by decide)) (fun z => absurd (c3.symm.trans z) (by decide)) (fun z => absurd (c3.symm.trans z) (by decide)) (fun z => absurd (c3.symm.trans z) (by decide)) (fun z => absurd (c3.symm.trans z) (by decide)) (fun z => absurd (c3.symm.trans z) (by decide)) (fun z => absurd (c3.symm.trans z) (by decide)) (fun z => absurd (c3.symm.trans z) (by decide)) (fun z => absurd (c3.symm.trans z) (by decide)) (fun z => absurd (c3.symm.trans z) (by decide)) (fun z => absurd (c3.symm.trans z) (by decide)) (fun z => absurd (c3.symm.trans z) (by decide)) (fun z => absurd (c3.symm.trans z) (by decide)) (fun z => absurd (c3.symm.trans z) (by decide)) (fun z => absurd (c3.symm.trans z) (by decide)) (fun z => absurd (c3.symm.trans z) (by decide)) (fun z => absurd (c3.symm.trans z) (by decide)) (fun z => absurd (c3.symm.trans z) (by decide)) (fun z => absurd (c3.symm.trans z) (by decide)) (fun z => absurd (c3.symm.trans z) (by decide)) (fun z => absurd (c3.symm.trans z) (by decide)) (fun z => absurd (c3.symm.trans z) (by decide)) (fun z => absurd (c3.symm.trans z) (by decide))
        cases h
        exact bX11_isSign_130
      · skip
        refine a_ite h (fun c4 h => ?_) (fun c4 h => ?_)
        · refine bX11_isSign_0 (fun _ _ _ n3 _ _ _ _ _ _ _ _ _ _ _ _ _ _ _ _ _ _ _ _ _ _ _ _ => absurd c4 n3) (fun z => absurd z c1) (fun z => absurd z c2) (fun z => absurd z c3) (fun _ => ?_) (fun z => absurd (c4.symm.trans z) (by decide)) (fun z => absurd (c4.symm.trans z) (by decide)) (fun z => absurd (c4.symm.trans z) (by decide)) (fun z => absurd (c4.symm.trans z) (by decide)) (fun z => absurd (c4.symm.trans z) (by decide)) (fun z => absurd (c4.symm.trans z) (by decide)) (fun z => absurd (c4.symm.trans z) (by decide)) (fun z => absurd (c4.symm.trans z) (by decide)) (fun z => absurd (c4.symm.trans z) (by decide)) (fun z => absurd (c4.symm.trans z) (by decide)) (fun z => absurd (c4.symm.trans z) (by decide)) (fun z => absurd (c4.symm.trans z) (by decide)) (fun z => absurd (c4.symm.trans z) (by decide)) (fun z => absurd (c4.symm.trans z) (by decide)) (fun z => absurd (c4.symm.trans z) (by decide)) (fun z => absurd (c4.symm.trans z) (by decide)) (fun z => absurd (c4.symm.trans z) (by decide)) (fun z => absurd (c4.symm.trans z) (by decide)) (fun z => absurd (c4.symm.trans z) (by decide)) (fun z => absurd (c4.symm.trans z) (by decide)) (fun z => absurd (c4.symm.trans z) (by decide)) (fun z => absurd (c4.symm.trans z) (by decide)) (fun z => absurd (c4.symm.trans z) (by decide)) (fun z => absurd (c4.symm.trans z) (by decide))
          cases h
          exact bX11_isSign_130
        · skip
          refine a_ite h (fun c5 h => ?_) (fun c5 h => ?_)
          · refine bX11_isSign_0 (fun _ _ _ _ n4 _ _ _ _ _ _ _ _ _ _ _ _ _ _ _ _ _ _ _ _ _ _ _ => absurd c5 n4) (fun z => absurd z c1) (fun z => absurd z c2) (fun z => absurd z c3) (fun z => absurd z c4) (fun _ => ?_) (fun z => absurd (c5.symm.trans z) (by decide)) (fun z => absurd (c5.symm.trans z) (by decide)) (fun z => absurd (c5.symm.trans z) (by decide)) (fun z => absurd (c5.symm.trans z) (by decide)) (fun z => absurd (c5.symm.trans z) (by decide)) (fun z => absurd (c5.symm.trans z) (by decide)) (fun z => absurd (c5.symm.trans z) (by decide)) (fun z => absurd (c5.symm.trans z) (by decide)) (fun z => absurd (c5.symm.trans z) (by decide)) (fun z => absurd (c5.symm.trans z) (by decide)) (fun z => absurd (c5.symm.trans z) (by decide)) (fun z => absurd (c5.symm.trans z) (by decide)) (fun z => absurd (c5.symm.trans z) (by decide)) (fun z => absurd (c5.symm.trans z) (by decide)) (fun z => absurd (c5.symm.trans z) (by decide)) (fun z => absurd (c5.symm.trans z) (by decide)) (fun z => absurd (c5.symm.trans z) (by decide)) (fun z => absurd (c5.symm.trans z) (by decide)) (fun z => absurd (c5.symm.trans z) (by decide)) (fun z => absurd (c5.symm.trans z) (by decide)) (fun z => absurd (c5.symm.trans z) (by decide)) (fun z => absurd (c5.symm.trans z) (by decide)) (fun z => absurd (c5.symm.trans z) (by decide))
            cases h
            exact bX11_isSign_130
          · skip
            refine a_ite h (fun c6 h => ?_) (fun c6 h => ?_)
            · refine bX11_isSign_0 (fun _ _ _ _ _ n5 _ _ _ _ _ _ _ _ _ _ _ _ _ _ _ _ _ _ _ _ _ _ => absurd c6 n5) (fun z => absurd z c1) (fun z => absurd z c2) (fun z => absurd z c3) (fun z => absurd z c4) (fun z => absurd z c5) (fun _ => ?_) (fun z => absurd (c6.symm.trans z) (by decide)) (fun z => absurd (c6.symm.trans z) (by decide)) (fun z => absurd (c6.symm.trans z) (by decide)) (fun z => absurd (c6.symm.trans z) (by decide)) (fun z => absurd (c6.symm.trans z) (by decide)) (fun z => absurd (c6.symm.trans z) (by decide)) (fun z => absurd (c6.symm.trans z) (by decide)) (fun z => absurd (c6.symm.trans z) (by decide)) (fun z => absurd (c6.symm.trans z) (by decide)) (fun z => absurd (c6.symm.trans z) (by decide)) (fun z => absurd (c6.symm.trans z) (by decide)) (fun z => absurd (c6.symm.trans z) (by decide)) (fun z => absurd (c6.symm.trans z) (by decide)) (fun z => absurd (c6.symm.trans z) (by decide)) (fun z => absurd (c6.symm.trans z) (by decide)) (fun z => absurd (c6.symm.trans z) (by decide)) (fun z => absurd (c6.symm.trans z) (by decide)) (fun z => absurd (c6.symm.trans z) (by decide)) (fun z => absurd (c6.symm.trans z) (by decide)) (fun z => absurd (c6.symm.trans z) (by decide)) (fun z => absurd (c6.symm.trans z) (by decide)) (fun z => absurd (c6.symm.trans z) (by decide))
              cases h
              exact bX11_isSign_128
            · skip
              refine a_ite h (fun c7 h => ?_) (fun c7 h => ?_)
              · refine bX11_isSign_0 (fun _ _ _ _ _ _ n6 _ _ _ _ _ _ _ _ _ _ _ _ _ _ _ _ _ _ _ _ _ => absurd c7 n6) (fun z => absurd z c1) (fun z => absurd z c2) (fun z => absurd z c3) (fun z => absurd z c4) (fun z => absurd z c5) (fun z => absurd z c6) (fun _ => ?_) (fun z => absurd (c7.symm.trans z) (by decide)) (fun z => absurd (c7.symm.trans z) (by decide)) (fun z => absurd (c7.symm.trans z) (by decide)) (fun z => absurd (c7.symm.trans z) (by decide)) (fun z => absurd (c7.symm.trans z) (by decide)) (fun z => absurd (c7.symm.trans z) (by decide)) (fun z => absurd (c7.symm.trans z) (by decide)) (fun z => absurd (c7.symm.trans z) (by decide)) (fun z => absurd (c7.symm.trans z) (by decide)) (fun z => absurd (c7.symm.trans z) (by decide)) (fun z => absurd (c7.symm.trans z) (by decide)) (fun z => absurd (c7.symm.trans z) (by decide)) (fun z => absurd (c7.symm.trans z) (by decide)) (fun z => absurd (c7.symm.trans z) (by decide)) (fun z => absurd (c7.symm.trans z) (by decide)) (fun z => absurd (c7.symm.trans z) (by decide)) (fun z => absurd (c7.symm.trans z) (by decide)) (fun z => absurd (c7.symm.trans z) (by decide)) (fun z => absurd (c7.symm.trans z) (by decide)) (fun z => absurd (c7.symm.trans z) (by decide)) (fun z => absurd (c7.symm.trans z) (by decide))
                cases h
                exact bX11_isSign_128
              · skip
                refine a_ite h (fun c8 h => ?_) (fun c8 h => ?_)
                · refine bX11_isSign_0 (fun _ _ _ _ _ _ _ n7 _ _ _ _ _ _ _ _ _ _ _ _ _ _ _ _ _ _ _ _ => absurd c8 n7) (fun z => absurd z c1) (fun z => absurd z c2) (fun z => absurd z c3) (fun z => absurd z c4) (fun z => absurd z c5) (fun z => absurd z c6) (fun z => absurd z c7) (fun _ => ?_) (fun z => absurd (c8.symm.trans z) (by decide)) (fun z => absurd (c8.symm.trans z) (by decide)) (fun z => absurd (c8.symm.trans z) (by decide)) (fun z => absurd (c8.symm.trans z) (by decide)) (fun z => absurd (c8.symm.trans z) (by decide)) (fun z => absurd (c8.symm.trans z) (by decide)) (fun z => absurd (c8.symm.trans z) (by decide)) (fun z => absurd (c8.symm.trans z) (by decide)) (fun z => absurd (c8.symm.trans z) (by decide)) (fun z => absurd (c8.symm.trans z) (by decide)) (fun z => absurd (c8.symm.trans z) (by decide)) (fun z => absurd (c8.symm.trans z) (by decide)) (fun z => absurd (c8.symm.trans z) (by decide)) (fun z => absurd (c8.symm.trans z) (by decide)) (fun z => absurd (c8.symm.trans z) (by decide)) (fun z => absurd (c8.symm.trans z) (by decide)) (fun z => absurd (c8.symm.trans z) (by decide)) (fun z => absurd (c8.symm.trans z) (by decide)) (fun z => absurd (c8.symm.trans z) (by decide)) (fun z => absurd (c8.symm.trans z) (by decide))
                  cases h
                  exact bX11_isSign_128
                · skip
                  refine a_ite h (fun c9 h => ?_) (fun c9 h => ?_)
                  · refine bX11_isSign_0 (fun _ _ _ _ _ _ _ _ n8 _ _ _ _ _ _ _ _ _ _ _ _ _ _ _ _ _ _ _ => absurd c9 n8) (fun z => absurd z c1) (fun z => absurd z c2) (fun z => absurd z c3) (fun z => absurd z c4) (fun z => absurd z c5) (fun z => absurd z c6) (fun z => absurd z c7) (fun z => absurd z c8) (fun _ => ?_) (fun z => absurd (c9.symm.trans z) (by decide)) (fun z => absurd (c9.symm.trans z) (by decide)) (fun z => absurd (c9.symm.trans z) (by decide)) (fun z => absurd (c9.symm.trans z) (by decide)) (fun z => absurd (c9.symm.trans z) (by decide)) (fun z => absurd (c9.symm.trans z) (by decide)) (fun z => absurd (c9.symm.trans z) (by decide)) (fun z => absurd (c9.symm.trans z) (by decide)) (fun z => absurd (c9.symm.trans z) (by decide)) (fun z => absurd (c9.symm.trans z) (by decide)) (fun z => absurd (c9.symm.trans z) (by decide)) (fun z => absurd (c9.symm.trans z) (by decide)) (fun z => absurd (c9.symm.trans z) (by decide)) (fun z => absurd (c9.symm.trans z) (by decide)) (fun z => absurd (c9.symm.trans z) (by decide)) (fun z => absurd (c9.symm.trans z) (by decide)) (fun z => absurd (c9.symm.trans z) (by decide)) (fun z => absurd (c9.symm.trans z) (by decide)) (fun z => absurd (c9.symm.trans z) (by decide))
                    cases h
                    exact bX11_isSign_128
                  · skip
                    refine a_ite h (fun c10 h => ?_) (fun c10 h => ?_)
                    · refine bX11_isSign_0 (fun _ _ _ _ _ _ _ _ _ n9 _ _ _ _ _ _ _ _ _ _ _ _ _ _ _ _ _ _ => absurd c10 n9) (fun z => absurd z c1) (fun z => absurd z c2) (fun z => absurd z c3) (fun z => absurd z c4) (fun z => absurd z c5) (fun z => absurd z c6) (fun z => absurd z c7) (fun z => absurd z c8) (fun z => absurd z c9) (fun _ => ?_) (fun z => absurd (c10.symm.trans z) (by decide)) (fun z => absurd (c10.symm.trans z) (by decide)) (fun z => absurd (c10.symm.trans z) (by decide)) (fun z => absurd (c10.symm.trans z) (by decide)) (fun z => absurd (c10.symm.trans z) (by decide)) (fun z => absurd (c10.symm.trans z) (by decide)) (fun z => absurd (c10.symm.trans z) (by decide)) (fun z => absurd (c10.symm.trans z) (by decide)) (fun z => absurd (c10.symm.trans z) (by decide)) (fun z => absurd (c10.symm.trans z) (by decide)) (fun z => absurd (c10.symm.trans z) (by decide)) (fun z => absurd (c10.symm.trans z) (by decide)) (fun z => absurd (c10.symm.trans z) (by decide)) (fun z => absurd (c10.symm.trans z) (by decide)) (fun z => absurd (c10.symm.trans z) (by decide)) (fun z => absurd (c10.symm.trans z) (by decide)) (fun z => absurd (c10.symm.trans z) (by decide)) (fun z => absurd (c10.symm.trans z) (by decide))
                      cases h
                      exact bX11_isSign_130
                    · skip
                      refine a_ite h (fun c11 h => ?_) (fun c11 h => ?_)
                      · refine bX11_isSign_0 (fun _ _ _ _ _ _ _ _ _ _ n10 _ _ _ _ _ _ _ _ _ _ _ _ _ _ _ _ _ => absurd c11 n10) (fun z => absurd z c1) (fun z => absurd z c2) (fun z => absurd z c3) (fun z => absurd z c4) (fun z => absurd z c5) (fun z => absurd z c6) (fun z => absurd z c7) (fun z => absurd z c8) (fun z => absurd z c9) (fun z => absurd z c10) (fun _ => ?_) (fun z => absurd (c11.symm.trans z) (by decide)) (fun z => absurd (c11.symm.trans z) (by decide)) (fun z => absurd (c11.symm.trans z) (by decide)) (fun z => absurd (c11.symm.trans z) (by decide)) (fun z => absurd (c11.symm.trans z) (by decide)) (fun z => absurd (c11.symm.trans z) (by decide)) (fun z => absurd (c11.symm.trans z) (by decide)) (fun z => absurd (c11.symm.trans z) (by decide)) (fun z => absurd (c11.symm.trans z) (by decide)) (fun z => absurd (c11.symm.trans z) (by decide)) (fun z => absurd (c11.symm.trans z) (by decide)) (fun z => absurd (c11.symm.trans z) (by decide)) (fun z => absurd (c11.symm.trans z) (by decide)) (fun z => absurd (c11.symm.trans z) (by decide)) (fun z => absurd (c11.symm.trans z) (by decide)) (fun z => absurd (c11.symm.trans z) (by decide)) (fun z => absurd (c11.symm.trans z) (by decide))
                        cases h
                        exact bX11_isSign_128
                      · skip
                        refine a_ite h (fun c12 h => ?_) (fun c12 h => ?_)
                        · refine bX11_isSign_0 (fun _ _ _ _ _ _ _ _ _ _ _ n11 _ _ _ _ _ _ _ _ _ _ _ _ _ _ _ _ => absurd c12 n11) (fun z => absurd z c1) (fun z => absurd z c2) (fun z => absurd z c3) (fun z => absurd z c4) (fun z => absurd z c5) (fun z => absurd z c6) (fun z => absurd z c7) (fun z => absurd z c8) (fun z => absurd z c9) (fun z => absurd z c10) (fun z => absurd z c11) (fun _ => ?_) (fun z => absurd (c12.symm.trans z) (by decide)) (fun z => absurd (c12.symm.trans z) (by decide)) (fun z => absurd (c12.symm.trans z) (by decide)) (fun z => absurd (c12.symm.trans z) (by decide)) (fun z => absurd (c12.symm.trans z) (by decide)) (fun z => absurd (c12.symm.trans z) (by decide)) (fun z => absurd (c12.symm.trans z) (by decide)) (fun z => absurd (c12.symm.trans z) (by decide)) (fun z => absurd (c12.symm.trans z) (by decide)) (fun z => absurd (c12.symm.trans z) (by decide)) (fun z => absurd (c12.symm.trans z) (by decide)) (fun z => absurd (c12.symm.trans z) (by decide)) (fun z => absurd (c12.symm.trans z) (by decide)) (fun z => absurd (c12.symm.trans z) (by decide)) (fun z => absurd (c12.symm.trans z) (by decide)) (fun z => absurd (c12.symm.trans z) (by decide))
                          cases h
                          exact bX11_isSign_130
                        · skip
                          refine a_ite h (fun c13 h => ?_) (fun c13 h => ?_)
                          · refine bX11_isSign_0 (fun _ _ _ _ _ _ _ _ _ _ _ _ n12 _ _ _ _ _ _ _ _ _ _ _ _ _ _ _ => absurd c13 n12) (fun z => absurd z c1) (fun z => absurd z c2) (fun z => absurd z c3) (fun z => absurd z c4) (fun z => absurd z c5) (fun z => absurd z c6) (fun z => absurd z c7) (fun z => absurd z c8) (fun z => absurd z c9) (fun z => absurd z c10) (fun z => absurd z c11) (fun z => absurd z c12) (fun _ => ?_) (fun z => absurd (c13.symm.trans z) (by decide)) (fun z => absurd (c13.symm.trans z) (by decide)) (fun z => absurd (c13.symm.trans z) (by decide)) (fun z => absurd (c13.symm.trans z) (by decide)) (fun z => absurd (c13.symm.trans z) (by decide)) (fun z => absurd (c13.symm.trans z) (by decide)) (fun z => absurd (c13.symm.trans z) (by decide)) (fun z => absurd (c13.symm.trans z) (by decide)) (fun z => absurd (c13.symm.trans z) (by decide)) (fun z => absurd (c13.symm.trans z) (by decide)) (fun z => absurd (c13.symm.trans z) (by decide)) (fun z => absurd (c13.symm.trans z) (by decide)) (fun z => absurd (c13.symm.trans z) (by decide)) (fun z => absurd (c13.symm.trans z) (by decide)) (fun z => absurd (c13.symm.trans z) (by decide))
                            cases h
                            exact bX11_isSign_128
                          · skip
                            refine a_ite h (fun c14 h => ?_) (fun c14 h => ?_)
                            · refine bX11_isSign_0 (fun _ _ _ _ _ _ _ _ _ _ _ _ _ n13 _ _ _ _ _ _ _ _ _ _ _ _ _ _ => absurd c14 n13) (fun z => absurd z c1) (fun z => absurd z c2) (fun z => absurd z c3) (fun z => absurd z c4) (fun z => absurd z c5) (fun z => absurd z c6) (fun z => absurd z c7) (fun z => absurd z c8) (fun z => absurd z c9) (fun z => absurd z c10) (fun z => absurd z c11) (fun z => absurd z c12) (fun z => absurd z c13) (fun _ => ?_) (fun z => absurd (c14.symm.trans z) (by decide)) (fun z => absurd (c14.symm.trans z) (by decide)) (fun z => absurd (c14.symm.trans z) (by decide)) (fun z => absurd (c14.symm.trans z) (by decide)) (fun z => absurd (c14.symm.trans z) (by decide)) (fun z => absurd (c14.symm.trans z) (by decide)) (fun z => absurd (c14.symm.trans z) (by decide)) (fun z => absurd (c14.symm.trans z) (by decide)) (fun z => absurd (c14.symm.trans z) (by decide)) (fun z => absurd (c14.symm.trans z) (by decide)) (fun z => absurd (c14.symm.trans z) (by decide)) (fun z => absurd (c14.symm.trans z) (by decide)) (fun z => absurd (c14.symm.trans z) (by decide)) (fun z => absurd (c14.symm.trans z) (by decide))
                              cases h
                              exact bX11_isSign_130
                            · skip
                              refine a_ite h (fun c15 h => ?_) (fun c15 h => ?_)
                              · refine bX11_isSign_0 (fun _ _ _ _ _ _ _ _ _ _ _ _ _ _ n14 _ _ _ _ _ _ _ _ _ _ _ _ _ => absurd c15 n14) (fun z => absurd z c1) (fun z => absurd z c2) (fun z => absurd z c3) (fun z => absurd z c4) (fun z => absurd z c5) (fun z => absurd z c6) (fun z => absurd z c7) (fun z => absurd z c8) (fun z => absurd z c9) (fun z => absurd z c10) (fun z => absurd z c11) (fun z => absurd z c12) (fun z => absurd z c13) (fun z => absurd z c14) (fun _ => ?_) (fun z => absurd (c15.symm.trans z) (by decide)) (fun z => absurd (c15.symm.trans z) (by decide)) (fun z => absurd (c15.symm.trans z) (by decide)) (fun z => absurd (c15.symm.trans z) (by decide)) (fun z => absurd (c15.symm.trans z) (by decide)) (fun z => absurd (c15.symm.trans z) (by decide)) (fun z => absurd (c15.symm.trans z) (by decide)) (fun z => absurd (c15.symm.trans z) (by decide)) (fun z => absurd (c15.symm.trans z) (by decide)) (fun z => absurd (c15.symm.trans z) (by decide)) (fun z => absurd (c15.symm.trans z) (by decide)) (fun z => absurd (c15.symm.trans z) (by decide)) (fun z => absurd (c15.symm.trans z) (by decide))
                                cases h
                                exact bX11_isSign_130
                              · skip
                                refine a_ite h (fun c16 h => ?_) (fun c16 h => ?_)
                                · refine bX11_isSign_0 (fun _ _ _ _ _ _ _ _ _ _ _ _ _ _ _ n15 _ _ _ _ _ _ _ _ _ _ _ _ => absurd c16 n15) (fun z => absurd z c1) (fun z => absurd z c2) (fun z => absurd z c3) (fun z => absurd z c4) (fun z => absurd z c5) (fun z => absurd z c6) (fun z => absurd z c7) (fun z => absurd z c8) (fun z => absurd z c9) (fun z => absurd z c10) (fun z => absurd z c11) (fun z => absurd z c12) (fun z => absurd z c13) (fun z => absurd z c14) (fun z => absurd z c15) (fun _ => ?_) (fun z => absurd (c16.symm.trans z) (by decide)) (fun z => absurd (c16.symm.trans z) (by decide)) (fun z => absurd (c16.symm.trans z) (by decide)) (fun z => absurd (c16.symm.trans z) (by decide)) (fun z => absurd (c16.symm.trans z) (by decide)) (fun z => absurd (c16.symm.trans z) (by decide)) (fun z => absurd (c16.symm.trans z) (by decide)) (fun z => absurd (c16.symm.trans z) (by decide)) (fun z => absurd (c16.symm.trans z) (by decide)) (fun z => absurd (c16.symm.trans z) (by decide)) (fun z => absurd (c16.symm.trans z) (by decide)) (fun z => absurd (c16.symm.trans z) (by decide))
                                  cases h
                                  exact bX11_isSign_130
                                · skip
                                  refine a_ite h (fun c17 h => ?_) (fun c17 h => ?_)
                                  · refine bX11_isSign_0 (fun _ _ _ _ _ _ _ _ _ _ _ _ _ _ _ _ n16 _ _ _ _ _ _ _ _ _ _ _ => absurd c17 n16) (fun z => absurd z c1) (fun z => absurd z c2) (fun z => absurd z c3) (fun z => absurd z c4) (fun z => absurd z c5) (fun z => absurd z c6) (fun z => absurd z c7) (fun z => absurd z c8) (fun z => absurd z c9) (fun z => absurd z c10) (fun z => absurd z c11) (fun z => absurd z c12) (fun z => absurd z c13) (fun z => absurd z c14) (fun z => absurd z c15) (fun z => absurd z c16) (fun _ => ?_) (fun z => absurd (c17.symm.trans z) (by decide)) (fun z => absurd (c17.symm.trans z) (by decide)) (fun z => absurd (c17.symm.trans z) (by decide)) (fun z => absurd (c17.symm.trans z) (by decide)) (fun z => absurd (c17.symm.trans z) (by decide)) (fun z => absurd (c17.symm.trans z) (by decide)) (fun z => absurd (c17.symm.trans z) (by decide)) (fun z => absurd (c17.symm.trans z) (by decide)) (fun z => absurd (c17.symm.trans z) (by decide)) (fun z => absurd (c17.symm.trans z) (by decide)) (fun z => absurd (c17.symm.trans z) (by decide))
                                    cases h
                                    exact bX11_isSign_130
                                  · skip
                                    refine a_ite h (fun c18 h => ?_) (fun c18 h => ?_)
                                    · refine bX11_isSign_0 (fun _ _ _ _ _ _ _ _ _ _ _ _ _ _ _ _ _ n17 _ _ _ _ _ _ _ _ _ _ => absurd c18 n17) (fun z => absurd z c1) (fun z => absurd z c2) (fun z => absurd z c3) (fun z => absurd z c4) (fun z => absurd z c5) (fun z => absurd z c6) (fun z => absurd z c7) (fun z => absurd z c8) (fun z => absurd z c9) (fun z => absurd z c10) (fun z => absurd z c11) (fun z => absurd z c12) (fun z => absurd z c13) (fun z => absurd z c14) (fun z => absurd z c15) (fun z => absurd z c16) (fun z => absurd z c17) (fun _ => ?_) (fun z => absurd (c18.symm.trans z) (by decide)) (fun z => absurd (c18.symm.trans z) (by decide)) (fun z => absurd (c18.symm.trans z) (by decide)) (fun z => absurd (c18.symm.trans z) (by decide)) (fun z => absurd (c18.symm.trans z) (by decide)) (fun z => absurd (c18.symm.trans z) (by decide)) (fun z => absurd (c18.symm.trans z) (by decide)) (fun z => absurd (c18.symm.trans z) (by decide)) (fun z => absurd (c18.symm.trans z) (by decide)) (fun z => absurd (c18.symm.trans z) (by decide))
                                      cases h
                                      exact bX11_isSign_130
                                    · skip
                                      refine a_ite h (fun c19 h => ?_) (fun c19 h => ?_)
                                      · refine bX11_isSign_0 (fun _ _ _ _ _ _ _ _ _ _ _ _ _ _ _ _ _ _ n18 _ _ _ _ _ _ _ _ _ => absurd c19 n18) (fun z => absurd z c1) (fun z => absurd z c2) (fun z => absurd z c3) (fun z => absurd z c4) (fun z => absurd z c5) (fun z => absurd z c6) (fun z => absurd z c7) (fun z => absurd z c8) (fun z => absurd z c9) (fun z => absurd z c10) (fun z => absurd z c11) (fun z => absurd z c12) (fun z => absurd z c13) (fun z => absurd z c14) (fun z => absurd z c15) (fun z => absurd z c16) (fun z => absurd z c17) (fun z => absurd z c18) (fun _ => ?_) (fun z => absurd (c19.symm.trans z) (by decide)) (fun z => absurd (c19.symm.trans z) (by decide)) (fun z => absurd (c19.symm.trans z) (by decide)) (fun z => absurd (c19.symm.trans z) (by decide)) (fun z => absurd (c19.symm.trans z) (by decide)) (fun z => absurd (c19.symm.trans z) (by decide)) (fun z => absurd (c19.symm.trans z) (by decide)) (fun z => absurd (c19.symm.trans z) (by decide)) (fun z => absurd (c19.symm.trans z) (by decide))
                                        cases h
                                        exact bX11_isSign_130
                                      · skip
                                        refine a_ite h (fun c20 h => ?_) (fun c20 h => ?_)
                                        · refine bX11_isSign_0 (fun _ _ _ _ _ _ _ _ _ _ _ _ _ _ _ _ _ _ _ n19 _ _ _ _ _ _ _ _ => absurd c20 n19) (fun z => absurd z c1) (fun z => absurd z c2) (fun z => absurd z c3) (fun z => absurd z c4) (fun z => absurd z c5) (fun z => absurd z c6) (fun z => absurd z c7) (fun z => absurd z c8) (fun z => absurd z c9) (fun z => absurd z c10) (fun z => absurd z c11) (fun z => absurd z c12) (fun z => absurd z c13) (fun z => absurd z c14) (fun z => absurd z c15) (fun z => absurd z c16) (fun z => absurd z c17) (fun z => absurd z c18) (fun z => absurd z c19) (fun _ => ?_) (fun z => absurd (c20.symm.trans z) (by decide)) (fun z => absurd (c20.symm.trans z) (by decide)) (fun z => absurd (c20.symm.trans z) (by decide)) (fun z => absurd (c20.symm.trans z) (by decide)) (fun z => absurd (c20.symm.trans z) (by decide)) (fun z => absurd (c20.symm.trans z) (by decide)) (fun z => absurd (c20.symm.trans z) (by decide)) (fun z => absurd (c20.symm.trans z) (by decide))
                                          cases h
                                          exact bX11_isSign_130
                                        · skip
                                          refine a_ite h (fun c21 h => ?_) (fun c21 h => ?_)
                                          · refine bX11_isSign_0 (fun _ _ _ _ _ _ _ _ _ _ _ _ _ _ _ _ _ _ _ _ n20 _ _ _ _ _ _ _ => absurd c21 n20) (fun z => absurd z c1) (fun z => absurd z c2) (fun z => absurd z c3) (fun z => absurd z c4) (fun z => absurd z c5) (fun z => absurd z c6) (fun z => absurd z c7) (fun z => absurd z c8) (fun z => absurd z c9) (fun z => absurd z c10) (fun z => absurd z c11) (fun z => absurd z c12) (fun z => absurd z c13) (fun z => absurd z c14) (fun z => absurd z c15) (fun z => absurd z c16) (fun z => absurd z c17) (fun z => absurd z c18) (fun z => absurd z c19) (fun z => absurd z c20) (fun _ => ?_) (fun z => absurd (c21.symm.trans z) (by decide)) (fun z => absurd (c21.symm.trans z) (by decide)) (fun z => absurd (c21.symm.trans z) (by decide)) (fun z => absurd (c21.symm.trans z) (by decide)) (fun z => absurd (c21.symm.trans z) (by decide)) (fun z => absurd (c21.symm.trans z) (by decide)) (fun z => absurd (c21.symm.trans z) (by decide))
                                            cases h
                                            exact bX11_isSign_130
                                          · skip
                                            refine a_ite h (fun c22 h => ?_) (fun c22 h => ?_)
                                            · refine bX11_isSign_0 (fun _ _ _ _ _ _ _ _ _ _ _ _ _ _ _ _ _ _ _ _ _ n21 _ _ _ _ _ _ => absurd c22 n21) (fun z => absurd z c1) (fun z => absurd z c2) (fun z => absurd z c3) (fun z => absurd z c4) (fun z => absurd z c5) (fun z => absurd z c6) (fun z => absurd z c7) (fun z => absurd z c8) (fun z => absurd z c9) (fun z => absurd z c10) (fun z => absurd z c11) (fun z => absurd z c12) (fun z => absurd z c13) (fun z => absurd z c14) (fun z => absurd z c15) (fun z => absurd z c16) (fun z => absurd z c17) (fun z => absurd z c18) (fun z => absurd z c19) (fun z => absurd z c20) (fun z => absurd z c21) (fun _ => ?_) (fun z => absurd (c22.symm.trans z) (by decide)) (fun z => absurd (c22.symm.trans z) (by decide)) (fun z => absurd (c22.symm.trans z) (by decide)) (fun z => absurd (c22.symm.trans z) (by decide)) (fun z => absurd (c22.symm.trans z) (by decide)) (fun z => absurd (c22.symm.trans z) (by decide))
                                              cases h
                                              exact bX11_isSign_130
                                            · skip
                                              refine a_ite h (fun c23 h => ?_) (fun c23 h => ?_)
                                              · refine bX11_isSign_0 (fun _ _ _ _ _ _ _ _ _ _ _ _ _ _ _ _ _ _ _ _ _ _ n22 _ _ _ _ _ => absurd c23 n22) (fun z => absurd z c1) (fun z => absurd z c2) (fun z => absurd z c3) (fun z => absurd z c4) (fun z => absurd z c5) (fun z => absurd z c6) (fun z => absurd z c7) (fun z => absurd z c8) (fun z => absurd z c9) (fun z => absurd z c10) (fun z => absurd z c11) (fun z => absurd z c12) (fun z => absurd z c13) (fun z => absurd z c14) (fun z => absurd z c15) (fun z => absurd z c16) (fun z => absurd z c17) (fun z => absurd z c18) (fun z => absurd z c19) (fun z => absurd z c20) (fun z => absurd z c21) (fun z => absurd z c22) (fun _ => ?_) (fun z => absurd (c23.symm.trans z) (by decide)) (fun z => absurd (c23.symm.trans z) (by decide)) (fun z => absurd (c23.symm.trans z) (by decide)) (fun z => absurd (c23.symm.trans z) (by decide)) (fun z => absurd (c23.symm.trans z) (by decide))
                                                cases h
                                                exact bX11_isSign_130
                                              · skip
                                                refine a_ite h (fun c24 h => ?_) (fun c24 h => ?_)
                                                · refine bX11_isSign_0 (fun _ _ _ _ _ _ _ _ _ _ _ _ _ _ _ _ _ _ _ _ _ _ _ n23 _ _ _ _ => absurd c24 n23) (fun z => absurd z c1) (fun z => absurd z c2) (fun z => absurd z c3) (fun z => absurd z c4) (fun z => absurd z c5) (fun z => absurd z c6) (fun z => absurd z c7) (fun z => absurd z c8) (fun z => absurd z c9) (fun z => absurd z c10) (fun z => absurd z c11) (fun z => absurd z c12) (fun z => absurd z c13) (fun z => absurd z c14) (fun z => absurd z c15) (fun z => absurd z c16) (fun z => absurd z c17) (fun z => absurd z c18) (fun z => absurd z c19) (fun z => absurd z c20) (fun z => absurd z c21) (fun z => absurd z c22) (fun z => absurd z c23) (fun _ => ?_) (fun z => absurd (c24.symm.trans z) (by decide)) (fun z => absurd (c24.symm.trans z) (by decide)) (fun z => absurd (c24.symm.trans z) (by decide)) (fun z => absurd (c24.symm.trans z) (by decide))
                                                  cases h
                                                  exact bX11_isSign_128
                                                · skip
                                                  refine a_ite h (fun c25 h => ?_) (fun c25 h => ?_)
                                                  · refine bX11_isSign_0 (fun _ _ _ _ _ _ _ _ _ _ _ _ _ _ _ _ _ _ _ _ _ _ _ _ n24 _ _ _ => absurd c25 n24) (fun z => absurd z c1) (fun z => absurd z c2) (fun z => absurd z c3) (fun z => absurd z c4) (fun z => absurd z c5) (fun z => absurd z c6) (fun z => absurd z c7) (fun z => absurd z c8) (fun z => absurd z c9) (fun z => absurd z c10) (fun z => absurd z c11) (fun z => absurd z c12) (fun z => absurd z c13) (fun z => absurd z c14) (fun z => absurd z c15) (fun z => absurd z c16) (fun z => absurd z c17) (fun z => absurd z c18) (fun z => absurd z c19) (fun z => absurd z c20) (fun z => absurd z c21) (fun z => absurd z c22) (fun z => absurd z c23) (fun z => absurd z c24) (fun _ => ?_) (fun z => absurd (c25.symm.trans z) (by decide)) (fun z => absurd (c25.symm.trans z) (by decide)) (fun z => absurd (c25.symm.trans z) (by decide))
                                                    cases h
                                                    exact bX11_isSign_128
                                                  · skip
                                                    refine a_ite h (fun c26 h => ?_) (fun c26 h => ?_)
                                                    · refine bX11_isSign_0 (fun _ _ _ _ _ _ _ _ _ _ _ _ _ _ _ _ _ _ _ _ _ _ _ _ _ n25 _ _ => absurd c26 n25) (fun z => absurd z c1) (fun z => absurd z c2) (fun z => absurd z c3) (fun z => absurd z c4) (fun z => absurd z c5) (fun z => absurd z c6) (fun z => absurd z c7) (fun z => absurd z c8) (fun z => absurd z c9) (fun z => absurd z c10) (fun z => absurd z c11) (fun z => absurd z c12) (fun z => absurd z c13) (fun z => absurd z c14) (fun z => absurd z c15) (fun z => absurd z c16) (fun z => absurd z c17) (fun z => absurd z c18) (fun z => absurd z c19) (fun z => absurd z c20) (fun z => absurd z c21) (fun z => absurd z c22) (fun z => absurd z c23) (fun z => absurd z c24) (fun z => absurd z c25) (fun _ => ?_) (fun z => absurd (c26.symm.trans z) (by decide)) (fun z => absurd (c26.symm.trans z) (by decide))
                                                      cases h
                                                      exact bX11_isSign_128
                                                    · skip
                                                      refine a_ite h (fun c27 h => ?_) (fun c27 h => ?_)
                                                      · refine bX11_isSign_0 (fun _ _ _ _ _ _ _ _ _ _ _ _ _ _ _ _ _ _ _ _ _ _ _ _ _ _ n26 _ => absurd c27 n26) (fun z => absurd z c1) (fun z => absurd z c2) (fun z => absurd z c3) (fun z => absurd z c4) (fun z => absurd z c5) (fun z => absurd z c6) (fun z => absurd z c7) (fun z => absurd z c8) (fun z => absurd z c9) (fun z => absurd z c10) (fun z => absurd z c11) (fun z => absurd z c12) (fun z => absurd z c13) (fun z => absurd z c14) (fun z => absurd z c15) (fun z => absurd z c16) (fun z => absurd z c17) (fun z => absurd z c18) (fun z => absurd z c19) (fun z => absurd z c20) (fun z => absurd z c21) (fun z => absurd z c22) (fun z => absurd z c23) (fun z => absurd z c24) (fun z => absurd z c25) (fun z => absurd z c26) (fun _ => ?_) (fun z => absurd (c27.symm.trans z) (by decide))
                                                        cases h
                                                        exact bX11_isSign_128
                                                      · skip
                                                        refine a_ite h (fun c28 h => ?_) (fun c28 h => ?_)
                                                        · refine bX11_isSign_0 (fun _ _ _ _ _ _ _ _ _ _ _ _ _ _ _ _ _ _ _ _ _ _ _ _ _ _ _ n27 => absurd c28 n27) (fun z => absurd z c1) (fun z => absurd z c2) (fun z => absurd z c3) (fun z => absurd z c4) (fun z => absurd z c5) (fun z => absurd z c6) (fun z => absurd z c7) (fun z => absurd z c8) (fun z => absurd z c9) (fun z => absurd z c10) (fun z => absurd z c11) (fun z => absurd z c12) (fun z => absurd z c13) (fun z => absurd z c14) (fun z => absurd z c15) (fun z => absurd z c16) (fun z => absurd z c17) (fun z => absurd z c18) (fun z => absurd z c19) (fun z => absurd z c20) (fun z => absurd z c21) (fun z => absurd z c22) (fun z => absurd z c23) (fun z => absurd z c24) (fun z => absurd z c25) (fun z => absurd z c26) (fun z => absurd z c27) (fun _ => ?_)
                                                          cases h
                                                          exact bX11_isSign_128
                                                        · skip
                                                          refine bX11_isSign_0 (fun _ _ _ _ _ _ _ _ _ _ _ _ _ _ _ _ _ _ _ _ _ _ _ _ _ _ _ _ => ?_) (fun z => absurd z c1) (fun z => absurd z c2) (fun z => absurd z c3) (fun z => absurd z c4) (fun z => absurd z c5) (fun z => absurd z c6) (fun z => absurd z c7) (fun z => absurd z c8) (fun z => absurd z c9) (fun z => absurd z c10) (fun z => absurd z c11) (fun z => absurd z c12) (fun z => absurd z c13) (fun z => absurd z c14) (fun z => absurd z c15) (fun z => absurd z c16) (fun z => absurd z c17) (fun z => absurd z c18) (fun z => absurd z c19) (fun z => absurd z c20) (fun z => absurd z c21) (fun z => absurd z c22) (fun z => absurd z c23) (fun z => absurd z c24) (fun z => absurd z c25) (fun z => absurd z c26) (fun z => absurd z c27) (fun z => absurd z c28)
                                                          cases h
                                                          exact bX11_isSign_130

def FX11_w2 (d : aI) (e : aJ) (x0 : Int32) (x1 : Int32) : Option (Int64 × aI × aJ) := (some (((a_jshl (Int32.toInt64 x0) (nI 8)) ||| (Int32.toInt64 x1)), d, e))
theorem evX11_w2 {Γ : aG × Launch} {d : aI} {e : aJ} {x0 : Int32} {x1 : Int32} {q : Int64 × aI × aJ} (h : FX11_w2 d e x0 x1 = some q) : Ev Γ 0 mX11_w2 [.int x0, .int x1] d e (some (.long q.1)) q.2.1 q.2.2 := by
  refine Ev.of (by decide) rfl (Nat.le_of_ble_eq_true rfl) (fun z => by cases z) ?_
  show Rn Γ 0 mX11_w2 0 [some (.int x0), some (.int x1)] [] d e _ _ _
  unfold FX11_w2 at h
  cases h
  exact bX11_w2_0

def FX11_w3 (d : aI) (e : aJ) (x0 : Int32) (x1 : Int32) (x2 : Int32) : Option (Int64 × aI × aJ) := ((FX11_w2 d e x0 x1).bind fun q1 => (some (((a_jshl q1.1 (nI 8)) ||| (Int32.toInt64 x2)), q1.2.1, q1.2.2)))
theorem evX11_w3 {Γ : aG × Launch} {d : aI} {e : aJ} {x0 : Int32} {x1 : Int32} {x2 : Int32} {q : Int64 × aI × aJ} (h : FX11_w3 d e x0 x1 x2 = some q) : Ev Γ 1 mX11_w3 [.int x0, .int x1, .int x2] d e (some (.long q.1)) q.2.1 q.2.2 := by
  refine Ev.of (by decide) rfl (Nat.le_of_ble_eq_true rfl) (fun z => by cases z) ?_
  show Rn Γ 1 mX11_w3 0 [some (.int x0), some (.int x1), some (.int x2)] [] d e _ _ _
  unfold FX11_w3 at h
  obtain ⟨q1, hq1, h⟩ := Option.bind_eq_some_iff.mp h
  refine bX11_w3_0 (evX11_w2 hq1) (Nat.le_of_ble_eq_true rfl) ?_
  cases h
  exact bX11_w3_5

def FX11_w4 (d : aI) (e : aJ) (x0 : Int32) (x1 : Int32) (x2 : Int32) (x3 : Int32) : Option (Int64 × aI × aJ) := ((FX11_w3 d e x0 x1 x2).bind fun q1 => (some (((a_jshl q1.1 (nI 8)) ||| (Int32.toInt64 x3)), q1.2.1, q1.2.2)))
theorem evX11_w4 {Γ : aG × Launch} {d : aI} {e : aJ} {x0 : Int32} {x1 : Int32} {x2 : Int32} {x3 : Int32} {q : Int64 × aI × aJ} (h : FX11_w4 d e x0 x1 x2 x3 = some q) : Ev Γ 2 mX11_w4 [.int x0, .int x1, .int x2, .int x3] d e (some (.long q.1)) q.2.1 q.2.2 := by
  refine Ev.of (by decide) rfl (Nat.le_of_ble_eq_true rfl) (fun z => by cases z) ?_
  show Rn Γ 2 mX11_w4 0 [some (.int x0), some (.int x1), some (.int x2), some (.int x3)] [] d e _ _ _
  unfold FX11_w4 at h
  obtain ⟨q1, hq1, h⟩ := Option.bind_eq_some_iff.mp h
  refine bX11_w4_0 (evX11_w3 hq1) (Nat.le_of_ble_eq_true rfl) ?_
  cases h
  exact bX11_w4_6

def FX11_w5 (d : aI) (e : aJ) (x0 : Int32) (x1 : Int32) (x2 : Int32) (x3 : Int32) (x4 : Int32) : Option (Int64 × aI × aJ) := ((FX11_w4 d e x0 x1 x2 x3).bind fun q1 => (some (((a_jshl q1.1 (nI 8)) ||| (Int32.toInt64 x4)), q1.2.1, q1.2.2)))
theorem evX11_w5 {Γ : aG × Launch} {d : aI} {e : aJ} {x0 : Int32} {x1 : Int32} {x2 : Int32} {x3 : Int32} {x4 : Int32} {q : Int64 × aI × aJ} (h : FX11_w5 d e x0 x1 x2 x3 x4 = some q) : Ev Γ 3 mX11_w5 [.int x0, .int x1, .int x2, .int x3, .int x4] d e (some (.long q.1)) q.2.1 q.2.2 := by
  refine Ev.of (by decide) rfl (Nat.le_of_ble_eq_true rfl) (fun z => by cases z) ?_
  show Rn Γ 3 mX11_w5 0 [some (.int x0), some (.int x1), some (.int x2), some (.int x3), some (.int x4)] [] d e _ _ _
  unfold FX11_w5 at h
  obtain ⟨q1, hq1, h⟩ := Option.bind_eq_some_iff.mp h
  refine bX11_w5_0 (evX11_w4 hq1) (Nat.le_of_ble_eq_true rfl) ?_
  cases h
  exact bX11_w5_7

def FX11_w6 (d : aI) (e : aJ) (x0 : Int32) (x1 : Int32) (x2 : Int32) (x3 : Int32) (x4 : Int32) (x5 : Int32) : Option (Int64 × aI × aJ) := ((FX11_w5 d e x0 x1 x2 x3 x4).bind fun q1 => (some (((a_jshl q1.1 (nI 8)) ||| (Int32.toInt64 x5)), q1.2.1, q1.2.2)))
theorem evX11_w6 {Γ : aG × Launch} {d : aI} {e : aJ} {x0 : Int32} {x1 : Int32} {x2 : Int32} {x3 : Int32} {x4 : Int32} {x5 : Int32} {q : Int64 × aI × aJ} (h : FX11_w6 d e x0 x1 x2 x3 x4 x5 = some q) : Ev Γ 4 mX11_w6 [.int x0, .int x1, .int x2, .int x3, .int x4, .int x5] d e (some (.long q.1)) q.2.1 q.2.2 := by
  refine Ev.of (by decide) rfl (Nat.le_of_ble_eq_true rfl) (fun z => by cases z) ?_
  show Rn Γ 4 mX11_w6 0 [some (.int x0), some (.int x1), some (.int x2), some (.int x3), some (.int x4), some (.int x5)] [] d e _ _ _
  unfold FX11_w6 at h
  obtain ⟨q1, hq1, h⟩ := Option.bind_eq_some_iff.mp h
  refine bX11_w6_0 (evX11_w5 hq1) (Nat.le_of_ble_eq_true rfl) ?_
  cases h
  exact bX11_w6_9

def FX11_isWord (d : aI) (e : aJ) (y1 : Int64) : Option (Int32 × aI × aJ) := (if (d 108 9) = (nI 2) then (if (lg_cmp (e 108 11) y1) = 0 then (some ((nI 1), d, e)) else (some ((nI 0), d, e))) else (some ((nI 0), d, e)))
theorem evX11_isWord {Γ : aG × Launch} {d : aI} {e : aJ} {y1 : Int64} {q : Int32 × aI × aJ} (h : FX11_isWord d e y1 = some q) : Ev Γ 0 mX11_isWord [.ref 108, .long y1] d e (some (.int q.1)) q.2.1 q.2.2 := by
  refine Ev.of (by decide) rfl (Nat.le_of_ble_eq_true rfl) (fun z => by cases z) ?_
  show Rn Γ 0 mX11_isWord 0 [some (.ref 108), some (.long y1), none] [] d e _ _ _
  unfold FX11_isWord at h
  refine a_ite h (fun c1 h => ?_) (fun c1 h => ?_)
  · refine bX11_isWord_0 (fun z => absurd c1 z) (fun _ => ?_)
    refine a_ite h (fun c2 h => ?_) (fun c2 h => ?_)
    · refine bX11_isWord_8 (fun z => absurd c2 z) (fun _ => ?_)
      refine bX11_isWord_17 ?_
      cases h
      exact bX11_isWord_22 (a_nz (Or.inr rfl))
    · refine bX11_isWord_8 (fun _ => ?_) (fun z => absurd z c2)
      refine bX11_isWord_21 ?_
      cases h
      exact bX11_isWord_22 (a_nz (Or.inl rfl))
  · refine bX11_isWord_0 (fun _ => ?_) (fun z => absurd z c1)
    refine bX11_isWord_21 ?_
    cases h
    exact bX11_isWord_22 (a_nz (Or.inl rfl))

def FX11_emit (d : aI) (e : aJ) (x1 : Int32) (x2 : Int32) : Option (Unit × aI × aJ) := (bif ((a_inb (((d 108 12) + (nI 73)) + ((nI 2) * (d 108 13))) 2724) && (a_inb ((((d 108 12) + (nI 73)) + ((nI 2) * (d 108 13))) + (nI 1)) 2724)) then (some ((), (uI (uI (uI d 111 ((((d 108 12) + (nI 73)) + ((nI 2) * (d 108 13)))).toNatClampNeg x1) 111 (((((d 108 12) + (nI 73)) + ((nI 2) * (d 108 13))) + (nI 1))).toNatClampNeg x2) 108 13 ((d 108 13) + (nI 1))), e)) else none)
theorem evX11_emit {Γ : aG × Launch} {d : aI} {e : aJ} {x1 : Int32} {x2 : Int32} {q : Unit × aI × aJ} (h : FX11_emit d e x1 x2 = some q) : Ev Γ 0 mX11_emit [.ref 108, .int x1, .int x2] d e none q.2.1 q.2.2 := by
  refine Ev.of (by decide) rfl (Nat.le_of_ble_eq_true rfl) (fun z => by cases z) ?_
  show Rn Γ 0 mX11_emit 0 [some (.ref 108), some (.int x1), some (.int x2)] [] d e _ _ _
  unfold FX11_emit at h
  obtain ⟨g1, h⟩ := a_cond h
  obtain ⟨g1x1, g1_1⟩ := a_and g1
  have g1_0 := g1x1
  cases h
  exact bX11_emit_0 ⟨(a_inb_vp g1_0), (a_inb_vp g1_1)⟩

def FX11_nameOf (d : aI) (e : aJ)  : Option (Int32 × aI × aJ) := (if (d 108 9) = (nI 2) then ((FX11_w4 d e (nI 104) (nI 111) (nI 117) (nI 114)).bind fun q2 => (if (lg_cmp (e 108 11) q2.1) = 0 then (some ((nI 0), q2.2.1, q2.2.2)) else ((FX11_w3 q2.2.1 q2.2.2 (nI 119) (nI 104) (nI 111)).bind fun q4 => (if (lg_cmp (q2.2.2 108 11) q4.1) = 0 then (some ((nI 1), q4.2.1, q4.2.2)) else ((FX11_w4 q4.2.1 q4.2.2 (nI 99) (nI 111) (nI 108) (nI 100)).bind fun q6 => (if (lg_cmp (q4.2.2 108 11) q6.1) = 0 then (some ((nI 2), q6.2.1, q6.2.2)) else ((FX11_w5 q6.2.1 q6.2.2 (nI 116) (nI 97) (nI 107) (nI 101) (nI 110)).bind fun q8 => (if (lg_cmp (q6.2.2 108 11) q8.1) = 0 then (some ((nI 3), q8.2.1, q8.2.2)) else ((FX11_w5 q8.2.1 q8.2.2 (nI 112) (nI 108) (nI 97) (nI 99) (nI 101)).bind fun q10 => (if (lg_cmp (q8.2.2 108 11) q10.1) = 0 then (some ((nI 4), q10.2.1, q10.2.2)) else ((FX11_w5 q10.2.1 q10.2.2 (nI 100) (nI 114) (nI 101) (nI 97) (nI 109)).bind fun q12 => (if (lg_cmp (q10.2.2 108 11) q12.1) = 0 then (some ((nI 5), q12.2.1, q12.2.2)) else ((FX11_w4 q12.2.1 q12.2.2 (nI 99) (nI 97) (nI 109) (nI 101)).bind fun q14 => (if (lg_cmp (q12.2.2 108 11) q14.1) = 0 then (some ((nI 6), q14.2.1, q14.2.2)) else ((FX11_w6 q14.2.1 q14.2.2 (nI 105) (nI 110) (nI 115) (nI 105) (nI 100) (nI 101)).bind fun q16 => (if (lg_cmp (q14.2.2 108 11) q16.1) = 0 then (some ((nI 7), q16.2.1, q16.2.2)) else (some ((-(nI 1)), q16.2.1, q16.2.2)))))))))))))))))) else (some ((-(nI 1)), d, e)))
theorem evX11_nameOf {Γ : aG × Launch} {d : aI} {e : aJ}  {q : Int32 × aI × aJ} (h : FX11_nameOf d e  = some q) : Ev Γ 5 mX11_nameOf [.ref 108] d e (some (.int q.1)) q.2.1 q.2.2 := by
  refine Ev.of (by decide) rfl (Nat.le_of_ble_eq_true rfl) (fun z => by cases z) ?_
  show Rn Γ 5 mX11_nameOf 0 [some (.ref 108)] [] d e _ _ _
  unfold FX11_nameOf at h
  refine a_ite h (fun c1 h => ?_) (fun c1 h => ?_)
  · refine bX11_nameOf_0 (fun _ => ?_) (fun z => absurd c1 z)
    obtain ⟨q2, hq2, h⟩ := Option.bind_eq_some_iff.mp h
    refine bX11_nameOf_10 (evX11_w4 hq2) (Nat.le_of_ble_eq_true rfl) ?_
    refine a_ite h (fun c3 h => ?_) (fun c3 h => ?_)
    · refine bX11_nameOf_25 (fun z => absurd c3 z) (fun _ => ?_)
      cases h
      exact bX11_nameOf_29
    · refine bX11_nameOf_25 (fun _ => ?_) (fun z => absurd z c3)
      obtain ⟨q4, hq4, h⟩ := Option.bind_eq_some_iff.mp h
      refine bX11_nameOf_31 (evX11_w3 hq4) (Nat.le_of_ble_eq_true rfl) ?_
      refine a_ite h (fun c5 h => ?_) (fun c5 h => ?_)
      · refine bX11_nameOf_44 (fun z => absurd c5 z) (fun _ => ?_)
        cases h
        exact bX11_nameOf_48
      · refine bX11_nameOf_44 (fun _ => ?_) (fun z => absurd z c5)
        obtain ⟨q6, hq6, h⟩ := Option.bind_eq_some_iff.mp h
        refine bX11_nameOf_50 (evX11_w4 hq6) (Nat.le_of_ble_eq_true rfl) ?_
        refine a_ite h (fun c7 h => ?_) (fun c7 h => ?_)
        · refine bX11_nameOf_65 (fun z => absurd c7 z) (fun _ => ?_)
          cases h
          exact bX11_nameOf_69
        · refine bX11_nameOf_65 (fun _ => ?_) (fun z => absurd z c7)
          obtain ⟨q8, hq8, h⟩ := Option.bind_eq_some_iff.mp h
          refine bX11_nameOf_71 (evX11_w5 hq8) (Nat.le_of_ble_eq_true rfl) ?_
          refine a_ite h (fun c9 h => ?_) (fun c9 h => ?_)
          · refine bX11_nameOf_88 (fun z => absurd c9 z) (fun _ => ?_)
            cases h
            exact bX11_nameOf_92
          · refine bX11_nameOf_88 (fun _ => ?_) (fun z => absurd z c9)
            obtain ⟨q10, hq10, h⟩ := Option.bind_eq_some_iff.mp h
            refine bX11_nameOf_94 (evX11_w5 hq10) (Nat.le_of_ble_eq_true rfl) ?_
            refine a_ite h (fun c11 h => ?_) (fun c11 h => ?_)
            · refine bX11_nameOf_111 (fun z => absurd c11 z) (fun _ => ?_)
              cases h
              exact bX11_nameOf_115
            · refine bX11_nameOf_111 (fun _ => ?_) (fun z => absurd z c11)
              obtain ⟨q12, hq12, h⟩ := Option.bind_eq_some_iff.mp h
              refine bX11_nameOf_117 (evX11_w5 hq12) (Nat.le_of_ble_eq_true rfl) ?_
              refine a_ite h (fun c13 h => ?_) (fun c13 h => ?_)
              · refine bX11_nameOf_134 (fun z => absurd c13 z) (fun _ => ?_)
                cases h
                exact bX11_nameOf_138
              · refine bX11_nameOf_134 (fun _ => ?_) (fun z => absurd z c13)
                obtain ⟨q14, hq14, h⟩ := Option.bind_eq_some_iff.mp h
                refine bX11_nameOf_140 (evX11_w4 hq14) (Nat.le_of_ble_eq_true rfl) ?_
                refine a_ite h (fun c15 h => ?_) (fun c15 h => ?_)
                · refine bX11_nameOf_155 (fun z => absurd c15 z) (fun _ => ?_)
                  refine bX11_nameOf_159 ?_
                  cases h
                  exact bX11_nameOf_193
                · refine bX11_nameOf_155 (fun _ => ?_) (fun z => absurd z c15)
                  obtain ⟨q16, hq16, h⟩ := Option.bind_eq_some_iff.mp h
                  refine bX11_nameOf_164 (evX11_w6 hq16) (Nat.le_of_ble_eq_true rfl) ?_
                  refine a_ite h (fun c17 h => ?_) (fun c17 h => ?_)
                  · refine bX11_nameOf_183 (fun z => absurd c17 z) (fun _ => ?_)
                    refine bX11_nameOf_187 ?_
                    cases h
                    exact bX11_nameOf_193
                  · refine bX11_nameOf_183 (fun _ => ?_) (fun z => absurd z c17)
                    refine bX11_nameOf_192 ?_
                    cases h
                    exact bX11_nameOf_193
  · refine bX11_nameOf_0 (fun z => absurd z c1) (fun _ => ?_)
    cases h
    exact bX11_nameOf_8

def FX11_isOf (d : aI) (e : aJ) (x1 : Int32) : Option (Int32 × aI × aJ) := (if x1 < (nI 5) then (some ((nI 1), d, e)) else (if (nI 7) ≤ x1 then (if (d 108 14) = (nI 1) then (some ((nI 1), d, e)) else (some ((nI 0), d, e))) else (if (d 108 14) = 0 then (some ((nI 1), d, e)) else (some ((nI 0), d, e)))))
theorem evX11_isOf {Γ : aG × Launch} {d : aI} {e : aJ} {x1 : Int32} {q : Int32 × aI × aJ} (h : FX11_isOf d e x1 = some q) : Ev Γ 0 mX11_isOf [.ref 108, .int x1] d e (some (.int q.1)) q.2.1 q.2.2 := by
  refine Ev.of (by decide) rfl (Nat.le_of_ble_eq_true rfl) (fun z => by cases z) ?_
  show Rn Γ 0 mX11_isOf 0 [some (.ref 108), some (.int x1)] [] d e _ _ _
  unfold FX11_isOf at h
  refine a_ite h (fun c1 h => ?_) (fun c1 h => ?_)
  · refine bX11_isOf_0 (fun _ => ?_) (fun z => absurd c1 z)
    refine bX11_isOf_29 ?_
    cases h
    exact bX11_isOf_34 (a_nz (Or.inr rfl))
  · refine bX11_isOf_0 (fun z => absurd z c1) (fun _ => ?_)
    refine a_ite h (fun c2 h => ?_) (fun c2 h => ?_)
    · refine bX11_isOf_5 (fun _ => ?_) (fun z => absurd c2 z)
      refine a_ite h (fun c3 h => ?_) (fun c3 h => ?_)
      · refine bX11_isOf_21 (fun z => absurd c3 z) (fun _ => ?_)
        refine bX11_isOf_29 ?_
        cases h
        exact bX11_isOf_34 (a_nz (Or.inr rfl))
      · refine bX11_isOf_21 (fun _ => ?_) (fun z => absurd z c3)
        refine bX11_isOf_33 ?_
        cases h
        exact bX11_isOf_34 (a_nz (Or.inl rfl))
    · refine bX11_isOf_5 (fun z => absurd z c2) (fun _ => ?_)
      refine a_ite h (fun c4 h => ?_) (fun c4 h => ?_)
      · refine bX11_isOf_11 (fun z => absurd c4 z) (fun _ => ?_)
        refine bX11_isOf_18 ?_
        refine bX11_isOf_29 ?_
        cases h
        exact bX11_isOf_34 (a_nz (Or.inr rfl))
      · refine bX11_isOf_11 (fun _ => ?_) (fun z => absurd z c4)
        refine bX11_isOf_33 ?_
        cases h
        exact bX11_isOf_34 (a_nz (Or.inl rfl))

def FX11_rank (d : aI) (e : aJ) (x0 : Int32) : Option (Int32 × aI × aJ) := (if x0 < (nI 40) then (if x0 = (nI 22) then (some ((nI 1), d, e)) else (if x0 = (nI 21) then (some ((nI 2), d, e)) else (if x0 = (nI 20) then (some ((nI 3), d, e)) else (if x0 < (nI 10) then (if x0 = (nI 5) then (some ((nI 7), d, e)) else (if x0 = (nI 2) then (some ((nI 7), d, e)) else (if x0 = (nI 4) then (some ((nI 7), d, e)) else (if x0 < (nI 8) then (some ((nI 5), d, e)) else (some ((nI 6), d, e)))))) else (some ((nI 4), d, e)))))) else (some ((nI 0), d, e)))
theorem evX11_rank {Γ : aG × Launch} {d : aI} {e : aJ} {x0 : Int32} {q : Int32 × aI × aJ} (h : FX11_rank d e x0 = some q) : Ev Γ 0 mX11_rank [.int x0] d e (some (.int q.1)) q.2.1 q.2.2 := by
  refine Ev.of (by decide) rfl (Nat.le_of_ble_eq_true rfl) (fun z => by cases z) ?_
  show Rn Γ 0 mX11_rank 0 [some (.int x0)] [] d e _ _ _
  unfold FX11_rank at h
  refine a_ite h (fun c1 h => ?_) (fun c1 h => ?_)
  · refine bX11_rank_0 (fun _ => ?_) (fun z => absurd c1 z)
    refine a_ite h (fun c2 h => ?_) (fun c2 h => ?_)
    · refine bX11_rank_10 (fun z => absurd c2 z) (fun _ => ?_)
      refine bX11_rank_16 ?_
      cases h
      exact bX11_rank_82
    · refine bX11_rank_10 (fun _ => ?_) (fun z => absurd z c2)
      refine a_ite h (fun c3 h => ?_) (fun c3 h => ?_)
      · refine bX11_rank_20 (fun z => absurd c3 z) (fun _ => ?_)
        refine bX11_rank_26 ?_
        cases h
        exact bX11_rank_82
      · refine bX11_rank_20 (fun _ => ?_) (fun z => absurd z c3)
        refine a_ite h (fun c4 h => ?_) (fun c4 h => ?_)
        · refine bX11_rank_30 (fun z => absurd c4 z) (fun _ => ?_)
          refine bX11_rank_36 ?_
          cases h
          exact bX11_rank_82
        · refine bX11_rank_30 (fun _ => ?_) (fun z => absurd z c4)
          refine a_ite h (fun c5 h => ?_) (fun c5 h => ?_)
          · refine bX11_rank_40 (fun _ => ?_) (fun z => absurd c5 z)
            refine a_ite h (fun c6 h => ?_) (fun c6 h => ?_)
            · refine bX11_rank_50 (fun _ => ?_) (fun z => absurd c6 z)
              refine bX11_rank_65 ?_
              cases h
              exact bX11_rank_82
            · refine bX11_rank_50 (fun z => absurd z c6) (fun _ => ?_)
              refine a_ite h (fun c7 h => ?_) (fun c7 h => ?_)
              · refine bX11_rank_55 (fun _ => ?_) (fun z => absurd c7 z)
                refine bX11_rank_65 ?_
                cases h
                exact bX11_rank_82
              · refine bX11_rank_55 (fun z => absurd z c7) (fun _ => ?_)
                refine a_ite h (fun c8 h => ?_) (fun c8 h => ?_)
                · refine bX11_rank_60 (fun z => absurd c8 z) (fun _ => ?_)
                  refine bX11_rank_65 ?_
                  cases h
                  exact bX11_rank_82
                · refine bX11_rank_60 (fun _ => ?_) (fun z => absurd z c8)
                  refine a_ite h (fun c9 h => ?_) (fun c9 h => ?_)
                  · refine bX11_rank_70 (fun _ => ?_) (fun z => absurd c9 z)
                    refine bX11_rank_81 ?_
                    cases h
                    exact bX11_rank_82
                  · refine bX11_rank_70 (fun z => absurd z c9) (fun _ => ?_)
                    refine bX11_rank_76 ?_
                    cases h
                    exact bX11_rank_82
          · refine bX11_rank_40 (fun z => absurd z c5) (fun _ => ?_)
            refine bX11_rank_46 ?_
            cases h
            exact bX11_rank_82
  · refine bX11_rank_0 (fun z => absurd z c1) (fun _ => ?_)
    refine bX11_rank_6 ?_
    cases h
    exact bX11_rank_82

def FX11_compareOf (d : aI) (e : aJ)  : Option (Int32 × aI × aJ) := (if (d 108 9) = (nI 60) then (some ((nI 10), d, e)) else (if (d 108 9) = (nI 4) then (some ((nI 11), d, e)) else (if (d 108 9) = (nI 62) then (some ((nI 12), d, e)) else (if (d 108 9) = (nI 5) then (some ((nI 13), d, e)) else (if (d 108 9) = (nI 61) then (some ((nI 14), d, e)) else (if (d 108 9) = (nI 35) then (some ((nI 15), d, e)) else (some ((-(nI 1)), d, e))))))))
theorem evX11_compareOf {Γ : aG × Launch} {d : aI} {e : aJ}  {q : Int32 × aI × aJ} (h : FX11_compareOf d e  = some q) : Ev Γ 0 mX11_compareOf [.ref 108] d e (some (.int q.1)) q.2.1 q.2.2 := by
  refine Ev.of (by decide) rfl (Nat.le_of_ble_eq_true rfl) (fun z => by cases z) ?_
  show Rn Γ 0 mX11_compareOf 0 [some (.ref 108)] [] d e _ _ _
  unfold FX11_compareOf at h
  refine a_ite h (fun c1 h => ?_) (fun c1 h => ?_)
  · refine bX11_compareOf_0 (fun z => absurd c1 z) (fun _ => ?_)
    refine bX11_compareOf_9 ?_
    cases h
    exact bX11_compareOf_83
  · refine bX11_compareOf_0 (fun _ => ?_) (fun z => absurd z c1)
    refine a_ite h (fun c2 h => ?_) (fun c2 h => ?_)
    · refine bX11_compareOf_14 (fun z => absurd c2 z) (fun _ => ?_)
      refine bX11_compareOf_22 ?_
      cases h
      exact bX11_compareOf_83
    · refine bX11_compareOf_14 (fun _ => ?_) (fun z => absurd z c2)
      refine a_ite h (fun c3 h => ?_) (fun c3 h => ?_)
      · refine bX11_compareOf_27 (fun z => absurd c3 z) (fun _ => ?_)
        refine bX11_compareOf_36 ?_
        cases h
        exact bX11_compareOf_83
      · refine bX11_compareOf_27 (fun _ => ?_) (fun z => absurd z c3)
        refine a_ite h (fun c4 h => ?_) (fun c4 h => ?_)
        · refine bX11_compareOf_41 (fun z => absurd c4 z) (fun _ => ?_)
          refine bX11_compareOf_49 ?_
          cases h
          exact bX11_compareOf_83
        · refine bX11_compareOf_41 (fun _ => ?_) (fun z => absurd z c4)
          refine a_ite h (fun c5 h => ?_) (fun c5 h => ?_)
          · refine bX11_compareOf_54 (fun z => absurd c5 z) (fun _ => ?_)
            refine bX11_compareOf_63 ?_
            cases h
            exact bX11_compareOf_83
          · refine bX11_compareOf_54 (fun _ => ?_) (fun z => absurd z c5)
            refine a_ite h (fun c6 h => ?_) (fun c6 h => ?_)
            · refine bX11_compareOf_68 (fun z => absurd c6 z) (fun _ => ?_)
              refine bX11_compareOf_77 ?_
              cases h
              exact bX11_compareOf_83
            · refine bX11_compareOf_68 (fun _ => ?_) (fun z => absurd z c6)
              refine bX11_compareOf_82 ?_
              cases h
              exact bX11_compareOf_83

def FX11_sortOf (d : aI) (e : aJ)  : Option (Int32 × aI × aJ) := ((FX11_w5 d e (nI 116) (nI 97) (nI 107) (nI 101) (nI 115)).bind fun q1 => ((FX11_isWord q1.2.1 q1.2.2 q1.1).bind fun q2 => (if q2.1 = 0 then ((FX11_w4 q2.2.1 q2.2.2 (nI 103) (nI 111) (nI 101) (nI 115)).bind fun q4 => ((FX11_isWord q4.2.1 q4.2.2 q4.1).bind fun q5 => (if q5.1 = 0 then ((FX11_w5 q5.2.1 q5.2.2 (nI 104) (nI 111) (nI 117) (nI 115) (nI 101)).bind fun q7 => ((FX11_isWord q7.2.1 q7.2.2 q7.1).bind fun q8 => (if q8.1 = 0 then ((FX11_w3 q8.2.1 q8.2.2 (nI 99) (nI 97) (nI 116)).bind fun q10 => ((FX11_isWord q10.2.1 q10.2.2 q10.1).bind fun q11 => (if q11.1 = 0 then ((FX11_w3 q11.2.1 q11.2.2 (nI 108) (nI 101) (nI 116)).bind fun q13 => ((FX11_isWord q13.2.1 q13.2.2 q13.1).bind fun q14 => (if q14.1 = 0 then ((FX11_w3 q14.2.1 q14.2.2 (nI 111) (nI 117) (nI 116)).bind fun q16 => ((FX11_isWord q16.2.1 q16.2.2 q16.1).bind fun q17 => (if q17.1 = 0 then ((FX11_w2 q17.2.1 q17.2.2 (nI 117) (nI 112)).bind fun q19 => ((FX11_isWord q19.2.1 q19.2.2 q19.1).bind fun q20 => (if q20.1 = 0 then ((FX11_w4 q20.2.1 q20.2.2 (nI 100) (nI 111) (nI 119) (nI 110)).bind fun q22 => ((FX11_isWord q22.2.1 q22.2.2 q22.1).bind fun q23 => (if q23.1 = 0 then ((FX11_w4 q23.2.1 q23.2.2 (nI 104) (nI 111) (nI 117) (nI 114)).bind fun q25 => ((FX11_isWord q25.2.1 q25.2.2 q25.1).bind fun q26 => (if q26.1 = 0 then (some ((-(nI 1)), q26.2.1, q26.2.2)) else (some ((nI 8), q26.2.1, q26.2.2))))) else (some ((nI 7), q23.2.1, q23.2.2))))) else (some ((nI 6), q20.2.1, q20.2.2))))) else (some ((nI 5), q17.2.1, q17.2.2))))) else (some ((nI 4), q14.2.1, q14.2.2))))) else (some ((nI 3), q11.2.1, q11.2.2))))) else (some ((nI 2), q8.2.1, q8.2.2))))) else (some ((nI 1), q5.2.1, q5.2.2))))) else (some ((nI 0), q2.2.1, q2.2.2)))))
theorem evX11_sortOf {Γ : aG × Launch} {d : aI} {e : aJ}  {q : Int32 × aI × aJ} (h : FX11_sortOf d e  = some q) : Ev Γ 4 mX11_sortOf [.ref 108] d e (some (.int q.1)) q.2.1 q.2.2 := by
  refine Ev.of (by decide) rfl (Nat.le_of_ble_eq_true rfl) (fun z => by cases z) ?_
  show Rn Γ 4 mX11_sortOf 0 [some (.ref 108)] [] d e _ _ _
  unfold FX11_sortOf at h
  obtain ⟨q1, hq1, h⟩ := Option.bind_eq_some_iff.mp h
  refine bX11_sortOf_0 (evX11_w5 hq1) (Nat.le_of_ble_eq_true rfl) ?_
  obtain ⟨q2, hq2, h⟩ := Option.bind_eq_some_iff.mp h
  refine bX11_sortOf_14 (evX11_isWord hq2) (Nat.le_of_ble_eq_true rfl) ?_
  refine a_ite h (fun c3 h => ?_) (fun c3 h => ?_)
  · refine bX11_sortOf_17 (fun _ => ?_) (fun z => absurd c3 z)
    obtain ⟨q4, hq4, h⟩ := Option.bind_eq_some_iff.mp h
    refine bX11_sortOf_22 (evX11_w4 hq4) (Nat.le_of_ble_eq_true rfl) ?_
    obtain ⟨q5, hq5, h⟩ := Option.bind_eq_some_iff.mp h
    refine bX11_sortOf_34 (evX11_isWord hq5) (Nat.le_of_ble_eq_true rfl) ?_
    refine a_ite h (fun c6 h => ?_) (fun c6 h => ?_)
    · refine bX11_sortOf_37 (fun _ => ?_) (fun z => absurd c6 z)
      obtain ⟨q7, hq7, h⟩ := Option.bind_eq_some_iff.mp h
      refine bX11_sortOf_42 (evX11_w5 hq7) (Nat.le_of_ble_eq_true rfl) ?_
      obtain ⟨q8, hq8, h⟩ := Option.bind_eq_some_iff.mp h
      refine bX11_sortOf_56 (evX11_isWord hq8) (Nat.le_of_ble_eq_true rfl) ?_
      refine a_ite h (fun c9 h => ?_) (fun c9 h => ?_)
      · refine bX11_sortOf_59 (fun _ => ?_) (fun z => absurd c9 z)
        obtain ⟨q10, hq10, h⟩ := Option.bind_eq_some_iff.mp h
        refine bX11_sortOf_64 (evX11_w3 hq10) (Nat.le_of_ble_eq_true rfl) ?_
        obtain ⟨q11, hq11, h⟩ := Option.bind_eq_some_iff.mp h
        refine bX11_sortOf_74 (evX11_isWord hq11) (Nat.le_of_ble_eq_true rfl) ?_
        refine a_ite h (fun c12 h => ?_) (fun c12 h => ?_)
        · refine bX11_sortOf_77 (fun _ => ?_) (fun z => absurd c12 z)
          obtain ⟨q13, hq13, h⟩ := Option.bind_eq_some_iff.mp h
          refine bX11_sortOf_82 (evX11_w3 hq13) (Nat.le_of_ble_eq_true rfl) ?_
          obtain ⟨q14, hq14, h⟩ := Option.bind_eq_some_iff.mp h
          refine bX11_sortOf_92 (evX11_isWord hq14) (Nat.le_of_ble_eq_true rfl) ?_
          refine a_ite h (fun c15 h => ?_) (fun c15 h => ?_)
          · refine bX11_sortOf_95 (fun _ => ?_) (fun z => absurd c15 z)
            obtain ⟨q16, hq16, h⟩ := Option.bind_eq_some_iff.mp h
            refine bX11_sortOf_100 (evX11_w3 hq16) (Nat.le_of_ble_eq_true rfl) ?_
            obtain ⟨q17, hq17, h⟩ := Option.bind_eq_some_iff.mp h
            refine bX11_sortOf_110 (evX11_isWord hq17) (Nat.le_of_ble_eq_true rfl) ?_
            refine a_ite h (fun c18 h => ?_) (fun c18 h => ?_)
            · refine bX11_sortOf_113 (fun _ => ?_) (fun z => absurd c18 z)
              obtain ⟨q19, hq19, h⟩ := Option.bind_eq_some_iff.mp h
              refine bX11_sortOf_118 (evX11_w2 hq19) (Nat.le_of_ble_eq_true rfl) ?_
              obtain ⟨q20, hq20, h⟩ := Option.bind_eq_some_iff.mp h
              refine bX11_sortOf_126 (evX11_isWord hq20) (Nat.le_of_ble_eq_true rfl) ?_
              refine a_ite h (fun c21 h => ?_) (fun c21 h => ?_)
              · refine bX11_sortOf_129 (fun _ => ?_) (fun z => absurd c21 z)
                obtain ⟨q22, hq22, h⟩ := Option.bind_eq_some_iff.mp h
                refine bX11_sortOf_135 (evX11_w4 hq22) (Nat.le_of_ble_eq_true rfl) ?_
                obtain ⟨q23, hq23, h⟩ := Option.bind_eq_some_iff.mp h
                refine bX11_sortOf_147 (evX11_isWord hq23) (Nat.le_of_ble_eq_true rfl) ?_
                refine a_ite h (fun c24 h => ?_) (fun c24 h => ?_)
                · refine bX11_sortOf_150 (fun _ => ?_) (fun z => absurd c24 z)
                  obtain ⟨q25, hq25, h⟩ := Option.bind_eq_some_iff.mp h
                  refine bX11_sortOf_158 (evX11_w4 hq25) (Nat.le_of_ble_eq_true rfl) ?_
                  obtain ⟨q26, hq26, h⟩ := Option.bind_eq_some_iff.mp h
                  refine bX11_sortOf_170 (evX11_isWord hq26) (Nat.le_of_ble_eq_true rfl) ?_
                  refine a_ite h (fun c27 h => ?_) (fun c27 h => ?_)
                  · refine bX11_sortOf_173 (fun _ => ?_) (fun z => absurd c27 z)
                    refine bX11_sortOf_181 ?_
                    cases h
                    exact bX11_sortOf_182
                  · refine bX11_sortOf_173 (fun z => absurd z c27) (fun _ => ?_)
                    refine bX11_sortOf_176 ?_
                    cases h
                    exact bX11_sortOf_182
                · refine bX11_sortOf_150 (fun z => absurd z c24) (fun _ => ?_)
                  refine bX11_sortOf_153 ?_
                  cases h
                  exact bX11_sortOf_182
              · refine bX11_sortOf_129 (fun z => absurd z c21) (fun _ => ?_)
                cases h
                exact bX11_sortOf_132
            · refine bX11_sortOf_113 (fun z => absurd z c18) (fun _ => ?_)
              cases h
              exact bX11_sortOf_116
          · refine bX11_sortOf_95 (fun z => absurd z c15) (fun _ => ?_)
            cases h
            exact bX11_sortOf_98
        · refine bX11_sortOf_77 (fun z => absurd z c12) (fun _ => ?_)
          cases h
          exact bX11_sortOf_80
      · refine bX11_sortOf_59 (fun z => absurd z c9) (fun _ => ?_)
        cases h
        exact bX11_sortOf_62
    · refine bX11_sortOf_37 (fun z => absurd z c6) (fun _ => ?_)
      cases h
      exact bX11_sortOf_40
  · refine bX11_sortOf_17 (fun z => absurd z c3) (fun _ => ?_)
    cases h
    exact bX11_sortOf_20

def FX11_fault (d : aI) (e : aJ) (x1 : Int32) : Option (Int32 × aI × aJ) := (if x1 = 0 then (some ((d 108 5), d, e)) else (if x1 = (nI 1) then (some ((d 108 6), d, e)) else (some ((-(nI 1)), d, e))))
theorem evX11_fault {Γ : aG × Launch} {d : aI} {e : aJ} {x1 : Int32} {q : Int32 × aI × aJ} (h : FX11_fault d e x1 = some q) : Ev Γ 0 mX11_fault [.ref 108, .int x1] d e (some (.int q.1)) q.2.1 q.2.2 := by
  refine Ev.of (by decide) rfl (Nat.le_of_ble_eq_true rfl) (fun z => by cases z) ?_
  show Rn Γ 0 mX11_fault 0 [some (.ref 108), some (.int x1)] [] d e _ _ _
  unfold FX11_fault at h
  refine a_ite h (fun c1 h => ?_) (fun c1 h => ?_)
  · refine bX11_fault_0 (fun z => absurd c1 z) (fun _ => ?_)
    refine bX11_fault_4 ?_
    cases h
    exact bX11_fault_24
  · refine bX11_fault_0 (fun _ => ?_) (fun z => absurd z c1)
    refine a_ite h (fun c2 h => ?_) (fun c2 h => ?_)
    · refine bX11_fault_11 (fun z => absurd c2 z) (fun _ => ?_)
      refine bX11_fault_16 ?_
      cases h
      exact bX11_fault_24
    · refine bX11_fault_11 (fun _ => ?_) (fun z => absurd z c2)
      refine bX11_fault_23 ?_
      cases h
      exact bX11_fault_24

def FX11_by (d : aI) (e : aJ) (x1 : Int32) : Option (Int32 × aI × aJ) := (bif ((a_inb (nI 2) 1961)) then ((FX11_isIn d e x1 (-(nI 1)) ((d 109 2) - (nI 1))).bind fun q2 => (if q2.1 = 0 then (some ((nI 0), q2.2.1, q2.2.2)) else (bif ((a_inb (nI 3) 1961)) then (some ((nI 1), (uI q2.2.1 109 3 x1), q2.2.2)) else none))) else none)
theorem evX11_by {Γ : aG × Launch} {d : aI} {e : aJ} {x1 : Int32} {q : Int32 × aI × aJ} (h : FX11_by d e x1 = some q) : Ev Γ 1 mX11_by [.ref 108, .int x1] d e (some (.int q.1)) q.2.1 q.2.2 := by
  refine Ev.of (by decide) rfl (Nat.le_of_ble_eq_true rfl) (fun z => by cases z) ?_
  show Rn Γ 1 mX11_by 0 [some (.ref 108), some (.int x1)] [] d e _ _ _
  unfold FX11_by at h
  obtain ⟨g1, h⟩ := a_cond h
  obtain ⟨q2, hq2, h⟩ := Option.bind_eq_some_iff.mp h
  refine bX11_by_0 (a_inb_vp g1) (evX11_isIn hq2) (Nat.le_of_ble_eq_true rfl) ?_
  refine a_ite h (fun c3 h => ?_) (fun c3 h => ?_)
  · refine bX11_by_13 (fun z => absurd c3 z) (fun _ => ?_)
    cases h
    exact bX11_by_16
  · refine bX11_by_13 (fun _ => ?_) (fun z => absurd z c3)
    obtain ⟨g4, h⟩ := a_cond h
    cases h
    exact bX11_by_18 (a_inb_vp g4)

def FX11_clip (d : aI) (e : aJ) (y0 : Int64) : Option (Int64 × aI × aJ) := (if (lg_cmp y0 (lN 1000000)) ≤ 0 then (if 0 ≤ (lg_cmp y0 (-(lN 1000000))) then (some (y0, d, e)) else (some ((-(lN 1000000)), d, e))) else (some ((lN 1000000), d, e)))
theorem evX11_clip {Γ : aG × Launch} {d : aI} {e : aJ} {y0 : Int64} {q : Int64 × aI × aJ} (h : FX11_clip d e y0 = some q) : Ev Γ 0 mX11_clip [.long y0] d e (some (.long q.1)) q.2.1 q.2.2 := by
  refine Ev.of (by decide) rfl (Nat.le_of_ble_eq_true rfl) (fun z => by cases z) ?_
  show Rn Γ 0 mX11_clip 0 [some (.long y0), none] [] d e _ _ _
  unfold FX11_clip at h
  refine a_ite h (fun c1 h => ?_) (fun c1 h => ?_)
  · refine bX11_clip_0 (fun _ => ?_) (fun z => absurd c1 z)
    refine a_ite h (fun c2 h => ?_) (fun c2 h => ?_)
    · refine bX11_clip_14 (fun _ => ?_) (fun z => absurd c2 z)
      refine bX11_clip_28 ?_
      cases h
      exact bX11_clip_29
    · refine bX11_clip_14 (fun z => absurd z c2) (fun _ => ?_)
      refine bX11_clip_22 ?_
      cases h
      exact bX11_clip_29
  · refine bX11_clip_0 (fun z => absurd z c1) (fun _ => ?_)
    refine bX11_clip_8 ?_
    cases h
    exact bX11_clip_29

def FX11_two (d : aI) (e : aJ) (x0 : Int32) (y1 : Int64) (y3 : Int64) : Option (Int64 × aI × aJ) := (if x0 = (nI 6) then ((FX11_clip d e (y1 + y3)).bind fun q2 => (some (q2.1, q2.2.1, q2.2.2))) else (if x0 = (nI 7) then ((FX11_clip d e (y1 - y3)).bind fun q4 => (some (q4.1, q4.2.1, q4.2.2))) else (if x0 = (nI 8) then ((FX11_clip d e (y1 * y3)).bind fun q6 => (some (q6.1, q6.2.1, q6.2.2))) else (if (lg_cmp y3 (lN 0)) = 0 then (some ((lN 0), d, e)) else (bif ((decide (¬ y3 = 0))) then ((FX11_clip d e (y1 / y3)).bind fun q9 => (some (q9.1, q9.2.1, q9.2.2))) else none)))))
theorem evX11_two {Γ : aG × Launch} {d : aI} {e : aJ} {x0 : Int32} {y1 : Int64} {y3 : Int64} {q : Int64 × aI × aJ} (h : FX11_two d e x0 y1 y3 = some q) : Ev Γ 1 mX11_two [.int x0, .long y1, .long y3] d e (some (.long q.1)) q.2.1 q.2.2 := by
  refine Ev.of (by decide) rfl (Nat.le_of_ble_eq_true rfl) (fun z => by cases z) ?_
  show Rn Γ 1 mX11_two 0 [some (.int x0), some (.long y1), none, some (.long y3), none] [] d e _ _ _
  unfold FX11_two at h
  refine a_ite h (fun c1 h => ?_) (fun c1 h => ?_)
  · refine bX11_two_0 (fun n0 _ _ => absurd c1 n0) (fun _ => ?_) (fun z => absurd (c1.symm.trans z) (by decide)) (fun z => absurd (c1.symm.trans z) (by decide))
    obtain ⟨q2, hq2, h⟩ := Option.bind_eq_some_iff.mp h
    refine bX11_two_28 (evX11_clip hq2) (Nat.le_of_ble_eq_true rfl) ?_
    cases h
    exact bX11_two_34
  · skip
    refine a_ite h (fun c3 h => ?_) (fun c3 h => ?_)
    · refine bX11_two_0 (fun _ n1 _ => absurd c3 n1) (fun z => absurd z c1) (fun _ => ?_) (fun z => absurd (c3.symm.trans z) (by decide))
      obtain ⟨q4, hq4, h⟩ := Option.bind_eq_some_iff.mp h
      refine bX11_two_35 (evX11_clip hq4) (Nat.le_of_ble_eq_true rfl) ?_
      cases h
      exact bX11_two_41
    · skip
      refine a_ite h (fun c5 h => ?_) (fun c5 h => ?_)
      · refine bX11_two_0 (fun _ _ n2 => absurd c5 n2) (fun z => absurd z c1) (fun z => absurd z c3) (fun _ => ?_)
        obtain ⟨q6, hq6, h⟩ := Option.bind_eq_some_iff.mp h
        refine bX11_two_42 (evX11_clip hq6) (Nat.le_of_ble_eq_true rfl) ?_
        cases h
        exact bX11_two_48
      · skip
        refine bX11_two_0 (fun _ _ _ => ?_) (fun z => absurd z c1) (fun z => absurd z c3) (fun z => absurd z c5)
        refine a_ite h (fun c7 h => ?_) (fun c7 h => ?_)
        · refine bX11_two_49 (fun z => absurd c7 z) (fun _ => ?_)
          refine bX11_two_55 ?_
          cases h
          exact bX11_two_65
        · refine bX11_two_49 (fun _ => ?_) (fun z => absurd z c7)
          obtain ⟨g8, h⟩ := a_cond h
          obtain ⟨q9, hq9, h⟩ := Option.bind_eq_some_iff.mp h
          refine bX11_two_59 (of_decide_eq_true g8) (evX11_clip hq9) (Nat.le_of_ble_eq_true rfl) ?_
          cases h
          exact bX11_two_65

def FX11_isAsked (d : aI) (e : aJ) (x0 : Int32) (y1 : Int64) (y3 : Int64) : Option (Int32 × aI × aJ) := (if x0 = (nI 10) then (if 0 ≤ (lg_cmp y1 y3) then (some ((nI 0), d, e)) else (some ((nI 1), d, e))) else (if x0 = (nI 11) then (if 0 < (lg_cmp y1 y3) then (some ((nI 0), d, e)) else (some ((nI 1), d, e))) else (if x0 = (nI 12) then (if (lg_cmp y1 y3) ≤ 0 then (some ((nI 0), d, e)) else (some ((nI 1), d, e))) else (if x0 = (nI 13) then (if (lg_cmp y1 y3) < 0 then (some ((nI 0), d, e)) else (some ((nI 1), d, e))) else (if x0 = (nI 14) then (if (lg_cmp y1 y3) = 0 then (some ((nI 1), d, e)) else (some ((nI 0), d, e))) else (if (lg_cmp y1 y3) = 0 then (some ((nI 0), d, e)) else (some ((nI 1), d, e))))))))
theorem evX11_isAsked {Γ : aG × Launch} {d : aI} {e : aJ} {x0 : Int32} {y1 : Int64} {y3 : Int64} {q : Int32 × aI × aJ} (h : FX11_isAsked d e x0 y1 y3 = some q) : Ev Γ 0 mX11_isAsked [.int x0, .long y1, .long y3] d e (some (.int q.1)) q.2.1 q.2.2 := by
  refine Ev.of (by decide) rfl (Nat.le_of_ble_eq_true rfl) (fun z => by cases z) ?_
  show Rn Γ 0 mX11_isAsked 0 [some (.int x0), some (.long y1), none, some (.long y3), none] [] d e _ _ _
  unfold FX11_isAsked at h
  refine a_ite h (fun c1 h => ?_) (fun c1 h => ?_)
  · refine bX11_isAsked_0 (fun z => absurd c1 z) (fun _ => ?_)
    refine a_ite h (fun c2 h => ?_) (fun c2 h => ?_)
    · refine bX11_isAsked_6 (fun _ => ?_) (fun z => absurd c2 z)
      refine bX11_isAsked_16 ?_
      cases h
      exact bX11_isAsked_111 (a_nz (Or.inl rfl))
    · refine bX11_isAsked_6 (fun z => absurd z c2) (fun _ => ?_)
      refine bX11_isAsked_12 ?_
      cases h
      exact bX11_isAsked_111 (a_nz (Or.inr rfl))
  · refine bX11_isAsked_0 (fun _ => ?_) (fun z => absurd z c1)
    refine a_ite h (fun c3 h => ?_) (fun c3 h => ?_)
    · refine bX11_isAsked_20 (fun z => absurd c3 z) (fun _ => ?_)
      refine a_ite h (fun c4 h => ?_) (fun c4 h => ?_)
      · refine bX11_isAsked_26 (fun _ => ?_) (fun z => absurd c4 z)
        refine bX11_isAsked_36 ?_
        cases h
        exact bX11_isAsked_111 (a_nz (Or.inl rfl))
      · refine bX11_isAsked_26 (fun z => absurd z c4) (fun _ => ?_)
        refine bX11_isAsked_32 ?_
        cases h
        exact bX11_isAsked_111 (a_nz (Or.inr rfl))
    · refine bX11_isAsked_20 (fun _ => ?_) (fun z => absurd z c3)
      refine a_ite h (fun c5 h => ?_) (fun c5 h => ?_)
      · refine bX11_isAsked_40 (fun z => absurd c5 z) (fun _ => ?_)
        refine a_ite h (fun c6 h => ?_) (fun c6 h => ?_)
        · refine bX11_isAsked_46 (fun _ => ?_) (fun z => absurd c6 z)
          refine bX11_isAsked_56 ?_
          cases h
          exact bX11_isAsked_111 (a_nz (Or.inl rfl))
        · refine bX11_isAsked_46 (fun z => absurd z c6) (fun _ => ?_)
          refine bX11_isAsked_52 ?_
          cases h
          exact bX11_isAsked_111 (a_nz (Or.inr rfl))
      · refine bX11_isAsked_40 (fun _ => ?_) (fun z => absurd z c5)
        refine a_ite h (fun c7 h => ?_) (fun c7 h => ?_)
        · refine bX11_isAsked_60 (fun z => absurd c7 z) (fun _ => ?_)
          refine a_ite h (fun c8 h => ?_) (fun c8 h => ?_)
          · refine bX11_isAsked_66 (fun _ => ?_) (fun z => absurd c8 z)
            refine bX11_isAsked_76 ?_
            cases h
            exact bX11_isAsked_111 (a_nz (Or.inl rfl))
          · refine bX11_isAsked_66 (fun z => absurd z c8) (fun _ => ?_)
            refine bX11_isAsked_72 ?_
            cases h
            exact bX11_isAsked_111 (a_nz (Or.inr rfl))
        · refine bX11_isAsked_60 (fun _ => ?_) (fun z => absurd z c7)
          refine a_ite h (fun c9 h => ?_) (fun c9 h => ?_)
          · refine bX11_isAsked_80 (fun z => absurd c9 z) (fun _ => ?_)
            refine a_ite h (fun c10 h => ?_) (fun c10 h => ?_)
            · refine bX11_isAsked_86 (fun z => absurd c10 z) (fun _ => ?_)
              refine bX11_isAsked_92 ?_
              cases h
              exact bX11_isAsked_111 (a_nz (Or.inr rfl))
            · refine bX11_isAsked_86 (fun _ => ?_) (fun z => absurd z c10)
              refine bX11_isAsked_96 ?_
              cases h
              exact bX11_isAsked_111 (a_nz (Or.inl rfl))
          · refine bX11_isAsked_80 (fun _ => ?_) (fun z => absurd z c9)
            refine a_ite h (fun c11 h => ?_) (fun c11 h => ?_)
            · refine bX11_isAsked_100 (fun _ => ?_) (fun z => absurd c11 z)
              refine bX11_isAsked_110 ?_
              cases h
              exact bX11_isAsked_111 (a_nz (Or.inl rfl))
            · refine bX11_isAsked_100 (fun z => absurd z c11) (fun _ => ?_)
              refine bX11_isAsked_106 ?_
              cases h
              exact bX11_isAsked_111 (a_nz (Or.inr rfl))

def FX11_chillOf (d : aI) (e : aJ) (y1 : Int64) : Option (Int64 × aI × aJ) := (if (lg_cmp y1 (lN 0)) < 0 then (some ((lN 0), d, e)) else (bif ((a_inb (nI 1) 1961)) then (if 0 ≤ (lg_cmp y1 (Int32.toInt64 (d 109 1))) then (some ((lN 0), d, e)) else (bif ((a_inb ((nI 54) + (Int64.toInt32 y1)) 1961)) then (some ((Int32.toInt64 (d 109 (((nI 54) + (Int64.toInt32 y1))).toNatClampNeg)), d, e)) else none)) else none))
theorem evX11_chillOf {Γ : aG × Launch} {d : aI} {e : aJ} {y1 : Int64} {q : Int64 × aI × aJ} (h : FX11_chillOf d e y1 = some q) : Ev Γ 0 mX11_chillOf [.ref 108, .long y1] d e (some (.long q.1)) q.2.1 q.2.2 := by
  refine Ev.of (by decide) rfl (Nat.le_of_ble_eq_true rfl) (fun z => by cases z) ?_
  show Rn Γ 0 mX11_chillOf 0 [some (.ref 108), some (.long y1), none] [] d e _ _ _
  unfold FX11_chillOf at h
  refine a_ite h (fun c1 h => ?_) (fun c1 h => ?_)
  · refine bX11_chillOf_0 (fun _ => ?_) (fun z => absurd c1 z)
    refine bX11_chillOf_32 ?_
    cases h
    exact bX11_chillOf_33
  · refine bX11_chillOf_0 (fun z => absurd z c1) (fun _ => ?_)
    obtain ⟨g2, h⟩ := a_cond h
    refine a_ite h (fun c3 h => ?_) (fun c3 h => ?_)
    · refine bX11_chillOf_6 (a_inb_vp g2) (fun _ => ?_) (fun z => absurd c3 z)
      refine bX11_chillOf_32 ?_
      cases h
      exact bX11_chillOf_33
    · refine bX11_chillOf_6 (a_inb_vp g2) (fun z => absurd z c3) (fun _ => ?_)
      obtain ⟨g4, h⟩ := a_cond h
      refine bX11_chillOf_18 (a_inb_vp g4) ?_
      cases h
      exact bX11_chillOf_33

def FX11_byTen (d : aI) (e : aJ) (y0 : Int64) : Option (Int64 × aI × aJ) := (if 0 ≤ (lg_cmp y0 (lN 0)) then (bif ((decide (¬ (lN 10) = 0))) then (some ((a_jrm y0 (lN 10)), d, e)) else none) else (bif ((decide (¬ (lN 10) = 0))) then (some ((a_jrm (-y0) (lN 10)), d, e)) else none))
theorem evX11_byTen {Γ : aG × Launch} {d : aI} {e : aJ} {y0 : Int64} {q : Int64 × aI × aJ} (h : FX11_byTen d e y0 = some q) : Ev Γ 0 mX11_byTen [.long y0] d e (some (.long q.1)) q.2.1 q.2.2 := by
  refine Ev.of (by decide) rfl (Nat.le_of_ble_eq_true rfl) (fun z => by cases z) ?_
  show Rn Γ 0 mX11_byTen 0 [some (.long y0), none] [] d e _ _ _
  unfold FX11_byTen at h
  refine a_ite h (fun c1 h => ?_) (fun c1 h => ?_)
  · refine bX11_byTen_0 (fun _ => ?_) (fun z => absurd c1 z)
    refine bX11_byTen_11 ?_
    obtain ⟨g2, h⟩ := a_cond h
    cases h
    exact bX11_byTen_12 (of_decide_eq_true g2)
  · refine bX11_byTen_0 (fun z => absurd z c1) (fun _ => ?_)
    refine bX11_byTen_6 ?_
    obtain ⟨g3, h⟩ := a_cond h
    cases h
    exact bX11_byTen_12 (of_decide_eq_true g3)

def FX11_turnOf (d : aI) (e : aJ) (y0 : Int64) (y2 : Int64) : Option (Int64 × aI × aJ) := ((FX11_byTen d e y2).bind fun q1 => ((FX11_byTen q1.2.1 q1.2.2 y0).bind fun q2 => (bif ((decide (¬ (lN 10) = 0))) then (some ((a_jrm ((q1.1 - q2.1) + (lN 10)) (lN 10)), q2.2.1, q2.2.2)) else none)))
theorem evX11_turnOf {Γ : aG × Launch} {d : aI} {e : aJ} {y0 : Int64} {y2 : Int64} {q : Int64 × aI × aJ} (h : FX11_turnOf d e y0 y2 = some q) : Ev Γ 1 mX11_turnOf [.long y0, .long y2] d e (some (.long q.1)) q.2.1 q.2.2 := by
  refine Ev.of (by decide) rfl (Nat.le_of_ble_eq_true rfl) (fun z => by cases z) ?_
  show Rn Γ 1 mX11_turnOf 0 [some (.long y0), none, some (.long y2), none] [] d e _ _ _
  unfold FX11_turnOf at h
  obtain ⟨q1, hq1, h⟩ := Option.bind_eq_some_iff.mp h
  refine bX11_turnOf_0 (evX11_byTen hq1) (Nat.le_of_ble_eq_true rfl) ?_
  obtain ⟨q2, hq2, h⟩ := Option.bind_eq_some_iff.mp h
  refine bX11_turnOf_4 (evX11_byTen hq2) (Nat.le_of_ble_eq_true rfl) ?_
  obtain ⟨g3, h⟩ := a_cond h
  cases h
  exact bX11_turnOf_8 (of_decide_eq_true g3)

def FX11_joined (d : aI) (e : aJ) (x0 : Int32) (x1 : Int32) (x2 : Int32) : Option (Int32 × aI × aJ) := (if x0 = (nI 21) then (if x1 = 0 then (some ((nI 0), d, e)) else (if x2 = 0 then (some ((nI 0), d, e)) else (some ((nI 1), d, e)))) else (if x1 = 0 then (if x2 = 0 then (some ((nI 0), d, e)) else (some ((nI 1), d, e))) else (some ((nI 1), d, e))))
theorem evX11_joined {Γ : aG × Launch} {d : aI} {e : aJ} {x0 : Int32} {x1 : Int32} {x2 : Int32} {q : Int32 × aI × aJ} (h : FX11_joined d e x0 x1 x2 = some q) : Ev Γ 0 mX11_joined [.int x0, .int x1, .int x2] d e (some (.int q.1)) q.2.1 q.2.2 := by
  refine Ev.of (by decide) rfl (Nat.le_of_ble_eq_true rfl) (fun z => by cases z) ?_
  show Rn Γ 0 mX11_joined 0 [some (.int x0), some (.int x1), some (.int x2)] [] d e _ _ _
  unfold FX11_joined at h
  refine a_ite h (fun c1 h => ?_) (fun c1 h => ?_)
  · refine bX11_joined_0 (fun z => absurd c1 z) (fun _ => ?_)
    refine a_ite h (fun c2 h => ?_) (fun c2 h => ?_)
    · refine bX11_joined_6 (fun _ => ?_) (fun z => absurd c2 z)
      refine bX11_joined_18 ?_
      cases h
      exact bX11_joined_35 (a_nz (Or.inl rfl))
    · refine bX11_joined_6 (fun z => absurd z c2) (fun _ => ?_)
      refine a_ite h (fun c3 h => ?_) (fun c3 h => ?_)
      · refine bX11_joined_10 (fun _ => ?_) (fun z => absurd c3 z)
        refine bX11_joined_18 ?_
        cases h
        exact bX11_joined_35 (a_nz (Or.inl rfl))
      · refine bX11_joined_10 (fun z => absurd z c3) (fun _ => ?_)
        refine bX11_joined_14 ?_
        cases h
        exact bX11_joined_35 (a_nz (Or.inr rfl))
  · refine bX11_joined_0 (fun _ => ?_) (fun z => absurd z c1)
    refine a_ite h (fun c4 h => ?_) (fun c4 h => ?_)
    · refine bX11_joined_22 (fun z => absurd c4 z) (fun _ => ?_)
      refine a_ite h (fun c5 h => ?_) (fun c5 h => ?_)
      · refine bX11_joined_26 (fun _ => ?_) (fun z => absurd c5 z)
        refine bX11_joined_34 ?_
        cases h
        exact bX11_joined_35 (a_nz (Or.inl rfl))
      · refine bX11_joined_26 (fun z => absurd z c5) (fun _ => ?_)
        refine bX11_joined_30 ?_
        cases h
        exact bX11_joined_35 (a_nz (Or.inr rfl))
    · refine bX11_joined_22 (fun _ => ?_) (fun z => absurd z c4)
      refine bX11_joined_30 ?_
      cases h
      exact bX11_joined_35 (a_nz (Or.inr rfl))

def FX11_name (d : aI) (e : aJ) (x1 : Int32) : Option (Unit × aI × aJ) := (bif ((a_inb (nI 9) 1961) && (a_inb (nI 0) 8) && (a_inb (nI 1) 8) && (a_inb ((nI 54) + x1) 1961) && (a_inb (nI 2) 8)) then ((FX11_get (uI (uI (uI d 114 0 (d 109 9)) 114 1 x1) 114 2 (d 109 (((nI 54) + x1)).toNatClampNeg)) e x1 (nI 2)).bind fun q2 => (bif ((a_inb (nI 3) 8)) then ((FX11_placeOf (uI q2.2.1 114 3 q2.1) q2.2.2 x1).bind fun q4 => (bif ((a_inb (nI 4) 8)) then ((FX11_isWithout (uI q4.2.1 114 4 q4.1) q4.2.2 x1).bind fun q6 => (if q6.1 = 0 then (bif ((a_inb (nI 7) 8)) then (some ((), (uI q6.2.1 114 7 (nI 1)), q6.2.2)) else none) else (bif ((a_inb (nI 7) 8)) then (some ((), (uI q6.2.1 114 7 (nI 0)), q6.2.2)) else none))) else none)) else none)) else none)
theorem evX11_name {Γ : aG × Launch} {d : aI} {e : aJ} {x1 : Int32} {q : Unit × aI × aJ} (h : FX11_name d e x1 = some q) : Ev Γ 3 mX11_name [.ref 108, .int x1] d e none q.2.1 q.2.2 := by
  refine Ev.of (by decide) rfl (Nat.le_of_ble_eq_true rfl) (fun z => by cases z) ?_
  show Rn Γ 3 mX11_name 0 [some (.ref 108), some (.int x1)] [] d e _ _ _
  unfold FX11_name at h
  obtain ⟨g1, h⟩ := a_cond h
  obtain ⟨g1x4, g1_4⟩ := a_and g1
  obtain ⟨g1x3, g1_3⟩ := a_and g1x4
  obtain ⟨g1x2, g1_2⟩ := a_and g1x3
  obtain ⟨g1x1, g1_1⟩ := a_and g1x2
  have g1_0 := g1x1
  obtain ⟨q2, hq2, h⟩ := Option.bind_eq_some_iff.mp h
  refine bX11_name_0 ⟨(a_inb_vp g1_0), (a_inb_vp g1_1), (a_inb_vp g1_2), (a_inb_vp g1_3), (a_inb_vp g1_4)⟩ (evX11_get hq2) (Nat.le_of_ble_eq_true rfl) ?_
  obtain ⟨g3, h⟩ := a_cond h
  obtain ⟨q4, hq4, h⟩ := Option.bind_eq_some_iff.mp h
  refine bX11_name_46 (a_inb_vp g3) (evX11_placeOf hq4) (Nat.le_of_ble_eq_true rfl) ?_
  obtain ⟨g5, h⟩ := a_cond h
  obtain ⟨q6, hq6, h⟩ := Option.bind_eq_some_iff.mp h
  refine bX11_name_57 (a_inb_vp g5) (evX11_isWithout hq6) (Nat.le_of_ble_eq_true rfl) ?_
  refine a_ite h (fun c7 h => ?_) (fun c7 h => ?_)
  · refine bX11_name_69 (fun _ => ?_) (fun z => absurd c7 z)
    refine bX11_name_76 ?_
    obtain ⟨g8, h⟩ := a_cond h
    cases h
    exact bX11_name_77 (a_inb_vp g8)
  · refine bX11_name_69 (fun z => absurd z c7) (fun _ => ?_)
    refine bX11_name_72 ?_
    obtain ⟨g9, h⟩ := a_cond h
    cases h
    exact bX11_name_77 (a_inb_vp g9)

def FX11_anew (d : aI) (e : aJ)  : Option (Unit × aI × aJ) := (bif ((a_inb (nI 10) 1961) && (decide (¬ (lN 30931) = 0)) && (a_inb (nI 10) 1961)) then (some ((), (uI d 109 10 (Int64.toInt32 (a_jrm (((Int32.toInt64 (d 109 10)) * (lN 647)) + (lN 509)) (lN 30931)))), e)) else none)
theorem evX11_anew {Γ : aG × Launch} {d : aI} {e : aJ}  {q : Unit × aI × aJ} (h : FX11_anew d e  = some q) : Ev Γ 0 mX11_anew [.ref 108] d e none q.2.1 q.2.2 := by
  refine Ev.of (by decide) rfl (Nat.le_of_ble_eq_true rfl) (fun z => by cases z) ?_
  show Rn Γ 0 mX11_anew 0 [some (.ref 108)] [] d e _ _ _
  unfold FX11_anew at h
  obtain ⟨g1, h⟩ := a_cond h
  obtain ⟨g1x2, g1_2⟩ := a_and g1
  obtain ⟨g1x1, g1_1⟩ := a_and g1x2
  have g1_0 := g1x1
  cases h
  exact bX11_anew_0 ⟨(a_inb_vp g1_0), (of_decide_eq_true g1_1), (a_inb_vp g1_2)⟩

def FX11_canGo (d : aI) (e : aJ) (x1 : Int32) : Option (Int32 × aI × aJ) := ((FX11_isCat d e x1).bind fun q1 => (if q1.1 = 0 then (some ((nI 0), q1.2.1, q1.2.2)) else ((FX11_isWithout q1.2.1 q1.2.2 x1).bind fun q3 => (if q3.1 = 0 then (some ((nI 0), q3.2.1, q3.2.2)) else (some ((nI 1), q3.2.1, q3.2.2))))))
theorem evX11_canGo {Γ : aG × Launch} {d : aI} {e : aJ} {x1 : Int32} {q : Int32 × aI × aJ} (h : FX11_canGo d e x1 = some q) : Ev Γ 2 mX11_canGo [.ref 108, .int x1] d e (some (.int q.1)) q.2.1 q.2.2 := by
  refine Ev.of (by decide) rfl (Nat.le_of_ble_eq_true rfl) (fun z => by cases z) ?_
  show Rn Γ 2 mX11_canGo 0 [some (.ref 108), some (.int x1)] [] d e _ _ _
  unfold FX11_canGo at h
  obtain ⟨q1, hq1, h⟩ := Option.bind_eq_some_iff.mp h
  refine bX11_canGo_0 (evX11_isCat hq1) (Nat.le_of_ble_eq_true rfl) ?_
  refine a_ite h (fun c2 h => ?_) (fun c2 h => ?_)
  · refine bX11_canGo_5 (fun _ => ?_) (fun z => absurd c2 z)
    refine bX11_canGo_20 ?_
    cases h
    exact bX11_canGo_21 (a_nz (Or.inl rfl))
  · refine bX11_canGo_5 (fun z => absurd z c2) (fun _ => ?_)
    obtain ⟨q3, hq3, h⟩ := Option.bind_eq_some_iff.mp h
    refine bX11_canGo_8 (evX11_isWithout hq3) (Nat.le_of_ble_eq_true rfl) ?_
    refine a_ite h (fun c4 h => ?_) (fun c4 h => ?_)
    · refine bX11_canGo_13 (fun _ => ?_) (fun z => absurd c4 z)
      refine bX11_canGo_20 ?_
      cases h
      exact bX11_canGo_21 (a_nz (Or.inl rfl))
    · refine bX11_canGo_13 (fun z => absurd z c4) (fun _ => ?_)
      refine bX11_canGo_16 ?_
      cases h
      exact bX11_canGo_21 (a_nz (Or.inr rfl))

def FX11_goNow (d : aI) (e : aJ) (x1 : Int32) (x2 : Int32) : Option (Unit × aI × aJ) := ((FX11_get d e x1 (nI 0)).bind fun q1 => (if x2 = 0 then (bif ((decide (¬ (nI 10) = 0))) then ((FX11_lay q1.2.1 q1.2.2 x1 (nI 0) (a_irm (q1.1 + (nI 9)) (nI 10))).bind fun q4 => (some ((), q4.2.1, q4.2.2))) else none) else (bif ((decide (¬ (nI 10) = 0))) then ((FX11_lay q1.2.1 q1.2.2 x1 (nI 0) (a_irm (q1.1 + (nI 1)) (nI 10))).bind fun q6 => (some ((), q6.2.1, q6.2.2))) else none)))
theorem evX11_goNow {Γ : aG × Launch} {d : aI} {e : aJ} {x1 : Int32} {x2 : Int32} {q : Unit × aI × aJ} (h : FX11_goNow d e x1 x2 = some q) : Ev Γ 1 mX11_goNow [.ref 108, .int x1, .int x2] d e none q.2.1 q.2.2 := by
  refine Ev.of (by decide) rfl (Nat.le_of_ble_eq_true rfl) (fun z => by cases z) ?_
  show Rn Γ 1 mX11_goNow 0 [some (.ref 108), some (.int x1), some (.int x2)] [] d e _ _ _
  unfold FX11_goNow at h
  obtain ⟨q1, hq1, h⟩ := Option.bind_eq_some_iff.mp h
  refine bX11_goNow_0 (evX11_get hq1) (Nat.le_of_ble_eq_true rfl) ?_
  refine a_ite h (fun c2 h => ?_) (fun c2 h => ?_)
  · refine bX11_goNow_9 (fun _ => ?_) (fun z => absurd c2 z)
    refine bX11_goNow_17 ?_
    obtain ⟨g3, h⟩ := a_cond h
    obtain ⟨q4, hq4, h⟩ := Option.bind_eq_some_iff.mp h
    refine bX11_goNow_19 (of_decide_eq_true g3) (evX11_lay hq4) (Nat.le_of_ble_eq_true rfl) ?_
    cases h
    exact bX11_goNow_26
  · refine bX11_goNow_9 (fun z => absurd z c2) (fun _ => ?_)
    refine bX11_goNow_13 ?_
    obtain ⟨g5, h⟩ := a_cond h
    obtain ⟨q6, hq6, h⟩ := Option.bind_eq_some_iff.mp h
    refine bX11_goNow_19 (of_decide_eq_true g5) (evX11_lay hq6) (Nat.le_of_ble_eq_true rfl) ?_
    cases h
    exact bX11_goNow_26

def FX11_of (d : aI) (e : aJ) (x1 : Int32) (x2 : Int32) : Option (Int32 × aI × aJ) := ((FX11_isCat d e x1).bind fun q1 => (if q1.1 = 0 then (some ((-(nI 2)), q1.2.1, q1.2.2)) else (if x2 = 0 then ((FX11_placeOf q1.2.1 q1.2.2 x1).bind fun q4 => (some (q4.1, q4.2.1, q4.2.2))) else (if x2 = (nI 1) then (bif ((a_inb ((nI 54) + x1) 1961)) then (some ((q1.2.1 109 (((nI 54) + x1)).toNatClampNeg), q1.2.1, q1.2.2)) else none) else (if x2 = (nI 2) then ((FX11_get q1.2.1 q1.2.2 x1 (nI 1)).bind fun q8 => (some (q8.1, q8.2.1, q8.2.2))) else (if x2 = (nI 3) then ((FX11_get q1.2.1 q1.2.2 x1 (nI 2)).bind fun q10 => (some (q10.1, q10.2.1, q10.2.2))) else (some ((-(nI 2)), q1.2.1, q1.2.2))))))))
theorem evX11_of {Γ : aG × Launch} {d : aI} {e : aJ} {x1 : Int32} {x2 : Int32} {q : Int32 × aI × aJ} (h : FX11_of d e x1 x2 = some q) : Ev Γ 3 mX11_of [.ref 108, .int x1, .int x2] d e (some (.int q.1)) q.2.1 q.2.2 := by
  refine Ev.of (by decide) rfl (Nat.le_of_ble_eq_true rfl) (fun z => by cases z) ?_
  show Rn Γ 3 mX11_of 0 [some (.ref 108), some (.int x1), some (.int x2)] [] d e _ _ _
  unfold FX11_of at h
  obtain ⟨q1, hq1, h⟩ := Option.bind_eq_some_iff.mp h
  refine bX11_of_0 (evX11_isCat hq1) (Nat.le_of_ble_eq_true rfl) ?_
  refine a_ite h (fun c2 h => ?_) (fun c2 h => ?_)
  · refine bX11_of_5 (fun z => absurd c2 z) (fun _ => ?_)
    cases h
    exact bX11_of_8
  · refine bX11_of_5 (fun _ => ?_) (fun z => absurd z c2)
    refine a_ite h (fun c3 h => ?_) (fun c3 h => ?_)
    · refine bX11_of_11 (fun z => absurd c3 z) (fun _ => ?_)
      obtain ⟨q4, hq4, h⟩ := Option.bind_eq_some_iff.mp h
      refine bX11_of_15 (evX11_placeOf hq4) (Nat.le_of_ble_eq_true rfl) ?_
      refine bX11_of_20 ?_
      cases h
      exact bX11_of_70
    · refine bX11_of_11 (fun _ => ?_) (fun z => absurd z c3)
      refine a_ite h (fun c5 h => ?_) (fun c5 h => ?_)
      · refine bX11_of_23 (fun z => absurd c5 z) (fun _ => ?_)
        obtain ⟨g6, h⟩ := a_cond h
        refine bX11_of_28 (a_inb_vp g6) ?_
        cases h
        exact bX11_of_70
      · refine bX11_of_23 (fun _ => ?_) (fun z => absurd z c5)
        refine a_ite h (fun c7 h => ?_) (fun c7 h => ?_)
        · refine bX11_of_40 (fun z => absurd c7 z) (fun _ => ?_)
          obtain ⟨q8, hq8, h⟩ := Option.bind_eq_some_iff.mp h
          refine bX11_of_45 (evX11_get hq8) (Nat.le_of_ble_eq_true rfl) ?_
          refine bX11_of_51 ?_
          cases h
          exact bX11_of_70
        · refine bX11_of_40 (fun _ => ?_) (fun z => absurd z c7)
          refine a_ite h (fun c9 h => ?_) (fun c9 h => ?_)
          · refine bX11_of_54 (fun z => absurd c9 z) (fun _ => ?_)
            obtain ⟨q10, hq10, h⟩ := Option.bind_eq_some_iff.mp h
            refine bX11_of_59 (evX11_get hq10) (Nat.le_of_ble_eq_true rfl) ?_
            refine bX11_of_65 ?_
            cases h
            exact bX11_of_70
          · refine bX11_of_54 (fun _ => ?_) (fun z => absurd z c9)
            refine bX11_of_68 ?_
            cases h
            exact bX11_of_70

def FX11_lineOf (d : aI) (e : aJ) (x1 : Int32) (x2 : Int32) : Option (Int32 × aI × aJ) := (bif ((a_inb ((nI 1936) + x1) 1961)) then (if x2 = 0 then (bif ((decide (¬ (nI 108) = 0))) then (some (((d 109 (((nI 1936) + x1)).toNatClampNeg) / (nI 108)), d, e)) else none) else (if x2 = (nI 1) then (bif ((decide (¬ (nI 18) = 0)) && (decide (¬ (nI 6) = 0))) then (some ((a_irm ((d 109 (((nI 1936) + x1)).toNatClampNeg) / (nI 18)) (nI 6)), d, e)) else none) else (if x2 = (nI 2) then (bif ((decide (¬ (nI 3) = 0)) && (decide (¬ (nI 6) = 0))) then (some ((a_irm ((d 109 (((nI 1936) + x1)).toNatClampNeg) / (nI 3)) (nI 6)), d, e)) else none) else (bif ((decide (¬ (nI 3) = 0))) then (some ((a_irm (d 109 (((nI 1936) + x1)).toNatClampNeg) (nI 3)), d, e)) else none)))) else none)
theorem evX11_lineOf {Γ : aG × Launch} {d : aI} {e : aJ} {x1 : Int32} {x2 : Int32} {q : Int32 × aI × aJ} (h : FX11_lineOf d e x1 x2 = some q) : Ev Γ 0 mX11_lineOf [.ref 108, .int x1, .int x2] d e (some (.int q.1)) q.2.1 q.2.2 := by
  refine Ev.of (by decide) rfl (Nat.le_of_ble_eq_true rfl) (fun z => by cases z) ?_
  show Rn Γ 0 mX11_lineOf 0 [some (.ref 108), some (.int x1), some (.int x2), none] [] d e _ _ _
  unfold FX11_lineOf at h
  obtain ⟨g1, h⟩ := a_cond h
  refine a_ite h (fun c2 h => ?_) (fun c2 h => ?_)
  · refine bX11_lineOf_0 (a_inb_vp g1) (fun z => absurd c2 z) (fun _ => ?_)
    obtain ⟨g3, h⟩ := a_cond h
    refine bX11_lineOf_15 (of_decide_eq_true g3) ?_
    cases h
    exact bX11_lineOf_54
  · refine bX11_lineOf_0 (a_inb_vp g1) (fun _ => ?_) (fun z => absurd z c2)
    refine a_ite h (fun c4 h => ?_) (fun c4 h => ?_)
    · refine bX11_lineOf_22 (fun z => absurd c4 z) (fun _ => ?_)
      obtain ⟨g5, h⟩ := a_cond h
      obtain ⟨g5x1, g5_1⟩ := a_and g5
      have g5_0 := g5x1
      refine bX11_lineOf_27 ⟨(of_decide_eq_true g5_0), (of_decide_eq_true g5_1)⟩ ?_
      cases h
      exact bX11_lineOf_54
    · refine bX11_lineOf_22 (fun _ => ?_) (fun z => absurd z c4)
      refine a_ite h (fun c6 h => ?_) (fun c6 h => ?_)
      · refine bX11_lineOf_37 (fun z => absurd c6 z) (fun _ => ?_)
        obtain ⟨g7, h⟩ := a_cond h
        obtain ⟨g7x1, g7_1⟩ := a_and g7
        have g7_0 := g7x1
        refine bX11_lineOf_42 ⟨(of_decide_eq_true g7_0), (of_decide_eq_true g7_1)⟩ ?_
        cases h
        exact bX11_lineOf_54
      · refine bX11_lineOf_37 (fun _ => ?_) (fun z => absurd z c6)
        obtain ⟨g8, h⟩ := a_cond h
        refine bX11_lineOf_51 (of_decide_eq_true g8) ?_
        cases h
        exact bX11_lineOf_54

def FX11_book (d : aI) (e : aJ) (x1 : Int32) (x2 : Int32) : Option (Int32 × aI × aJ) := (if x1 = (-(nI 1)) then (bif ((a_inb (nI 11) 1961)) then (some ((d 109 11), d, e)) else none) else (bif ((a_inb (nI 11) 1961)) then ((FX11_isIn d e x1 (nI 0) ((d 109 11) - (nI 1))).bind fun q4 => (if q4.1 = 0 then (some ((-(nI 2)), q4.2.1, q4.2.2)) else ((FX11_isIn q4.2.1 q4.2.2 x2 (nI 0) (nI 3)).bind fun q6 => (if q6.1 = 0 then (some ((-(nI 2)), q6.2.1, q6.2.2)) else ((FX11_lineOf q6.2.1 q6.2.2 x1 x2).bind fun q8 => (some (q8.1, q8.2.1, q8.2.2))))))) else none))
theorem evX11_book {Γ : aG × Launch} {d : aI} {e : aJ} {x1 : Int32} {x2 : Int32} {q : Int32 × aI × aJ} (h : FX11_book d e x1 x2 = some q) : Ev Γ 1 mX11_book [.ref 108, .int x1, .int x2] d e (some (.int q.1)) q.2.1 q.2.2 := by
  refine Ev.of (by decide) rfl (Nat.le_of_ble_eq_true rfl) (fun z => by cases z) ?_
  show Rn Γ 1 mX11_book 0 [some (.ref 108), some (.int x1), some (.int x2)] [] d e _ _ _
  unfold FX11_book at h
  refine a_ite h (fun c1 h => ?_) (fun c1 h => ?_)
  · refine bX11_book_0 (fun z => absurd c1 z) (fun _ => ?_)
    obtain ⟨g2, h⟩ := a_cond h
    cases h
    exact bX11_book_5 (a_inb_vp g2)
  · refine bX11_book_0 (fun _ => ?_) (fun z => absurd z c1)
    obtain ⟨g3, h⟩ := a_cond h
    obtain ⟨q4, hq4, h⟩ := Option.bind_eq_some_iff.mp h
    refine bX11_book_13 (a_inb_vp g3) (evX11_isIn hq4) (Nat.le_of_ble_eq_true rfl) ?_
    refine a_ite h (fun c5 h => ?_) (fun c5 h => ?_)
    · refine bX11_book_27 (fun _ => ?_) (fun z => absurd c5 z)
      refine bX11_book_48 ?_
      cases h
      exact bX11_book_50
    · refine bX11_book_27 (fun z => absurd z c5) (fun _ => ?_)
      obtain ⟨q6, hq6, h⟩ := Option.bind_eq_some_iff.mp h
      refine bX11_book_30 (evX11_isIn hq6) (Nat.le_of_ble_eq_true rfl) ?_
      refine a_ite h (fun c7 h => ?_) (fun c7 h => ?_)
      · refine bX11_book_36 (fun _ => ?_) (fun z => absurd c7 z)
        refine bX11_book_48 ?_
        cases h
        exact bX11_book_50
      · refine bX11_book_36 (fun z => absurd z c7) (fun _ => ?_)
        obtain ⟨q8, hq8, h⟩ := Option.bind_eq_some_iff.mp h
        refine bX11_book_39 (evX11_lineOf hq8) (Nat.le_of_ble_eq_true rfl) ?_
        refine bX11_book_45 ?_
        cases h
        exact bX11_book_50

def FX11_far (d : aI) (e : aJ) (x1 : Int32) (x2 : Int32) : Option (Int32 × aI × aJ) := ((FX11_isCat d e x1).bind fun q1 => (if q1.1 = 0 then (some ((-(nI 1)), q1.2.1, q1.2.2)) else ((FX11_isHouse q1.2.1 q1.2.2 x2).bind fun q3 => (if q3.1 = 0 then (some ((-(nI 1)), q3.2.1, q3.2.2)) else ((FX11_farOf q3.2.1 q3.2.2 x1 x2).bind fun q5 => (some (q5.1, q5.2.1, q5.2.2)))))))
theorem evX11_far {Γ : aG × Launch} {d : aI} {e : aJ} {x1 : Int32} {x2 : Int32} {q : Int32 × aI × aJ} (h : FX11_far d e x1 x2 = some q) : Ev Γ 4 mX11_far [.ref 108, .int x1, .int x2] d e (some (.int q.1)) q.2.1 q.2.2 := by
  refine Ev.of (by decide) rfl (Nat.le_of_ble_eq_true rfl) (fun z => by cases z) ?_
  show Rn Γ 4 mX11_far 0 [some (.ref 108), some (.int x1), some (.int x2)] [] d e _ _ _
  unfold FX11_far at h
  obtain ⟨q1, hq1, h⟩ := Option.bind_eq_some_iff.mp h
  refine bX11_far_0 (evX11_isCat hq1) (Nat.le_of_ble_eq_true rfl) ?_
  refine a_ite h (fun c2 h => ?_) (fun c2 h => ?_)
  · refine bX11_far_5 (fun _ => ?_) (fun z => absurd c2 z)
    refine bX11_far_25 ?_
    cases h
    exact bX11_far_26
  · refine bX11_far_5 (fun z => absurd z c2) (fun _ => ?_)
    obtain ⟨q3, hq3, h⟩ := Option.bind_eq_some_iff.mp h
    refine bX11_far_8 (evX11_isHouse hq3) (Nat.le_of_ble_eq_true rfl) ?_
    refine a_ite h (fun c4 h => ?_) (fun c4 h => ?_)
    · refine bX11_far_13 (fun _ => ?_) (fun z => absurd c4 z)
      refine bX11_far_25 ?_
      cases h
      exact bX11_far_26
    · refine bX11_far_13 (fun z => absurd z c4) (fun _ => ?_)
      obtain ⟨q5, hq5, h⟩ := Option.bind_eq_some_iff.mp h
      refine bX11_far_16 (evX11_farOf hq5) (Nat.le_of_ble_eq_true rfl) ?_
      refine bX11_far_22 ?_
      cases h
      exact bX11_far_26

def FX11_isSight (d : aI) (e : aJ) (x1 : Int32) : Option (Int32 × aI × aJ) := (bif ((a_inb (nI 5) 1961)) then ((FX11_isIn d e x1 (nI 0) ((d 109 5) - (nI 1))).bind fun q2 => (bif (decide (q2.1 = 0 ∨ q2.1 = 1)) then (some (q2.1, q2.2.1, q2.2.2)) else none)) else none)
theorem evX11_isSight {Γ : aG × Launch} {d : aI} {e : aJ} {x1 : Int32} {q : Int32 × aI × aJ} (h : FX11_isSight d e x1 = some q) : Ev Γ 1 mX11_isSight [.ref 108, .int x1] d e (some (.int q.1)) q.2.1 q.2.2 := by
  refine Ev.of (by decide) rfl (Nat.le_of_ble_eq_true rfl) (fun z => by cases z) ?_
  show Rn Γ 1 mX11_isSight 0 [some (.ref 108), some (.int x1)] [] d e _ _ _
  unfold FX11_isSight at h
  obtain ⟨g1, h⟩ := a_cond h
  obtain ⟨q2, hq2, h⟩ := Option.bind_eq_some_iff.mp h
  refine bX11_isSight_0 (a_inb_vp g1) (evX11_isIn hq2) (Nat.le_of_ble_eq_true rfl) ?_
  obtain ⟨z3, h⟩ := a_cond h
  cases h
  exact bX11_isSight_13 (a_nz (of_decide_eq_true z3))

def FX11_seen (d : aI) (e : aJ) (x1 : Int32) (x2 : Int32) : Option (Int32 × aI × aJ) := (if x1 = (-(nI 1)) then (bif ((a_inb (nI 5) 1961)) then (some ((nI 0), (uI d 109 5 (nI 0)), e)) else none) else ((FX11_isIn d e x1 (nI 0) (nI 99)).bind fun q3 => (if q3.1 = 0 then (some ((-(nI 2)), q3.2.1, q3.2.2)) else ((FX11_isPlace q3.2.1 q3.2.2 x2).bind fun q5 => (if q5.1 = 0 then (some ((-(nI 2)), q5.2.1, q5.2.2)) else (bif ((a_inb (nI 5) 1961)) then (if (q5.2.1 109 5) = (nI 10) then (some ((-(nI 2)), q5.2.1, q5.2.2)) else (bif ((a_inb (nI 5) 1961) && (a_inb ((nI 66) + ((nI 2) * (q5.2.1 109 5))) 1961) && (a_inb (nI 5) 1961) && (a_inb (((nI 66) + ((nI 2) * ((uI q5.2.1 109 (((nI 66) + ((nI 2) * (q5.2.1 109 5)))).toNatClampNeg x1) 109 5))) + (nI 1)) 1961) && (a_inb (nI 5) 1961) && (a_inb (nI 5) 1961) && (a_inb (nI 5) 1961)) then (some ((((uI (uI q5.2.1 109 (((nI 66) + ((nI 2) * (q5.2.1 109 5)))).toNatClampNeg x1) 109 ((((nI 66) + ((nI 2) * ((uI q5.2.1 109 (((nI 66) + ((nI 2) * (q5.2.1 109 5)))).toNatClampNeg x1) 109 5))) + (nI 1))).toNatClampNeg x2) 109 5) + (nI 1)), (uI (uI (uI q5.2.1 109 (((nI 66) + ((nI 2) * (q5.2.1 109 5)))).toNatClampNeg x1) 109 ((((nI 66) + ((nI 2) * ((uI q5.2.1 109 (((nI 66) + ((nI 2) * (q5.2.1 109 5)))).toNatClampNeg x1) 109 5))) + (nI 1))).toNatClampNeg x2) 109 5 (((uI (uI q5.2.1 109 (((nI 66) + ((nI 2) * (q5.2.1 109 5)))).toNatClampNeg x1) 109 ((((nI 66) + ((nI 2) * ((uI q5.2.1 109 (((nI 66) + ((nI 2) * (q5.2.1 109 5)))).toNatClampNeg x1) 109 5))) + (nI 1))).toNatClampNeg x2) 109 5) + (nI 1))), q5.2.2)) else none)) else none))))))
theorem evX11_seen {Γ : aG × Launch} {d : aI} {e : aJ} {x1 : Int32} {x2 : Int32} {q : Int32 × aI × aJ} (h : FX11_seen d e x1 x2 = some q) : Ev Γ 2 mX11_seen [.ref 108, .int x1, .int x2] d e (some (.int q.1)) q.2.1 q.2.2 := by
  refine Ev.of (by decide) rfl (Nat.le_of_ble_eq_true rfl) (fun z => by cases z) ?_
  show Rn Γ 2 mX11_seen 0 [some (.ref 108), some (.int x1), some (.int x2)] [] d e _ _ _
  unfold FX11_seen at h
  refine a_ite h (fun c1 h => ?_) (fun c1 h => ?_)
  · refine bX11_seen_0 (fun z => absurd c1 z) (fun _ => ?_)
    obtain ⟨g2, h⟩ := a_cond h
    cases h
    exact bX11_seen_5 (a_inb_vp g2)
  · refine bX11_seen_0 (fun _ => ?_) (fun z => absurd z c1)
    obtain ⟨q3, hq3, h⟩ := Option.bind_eq_some_iff.mp h
    refine bX11_seen_14 (evX11_isIn hq3) (Nat.le_of_ble_eq_true rfl) ?_
    refine a_ite h (fun c4 h => ?_) (fun c4 h => ?_)
    · refine bX11_seen_21 (fun _ => ?_) (fun z => absurd c4 z)
      cases h
      exact bX11_seen_42
    · refine bX11_seen_21 (fun z => absurd z c4) (fun _ => ?_)
      obtain ⟨q5, hq5, h⟩ := Option.bind_eq_some_iff.mp h
      refine bX11_seen_24 (evX11_isPlace hq5) (Nat.le_of_ble_eq_true rfl) ?_
      refine a_ite h (fun c6 h => ?_) (fun c6 h => ?_)
      · refine bX11_seen_28 (fun _ => ?_) (fun z => absurd c6 z)
        cases h
        exact bX11_seen_42
      · refine bX11_seen_28 (fun z => absurd z c6) (fun _ => ?_)
        obtain ⟨g7, h⟩ := a_cond h
        refine a_ite h (fun c8 h => ?_) (fun c8 h => ?_)
        · refine bX11_seen_31 (a_inb_vp g7) (fun z => absurd c8 z) (fun _ => ?_)
          cases h
          exact bX11_seen_42
        · refine bX11_seen_31 (a_inb_vp g7) (fun _ => ?_) (fun z => absurd z c8)
          obtain ⟨g9, h⟩ := a_cond h
          obtain ⟨g9x6, g9_6⟩ := a_and g9
          obtain ⟨g9x5, g9_5⟩ := a_and g9x6
          obtain ⟨g9x4, g9_4⟩ := a_and g9x5
          obtain ⟨g9x3, g9_3⟩ := a_and g9x4
          obtain ⟨g9x2, g9_2⟩ := a_and g9x3
          obtain ⟨g9x1, g9_1⟩ := a_and g9x2
          have g9_0 := g9x1
          cases h
          exact bX11_seen_45 ⟨(a_inb_vp g9_0), (a_inb_vp g9_1), (a_inb_vp g9_2), (a_inb_vp g9_3), (a_inb_vp g9_4), (a_inb_vp g9_5), (a_inb_vp g9_6)⟩

def FX11_areOne (d : aI) (e : aJ) (x1 : Int32) (x2 : Int32) : Option (Int32 × aI × aJ) := (bif ((a_inb ((nI 66) + ((nI 2) * x1)) 1961) && (a_inb ((nI 66) + ((nI 2) * x2)) 1961) && (a_inb (((nI 66) + ((nI 2) * x1)) + (nI 1)) 1961) && (a_inb (((nI 66) + ((nI 2) * x2)) + (nI 1)) 1961)) then ((FX11_apart d e (d 109 ((((nI 66) + ((nI 2) * x1)) + (nI 1))).toNatClampNeg) (d 109 ((((nI 66) + ((nI 2) * x2)) + (nI 1))).toNatClampNeg)).bind fun q2 => (if 0 ≤ ((d 109 (((nI 66) + ((nI 2) * x1))).toNatClampNeg) - (d 109 (((nI 66) + ((nI 2) * x2))).toNatClampNeg)) then (if ((d 109 (((nI 66) + ((nI 2) * x1))).toNatClampNeg) - (d 109 (((nI 66) + ((nI 2) * x2))).toNatClampNeg)) < q2.1 then (some ((nI 0), q2.2.1, q2.2.2)) else (some ((nI 1), q2.2.1, q2.2.2))) else (if (-((d 109 (((nI 66) + ((nI 2) * x1))).toNatClampNeg) - (d 109 (((nI 66) + ((nI 2) * x2))).toNatClampNeg))) < q2.1 then (some ((nI 0), q2.2.1, q2.2.2)) else (some ((nI 1), q2.2.1, q2.2.2))))) else none)
theorem evX11_areOne {Γ : aG × Launch} {d : aI} {e : aJ} {x1 : Int32} {x2 : Int32} {q : Int32 × aI × aJ} (h : FX11_areOne d e x1 x2 = some q) : Ev Γ 1 mX11_areOne [.ref 108, .int x1, .int x2] d e (some (.int q.1)) q.2.1 q.2.2 := by
  refine Ev.of (by decide) rfl (Nat.le_of_ble_eq_true rfl) (fun z => by cases z) ?_
  show Rn Γ 1 mX11_areOne 0 [some (.ref 108), some (.int x1), some (.int x2), none] [] d e _ _ _
  unfold FX11_areOne at h
  obtain ⟨g1, h⟩ := a_cond h
  obtain ⟨g1x3, g1_3⟩ := a_and g1
  obtain ⟨g1x2, g1_2⟩ := a_and g1x3
  obtain ⟨g1x1, g1_1⟩ := a_and g1x2
  have g1_0 := g1x1
  obtain ⟨q2, hq2, h⟩ := Option.bind_eq_some_iff.mp h
  refine bX11_areOne_0 ⟨(a_inb_vp g1_0), (a_inb_vp g1_1), (a_inb_vp g1_2), (a_inb_vp g1_3)⟩ (evX11_apart hq2) (Nat.le_of_ble_eq_true rfl) ?_
  refine a_ite h (fun c3 h => ?_) (fun c3 h => ?_)
  · refine bX11_areOne_53 (fun _ => ?_) (fun z => absurd c3 z)
    refine bX11_areOne_62 ?_
    refine a_ite h (fun c4 h => ?_) (fun c4 h => ?_)
    · refine bX11_areOne_63 (fun _ => ?_) (fun z => absurd c4 z)
      refine bX11_areOne_70 ?_
      cases h
      exact bX11_areOne_71 (a_nz (Or.inl rfl))
    · refine bX11_areOne_63 (fun z => absurd z c4) (fun _ => ?_)
      refine bX11_areOne_66 ?_
      cases h
      exact bX11_areOne_71 (a_nz (Or.inr rfl))
  · refine bX11_areOne_53 (fun z => absurd z c3) (fun _ => ?_)
    refine bX11_areOne_57 ?_
    refine a_ite h (fun c5 h => ?_) (fun c5 h => ?_)
    · refine bX11_areOne_63 (fun _ => ?_) (fun z => absurd c5 z)
      refine bX11_areOne_70 ?_
      cases h
      exact bX11_areOne_71 (a_nz (Or.inl rfl))
    · refine bX11_areOne_63 (fun z => absurd z c5) (fun _ => ?_)
      refine bX11_areOne_66 ?_
      cases h
      exact bX11_areOne_71 (a_nz (Or.inr rfl))

def FX11_same (d : aI) (e : aJ) (x1 : Int32) (x2 : Int32) : Option (Int32 × aI × aJ) := ((FX11_isSight d e x1).bind fun q1 => (if q1.1 = 0 then (some ((nI 0), q1.2.1, q1.2.2)) else ((FX11_isSight q1.2.1 q1.2.2 x2).bind fun q3 => (if q3.1 = 0 then (some ((nI 0), q3.2.1, q3.2.2)) else ((FX11_areOne q3.2.1 q3.2.2 x1 x2).bind fun q5 => (if q5.1 = 0 then (some ((nI 0), q5.2.1, q5.2.2)) else (some ((nI 1), q5.2.1, q5.2.2))))))))
theorem evX11_same {Γ : aG × Launch} {d : aI} {e : aJ} {x1 : Int32} {x2 : Int32} {q : Int32 × aI × aJ} (h : FX11_same d e x1 x2 = some q) : Ev Γ 2 mX11_same [.ref 108, .int x1, .int x2] d e (some (.int q.1)) q.2.1 q.2.2 := by
  refine Ev.of (by decide) rfl (Nat.le_of_ble_eq_true rfl) (fun z => by cases z) ?_
  show Rn Γ 2 mX11_same 0 [some (.ref 108), some (.int x1), some (.int x2)] [] d e _ _ _
  unfold FX11_same at h
  obtain ⟨q1, hq1, h⟩ := Option.bind_eq_some_iff.mp h
  refine bX11_same_0 (evX11_isSight hq1) (Nat.le_of_ble_eq_true rfl) ?_
  refine a_ite h (fun c2 h => ?_) (fun c2 h => ?_)
  · refine bX11_same_5 (fun _ => ?_) (fun z => absurd c2 z)
    refine bX11_same_29 ?_
    cases h
    exact bX11_same_30 (a_nz (Or.inl rfl))
  · refine bX11_same_5 (fun z => absurd z c2) (fun _ => ?_)
    obtain ⟨q3, hq3, h⟩ := Option.bind_eq_some_iff.mp h
    refine bX11_same_8 (evX11_isSight hq3) (Nat.le_of_ble_eq_true rfl) ?_
    refine a_ite h (fun c4 h => ?_) (fun c4 h => ?_)
    · refine bX11_same_13 (fun _ => ?_) (fun z => absurd c4 z)
      refine bX11_same_29 ?_
      cases h
      exact bX11_same_30 (a_nz (Or.inl rfl))
    · refine bX11_same_13 (fun z => absurd z c4) (fun _ => ?_)
      obtain ⟨q5, hq5, h⟩ := Option.bind_eq_some_iff.mp h
      refine bX11_same_16 (evX11_areOne hq5) (Nat.le_of_ble_eq_true rfl) ?_
      refine a_ite h (fun c6 h => ?_) (fun c6 h => ?_)
      · refine bX11_same_22 (fun _ => ?_) (fun z => absurd c6 z)
        refine bX11_same_29 ?_
        cases h
        exact bX11_same_30 (a_nz (Or.inl rfl))
      · refine bX11_same_22 (fun z => absurd z c6) (fun _ => ?_)
        refine bX11_same_25 ?_
        cases h
        exact bX11_same_30 (a_nz (Or.inr rfl))

def FX11_told (d : aI) (e : aJ) (x1 : Int32) (x2 : Int32) : Option (Int32 × aI × aJ) := (if x1 = (-(nI 1)) then (bif ((a_inb (nI 6) 1961)) then (some ((nI 0), (uI d 109 6 (nI 0)), e)) else none) else ((FX11_isHouse d e x1).bind fun q3 => (if q3.1 = 0 then (some ((-(nI 2)), q3.2.1, q3.2.2)) else ((FX11_isIn q3.2.1 q3.2.2 x2 (nI 0) (nI 99)).bind fun q5 => (if q5.1 = 0 then (some ((-(nI 2)), q5.2.1, q5.2.2)) else (bif ((a_inb (nI 6) 1961)) then (if (q5.2.1 109 6) = (nI 8) then (some ((-(nI 2)), q5.2.1, q5.2.2)) else (bif ((a_inb (nI 6) 1961) && (a_inb ((nI 86) + ((nI 2) * (q5.2.1 109 6))) 1961) && (a_inb (nI 6) 1961) && (a_inb (((nI 86) + ((nI 2) * ((uI q5.2.1 109 (((nI 86) + ((nI 2) * (q5.2.1 109 6)))).toNatClampNeg x1) 109 6))) + (nI 1)) 1961) && (a_inb (nI 6) 1961) && (a_inb (nI 6) 1961) && (a_inb (nI 6) 1961)) then (some ((((uI (uI q5.2.1 109 (((nI 86) + ((nI 2) * (q5.2.1 109 6)))).toNatClampNeg x1) 109 ((((nI 86) + ((nI 2) * ((uI q5.2.1 109 (((nI 86) + ((nI 2) * (q5.2.1 109 6)))).toNatClampNeg x1) 109 6))) + (nI 1))).toNatClampNeg x2) 109 6) + (nI 1)), (uI (uI (uI q5.2.1 109 (((nI 86) + ((nI 2) * (q5.2.1 109 6)))).toNatClampNeg x1) 109 ((((nI 86) + ((nI 2) * ((uI q5.2.1 109 (((nI 86) + ((nI 2) * (q5.2.1 109 6)))).toNatClampNeg x1) 109 6))) + (nI 1))).toNatClampNeg x2) 109 6 (((uI (uI q5.2.1 109 (((nI 86) + ((nI 2) * (q5.2.1 109 6)))).toNatClampNeg x1) 109 ((((nI 86) + ((nI 2) * ((uI q5.2.1 109 (((nI 86) + ((nI 2) * (q5.2.1 109 6)))).toNatClampNeg x1) 109 6))) + (nI 1))).toNatClampNeg x2) 109 6) + (nI 1))), q5.2.2)) else none)) else none))))))
theorem evX11_told {Γ : aG × Launch} {d : aI} {e : aJ} {x1 : Int32} {x2 : Int32} {q : Int32 × aI × aJ} (h : FX11_told d e x1 x2 = some q) : Ev Γ 2 mX11_told [.ref 108, .int x1, .int x2] d e (some (.int q.1)) q.2.1 q.2.2 := by
  refine Ev.of (by decide) rfl (Nat.le_of_ble_eq_true rfl) (fun z => by cases z) ?_
  show Rn Γ 2 mX11_told 0 [some (.ref 108), some (.int x1), some (.int x2)] [] d e _ _ _
  unfold FX11_told at h
  refine a_ite h (fun c1 h => ?_) (fun c1 h => ?_)
  · refine bX11_told_0 (fun z => absurd c1 z) (fun _ => ?_)
    obtain ⟨g2, h⟩ := a_cond h
    cases h
    exact bX11_told_5 (a_inb_vp g2)
  · refine bX11_told_0 (fun _ => ?_) (fun z => absurd z c1)
    obtain ⟨q3, hq3, h⟩ := Option.bind_eq_some_iff.mp h
    refine bX11_told_15 (evX11_isHouse hq3) (Nat.le_of_ble_eq_true rfl) ?_
    refine a_ite h (fun c4 h => ?_) (fun c4 h => ?_)
    · refine bX11_told_20 (fun _ => ?_) (fun z => absurd c4 z)
      cases h
      exact bX11_told_45
    · refine bX11_told_20 (fun z => absurd z c4) (fun _ => ?_)
      obtain ⟨q5, hq5, h⟩ := Option.bind_eq_some_iff.mp h
      refine bX11_told_23 (evX11_isIn hq5) (Nat.le_of_ble_eq_true rfl) ?_
      refine a_ite h (fun c6 h => ?_) (fun c6 h => ?_)
      · refine bX11_told_30 (fun _ => ?_) (fun z => absurd c6 z)
        cases h
        exact bX11_told_45
      · refine bX11_told_30 (fun z => absurd z c6) (fun _ => ?_)
        obtain ⟨g7, h⟩ := a_cond h
        refine a_ite h (fun c8 h => ?_) (fun c8 h => ?_)
        · refine bX11_told_33 (a_inb_vp g7) (fun z => absurd c8 z) (fun _ => ?_)
          cases h
          exact bX11_told_45
        · refine bX11_told_33 (a_inb_vp g7) (fun _ => ?_) (fun z => absurd z c8)
          obtain ⟨g9, h⟩ := a_cond h
          obtain ⟨g9x6, g9_6⟩ := a_and g9
          obtain ⟨g9x5, g9_5⟩ := a_and g9x6
          obtain ⟨g9x4, g9_4⟩ := a_and g9x5
          obtain ⟨g9x3, g9_3⟩ := a_and g9x4
          obtain ⟨g9x2, g9_2⟩ := a_and g9x3
          obtain ⟨g9x1, g9_1⟩ := a_and g9x2
          have g9_0 := g9x1
          cases h
          exact bX11_told_48 ⟨(a_inb_vp g9_0), (a_inb_vp g9_1), (a_inb_vp g9_2), (a_inb_vp g9_3), (a_inb_vp g9_4), (a_inb_vp g9_5), (a_inb_vp g9_6)⟩

def FX11_piece (d : aI) (e : aJ) (x1 : Int32) (x2 : Int32) : Option (Int32 × aI × aJ) := ((FX11_isIn d e x1 (nI 1) (nI 4)).bind fun q1 => (if q1.1 = 0 then (some ((-(nI 1)), q1.2.1, q1.2.2)) else ((FX11_isIn q1.2.1 q1.2.2 x2 (nI 0) ((a_shl (nI 1) x1) - (nI 1))).bind fun q3 => (if q3.1 = 0 then (some ((-(nI 1)), q3.2.1, q3.2.2)) else (bif ((a_inb (nI 7) 1961)) then (if (q3.2.1 109 7) = (nI 5) then (some ((-(nI 1)), q3.2.1, q3.2.2)) else (bif ((a_inb (nI 7) 1961) && (a_inb ((nI 102) + ((nI 2) * (q3.2.1 109 7))) 1961) && (a_inb (nI 7) 1961) && (a_inb (((nI 102) + ((nI 2) * ((uI q3.2.1 109 (((nI 102) + ((nI 2) * (q3.2.1 109 7)))).toNatClampNeg x1) 109 7))) + (nI 1)) 1961) && (a_inb (nI 7) 1961) && (a_inb (nI 7) 1961) && (a_inb (nI 7) 1961)) then (some (((((uI (uI q3.2.1 109 (((nI 102) + ((nI 2) * (q3.2.1 109 7)))).toNatClampNeg x1) 109 ((((nI 102) + ((nI 2) * ((uI q3.2.1 109 (((nI 102) + ((nI 2) * (q3.2.1 109 7)))).toNatClampNeg x1) 109 7))) + (nI 1))).toNatClampNeg x2) 109 7) + (nI 1)) - (nI 1)), (uI (uI (uI q3.2.1 109 (((nI 102) + ((nI 2) * (q3.2.1 109 7)))).toNatClampNeg x1) 109 ((((nI 102) + ((nI 2) * ((uI q3.2.1 109 (((nI 102) + ((nI 2) * (q3.2.1 109 7)))).toNatClampNeg x1) 109 7))) + (nI 1))).toNatClampNeg x2) 109 7 (((uI (uI q3.2.1 109 (((nI 102) + ((nI 2) * (q3.2.1 109 7)))).toNatClampNeg x1) 109 ((((nI 102) + ((nI 2) * ((uI q3.2.1 109 (((nI 102) + ((nI 2) * (q3.2.1 109 7)))).toNatClampNeg x1) 109 7))) + (nI 1))).toNatClampNeg x2) 109 7) + (nI 1))), q3.2.2)) else none)) else none)))))
theorem evX11_piece {Γ : aG × Launch} {d : aI} {e : aJ} {x1 : Int32} {x2 : Int32} {q : Int32 × aI × aJ} (h : FX11_piece d e x1 x2 = some q) : Ev Γ 1 mX11_piece [.ref 108, .int x1, .int x2] d e (some (.int q.1)) q.2.1 q.2.2 := by
  refine Ev.of (by decide) rfl (Nat.le_of_ble_eq_true rfl) (fun z => by cases z) ?_
  show Rn Γ 1 mX11_piece 0 [some (.ref 108), some (.int x1), some (.int x2)] [] d e _ _ _
  unfold FX11_piece at h
  obtain ⟨q1, hq1, h⟩ := Option.bind_eq_some_iff.mp h
  refine bX11_piece_0 (evX11_isIn hq1) (Nat.le_of_ble_eq_true rfl) ?_
  refine a_ite h (fun c2 h => ?_) (fun c2 h => ?_)
  · refine bX11_piece_6 (fun _ => ?_) (fun z => absurd c2 z)
    cases h
    exact bX11_piece_33
  · refine bX11_piece_6 (fun z => absurd z c2) (fun _ => ?_)
    obtain ⟨q3, hq3, h⟩ := Option.bind_eq_some_iff.mp h
    refine bX11_piece_9 (evX11_isIn hq3) (Nat.le_of_ble_eq_true rfl) ?_
    refine a_ite h (fun c4 h => ?_) (fun c4 h => ?_)
    · refine bX11_piece_19 (fun _ => ?_) (fun z => absurd c4 z)
      cases h
      exact bX11_piece_33
    · refine bX11_piece_19 (fun z => absurd z c4) (fun _ => ?_)
      obtain ⟨g5, h⟩ := a_cond h
      refine a_ite h (fun c6 h => ?_) (fun c6 h => ?_)
      · refine bX11_piece_22 (a_inb_vp g5) (fun z => absurd c6 z) (fun _ => ?_)
        cases h
        exact bX11_piece_33
      · refine bX11_piece_22 (a_inb_vp g5) (fun _ => ?_) (fun z => absurd z c6)
        obtain ⟨g7, h⟩ := a_cond h
        obtain ⟨g7x6, g7_6⟩ := a_and g7
        obtain ⟨g7x5, g7_5⟩ := a_and g7x6
        obtain ⟨g7x4, g7_4⟩ := a_and g7x5
        obtain ⟨g7x3, g7_3⟩ := a_and g7x4
        obtain ⟨g7x2, g7_2⟩ := a_and g7x3
        obtain ⟨g7x1, g7_1⟩ := a_and g7x2
        have g7_0 := g7x1
        cases h
        exact bX11_piece_35 ⟨(a_inb_vp g7_0), (a_inb_vp g7_1), (a_inb_vp g7_2), (a_inb_vp g7_3), (a_inb_vp g7_4), (a_inb_vp g7_5), (a_inb_vp g7_6)⟩

def FX11_firstBit (d : aI) (e : aJ) (x1 : Int32) : Option (Int32 × aI × aJ) := (bif ((a_inb (((nI 102) + ((nI 2) * x1)) + (nI 1)) 1961) && (a_inb ((nI 102) + ((nI 2) * x1)) 1961)) then (some (((a_shr (d 109 ((((nI 102) + ((nI 2) * x1)) + (nI 1))).toNatClampNeg) ((d 109 (((nI 102) + ((nI 2) * x1))).toNatClampNeg) - (nI 1))) &&& (nI 1)), d, e)) else none)
theorem evX11_firstBit {Γ : aG × Launch} {d : aI} {e : aJ} {x1 : Int32} {q : Int32 × aI × aJ} (h : FX11_firstBit d e x1 = some q) : Ev Γ 0 mX11_firstBit [.ref 108, .int x1] d e (some (.int q.1)) q.2.1 q.2.2 := by
  refine Ev.of (by decide) rfl (Nat.le_of_ble_eq_true rfl) (fun z => by cases z) ?_
  show Rn Γ 0 mX11_firstBit 0 [some (.ref 108), some (.int x1)] [] d e _ _ _
  unfold FX11_firstBit at h
  obtain ⟨g1, h⟩ := a_cond h
  obtain ⟨g1x1, g1_1⟩ := a_and g1
  have g1_0 := g1x1
  cases h
  exact bX11_firstBit_0 ⟨(a_inb_vp g1_0), (a_inb_vp g1_1)⟩

def FX11_canPlay (d : aI) (e : aJ) (x1 : Int32) (x2 : Int32) (x3 : Int32) (x4 : Int32) : Option (Int32 × aI × aJ) := (if x1 < x3 then (some ((nI 0), d, e)) else (if x2 < x4 then (some ((nI 0), d, e)) else (if x3 = 0 then (if (x3 + x4) ≤ 0 then (some ((nI 0), d, e)) else (bif ((a_inb ((((nI 13) * (x1 - x3)) + x2) - x4) 169)) then (if (d 119 (((((nI 13) * (x1 - x3)) + x2) - x4)).toNatClampNeg) = 0 then (some ((nI 1), d, e)) else (some ((nI 0), d, e))) else none)) else (if x4 = 0 then (if (x3 + x4) ≤ 0 then (some ((nI 0), d, e)) else (bif ((a_inb ((((nI 13) * (x1 - x3)) + x2) - x4) 169)) then (if (d 119 (((((nI 13) * (x1 - x3)) + x2) - x4)).toNatClampNeg) = 0 then (some ((nI 1), d, e)) else (some ((nI 0), d, e))) else none)) else (if x3 = x4 then (if (x3 + x4) ≤ 0 then (some ((nI 0), d, e)) else (bif ((a_inb ((((nI 13) * (x1 - x3)) + x2) - x4) 169)) then (if (d 119 (((((nI 13) * (x1 - x3)) + x2) - x4)).toNatClampNeg) = 0 then (some ((nI 1), d, e)) else (some ((nI 0), d, e))) else none)) else (some ((nI 0), d, e)))))))
theorem evX11_canPlay {Γ : aG × Launch} {d : aI} {e : aJ} {x1 : Int32} {x2 : Int32} {x3 : Int32} {x4 : Int32} {q : Int32 × aI × aJ} (h : FX11_canPlay d e x1 x2 x3 x4 = some q) : Ev Γ 0 mX11_canPlay [.ref 108, .int x1, .int x2, .int x3, .int x4] d e (some (.int q.1)) q.2.1 q.2.2 := by
  refine Ev.of (by decide) rfl (Nat.le_of_ble_eq_true rfl) (fun z => by cases z) ?_
  show Rn Γ 0 mX11_canPlay 0 [some (.ref 108), some (.int x1), some (.int x2), some (.int x3), some (.int x4)] [] d e _ _ _
  unfold FX11_canPlay at h
  refine a_ite h (fun c1 h => ?_) (fun c1 h => ?_)
  · refine bX11_canPlay_0 (fun _ => ?_) (fun z => absurd c1 z)
    refine bX11_canPlay_56 ?_
    cases h
    exact bX11_canPlay_57 (a_nz (Or.inl rfl))
  · refine bX11_canPlay_0 (fun z => absurd z c1) (fun _ => ?_)
    refine a_ite h (fun c2 h => ?_) (fun c2 h => ?_)
    · refine bX11_canPlay_5 (fun _ => ?_) (fun z => absurd c2 z)
      refine bX11_canPlay_56 ?_
      cases h
      exact bX11_canPlay_57 (a_nz (Or.inl rfl))
    · refine bX11_canPlay_5 (fun z => absurd z c2) (fun _ => ?_)
      refine a_ite h (fun c3 h => ?_) (fun c3 h => ?_)
      · refine bX11_canPlay_11 (fun _ => ?_) (fun z => absurd c3 z)
        refine a_ite h (fun c4 h => ?_) (fun c4 h => ?_)
        · refine bX11_canPlay_26 (fun _ => ?_) (fun z => absurd c4 z)
          refine bX11_canPlay_56 ?_
          cases h
          exact bX11_canPlay_57 (a_nz (Or.inl rfl))
        · refine bX11_canPlay_26 (fun z => absurd z c4) (fun _ => ?_)
          obtain ⟨g5, h⟩ := a_cond h
          refine a_ite h (fun c6 h => ?_) (fun c6 h => ?_)
          · refine bX11_canPlay_33 (a_inb_vp g5) (fun z => absurd c6 z) (fun _ => ?_)
            refine bX11_canPlay_52 ?_
            cases h
            exact bX11_canPlay_57 (a_nz (Or.inr rfl))
          · refine bX11_canPlay_33 (a_inb_vp g5) (fun _ => ?_) (fun z => absurd z c6)
            refine bX11_canPlay_56 ?_
            cases h
            exact bX11_canPlay_57 (a_nz (Or.inl rfl))
      · refine bX11_canPlay_11 (fun z => absurd z c3) (fun _ => ?_)
        refine a_ite h (fun c7 h => ?_) (fun c7 h => ?_)
        · refine bX11_canPlay_15 (fun _ => ?_) (fun z => absurd c7 z)
          refine a_ite h (fun c8 h => ?_) (fun c8 h => ?_)
          · refine bX11_canPlay_26 (fun _ => ?_) (fun z => absurd c8 z)
            refine bX11_canPlay_56 ?_
            cases h
            exact bX11_canPlay_57 (a_nz (Or.inl rfl))
          · refine bX11_canPlay_26 (fun z => absurd z c8) (fun _ => ?_)
            obtain ⟨g9, h⟩ := a_cond h
            refine a_ite h (fun c10 h => ?_) (fun c10 h => ?_)
            · refine bX11_canPlay_33 (a_inb_vp g9) (fun z => absurd c10 z) (fun _ => ?_)
              refine bX11_canPlay_52 ?_
              cases h
              exact bX11_canPlay_57 (a_nz (Or.inr rfl))
            · refine bX11_canPlay_33 (a_inb_vp g9) (fun _ => ?_) (fun z => absurd z c10)
              refine bX11_canPlay_56 ?_
              cases h
              exact bX11_canPlay_57 (a_nz (Or.inl rfl))
        · refine bX11_canPlay_15 (fun z => absurd z c7) (fun _ => ?_)
          refine a_ite h (fun c11 h => ?_) (fun c11 h => ?_)
          · refine bX11_canPlay_20 (fun z => absurd c11 z) (fun _ => ?_)
            refine a_ite h (fun c12 h => ?_) (fun c12 h => ?_)
            · refine bX11_canPlay_26 (fun _ => ?_) (fun z => absurd c12 z)
              refine bX11_canPlay_56 ?_
              cases h
              exact bX11_canPlay_57 (a_nz (Or.inl rfl))
            · refine bX11_canPlay_26 (fun z => absurd z c12) (fun _ => ?_)
              obtain ⟨g13, h⟩ := a_cond h
              refine a_ite h (fun c14 h => ?_) (fun c14 h => ?_)
              · refine bX11_canPlay_33 (a_inb_vp g13) (fun z => absurd c14 z) (fun _ => ?_)
                refine bX11_canPlay_52 ?_
                cases h
                exact bX11_canPlay_57 (a_nz (Or.inr rfl))
              · refine bX11_canPlay_33 (a_inb_vp g13) (fun _ => ?_) (fun z => absurd z c14)
                refine bX11_canPlay_56 ?_
                cases h
                exact bX11_canPlay_57 (a_nz (Or.inl rfl))
          · refine bX11_canPlay_20 (fun _ => ?_) (fun z => absurd z c11)
            refine bX11_canPlay_56 ?_
            cases h
            exact bX11_canPlay_57 (a_nz (Or.inl rfl))

def FX11_isHeap (d : aI) (e : aJ) (x0 : Int32) : Option (Int32 × aI × aJ) := ((FX11_isIn d e x0 (nI 0) (nI 12)).bind fun q1 => (bif (decide (q1.1 = 0 ∨ q1.1 = 1)) then (some (q1.1, q1.2.1, q1.2.2)) else none))
theorem evX11_isHeap {Γ : aG × Launch} {d : aI} {e : aJ} {x0 : Int32} {q : Int32 × aI × aJ} (h : FX11_isHeap d e x0 = some q) : Ev Γ 1 mX11_isHeap [.int x0] d e (some (.int q.1)) q.2.1 q.2.2 := by
  refine Ev.of (by decide) rfl (Nat.le_of_ble_eq_true rfl) (fun z => by cases z) ?_
  show Rn Γ 1 mX11_isHeap 0 [some (.int x0)] [] d e _ _ _
  unfold FX11_isHeap at h
  obtain ⟨q1, hq1, h⟩ := Option.bind_eq_some_iff.mp h
  refine bX11_isHeap_0 (evX11_isIn hq1) (Nat.le_of_ble_eq_true rfl) ?_
  obtain ⟨z2, h⟩ := a_cond h
  cases h
  exact bX11_isHeap_7 (a_nz (of_decide_eq_true z2))

def FX11_said (d : aI) (e : aJ) (x1 : Int32) (x2 : Int32) (x3 : Int32) : Option (Int32 × aI × aJ) := (if x1 = (-(nI 1)) then (bif ((a_inb (nI 8) 1961)) then (some ((nI 0), (uI d 109 8 (nI 0)), e)) else none) else ((FX11_isCat d e x1).bind fun q3 => (if q3.1 = 0 then (some ((-(nI 2)), q3.2.1, q3.2.2)) else ((FX11_isHouse q3.2.1 q3.2.2 x2).bind fun q5 => (if q5.1 = 0 then (some ((-(nI 2)), q5.2.1, q5.2.2)) else ((FX11_isIn q5.2.1 q5.2.2 x3 (nI 0) (nI 99)).bind fun q7 => (if q7.1 = 0 then (some ((-(nI 2)), q7.2.1, q7.2.2)) else (bif ((a_inb (nI 8) 1961)) then (if (q7.2.1 109 8) = (nI 8) then (some ((-(nI 2)), q7.2.1, q7.2.2)) else (bif ((a_inb (nI 8) 1961) && (a_inb ((nI 112) + ((nI 3) * (q7.2.1 109 8))) 1961) && (a_inb (((nI 112) + ((nI 3) * (q7.2.1 109 8))) + (nI 1)) 1961) && (a_inb (((nI 112) + ((nI 3) * (q7.2.1 109 8))) + (nI 2)) 1961) && (a_inb (nI 8) 1961) && (a_inb (nI 8) 1961) && (a_inb (nI 8) 1961)) then (some ((((uI (uI (uI q7.2.1 109 (((nI 112) + ((nI 3) * (q7.2.1 109 8)))).toNatClampNeg x1) 109 ((((nI 112) + ((nI 3) * (q7.2.1 109 8))) + (nI 1))).toNatClampNeg x2) 109 ((((nI 112) + ((nI 3) * (q7.2.1 109 8))) + (nI 2))).toNatClampNeg x3) 109 8) + (nI 1)), (uI (uI (uI (uI q7.2.1 109 (((nI 112) + ((nI 3) * (q7.2.1 109 8)))).toNatClampNeg x1) 109 ((((nI 112) + ((nI 3) * (q7.2.1 109 8))) + (nI 1))).toNatClampNeg x2) 109 ((((nI 112) + ((nI 3) * (q7.2.1 109 8))) + (nI 2))).toNatClampNeg x3) 109 8 (((uI (uI (uI q7.2.1 109 (((nI 112) + ((nI 3) * (q7.2.1 109 8)))).toNatClampNeg x1) 109 ((((nI 112) + ((nI 3) * (q7.2.1 109 8))) + (nI 1))).toNatClampNeg x2) 109 ((((nI 112) + ((nI 3) * (q7.2.1 109 8))) + (nI 2))).toNatClampNeg x3) 109 8) + (nI 1))), q7.2.2)) else none)) else none))))))))
theorem evX11_said {Γ : aG × Launch} {d : aI} {e : aJ} {x1 : Int32} {x2 : Int32} {x3 : Int32} {q : Int32 × aI × aJ} (h : FX11_said d e x1 x2 x3 = some q) : Ev Γ 2 mX11_said [.ref 108, .int x1, .int x2, .int x3] d e (some (.int q.1)) q.2.1 q.2.2 := by
  refine Ev.of (by decide) rfl (Nat.le_of_ble_eq_true rfl) (fun z => by cases z) ?_
  show Rn Γ 2 mX11_said 0 [some (.ref 108), some (.int x1), some (.int x2), some (.int x3), none] [] d e _ _ _
  unfold FX11_said at h
  refine a_ite h (fun c1 h => ?_) (fun c1 h => ?_)
  · refine bX11_said_0 (fun z => absurd c1 z) (fun _ => ?_)
    obtain ⟨g2, h⟩ := a_cond h
    cases h
    exact bX11_said_5 (a_inb_vp g2)
  · refine bX11_said_0 (fun _ => ?_) (fun z => absurd z c1)
    obtain ⟨q3, hq3, h⟩ := Option.bind_eq_some_iff.mp h
    refine bX11_said_15 (evX11_isCat hq3) (Nat.le_of_ble_eq_true rfl) ?_
    refine a_ite h (fun c4 h => ?_) (fun c4 h => ?_)
    · refine bX11_said_20 (fun _ => ?_) (fun z => absurd c4 z)
      cases h
      exact bX11_said_53
    · refine bX11_said_20 (fun z => absurd z c4) (fun _ => ?_)
      obtain ⟨q5, hq5, h⟩ := Option.bind_eq_some_iff.mp h
      refine bX11_said_23 (evX11_isHouse hq5) (Nat.le_of_ble_eq_true rfl) ?_
      refine a_ite h (fun c6 h => ?_) (fun c6 h => ?_)
      · refine bX11_said_28 (fun _ => ?_) (fun z => absurd c6 z)
        cases h
        exact bX11_said_53
      · refine bX11_said_28 (fun z => absurd z c6) (fun _ => ?_)
        obtain ⟨q7, hq7, h⟩ := Option.bind_eq_some_iff.mp h
        refine bX11_said_31 (evX11_isIn hq7) (Nat.le_of_ble_eq_true rfl) ?_
        refine a_ite h (fun c8 h => ?_) (fun c8 h => ?_)
        · refine bX11_said_38 (fun _ => ?_) (fun z => absurd c8 z)
          cases h
          exact bX11_said_53
        · refine bX11_said_38 (fun z => absurd z c8) (fun _ => ?_)
          obtain ⟨g9, h⟩ := a_cond h
          refine a_ite h (fun c10 h => ?_) (fun c10 h => ?_)
          · refine bX11_said_41 (a_inb_vp g9) (fun z => absurd c10 z) (fun _ => ?_)
            cases h
            exact bX11_said_53
          · refine bX11_said_41 (a_inb_vp g9) (fun _ => ?_) (fun z => absurd z c10)
            obtain ⟨g11, h⟩ := a_cond h
            obtain ⟨g11x6, g11_6⟩ := a_and g11
            obtain ⟨g11x5, g11_5⟩ := a_and g11x6
            obtain ⟨g11x4, g11_4⟩ := a_and g11x5
            obtain ⟨g11x3, g11_3⟩ := a_and g11x4
            obtain ⟨g11x2, g11_2⟩ := a_and g11x3
            obtain ⟨g11x1, g11_1⟩ := a_and g11x2
            have g11_0 := g11x1
            cases h
            exact bX11_said_56 ⟨(a_inb_vp g11_0), (a_inb_vp g11_1), (a_inb_vp g11_2), (a_inb_vp g11_3), (a_inb_vp g11_4), (a_inb_vp g11_5), (a_inb_vp g11_6)⟩

def FX11_about (d : aI) (e : aJ) (x1 : Int32) : Option (Int32 × aI × aJ) := ((FX11_isIn d e x1 (nI 0) (nI 8)).bind fun q1 => (if q1.1 = 0 then (if x1 = (nI 9) then (some ((q1.2.1 108 4), q1.2.1, q1.2.2)) else (some ((-(nI 2)), q1.2.1, q1.2.2))) else (bif ((a_inb x1 1961)) then (some ((q1.2.1 109 (x1).toNatClampNeg), q1.2.1, q1.2.2)) else none)))
theorem evX11_about {Γ : aG × Launch} {d : aI} {e : aJ} {x1 : Int32} {q : Int32 × aI × aJ} (h : FX11_about d e x1 = some q) : Ev Γ 1 mX11_about [.ref 108, .int x1] d e (some (.int q.1)) q.2.1 q.2.2 := by
  refine Ev.of (by decide) rfl (Nat.le_of_ble_eq_true rfl) (fun z => by cases z) ?_
  show Rn Γ 1 mX11_about 0 [some (.ref 108), some (.int x1)] [] d e _ _ _
  unfold FX11_about at h
  obtain ⟨q1, hq1, h⟩ := Option.bind_eq_some_iff.mp h
  refine bX11_about_0 (evX11_isIn hq1) (Nat.le_of_ble_eq_true rfl) ?_
  refine a_ite h (fun c2 h => ?_) (fun c2 h => ?_)
  · refine bX11_about_7 (fun _ => ?_) (fun z => absurd c2 z)
    refine a_ite h (fun c3 h => ?_) (fun c3 h => ?_)
    · refine bX11_about_19 (fun z => absurd c3 z) (fun _ => ?_)
      refine bX11_about_25 ?_
      cases h
      exact bX11_about_34
    · refine bX11_about_19 (fun _ => ?_) (fun z => absurd z c3)
      refine bX11_about_32 ?_
      cases h
      exact bX11_about_34
  · refine bX11_about_7 (fun z => absurd z c2) (fun _ => ?_)
    obtain ⟨g4, h⟩ := a_cond h
    refine bX11_about_10 (a_inb_vp g4) ?_
    cases h
    exact bX11_about_34

def FX1_named (d : aI) (e : aJ) (x0 : Int32) (x2 : Int32) (x3 : Int32) : Option (Int32 × aI × aJ) := (if x0 = (nI 308) then (some ((d 2 11), d, e)) else (if x0 = (nI 309) then ((FX2_isHouse d e x3).bind fun q3 => (if q3.1 = 0 then (some ((nI 0), q3.2.1, q3.2.2)) else (bif ((a_inb x3 6)) then (some ((q3.2.1 4 (x3).toNatClampNeg), q3.2.1, q3.2.2)) else none))) else (if x0 = (nI 310) then (bif ((a_inb x2 6)) then (some ((d 6 (x2).toNatClampNeg), d, e)) else none) else (if x0 = (nI 311) then ((FX2_isHouse d e x3).bind fun q9 => (if q9.1 = 0 then (some ((nI 0), q9.2.1, q9.2.2)) else (bif ((a_inb x3 6)) then (some ((q9.2.1 5 (x3).toNatClampNeg), q9.2.1, q9.2.2)) else none))) else (if x0 = (nI 312) then ((FX2_isHouse d e x3).bind fun q13 => (if q13.1 = 0 then (some ((nI 0), q13.2.1, q13.2.2)) else (bif ((a_inb x3 6)) then (some ((q13.2.1 5 (x3).toNatClampNeg), q13.2.1, q13.2.2)) else none))) else (if x0 = (nI 313) then ((FX2_isHouse d e x3).bind fun q17 => (if q17.1 = 0 then (some ((nI 0), q17.2.1, q17.2.2)) else (bif ((a_inb x3 6)) then (some ((q17.2.1 5 (x3).toNatClampNeg), q17.2.1, q17.2.2)) else none))) else (if x0 = (nI 314) then ((FX2_isHouse d e x3).bind fun q21 => (if q21.1 = 0 then (some ((nI 0), q21.2.1, q21.2.2)) else (bif ((a_inb x3 6)) then (some ((q21.2.1 5 (x3).toNatClampNeg), q21.2.1, q21.2.2)) else none))) else (if x0 = (nI 315) then ((FX2_isHouse d e x3).bind fun q25 => (if q25.1 = 0 then (some ((nI 0), q25.2.1, q25.2.2)) else (bif ((a_inb x3 6)) then (some ((q25.2.1 5 (x3).toNatClampNeg), q25.2.1, q25.2.2)) else none))) else (if x0 = (nI 316) then ((FX2_isHouse d e x3).bind fun q29 => (if q29.1 = 0 then (some ((nI 0), q29.2.1, q29.2.2)) else (bif ((a_inb x3 6)) then (some ((q29.2.1 5 (x3).toNatClampNeg), q29.2.1, q29.2.2)) else none))) else (if x0 = (nI 317) then ((FX2_isHouse d e x3).bind fun q33 => (if q33.1 = 0 then (some ((nI 0), q33.2.1, q33.2.2)) else (bif ((a_inb x3 6)) then (some ((q33.2.1 5 (x3).toNatClampNeg), q33.2.1, q33.2.2)) else none))) else (if x0 = (nI 318) then ((FX2_isHouse d e x3).bind fun q37 => (if q37.1 = 0 then (some ((nI 0), q37.2.1, q37.2.2)) else (bif ((a_inb x3 6)) then (some ((q37.2.1 5 (x3).toNatClampNeg), q37.2.1, q37.2.2)) else none))) else (if x0 = (nI 319) then ((FX2_isHouse d e x3).bind fun q41 => (if q41.1 = 0 then (some ((nI 0), q41.2.1, q41.2.2)) else (bif ((a_inb x3 6)) then (some ((q41.2.1 5 (x3).toNatClampNeg), q41.2.1, q41.2.2)) else none))) else (if x0 = (nI 320) then ((FX2_isHouse d e x3).bind fun q45 => (if q45.1 = 0 then (some ((nI 0), q45.2.1, q45.2.2)) else (bif ((a_inb x3 6)) then (some ((q45.2.1 5 (x3).toNatClampNeg), q45.2.1, q45.2.2)) else none))) else (if x0 = (nI 321) then (some (x2, d, e)) else (if x0 = (nI 322) then (bif ((a_inb x2 6)) then (some ((d 9 (x2).toNatClampNeg), d, e)) else none) else (if x0 = (nI 323) then (bif ((a_inb x2 6)) then (some ((d 7 (x2).toNatClampNeg), d, e)) else none) else (if x0 = (nI 324) then ((FX2_isHouse d e x3).bind fun q54 => (if q54.1 = 0 then (some ((nI 0), q54.2.1, q54.2.2)) else (bif ((a_inb x3 6)) then (some ((q54.2.1 5 (x3).toNatClampNeg), q54.2.1, q54.2.2)) else none))) else (if x0 = (nI 325) then (bif ((a_inb x2 6)) then (if (d 8 (x2).toNatClampNeg) = (-(nI 1)) then (some ((nI 0), d, e)) else (some ((nI 1), d, e))) else none) else ((FX2_isHouse d e x3).bind fun q60 => (if q60.1 = 0 then (some ((nI 0), q60.2.1, q60.2.2)) else (bif ((a_inb x3 6)) then (some ((q60.2.1 5 (x3).toNatClampNeg), q60.2.1, q60.2.2)) else none)))))))))))))))))))))
theorem evX1_named {Γ : aG × Launch} {d : aI} {e : aJ} {x0 : Int32} {x2 : Int32} {x3 : Int32} {q : Int32 × aI × aJ} (h : FX1_named d e x0 x2 x3 = some q) : Ev Γ 1 mX1_named [.int x0, .ref 2, .int x2, .int x3] d e (some (.int q.1)) q.2.1 q.2.2 := by
  refine Ev.of (by decide) rfl (Nat.le_of_ble_eq_true rfl) (fun z => by cases z) ?_
  show Rn Γ 1 mX1_named 0 [some (.int x0), some (.ref 2), some (.int x2), some (.int x3)] [] d e _ _ _
  unfold FX1_named at h
  refine a_ite h (fun c1 h => ?_) (fun c1 h => ?_)
  · refine bX1_named_0 (fun n0 _ _ _ _ _ _ _ _ _ _ _ _ _ _ _ _ _ => absurd c1 n0) (fun _ => ?_) (fun z => absurd (c1.symm.trans z) (by decide)) (fun z => absurd (c1.symm.trans z) (by decide)) (fun z => absurd (c1.symm.trans z) (by decide)) (fun z => absurd (c1.symm.trans z) (by decide)) (fun z => absurd (c1.symm.trans z) (by decide)) (fun z => absurd (c1.symm.trans z) (by decide)) (fun z => absurd (c1.symm.trans z) (by decide)) (fun z => absurd (c1.symm.trans z) (by decide)) (fun z => absurd (c1.symm.trans z) (by decide)) (fun z => absurd (c1.symm.trans z) (by decide)) (fun z => absurd (c1.symm.trans z) (by decide)) (fun z => absurd (c1.symm.trans z) (by decide)) (fun z => absurd (c1.symm.trans z) (by decide)) (fun z => absurd (c1.symm.trans z) (by decide)) (fun z => absurd (c1.symm.trans z) (by decide)) (fun z => absurd (c1.symm.trans z) (by decide)) (fun z => absurd (c1.symm.trans z) (by decide))
    cases h
    exact bX1_named_88
  · skip
    refine a_ite h (fun c2 h => ?_) (fun c2 h => ?_)
    · refine bX1_named_0 (fun _ n1 _ _ _ _ _ _ _ _ _ _ _ _ _ _ _ _ => absurd c2 n1) (fun z => absurd z c1) (fun _ => ?_) (fun z => absurd (c2.symm.trans z) (by decide)) (fun z => absurd (c2.symm.trans z) (by decide)) (fun z => absurd (c2.symm.trans z) (by decide)) (fun z => absurd (c2.symm.trans z) (by decide)) (fun z => absurd (c2.symm.trans z) (by decide)) (fun z => absurd (c2.symm.trans z) (by decide)) (fun z => absurd (c2.symm.trans z) (by decide)) (fun z => absurd (c2.symm.trans z) (by decide)) (fun z => absurd (c2.symm.trans z) (by decide)) (fun z => absurd (c2.symm.trans z) (by decide)) (fun z => absurd (c2.symm.trans z) (by decide)) (fun z => absurd (c2.symm.trans z) (by decide)) (fun z => absurd (c2.symm.trans z) (by decide)) (fun z => absurd (c2.symm.trans z) (by decide)) (fun z => absurd (c2.symm.trans z) (by decide)) (fun z => absurd (c2.symm.trans z) (by decide))
      obtain ⟨q3, hq3, h⟩ := Option.bind_eq_some_iff.mp h
      refine bX1_named_132 (evX2_isHouse hq3) (Nat.le_of_ble_eq_true rfl) ?_
      refine a_ite h (fun c4 h => ?_) (fun c4 h => ?_)
      · refine bX1_named_137 (fun _ => ?_) (fun z => absurd c4 z)
        refine bX1_named_149 ?_
        cases h
        exact bX1_named_150
      · refine bX1_named_137 (fun z => absurd z c4) (fun _ => ?_)
        obtain ⟨g5, h⟩ := a_cond h
        refine bX1_named_140 (a_inb_vp g5) ?_
        cases h
        exact bX1_named_150
    · skip
      refine a_ite h (fun c6 h => ?_) (fun c6 h => ?_)
      · refine bX1_named_0 (fun _ _ n2 _ _ _ _ _ _ _ _ _ _ _ _ _ _ _ => absurd c6 n2) (fun z => absurd z c1) (fun z => absurd z c2) (fun _ => ?_) (fun z => absurd (c6.symm.trans z) (by decide)) (fun z => absurd (c6.symm.trans z) (by decide)) (fun z => absurd (c6.symm.trans z) (by decide)) (fun z => absurd (c6.symm.trans z) (by decide)) (fun z => absurd (c6.symm.trans z) (by decide)) (fun z => absurd (c6.symm.trans z) (by decide)) (fun z => absurd (c6.symm.trans z) (by decide)) (fun z => absurd (c6.symm.trans z) (by decide)) (fun z => absurd (c6.symm.trans z) (by decide)) (fun z => absurd (c6.symm.trans z) (by decide)) (fun z => absurd (c6.symm.trans z) (by decide)) (fun z => absurd (c6.symm.trans z) (by decide)) (fun z => absurd (c6.symm.trans z) (by decide)) (fun z => absurd (c6.symm.trans z) (by decide)) (fun z => absurd (c6.symm.trans z) (by decide))
        obtain ⟨g7, h⟩ := a_cond h
        cases h
        exact bX1_named_95 (a_inb_vp g7)
      · skip
        refine a_ite h (fun c8 h => ?_) (fun c8 h => ?_)
        · refine bX1_named_0 (fun _ _ _ n3 _ _ _ _ _ _ _ _ _ _ _ _ _ _ => absurd c8 n3) (fun z => absurd z c1) (fun z => absurd z c2) (fun z => absurd z c6) (fun _ => ?_) (fun z => absurd (c8.symm.trans z) (by decide)) (fun z => absurd (c8.symm.trans z) (by decide)) (fun z => absurd (c8.symm.trans z) (by decide)) (fun z => absurd (c8.symm.trans z) (by decide)) (fun z => absurd (c8.symm.trans z) (by decide)) (fun z => absurd (c8.symm.trans z) (by decide)) (fun z => absurd (c8.symm.trans z) (by decide)) (fun z => absurd (c8.symm.trans z) (by decide)) (fun z => absurd (c8.symm.trans z) (by decide)) (fun z => absurd (c8.symm.trans z) (by decide)) (fun z => absurd (c8.symm.trans z) (by decide)) (fun z => absurd (c8.symm.trans z) (by decide)) (fun z => absurd (c8.symm.trans z) (by decide)) (fun z => absurd (c8.symm.trans z) (by decide))
          obtain ⟨q9, hq9, h⟩ := Option.bind_eq_some_iff.mp h
          refine bX1_named_151 (evX2_isHouse hq9) (Nat.le_of_ble_eq_true rfl) ?_
          refine a_ite h (fun c10 h => ?_) (fun c10 h => ?_)
          · refine bX1_named_156 (fun _ => ?_) (fun z => absurd c10 z)
            refine bX1_named_168 ?_
            cases h
            exact bX1_named_169
          · refine bX1_named_156 (fun z => absurd z c10) (fun _ => ?_)
            obtain ⟨g11, h⟩ := a_cond h
            refine bX1_named_159 (a_inb_vp g11) ?_
            cases h
            exact bX1_named_169
        · skip
          refine a_ite h (fun c12 h => ?_) (fun c12 h => ?_)
          · refine bX1_named_0 (fun _ _ _ _ n4 _ _ _ _ _ _ _ _ _ _ _ _ _ => absurd c12 n4) (fun z => absurd z c1) (fun z => absurd z c2) (fun z => absurd z c6) (fun z => absurd z c8) (fun _ => ?_) (fun z => absurd (c12.symm.trans z) (by decide)) (fun z => absurd (c12.symm.trans z) (by decide)) (fun z => absurd (c12.symm.trans z) (by decide)) (fun z => absurd (c12.symm.trans z) (by decide)) (fun z => absurd (c12.symm.trans z) (by decide)) (fun z => absurd (c12.symm.trans z) (by decide)) (fun z => absurd (c12.symm.trans z) (by decide)) (fun z => absurd (c12.symm.trans z) (by decide)) (fun z => absurd (c12.symm.trans z) (by decide)) (fun z => absurd (c12.symm.trans z) (by decide)) (fun z => absurd (c12.symm.trans z) (by decide)) (fun z => absurd (c12.symm.trans z) (by decide)) (fun z => absurd (c12.symm.trans z) (by decide))
            obtain ⟨q13, hq13, h⟩ := Option.bind_eq_some_iff.mp h
            refine bX1_named_151 (evX2_isHouse hq13) (Nat.le_of_ble_eq_true rfl) ?_
            refine a_ite h (fun c14 h => ?_) (fun c14 h => ?_)
            · refine bX1_named_156 (fun _ => ?_) (fun z => absurd c14 z)
              refine bX1_named_168 ?_
              cases h
              exact bX1_named_169
            · refine bX1_named_156 (fun z => absurd z c14) (fun _ => ?_)
              obtain ⟨g15, h⟩ := a_cond h
              refine bX1_named_159 (a_inb_vp g15) ?_
              cases h
              exact bX1_named_169
          · skip
            refine a_ite h (fun c16 h => ?_) (fun c16 h => ?_)
            · refine bX1_named_0 (fun _ _ _ _ _ n5 _ _ _ _ _ _ _ _ _ _ _ _ => absurd c16 n5) (fun z => absurd z c1) (fun z => absurd z c2) (fun z => absurd z c6) (fun z => absurd z c8) (fun z => absurd z c12) (fun _ => ?_) (fun z => absurd (c16.symm.trans z) (by decide)) (fun z => absurd (c16.symm.trans z) (by decide)) (fun z => absurd (c16.symm.trans z) (by decide)) (fun z => absurd (c16.symm.trans z) (by decide)) (fun z => absurd (c16.symm.trans z) (by decide)) (fun z => absurd (c16.symm.trans z) (by decide)) (fun z => absurd (c16.symm.trans z) (by decide)) (fun z => absurd (c16.symm.trans z) (by decide)) (fun z => absurd (c16.symm.trans z) (by decide)) (fun z => absurd (c16.symm.trans z) (by decide)) (fun z => absurd (c16.symm.trans z) (by decide)) (fun z => absurd (c16.symm.trans z) (by decide))
              obtain ⟨q17, hq17, h⟩ := Option.bind_eq_some_iff.mp h
              refine bX1_named_151 (evX2_isHouse hq17) (Nat.le_of_ble_eq_true rfl) ?_
              refine a_ite h (fun c18 h => ?_) (fun c18 h => ?_)
              · refine bX1_named_156 (fun _ => ?_) (fun z => absurd c18 z)
                refine bX1_named_168 ?_
                cases h
                exact bX1_named_169
              · refine bX1_named_156 (fun z => absurd z c18) (fun _ => ?_)
                obtain ⟨g19, h⟩ := a_cond h
                refine bX1_named_159 (a_inb_vp g19) ?_
                cases h
                exact bX1_named_169
            · skip
              refine a_ite h (fun c20 h => ?_) (fun c20 h => ?_)
              · refine bX1_named_0 (fun _ _ _ _ _ _ n6 _ _ _ _ _ _ _ _ _ _ _ => absurd c20 n6) (fun z => absurd z c1) (fun z => absurd z c2) (fun z => absurd z c6) (fun z => absurd z c8) (fun z => absurd z c12) (fun z => absurd z c16) (fun _ => ?_) (fun z => absurd (c20.symm.trans z) (by decide)) (fun z => absurd (c20.symm.trans z) (by decide)) (fun z => absurd (c20.symm.trans z) (by decide)) (fun z => absurd (c20.symm.trans z) (by decide)) (fun z => absurd (c20.symm.trans z) (by decide)) (fun z => absurd (c20.symm.trans z) (by decide)) (fun z => absurd (c20.symm.trans z) (by decide)) (fun z => absurd (c20.symm.trans z) (by decide)) (fun z => absurd (c20.symm.trans z) (by decide)) (fun z => absurd (c20.symm.trans z) (by decide)) (fun z => absurd (c20.symm.trans z) (by decide))
                obtain ⟨q21, hq21, h⟩ := Option.bind_eq_some_iff.mp h
                refine bX1_named_151 (evX2_isHouse hq21) (Nat.le_of_ble_eq_true rfl) ?_
                refine a_ite h (fun c22 h => ?_) (fun c22 h => ?_)
                · refine bX1_named_156 (fun _ => ?_) (fun z => absurd c22 z)
                  refine bX1_named_168 ?_
                  cases h
                  exact bX1_named_169
                · refine bX1_named_156 (fun z => absurd z c22) (fun _ => ?_)
                  obtain ⟨g23, h⟩ := a_cond h
                  refine bX1_named_159 (a_inb_vp g23) ?_
                  cases h
                  exact bX1_named_169
              · skip
                refine a_ite h (fun c24 h => ?_) (fun c24 h => ?_)
                · refine bX1_named_0 (fun _ _ _ _ _ _ _ n7 _ _ _ _ _ _ _ _ _ _ => absurd c24 n7) (fun z => absurd z c1) (fun z => absurd z c2) (fun z => absurd z c6) (fun z => absurd z c8) (fun z => absurd z c12) (fun z => absurd z c16) (fun z => absurd z c20) (fun _ => ?_) (fun z => absurd (c24.symm.trans z) (by decide)) (fun z => absurd (c24.symm.trans z) (by decide)) (fun z => absurd (c24.symm.trans z) (by decide)) (fun z => absurd (c24.symm.trans z) (by decide)) (fun z => absurd (c24.symm.trans z) (by decide)) (fun z => absurd (c24.symm.trans z) (by decide)) (fun z => absurd (c24.symm.trans z) (by decide)) (fun z => absurd (c24.symm.trans z) (by decide)) (fun z => absurd (c24.symm.trans z) (by decide)) (fun z => absurd (c24.symm.trans z) (by decide))
                  obtain ⟨q25, hq25, h⟩ := Option.bind_eq_some_iff.mp h
                  refine bX1_named_151 (evX2_isHouse hq25) (Nat.le_of_ble_eq_true rfl) ?_
                  refine a_ite h (fun c26 h => ?_) (fun c26 h => ?_)
                  · refine bX1_named_156 (fun _ => ?_) (fun z => absurd c26 z)
                    refine bX1_named_168 ?_
                    cases h
                    exact bX1_named_169
                  · refine bX1_named_156 (fun z => absurd z c26) (fun _ => ?_)
                    obtain ⟨g27, h⟩ := a_cond h
                    refine bX1_named_159 (a_inb_vp g27) ?_
                    cases h
                    exact bX1_named_169
                · skip
                  refine a_ite h (fun c28 h => ?_) (fun c28 h => ?_)
                  · refine bX1_named_0 (fun _ _ _ _ _ _ _ _ n8 _ _ _ _ _ _ _ _ _ => absurd c28 n8) (fun z => absurd z c1) (fun z => absurd z c2) (fun z => absurd z c6) (fun z => absurd z c8) (fun z => absurd z c12) (fun z => absurd z c16) (fun z => absurd z c20) (fun z => absurd z c24) (fun _ => ?_) (fun z => absurd (c28.symm.trans z) (by decide)) (fun z => absurd (c28.symm.trans z) (by decide)) (fun z => absurd (c28.symm.trans z) (by decide)) (fun z => absurd (c28.symm.trans z) (by decide)) (fun z => absurd (c28.symm.trans z) (by decide)) (fun z => absurd (c28.symm.trans z) (by decide)) (fun z => absurd (c28.symm.trans z) (by decide)) (fun z => absurd (c28.symm.trans z) (by decide)) (fun z => absurd (c28.symm.trans z) (by decide))
                    obtain ⟨q29, hq29, h⟩ := Option.bind_eq_some_iff.mp h
                    refine bX1_named_151 (evX2_isHouse hq29) (Nat.le_of_ble_eq_true rfl) ?_
                    refine a_ite h (fun c30 h => ?_) (fun c30 h => ?_)
                    · refine bX1_named_156 (fun _ => ?_) (fun z => absurd c30 z)
                      refine bX1_named_168 ?_
                      cases h
                      exact bX1_named_169
                    · refine bX1_named_156 (fun z => absurd z c30) (fun _ => ?_)
                      obtain ⟨g31, h⟩ := a_cond h
                      refine bX1_named_159 (a_inb_vp g31) ?_
                      cases h
                      exact bX1_named_169
                  · skip
                    refine a_ite h (fun c32 h => ?_) (fun c32 h => ?_)
                    · refine bX1_named_0 (fun _ _ _ _ _ _ _ _ _ n9 _ _ _ _ _ _ _ _ => absurd c32 n9) (fun z => absurd z c1) (fun z => absurd z c2) (fun z => absurd z c6) (fun z => absurd z c8) (fun z => absurd z c12) (fun z => absurd z c16) (fun z => absurd z c20) (fun z => absurd z c24) (fun z => absurd z c28) (fun _ => ?_) (fun z => absurd (c32.symm.trans z) (by decide)) (fun z => absurd (c32.symm.trans z) (by decide)) (fun z => absurd (c32.symm.trans z) (by decide)) (fun z => absurd (c32.symm.trans z) (by decide)) (fun z => absurd (c32.symm.trans z) (by decide)) (fun z => absurd (c32.symm.trans z) (by decide)) (fun z => absurd (c32.symm.trans z) (by decide)) (fun z => absurd (c32.symm.trans z) (by decide))
                      obtain ⟨q33, hq33, h⟩ := Option.bind_eq_some_iff.mp h
                      refine bX1_named_151 (evX2_isHouse hq33) (Nat.le_of_ble_eq_true rfl) ?_
                      refine a_ite h (fun c34 h => ?_) (fun c34 h => ?_)
                      · refine bX1_named_156 (fun _ => ?_) (fun z => absurd c34 z)
                        refine bX1_named_168 ?_
                        cases h
                        exact bX1_named_169
                      · refine bX1_named_156 (fun z => absurd z c34) (fun _ => ?_)
                        obtain ⟨g35, h⟩ := a_cond h
                        refine bX1_named_159 (a_inb_vp g35) ?_
                        cases h
                        exact bX1_named_169
                    · skip
                      refine a_ite h (fun c36 h => ?_) (fun c36 h => ?_)
                      · refine bX1_named_0 (fun _ _ _ _ _ _ _ _ _ _ n10 _ _ _ _ _ _ _ => absurd c36 n10) (fun z => absurd z c1) (fun z => absurd z c2) (fun z => absurd z c6) (fun z => absurd z c8) (fun z => absurd z c12) (fun z => absurd z c16) (fun z => absurd z c20) (fun z => absurd z c24) (fun z => absurd z c28) (fun z => absurd z c32) (fun _ => ?_) (fun z => absurd (c36.symm.trans z) (by decide)) (fun z => absurd (c36.symm.trans z) (by decide)) (fun z => absurd (c36.symm.trans z) (by decide)) (fun z => absurd (c36.symm.trans z) (by decide)) (fun z => absurd (c36.symm.trans z) (by decide)) (fun z => absurd (c36.symm.trans z) (by decide)) (fun z => absurd (c36.symm.trans z) (by decide))
                        obtain ⟨q37, hq37, h⟩ := Option.bind_eq_some_iff.mp h
                        refine bX1_named_151 (evX2_isHouse hq37) (Nat.le_of_ble_eq_true rfl) ?_
                        refine a_ite h (fun c38 h => ?_) (fun c38 h => ?_)
                        · refine bX1_named_156 (fun _ => ?_) (fun z => absurd c38 z)
                          refine bX1_named_168 ?_
                          cases h
                          exact bX1_named_169
                        · refine bX1_named_156 (fun z => absurd z c38) (fun _ => ?_)
                          obtain ⟨g39, h⟩ := a_cond h
                          refine bX1_named_159 (a_inb_vp g39) ?_
                          cases h
                          exact bX1_named_169
                      · skip
                        refine a_ite h (fun c40 h => ?_) (fun c40 h => ?_)
                        · refine bX1_named_0 (fun _ _ _ _ _ _ _ _ _ _ _ n11 _ _ _ _ _ _ => absurd c40 n11) (fun z => absurd z c1) (fun z => absurd z c2) (fun z => absurd z c6) (fun z => absurd z c8) (fun z => absurd z c12) (fun z => absurd z c16) (fun z => absurd z c20) (fun z => absurd z c24) (fun z => absurd z c28) (fun z => absurd z c32) (fun z => absurd z c36) (fun _ => ?_) (fun z => absurd (c40.symm.trans z) (by decide)) (fun z => absurd (c40.symm.trans z) (by decide)) (fun z => absurd (c40.symm.trans z) (by decide)) (fun z => absurd (c40.symm.trans z) (by decide)) (fun z => absurd (c40.symm.trans z) (by decide)) (fun z => absurd (c40.symm.trans z) (by decide))
                          obtain ⟨q41, hq41, h⟩ := Option.bind_eq_some_iff.mp h
                          refine bX1_named_151 (evX2_isHouse hq41) (Nat.le_of_ble_eq_true rfl) ?_
                          refine a_ite h (fun c42 h => ?_) (fun c42 h => ?_)
                          · refine bX1_named_156 (fun _ => ?_) (fun z => absurd c42 z)
                            refine bX1_named_168 ?_
                            cases h
                            exact bX1_named_169
                          · refine bX1_named_156 (fun z => absurd z c42) (fun _ => ?_)
                            obtain ⟨g43, h⟩ := a_cond h
                            refine bX1_named_159 (a_inb_vp g43) ?_
                            cases h
                            exact bX1_named_169
                        · skip
                          refine a_ite h (fun c44 h => ?_) (fun c44 h => ?_)
                          · refine bX1_named_0 (fun _ _ _ _ _ _ _ _ _ _ _ _ n12 _ _ _ _ _ => absurd c44 n12) (fun z => absurd z c1) (fun z => absurd z c2) (fun z => absurd z c6) (fun z => absurd z c8) (fun z => absurd z c12) (fun z => absurd z c16) (fun z => absurd z c20) (fun z => absurd z c24) (fun z => absurd z c28) (fun z => absurd z c32) (fun z => absurd z c36) (fun z => absurd z c40) (fun _ => ?_) (fun z => absurd (c44.symm.trans z) (by decide)) (fun z => absurd (c44.symm.trans z) (by decide)) (fun z => absurd (c44.symm.trans z) (by decide)) (fun z => absurd (c44.symm.trans z) (by decide)) (fun z => absurd (c44.symm.trans z) (by decide))
                            obtain ⟨q45, hq45, h⟩ := Option.bind_eq_some_iff.mp h
                            refine bX1_named_151 (evX2_isHouse hq45) (Nat.le_of_ble_eq_true rfl) ?_
                            refine a_ite h (fun c46 h => ?_) (fun c46 h => ?_)
                            · refine bX1_named_156 (fun _ => ?_) (fun z => absurd c46 z)
                              refine bX1_named_168 ?_
                              cases h
                              exact bX1_named_169
                            · refine bX1_named_156 (fun z => absurd z c46) (fun _ => ?_)
                              obtain ⟨g47, h⟩ := a_cond h
                              refine bX1_named_159 (a_inb_vp g47) ?_
                              cases h
                              exact bX1_named_169
                          · skip
                            refine a_ite h (fun c48 h => ?_) (fun c48 h => ?_)
                            · refine bX1_named_0 (fun _ _ _ _ _ _ _ _ _ _ _ _ _ n13 _ _ _ _ => absurd c48 n13) (fun z => absurd z c1) (fun z => absurd z c2) (fun z => absurd z c6) (fun z => absurd z c8) (fun z => absurd z c12) (fun z => absurd z c16) (fun z => absurd z c20) (fun z => absurd z c24) (fun z => absurd z c28) (fun z => absurd z c32) (fun z => absurd z c36) (fun z => absurd z c40) (fun z => absurd z c44) (fun _ => ?_) (fun z => absurd (c48.symm.trans z) (by decide)) (fun z => absurd (c48.symm.trans z) (by decide)) (fun z => absurd (c48.symm.trans z) (by decide)) (fun z => absurd (c48.symm.trans z) (by decide))
                              cases h
                              exact bX1_named_93
                            · skip
                              refine a_ite h (fun c49 h => ?_) (fun c49 h => ?_)
                              · refine bX1_named_0 (fun _ _ _ _ _ _ _ _ _ _ _ _ _ _ n14 _ _ _ => absurd c49 n14) (fun z => absurd z c1) (fun z => absurd z c2) (fun z => absurd z c6) (fun z => absurd z c8) (fun z => absurd z c12) (fun z => absurd z c16) (fun z => absurd z c20) (fun z => absurd z c24) (fun z => absurd z c28) (fun z => absurd z c32) (fun z => absurd z c36) (fun z => absurd z c40) (fun z => absurd z c44) (fun z => absurd z c48) (fun _ => ?_) (fun z => absurd (c49.symm.trans z) (by decide)) (fun z => absurd (c49.symm.trans z) (by decide)) (fun z => absurd (c49.symm.trans z) (by decide))
                                obtain ⟨g50, h⟩ := a_cond h
                                cases h
                                exact bX1_named_102 (a_inb_vp g50)
                              · skip
                                refine a_ite h (fun c51 h => ?_) (fun c51 h => ?_)
                                · refine bX1_named_0 (fun _ _ _ _ _ _ _ _ _ _ _ _ _ _ _ n15 _ _ => absurd c51 n15) (fun z => absurd z c1) (fun z => absurd z c2) (fun z => absurd z c6) (fun z => absurd z c8) (fun z => absurd z c12) (fun z => absurd z c16) (fun z => absurd z c20) (fun z => absurd z c24) (fun z => absurd z c28) (fun z => absurd z c32) (fun z => absurd z c36) (fun z => absurd z c40) (fun z => absurd z c44) (fun z => absurd z c48) (fun z => absurd z c49) (fun _ => ?_) (fun z => absurd (c51.symm.trans z) (by decide)) (fun z => absurd (c51.symm.trans z) (by decide))
                                  obtain ⟨g52, h⟩ := a_cond h
                                  cases h
                                  exact bX1_named_109 (a_inb_vp g52)
                                · skip
                                  refine a_ite h (fun c53 h => ?_) (fun c53 h => ?_)
                                  · refine bX1_named_0 (fun _ _ _ _ _ _ _ _ _ _ _ _ _ _ _ _ n16 _ => absurd c53 n16) (fun z => absurd z c1) (fun z => absurd z c2) (fun z => absurd z c6) (fun z => absurd z c8) (fun z => absurd z c12) (fun z => absurd z c16) (fun z => absurd z c20) (fun z => absurd z c24) (fun z => absurd z c28) (fun z => absurd z c32) (fun z => absurd z c36) (fun z => absurd z c40) (fun z => absurd z c44) (fun z => absurd z c48) (fun z => absurd z c49) (fun z => absurd z c51) (fun _ => ?_) (fun z => absurd (c53.symm.trans z) (by decide))
                                    obtain ⟨q54, hq54, h⟩ := Option.bind_eq_some_iff.mp h
                                    refine bX1_named_151 (evX2_isHouse hq54) (Nat.le_of_ble_eq_true rfl) ?_
                                    refine a_ite h (fun c55 h => ?_) (fun c55 h => ?_)
                                    · refine bX1_named_156 (fun _ => ?_) (fun z => absurd c55 z)
                                      refine bX1_named_168 ?_
                                      cases h
                                      exact bX1_named_169
                                    · refine bX1_named_156 (fun z => absurd z c55) (fun _ => ?_)
                                      obtain ⟨g56, h⟩ := a_cond h
                                      refine bX1_named_159 (a_inb_vp g56) ?_
                                      cases h
                                      exact bX1_named_169
                                  · skip
                                    refine a_ite h (fun c57 h => ?_) (fun c57 h => ?_)
                                    · refine bX1_named_0 (fun _ _ _ _ _ _ _ _ _ _ _ _ _ _ _ _ _ n17 => absurd c57 n17) (fun z => absurd z c1) (fun z => absurd z c2) (fun z => absurd z c6) (fun z => absurd z c8) (fun z => absurd z c12) (fun z => absurd z c16) (fun z => absurd z c20) (fun z => absurd z c24) (fun z => absurd z c28) (fun z => absurd z c32) (fun z => absurd z c36) (fun z => absurd z c40) (fun z => absurd z c44) (fun z => absurd z c48) (fun z => absurd z c49) (fun z => absurd z c51) (fun z => absurd z c53) (fun _ => ?_)
                                      obtain ⟨g58, h⟩ := a_cond h
                                      refine a_ite h (fun c59 h => ?_) (fun c59 h => ?_)
                                      · refine bX1_named_116 (a_inb_vp g58) (fun z => absurd c59 z) (fun _ => ?_)
                                        refine bX1_named_126 ?_
                                        cases h
                                        exact bX1_named_131
                                      · refine bX1_named_116 (a_inb_vp g58) (fun _ => ?_) (fun z => absurd z c59)
                                        refine bX1_named_130 ?_
                                        cases h
                                        exact bX1_named_131
                                    · skip
                                      refine bX1_named_0 (fun _ _ _ _ _ _ _ _ _ _ _ _ _ _ _ _ _ _ => ?_) (fun z => absurd z c1) (fun z => absurd z c2) (fun z => absurd z c6) (fun z => absurd z c8) (fun z => absurd z c12) (fun z => absurd z c16) (fun z => absurd z c20) (fun z => absurd z c24) (fun z => absurd z c28) (fun z => absurd z c32) (fun z => absurd z c36) (fun z => absurd z c40) (fun z => absurd z c44) (fun z => absurd z c48) (fun z => absurd z c49) (fun z => absurd z c51) (fun z => absurd z c53) (fun z => absurd z c57)
                                      obtain ⟨q60, hq60, h⟩ := Option.bind_eq_some_iff.mp h
                                      refine bX1_named_151 (evX2_isHouse hq60) (Nat.le_of_ble_eq_true rfl) ?_
                                      refine a_ite h (fun c61 h => ?_) (fun c61 h => ?_)
                                      · refine bX1_named_156 (fun _ => ?_) (fun z => absurd c61 z)
                                        refine bX1_named_168 ?_
                                        cases h
                                        exact bX1_named_169
                                      · refine bX1_named_156 (fun z => absurd z c61) (fun _ => ?_)
                                        obtain ⟨g62, h⟩ := a_cond h
                                        refine bX1_named_159 (a_inb_vp g62) ?_
                                        cases h
                                        exact bX1_named_169

def FX1_ofOne (d : aI) (e : aJ) (x0 : Int32) (x1 : Int32) : Option (Int32 × aI × aJ) := (if x0 = (nI 5) then (some ((-x1), d, e)) else (if x0 = (nI 320) then (some (((nI 1) - x1), d, e)) else ((FX2_isCat d e x1).bind fun q3 => (if q3.1 = 0 then (some ((nI 0), q3.2.1, q3.2.2)) else (bif ((a_inb x1 6)) then (some ((q3.2.1 6 (x1).toNatClampNeg), q3.2.1, q3.2.2)) else none)))))
theorem evX1_ofOne {Γ : aG × Launch} {d : aI} {e : aJ} {x0 : Int32} {x1 : Int32} {q : Int32 × aI × aJ} (h : FX1_ofOne d e x0 x1 = some q) : Ev Γ 1 mX1_ofOne [.int x0, .int x1, .ref 2] d e (some (.int q.1)) q.2.1 q.2.2 := by
  refine Ev.of (by decide) rfl (Nat.le_of_ble_eq_true rfl) (fun z => by cases z) ?_
  show Rn Γ 1 mX1_ofOne 0 [some (.int x0), some (.int x1), some (.ref 2)] [] d e _ _ _
  unfold FX1_ofOne at h
  refine a_ite h (fun c1 h => ?_) (fun c1 h => ?_)
  · refine bX1_ofOne_0 (fun z => absurd c1 z) (fun _ => ?_)
    cases h
    exact bX1_ofOne_5
  · refine bX1_ofOne_0 (fun _ => ?_) (fun z => absurd z c1)
    refine a_ite h (fun c2 h => ?_) (fun c2 h => ?_)
    · refine bX1_ofOne_8 (fun z => absurd c2 z) (fun _ => ?_)
      cases h
      exact bX1_ofOne_15
    · refine bX1_ofOne_8 (fun _ => ?_) (fun z => absurd z c2)
      obtain ⟨q3, hq3, h⟩ := Option.bind_eq_some_iff.mp h
      refine bX1_ofOne_19 (evX2_isCat hq3) (Nat.le_of_ble_eq_true rfl) ?_
      refine a_ite h (fun c4 h => ?_) (fun c4 h => ?_)
      · refine bX1_ofOne_24 (fun _ => ?_) (fun z => absurd c4 z)
        refine bX1_ofOne_36 ?_
        cases h
        exact bX1_ofOne_37
      · refine bX1_ofOne_24 (fun z => absurd z c4) (fun _ => ?_)
        obtain ⟨g5, h⟩ := a_cond h
        refine bX1_ofOne_27 (a_inb_vp g5) ?_
        cases h
        exact bX1_ofOne_37

def FX1_ofTwo (d : aI) (e : aJ) (x0 : Int32) (y1 : Int64) (y3 : Int64) : Option (Int64 × aI × aJ) := (if x0 = (nI 42) then (some ((y1 * y3), d, e)) else (if x0 = (nI 43) then (some ((y1 + y3), d, e)) else (if x0 = (nI 45) then (some ((y1 - y3), d, e)) else (if x0 = (nI 47) then (if (lg_cmp y3 (lN 0)) = 0 then (some ((lN 0), d, e)) else (bif ((decide (¬ y3 = 0))) then (some ((y1 / y3), d, e)) else none)) else (if x0 = (nI 312) then (bif ((decide (¬ (lN 10) = 0)) && (decide (¬ (lN 10) = 0)) && (decide (¬ (lN 10) = 0))) then (some ((a_jrm (((a_jrm (a_absJ y3) (lN 10)) - (a_jrm (a_absJ y1) (lN 10))) + (lN 10)) (lN 10)), d, e)) else none) else (if x0 = (nI 318) then (some ((y1 ||| y3), d, e)) else (if x0 = (nI 319) then (some ((y1 &&& y3), d, e)) else ((FX1_compares d e x0 y1 y3).bind fun q11 => (if q11.1 = 0 then (some ((lN 0), q11.2.1, q11.2.2)) else (some ((lN 1), q11.2.1, q11.2.2)))))))))))
theorem evX1_ofTwo {Γ : aG × Launch} {d : aI} {e : aJ} {x0 : Int32} {y1 : Int64} {y3 : Int64} {q : Int64 × aI × aJ} (h : FX1_ofTwo d e x0 y1 y3 = some q) : Ev Γ 1 mX1_ofTwo [.int x0, .long y1, .long y3] d e (some (.long q.1)) q.2.1 q.2.2 := by
  refine Ev.of (by decide) rfl (Nat.le_of_ble_eq_true rfl) (fun z => by cases z) ?_
  show Rn Γ 1 mX1_ofTwo 0 [some (.int x0), some (.long y1), none, some (.long y3), none] [] d e _ _ _
  unfold FX1_ofTwo at h
  refine a_ite h (fun c1 h => ?_) (fun c1 h => ?_)
  · refine bX1_ofTwo_0 (fun n0 _ _ _ _ _ _ => absurd c1 n0) (fun _ => ?_) (fun z => absurd (c1.symm.trans z) (by decide)) (fun z => absurd (c1.symm.trans z) (by decide)) (fun z => absurd (c1.symm.trans z) (by decide)) (fun z => absurd (c1.symm.trans z) (by decide)) (fun z => absurd (c1.symm.trans z) (by decide)) (fun z => absurd (c1.symm.trans z) (by decide))
    cases h
    exact bX1_ofTwo_76
  · skip
    refine a_ite h (fun c2 h => ?_) (fun c2 h => ?_)
    · refine bX1_ofTwo_0 (fun _ n1 _ _ _ _ _ => absurd c2 n1) (fun z => absurd z c1) (fun _ => ?_) (fun z => absurd (c2.symm.trans z) (by decide)) (fun z => absurd (c2.symm.trans z) (by decide)) (fun z => absurd (c2.symm.trans z) (by decide)) (fun z => absurd (c2.symm.trans z) (by decide)) (fun z => absurd (c2.symm.trans z) (by decide))
      cases h
      exact bX1_ofTwo_68
    · skip
      refine a_ite h (fun c3 h => ?_) (fun c3 h => ?_)
      · refine bX1_ofTwo_0 (fun _ _ n2 _ _ _ _ => absurd c3 n2) (fun z => absurd z c1) (fun z => absurd z c2) (fun _ => ?_) (fun z => absurd (c3.symm.trans z) (by decide)) (fun z => absurd (c3.symm.trans z) (by decide)) (fun z => absurd (c3.symm.trans z) (by decide)) (fun z => absurd (c3.symm.trans z) (by decide))
        cases h
        exact bX1_ofTwo_72
      · skip
        refine a_ite h (fun c4 h => ?_) (fun c4 h => ?_)
        · refine bX1_ofTwo_0 (fun _ _ _ n3 _ _ _ => absurd c4 n3) (fun z => absurd z c1) (fun z => absurd z c2) (fun z => absurd z c3) (fun _ => ?_) (fun z => absurd (c4.symm.trans z) (by decide)) (fun z => absurd (c4.symm.trans z) (by decide)) (fun z => absurd (c4.symm.trans z) (by decide))
          refine a_ite h (fun c5 h => ?_) (fun c5 h => ?_)
          · refine bX1_ofTwo_80 (fun z => absurd c5 z) (fun _ => ?_)
            refine bX1_ofTwo_86 ?_
            cases h
            exact bX1_ofTwo_93
          · refine bX1_ofTwo_80 (fun _ => ?_) (fun z => absurd z c5)
            obtain ⟨g6, h⟩ := a_cond h
            refine bX1_ofTwo_90 (of_decide_eq_true g6) ?_
            cases h
            exact bX1_ofTwo_93
        · skip
          refine a_ite h (fun c7 h => ?_) (fun c7 h => ?_)
          · refine bX1_ofTwo_0 (fun _ _ _ _ n4 _ _ => absurd c7 n4) (fun z => absurd z c1) (fun z => absurd z c2) (fun z => absurd z c3) (fun z => absurd z c4) (fun _ => ?_) (fun z => absurd (c7.symm.trans z) (by decide)) (fun z => absurd (c7.symm.trans z) (by decide))
            obtain ⟨g8, h⟩ := a_cond h
            obtain ⟨g8x2, g8_2⟩ := a_and g8
            obtain ⟨g8x1, g8_1⟩ := a_and g8x2
            have g8_0 := g8x1
            cases h
            exact bX1_ofTwo_94 ⟨(of_decide_eq_true g8_0), (of_decide_eq_true g8_1), (of_decide_eq_true g8_2)⟩
          · skip
            refine a_ite h (fun c9 h => ?_) (fun c9 h => ?_)
            · refine bX1_ofTwo_0 (fun _ _ _ _ _ n5 _ => absurd c9 n5) (fun z => absurd z c1) (fun z => absurd z c2) (fun z => absurd z c3) (fun z => absurd z c4) (fun z => absurd z c7) (fun _ => ?_) (fun z => absurd (c9.symm.trans z) (by decide))
              cases h
              exact bX1_ofTwo_124
            · skip
              refine a_ite h (fun c10 h => ?_) (fun c10 h => ?_)
              · refine bX1_ofTwo_0 (fun _ _ _ _ _ _ n6 => absurd c10 n6) (fun z => absurd z c1) (fun z => absurd z c2) (fun z => absurd z c3) (fun z => absurd z c4) (fun z => absurd z c7) (fun z => absurd z c9) (fun _ => ?_)
                cases h
                exact bX1_ofTwo_120
              · skip
                refine bX1_ofTwo_0 (fun _ _ _ _ _ _ _ => ?_) (fun z => absurd z c1) (fun z => absurd z c2) (fun z => absurd z c3) (fun z => absurd z c4) (fun z => absurd z c7) (fun z => absurd z c9) (fun z => absurd z c10)
                obtain ⟨q11, hq11, h⟩ := Option.bind_eq_some_iff.mp h
                refine bX1_ofTwo_128 (evX1_compares hq11) (Nat.le_of_ble_eq_true rfl) ?_
                refine a_ite h (fun c12 h => ?_) (fun c12 h => ?_)
                · refine bX1_ofTwo_134 (fun _ => ?_) (fun z => absurd c12 z)
                  refine bX1_ofTwo_141 ?_
                  cases h
                  exact bX1_ofTwo_142
                · refine bX1_ofTwo_134 (fun z => absurd z c12) (fun _ => ?_)
                  refine bX1_ofTwo_137 ?_
                  cases h
                  exact bX1_ofTwo_142

def FX2_enter (d : aI) (e : aJ) (x1 : Int32) (x2 : Int32) : Option (Unit × aI × aJ) := (bif ((a_inb x1 6) && (a_inb x2 6) && (a_inb x2 6)) then ((FX2_note (uI (uI d 8 (x1).toNatClampNeg x2) 5 (x2).toNatClampNeg (a_min ((d 5 (x2).toNatClampNeg) + (nI 1)) (nI 999))) e x1 x2 (nI 0)).bind fun q2 => (some ((), q2.2.1, q2.2.2))) else none)
theorem evX2_enter {Γ : aG × Launch} {d : aI} {e : aJ} {x1 : Int32} {x2 : Int32} {q : Unit × aI × aJ} (h : FX2_enter d e x1 x2 = some q) : Ev Γ 1 mX2_enter [.ref 2, .int x1, .int x2] d e none q.2.1 q.2.2 := by
  refine Ev.of (by decide) rfl (Nat.le_of_ble_eq_true rfl) (fun z => by cases z) ?_
  show Rn Γ 1 mX2_enter 0 [some (.ref 2), some (.int x1), some (.int x2)] [] d e _ _ _
  unfold FX2_enter at h
  obtain ⟨g1, h⟩ := a_cond h
  obtain ⟨g1x2, g1_2⟩ := a_and g1
  obtain ⟨g1x1, g1_1⟩ := a_and g1x2
  have g1_0 := g1x1
  obtain ⟨q2, hq2, h⟩ := Option.bind_eq_some_iff.mp h
  refine bX2_enter_0 ⟨(a_inb_vp g1_0), (a_inb_vp g1_1), (a_inb_vp g1_2)⟩ (evX2_note hq2) (Nat.le_of_ble_eq_true rfl) ?_
  cases h
  exact bX2_enter_34

def FX2_leave (d : aI) (e : aJ) (x1 : Int32) (x2 : Int32) (x3 : Int32) : Option (Unit × aI × aJ) := (bif ((a_inb x1 6)) then ((FX2_note (uI d 8 (x1).toNatClampNeg (-(nI 1))) e x1 x2 x3).bind fun q2 => (some ((), q2.2.1, q2.2.2))) else none)
theorem evX2_leave {Γ : aG × Launch} {d : aI} {e : aJ} {x1 : Int32} {x2 : Int32} {x3 : Int32} {q : Unit × aI × aJ} (h : FX2_leave d e x1 x2 x3 = some q) : Ev Γ 1 mX2_leave [.ref 2, .int x1, .int x2, .int x3] d e none q.2.1 q.2.2 := by
  refine Ev.of (by decide) rfl (Nat.le_of_ble_eq_true rfl) (fun z => by cases z) ?_
  show Rn Γ 1 mX2_leave 0 [some (.ref 2), some (.int x1), some (.int x2), some (.int x3)] [] d e _ _ _
  unfold FX2_leave at h
  obtain ⟨g1, h⟩ := a_cond h
  obtain ⟨q2, hq2, h⟩ := Option.bind_eq_some_iff.mp h
  refine bX2_leave_0 (a_inb_vp g1) (evX2_note hq2) (Nat.le_of_ble_eq_true rfl) ?_
  cases h
  exact bX2_leave_14

def FX2_wander (d : aI) (e : aJ) (x1 : Int32) : Option (Unit × aI × aJ) := ((FX2_draw d e).bind fun q1 => (bif ((decide (¬ (nI 3) = 0))) then (if (a_irm q1.1 (nI 3)) = 0 then (some ((), q1.2.1, q1.2.2)) else (if (a_irm q1.1 (nI 3)) = (nI 1) then ((FX2_move q1.2.1 q1.2.2 x1 (nI 1)).bind fun q5 => (some ((), q5.2.1, q5.2.2))) else ((FX2_move q1.2.1 q1.2.2 x1 (-(nI 1))).bind fun q6 => (some ((), q6.2.1, q6.2.2))))) else none))
theorem evX2_wander {Γ : aG × Launch} {d : aI} {e : aJ} {x1 : Int32} {q : Unit × aI × aJ} (h : FX2_wander d e x1 = some q) : Ev Γ 1 mX2_wander [.ref 2, .int x1] d e none q.2.1 q.2.2 := by
  refine Ev.of (by decide) rfl (Nat.le_of_ble_eq_true rfl) (fun z => by cases z) ?_
  show Rn Γ 1 mX2_wander 0 [some (.ref 2), some (.int x1), none] [] d e _ _ _
  unfold FX2_wander at h
  obtain ⟨q1, hq1, h⟩ := Option.bind_eq_some_iff.mp h
  refine bX2_wander_0 (evX2_draw hq1) (Nat.le_of_ble_eq_true rfl) ?_
  obtain ⟨g2, h⟩ := a_cond h
  refine a_ite h (fun c3 h => ?_) (fun c3 h => ?_)
  · refine bX2_wander_4 (of_decide_eq_true g2) (fun _ => ?_) (fun z => absurd c3 z)
    cases h
    exact bX2_wander_26
  · refine bX2_wander_4 (of_decide_eq_true g2) (fun z => absurd z c3) (fun _ => ?_)
    refine a_ite h (fun c4 h => ?_) (fun c4 h => ?_)
    · refine bX2_wander_11 (fun z => absurd c4 z) (fun _ => ?_)
      refine bX2_wander_18 ?_
      obtain ⟨q5, hq5, h⟩ := Option.bind_eq_some_iff.mp h
      refine bX2_wander_23 (evX2_move hq5) (Nat.le_of_ble_eq_true rfl) ?_
      cases h
      exact bX2_wander_26
    · refine bX2_wander_11 (fun _ => ?_) (fun z => absurd z c4)
      refine bX2_wander_22 ?_
      obtain ⟨q6, hq6, h⟩ := Option.bind_eq_some_iff.mp h
      refine bX2_wander_23 (evX2_move hq6) (Nat.le_of_ble_eq_true rfl) ?_
      cases h
      exact bX2_wander_26

def FX2_away (d : aI) (e : aJ) (x1 : Int32) (x2 : Int32) : Option (Int32 × aI × aJ) := (bif ((a_inb x1 6) && (a_inb x2 6)) then ((FX10_around d e (d 7 (x1).toNatClampNeg) (d 3 (x2).toNatClampNeg)).bind fun q2 => (some (q2.1, q2.2.1, q2.2.2))) else none)
theorem evX2_away {Γ : aG × Launch} {d : aI} {e : aJ} {x1 : Int32} {x2 : Int32} {q : Int32 × aI × aJ} (h : FX2_away d e x1 x2 = some q) : Ev Γ 1 mX2_away [.ref 2, .int x1, .int x2] d e (some (.int q.1)) q.2.1 q.2.2 := by
  refine Ev.of (by decide) rfl (Nat.le_of_ble_eq_true rfl) (fun z => by cases z) ?_
  show Rn Γ 1 mX2_away 0 [some (.ref 2), some (.int x1), some (.int x2)] [] d e _ _ _
  unfold FX2_away at h
  obtain ⟨g1, h⟩ := a_cond h
  obtain ⟨g1x1, g1_1⟩ := a_and g1
  have g1_0 := g1x1
  obtain ⟨q2, hq2, h⟩ := Option.bind_eq_some_iff.mp h
  refine bX2_away_0 ⟨(a_inb_vp g1_0), (a_inb_vp g1_1)⟩ (evX10_around hq2) (Nat.le_of_ble_eq_true rfl) ?_
  cases h
  exact bX2_away_15

def FX4_paired (d : aI) (e : aJ) (x2 : Int32) (x3 : Int32) (x4 : Int32) : Option (Int32 × aI × aJ) := (bif ((a_inb x4 6) && (a_inb x2 6)) then ((FX2_away d e (d 97 (x4).toNatClampNeg) (d 98 (x2).toNatClampNeg)).bind fun q2 => ((FX4_cell q2.2.1 q2.2.2 (x2 + (nI 1)) (x3 ||| (a_shl (nI 1) x4))).bind fun q3 => (bif ((a_inb q3.1 448)) then (if (q3.2.1 95 5) = 0 then (some ((q2.1 + (q3.2.1 96 (q3.1).toNatClampNeg)), q3.2.1, q3.2.2)) else (some ((a_max q2.1 (q3.2.1 96 (q3.1).toNatClampNeg)), q3.2.1, q3.2.2))) else none))) else none)
theorem evX4_paired {Γ : aG × Launch} {d : aI} {e : aJ} {x2 : Int32} {x3 : Int32} {x4 : Int32} {q : Int32 × aI × aJ} (h : FX4_paired d e x2 x3 x4 = some q) : Ev Γ 2 mX4_paired [.ref 95, .ref 2, .int x2, .int x3, .int x4] d e (some (.int q.1)) q.2.1 q.2.2 := by
  refine Ev.of (by decide) rfl (Nat.le_of_ble_eq_true rfl) (fun z => by cases z) ?_
  show Rn Γ 2 mX4_paired 0 [some (.ref 95), some (.ref 2), some (.int x2), some (.int x3), some (.int x4), none, none] [] d e _ _ _
  unfold FX4_paired at h
  obtain ⟨g1, h⟩ := a_cond h
  obtain ⟨g1x1, g1_1⟩ := a_and g1
  have g1_0 := g1x1
  obtain ⟨q2, hq2, h⟩ := Option.bind_eq_some_iff.mp h
  refine bX4_paired_0 ⟨(a_inb_vp g1_0), (a_inb_vp g1_1)⟩ (evX2_away hq2) (Nat.le_of_ble_eq_true rfl) ?_
  obtain ⟨q3, hq3, h⟩ := Option.bind_eq_some_iff.mp h
  refine bX4_paired_17 (evX4_cell hq3) (Nat.le_of_ble_eq_true rfl) ?_
  obtain ⟨g4, h⟩ := a_cond h
  refine a_ite h (fun c5 h => ?_) (fun c5 h => ?_)
  · refine bX4_paired_35 (a_inb_vp g4) (fun _ => ?_) (fun z => absurd c5 z)
    refine bX4_paired_55 ?_
    cases h
    exact bX4_paired_60
  · refine bX4_paired_35 (a_inb_vp g4) (fun z => absurd z c5) (fun _ => ?_)
    refine bX4_paired_45 ?_
    cases h
    exact bX4_paired_60

def FX5_deed (d : aI) (e : aJ) (x1 : Int32) : Option (Unit × aI × aJ) := (if x1 = (nI 302) then ((FX5_number d e (nI 0) (nI 9)).bind fun q2 => ((FX5_expect q2.2.1 q2.2.2 (nI 309)).bind fun q3 => ((FX5_number q3.2.1 q3.2.2 (nI 0) (nI 999)).bind fun q4 => ((FX7_add q4.2.1 q4.2.2 x1 q2.1 q4.1).bind fun q5 => (some ((), q5.2.1, q5.2.2)))))) else (if x1 = (nI 303) then ((FX5_number d e (nI 0) (nI 9)).bind fun q7 => ((FX5_expect q7.2.1 q7.2.2 (nI 310)).bind fun q8 => ((FX5_number q8.2.1 q8.2.2 (nI 0) (nI 9)).bind fun q9 => ((FX7_add q9.2.1 q9.2.2 x1 q7.1 q9.1).bind fun q10 => (some ((), q10.2.1, q10.2.2)))))) else (if x1 = (nI 304) then ((FX5_number d e (nI 0) (nI 5)).bind fun q12 => ((FX5_expect q12.2.1 q12.2.2 (nI 311)).bind fun q13 => ((FX5_number q13.2.1 q13.2.2 (nI 0) (nI 5)).bind fun q14 => ((FX7_add q14.2.1 q14.2.2 x1 q12.1 q14.1).bind fun q15 => (some ((), q15.2.1, q15.2.2)))))) else (if x1 = (nI 305) then ((FX5_number d e (nI 0) (nI 5)).bind fun q17 => ((FX7_add q17.2.1 q17.2.2 x1 q17.1 (nI 0)).bind fun q18 => (some ((), q18.2.1, q18.2.2)))) else (if x1 = (nI 306) then ((FX5_number d e (nI 0) (nI 5)).bind fun q20 => ((FX7_add q20.2.1 q20.2.2 x1 q20.1 (nI 0)).bind fun q21 => (some ((), q21.2.1, q21.2.2)))) else (if x1 = (nI 307) then ((FX5_number d e (nI 0) (nI 5)).bind fun q23 => ((FX7_add q23.2.1 q23.2.2 x1 q23.1 (nI 0)).bind fun q24 => (some ((), q24.2.1, q24.2.2)))) else (if x1 = (nI 308) then ((FX5_number d e (nI 1) (nI 60)).bind fun q26 => ((FX7_add q26.2.1 q26.2.2 x1 q26.1 (nI 0)).bind fun q27 => (some ((), q27.2.1, q27.2.2)))) else ((FX5_number d e (nI 0) (nI 5)).bind fun q28 => ((FX7_add q28.2.1 q28.2.2 x1 q28.1 (nI 0)).bind fun q29 => (some ((), q29.2.1, q29.2.2)))))))))))
theorem evX5_deed {Γ : aG × Launch} {d : aI} {e : aJ} {x1 : Int32} {q : Unit × aI × aJ} (h : FX5_deed d e x1 = some q) : Ev Γ 2 mX5_deed [.ref 83, .int x1] d e none q.2.1 q.2.2 := by
  refine Ev.of (by decide) rfl (Nat.le_of_ble_eq_true rfl) (fun z => by cases z) ?_
  show Rn Γ 2 mX5_deed 0 [some (.ref 83), some (.int x1), none, none] [] d e _ _ _
  unfold FX5_deed at h
  refine a_ite h (fun c1 h => ?_) (fun c1 h => ?_)
  · refine bX5_deed_0 (fun n0 _ _ _ _ _ _ => absurd c1 n0) (fun _ => ?_) (fun z => absurd (c1.symm.trans z) (by decide)) (fun z => absurd (c1.symm.trans z) (by decide)) (fun z => absurd (c1.symm.trans z) (by decide)) (fun z => absurd (c1.symm.trans z) (by decide)) (fun z => absurd (c1.symm.trans z) (by decide)) (fun z => absurd (c1.symm.trans z) (by decide))
    obtain ⟨q2, hq2, h⟩ := Option.bind_eq_some_iff.mp h
    refine bX5_deed_48 (evX5_number hq2) (Nat.le_of_ble_eq_true rfl) ?_
    obtain ⟨q3, hq3, h⟩ := Option.bind_eq_some_iff.mp h
    refine bX5_deed_55 (evX5_expect hq3) (Nat.le_of_ble_eq_true rfl) ?_
    obtain ⟨q4, hq4, h⟩ := Option.bind_eq_some_iff.mp h
    refine bX5_deed_63 (evX5_number hq4) (Nat.le_of_ble_eq_true rfl) ?_
    refine bX5_deed_71 ?_
    obtain ⟨q5, hq5, h⟩ := Option.bind_eq_some_iff.mp h
    refine bX5_deed_153 (evX7_add hq5) (Nat.le_of_ble_eq_true rfl) ?_
    cases h
    exact bX5_deed_163
  · skip
    refine a_ite h (fun c6 h => ?_) (fun c6 h => ?_)
    · refine bX5_deed_0 (fun _ n1 _ _ _ _ _ => absurd c6 n1) (fun z => absurd z c1) (fun _ => ?_) (fun z => absurd (c6.symm.trans z) (by decide)) (fun z => absurd (c6.symm.trans z) (by decide)) (fun z => absurd (c6.symm.trans z) (by decide)) (fun z => absurd (c6.symm.trans z) (by decide)) (fun z => absurd (c6.symm.trans z) (by decide))
      obtain ⟨q7, hq7, h⟩ := Option.bind_eq_some_iff.mp h
      refine bX5_deed_75 (evX5_number hq7) (Nat.le_of_ble_eq_true rfl) ?_
      obtain ⟨q8, hq8, h⟩ := Option.bind_eq_some_iff.mp h
      refine bX5_deed_82 (evX5_expect hq8) (Nat.le_of_ble_eq_true rfl) ?_
      obtain ⟨q9, hq9, h⟩ := Option.bind_eq_some_iff.mp h
      refine bX5_deed_90 (evX5_number hq9) (Nat.le_of_ble_eq_true rfl) ?_
      refine bX5_deed_97 ?_
      obtain ⟨q10, hq10, h⟩ := Option.bind_eq_some_iff.mp h
      refine bX5_deed_153 (evX7_add hq10) (Nat.le_of_ble_eq_true rfl) ?_
      cases h
      exact bX5_deed_163
    · skip
      refine a_ite h (fun c11 h => ?_) (fun c11 h => ?_)
      · refine bX5_deed_0 (fun _ _ n2 _ _ _ _ => absurd c11 n2) (fun z => absurd z c1) (fun z => absurd z c6) (fun _ => ?_) (fun z => absurd (c11.symm.trans z) (by decide)) (fun z => absurd (c11.symm.trans z) (by decide)) (fun z => absurd (c11.symm.trans z) (by decide)) (fun z => absurd (c11.symm.trans z) (by decide))
        obtain ⟨q12, hq12, h⟩ := Option.bind_eq_some_iff.mp h
        refine bX5_deed_101 (evX5_number hq12) (Nat.le_of_ble_eq_true rfl) ?_
        obtain ⟨q13, hq13, h⟩ := Option.bind_eq_some_iff.mp h
        refine bX5_deed_107 (evX5_expect hq13) (Nat.le_of_ble_eq_true rfl) ?_
        obtain ⟨q14, hq14, h⟩ := Option.bind_eq_some_iff.mp h
        refine bX5_deed_115 (evX5_number hq14) (Nat.le_of_ble_eq_true rfl) ?_
        refine bX5_deed_121 ?_
        obtain ⟨q15, hq15, h⟩ := Option.bind_eq_some_iff.mp h
        refine bX5_deed_153 (evX7_add hq15) (Nat.le_of_ble_eq_true rfl) ?_
        cases h
        exact bX5_deed_163
      · skip
        refine a_ite h (fun c16 h => ?_) (fun c16 h => ?_)
        · refine bX5_deed_0 (fun _ _ _ n3 _ _ _ => absurd c16 n3) (fun z => absurd z c1) (fun z => absurd z c6) (fun z => absurd z c11) (fun _ => ?_) (fun z => absurd (c16.symm.trans z) (by decide)) (fun z => absurd (c16.symm.trans z) (by decide)) (fun z => absurd (c16.symm.trans z) (by decide))
          obtain ⟨q17, hq17, h⟩ := Option.bind_eq_some_iff.mp h
          refine bX5_deed_125 (evX5_number hq17) (Nat.le_of_ble_eq_true rfl) ?_
          refine bX5_deed_131 ?_
          obtain ⟨q18, hq18, h⟩ := Option.bind_eq_some_iff.mp h
          refine bX5_deed_153 (evX7_add hq18) (Nat.le_of_ble_eq_true rfl) ?_
          cases h
          exact bX5_deed_163
        · skip
          refine a_ite h (fun c19 h => ?_) (fun c19 h => ?_)
          · refine bX5_deed_0 (fun _ _ _ _ n4 _ _ => absurd c19 n4) (fun z => absurd z c1) (fun z => absurd z c6) (fun z => absurd z c11) (fun z => absurd z c16) (fun _ => ?_) (fun z => absurd (c19.symm.trans z) (by decide)) (fun z => absurd (c19.symm.trans z) (by decide))
            obtain ⟨q20, hq20, h⟩ := Option.bind_eq_some_iff.mp h
            refine bX5_deed_146 (evX5_number hq20) (Nat.le_of_ble_eq_true rfl) ?_
            refine bX5_deed_152 ?_
            obtain ⟨q21, hq21, h⟩ := Option.bind_eq_some_iff.mp h
            refine bX5_deed_153 (evX7_add hq21) (Nat.le_of_ble_eq_true rfl) ?_
            cases h
            exact bX5_deed_163
          · skip
            refine a_ite h (fun c22 h => ?_) (fun c22 h => ?_)
            · refine bX5_deed_0 (fun _ _ _ _ _ n5 _ => absurd c22 n5) (fun z => absurd z c1) (fun z => absurd z c6) (fun z => absurd z c11) (fun z => absurd z c16) (fun z => absurd z c19) (fun _ => ?_) (fun z => absurd (c22.symm.trans z) (by decide))
              obtain ⟨q23, hq23, h⟩ := Option.bind_eq_some_iff.mp h
              refine bX5_deed_146 (evX5_number hq23) (Nat.le_of_ble_eq_true rfl) ?_
              refine bX5_deed_152 ?_
              obtain ⟨q24, hq24, h⟩ := Option.bind_eq_some_iff.mp h
              refine bX5_deed_153 (evX7_add hq24) (Nat.le_of_ble_eq_true rfl) ?_
              cases h
              exact bX5_deed_163
            · skip
              refine a_ite h (fun c25 h => ?_) (fun c25 h => ?_)
              · refine bX5_deed_0 (fun _ _ _ _ _ _ n6 => absurd c25 n6) (fun z => absurd z c1) (fun z => absurd z c6) (fun z => absurd z c11) (fun z => absurd z c16) (fun z => absurd z c19) (fun z => absurd z c22) (fun _ => ?_)
                obtain ⟨q26, hq26, h⟩ := Option.bind_eq_some_iff.mp h
                refine bX5_deed_135 (evX5_number hq26) (Nat.le_of_ble_eq_true rfl) ?_
                refine bX5_deed_142 ?_
                obtain ⟨q27, hq27, h⟩ := Option.bind_eq_some_iff.mp h
                refine bX5_deed_153 (evX7_add hq27) (Nat.le_of_ble_eq_true rfl) ?_
                cases h
                exact bX5_deed_163
              · skip
                refine bX5_deed_0 (fun _ _ _ _ _ _ _ => ?_) (fun z => absurd z c1) (fun z => absurd z c6) (fun z => absurd z c11) (fun z => absurd z c16) (fun z => absurd z c19) (fun z => absurd z c22) (fun z => absurd z c25)
                obtain ⟨q28, hq28, h⟩ := Option.bind_eq_some_iff.mp h
                refine bX5_deed_146 (evX5_number hq28) (Nat.le_of_ble_eq_true rfl) ?_
                refine bX5_deed_152 ?_
                obtain ⟨q29, hq29, h⟩ := Option.bind_eq_some_iff.mp h
                refine bX5_deed_153 (evX7_add hq29) (Nat.le_of_ble_eq_true rfl) ?_
                cases h
                exact bX5_deed_163

def FX5_name (d : aI) (e : aJ)  : Option (Unit × aI × aJ) := (if (d 83 10) = (nI 308) then ((FX7_put d e (d 83 10)).bind fun q2 => ((FX5_next q2.2.1 q2.2.2).bind fun q3 => (some ((), q3.2.1, q3.2.2)))) else (if (d 83 10) = (nI 309) then (if (d 83 11) = (nI 300) then ((FX5_blameUnless d e (nI 1)).bind fun q6 => ((FX7_put q6.2.1 q6.2.2 (q6.2.1 83 10)).bind fun q7 => ((FX5_next q7.2.1 q7.2.2).bind fun q8 => (some ((), q8.2.1, q8.2.2))))) else ((FX5_blameUnless d e (nI 0)).bind fun q9 => ((FX7_put q9.2.1 q9.2.2 (q9.2.1 83 10)).bind fun q10 => ((FX5_next q10.2.1 q10.2.2).bind fun q11 => (some ((), q11.2.1, q11.2.2)))))) else (if (d 83 10) = (nI 310) then ((FX7_put d e (d 83 10)).bind fun q13 => ((FX5_next q13.2.1 q13.2.2).bind fun q14 => (some ((), q14.2.1, q14.2.2)))) else (if (d 83 10) = (nI 311) then ((FX5_blame d e (nI 1)).bind fun q16 => (some ((), q16.2.1, q16.2.2))) else (if (d 83 10) = (nI 312) then ((FX5_blame d e (nI 1)).bind fun q18 => (some ((), q18.2.1, q18.2.2))) else (if (d 83 10) = (nI 313) then ((FX5_blame d e (nI 1)).bind fun q20 => (some ((), q20.2.1, q20.2.2))) else (if (d 83 10) = (nI 314) then ((FX5_blame d e (nI 1)).bind fun q22 => (some ((), q22.2.1, q22.2.2))) else (if (d 83 10) = (nI 315) then ((FX5_blame d e (nI 1)).bind fun q24 => (some ((), q24.2.1, q24.2.2))) else (if (d 83 10) = (nI 316) then ((FX5_blame d e (nI 1)).bind fun q26 => (some ((), q26.2.1, q26.2.2))) else (if (d 83 10) = (nI 317) then ((FX5_blame d e (nI 1)).bind fun q28 => (some ((), q28.2.1, q28.2.2))) else (if (d 83 10) = (nI 318) then ((FX5_blame d e (nI 1)).bind fun q30 => (some ((), q30.2.1, q30.2.2))) else (if (d 83 10) = (nI 319) then ((FX5_blame d e (nI 1)).bind fun q32 => (some ((), q32.2.1, q32.2.2))) else (if (d 83 10) = (nI 320) then ((FX5_blame d e (nI 1)).bind fun q34 => (some ((), q34.2.1, q34.2.2))) else (if (d 83 10) = (nI 321) then ((FX7_put d e (d 83 10)).bind fun q36 => ((FX5_next q36.2.1 q36.2.2).bind fun q37 => (some ((), q37.2.1, q37.2.2)))) else (if (d 83 10) = (nI 322) then ((FX7_put d e (d 83 10)).bind fun q39 => ((FX5_next q39.2.1 q39.2.2).bind fun q40 => (some ((), q40.2.1, q40.2.2)))) else (if (d 83 10) = (nI 323) then ((FX7_put d e (d 83 10)).bind fun q42 => ((FX5_next q42.2.1 q42.2.2).bind fun q43 => (some ((), q43.2.1, q43.2.2)))) else (if (d 83 10) = (nI 324) then (if (d 83 11) = (nI 300) then ((FX5_blameUnless d e (nI 1)).bind fun q46 => ((FX7_put q46.2.1 q46.2.2 (q46.2.1 83 10)).bind fun q47 => ((FX5_next q47.2.1 q47.2.2).bind fun q48 => (some ((), q48.2.1, q48.2.2))))) else ((FX5_blameUnless d e (nI 0)).bind fun q49 => ((FX7_put q49.2.1 q49.2.2 (q49.2.1 83 10)).bind fun q50 => ((FX5_next q50.2.1 q50.2.2).bind fun q51 => (some ((), q51.2.1, q51.2.2)))))) else (if (d 83 10) = (nI 325) then (if (d 83 11) = (nI 301) then ((FX5_blameUnless d e (nI 1)).bind fun q54 => ((FX7_put q54.2.1 q54.2.2 (q54.2.1 83 10)).bind fun q55 => ((FX5_next q55.2.1 q55.2.2).bind fun q56 => (some ((), q56.2.1, q56.2.2))))) else ((FX5_blameUnless d e (nI 0)).bind fun q57 => ((FX7_put q57.2.1 q57.2.2 (q57.2.1 83 10)).bind fun q58 => ((FX5_next q58.2.1 q58.2.2).bind fun q59 => (some ((), q59.2.1, q59.2.2)))))) else ((FX5_blame d e (nI 1)).bind fun q60 => (some ((), q60.2.1, q60.2.2)))))))))))))))))))))
theorem evX5_name {Γ : aG × Launch} {d : aI} {e : aJ}  {q : Unit × aI × aJ} (h : FX5_name d e  = some q) : Ev Γ 2 mX5_name [.ref 83] d e none q.2.1 q.2.2 := by
  refine Ev.of (by decide) rfl (Nat.le_of_ble_eq_true rfl) (fun z => by cases z) ?_
  show Rn Γ 2 mX5_name 0 [some (.ref 83)] [] d e _ _ _
  unfold FX5_name at h
  refine a_ite h (fun c1 h => ?_) (fun c1 h => ?_)
  · refine bX5_name_0 (fun n0 _ _ _ _ _ _ _ _ _ _ _ _ _ _ _ _ _ => absurd c1 n0) (fun _ => ?_) (fun z => absurd (c1.symm.trans z) (by decide)) (fun z => absurd (c1.symm.trans z) (by decide)) (fun z => absurd (c1.symm.trans z) (by decide)) (fun z => absurd (c1.symm.trans z) (by decide)) (fun z => absurd (c1.symm.trans z) (by decide)) (fun z => absurd (c1.symm.trans z) (by decide)) (fun z => absurd (c1.symm.trans z) (by decide)) (fun z => absurd (c1.symm.trans z) (by decide)) (fun z => absurd (c1.symm.trans z) (by decide)) (fun z => absurd (c1.symm.trans z) (by decide)) (fun z => absurd (c1.symm.trans z) (by decide)) (fun z => absurd (c1.symm.trans z) (by decide)) (fun z => absurd (c1.symm.trans z) (by decide)) (fun z => absurd (c1.symm.trans z) (by decide)) (fun z => absurd (c1.symm.trans z) (by decide)) (fun z => absurd (c1.symm.trans z) (by decide)) (fun z => absurd (c1.symm.trans z) (by decide))
    refine bX5_name_92 ?_
    obtain ⟨q2, hq2, h⟩ := Option.bind_eq_some_iff.mp h
    refine bX5_name_145 (evX7_put hq2) (Nat.le_of_ble_eq_true rfl) ?_
    obtain ⟨q3, hq3, h⟩ := Option.bind_eq_some_iff.mp h
    refine bX5_name_156 (evX5_next hq3) (Nat.le_of_ble_eq_true rfl) ?_
    cases h
    exact bX5_name_161
  · skip
    refine a_ite h (fun c4 h => ?_) (fun c4 h => ?_)
    · refine bX5_name_0 (fun _ n1 _ _ _ _ _ _ _ _ _ _ _ _ _ _ _ _ => absurd c4 n1) (fun z => absurd z c1) (fun _ => ?_) (fun z => absurd (c4.symm.trans z) (by decide)) (fun z => absurd (c4.symm.trans z) (by decide)) (fun z => absurd (c4.symm.trans z) (by decide)) (fun z => absurd (c4.symm.trans z) (by decide)) (fun z => absurd (c4.symm.trans z) (by decide)) (fun z => absurd (c4.symm.trans z) (by decide)) (fun z => absurd (c4.symm.trans z) (by decide)) (fun z => absurd (c4.symm.trans z) (by decide)) (fun z => absurd (c4.symm.trans z) (by decide)) (fun z => absurd (c4.symm.trans z) (by decide)) (fun z => absurd (c4.symm.trans z) (by decide)) (fun z => absurd (c4.symm.trans z) (by decide)) (fun z => absurd (c4.symm.trans z) (by decide)) (fun z => absurd (c4.symm.trans z) (by decide)) (fun z => absurd (c4.symm.trans z) (by decide)) (fun z => absurd (c4.symm.trans z) (by decide))
      refine a_ite h (fun c5 h => ?_) (fun c5 h => ?_)
      · refine bX5_name_95 (fun z => absurd c5 z) (fun _ => ?_)
        refine bX5_name_106 ?_
        obtain ⟨q6, hq6, h⟩ := Option.bind_eq_some_iff.mp h
        refine bX5_name_111 (evX5_blameUnless hq6) (Nat.le_of_ble_eq_true rfl) ?_
        refine bX5_name_114 ?_
        obtain ⟨q7, hq7, h⟩ := Option.bind_eq_some_iff.mp h
        refine bX5_name_145 (evX7_put hq7) (Nat.le_of_ble_eq_true rfl) ?_
        obtain ⟨q8, hq8, h⟩ := Option.bind_eq_some_iff.mp h
        refine bX5_name_156 (evX5_next hq8) (Nat.le_of_ble_eq_true rfl) ?_
        cases h
        exact bX5_name_161
      · refine bX5_name_95 (fun _ => ?_) (fun z => absurd z c5)
        refine bX5_name_110 ?_
        obtain ⟨q9, hq9, h⟩ := Option.bind_eq_some_iff.mp h
        refine bX5_name_111 (evX5_blameUnless hq9) (Nat.le_of_ble_eq_true rfl) ?_
        refine bX5_name_114 ?_
        obtain ⟨q10, hq10, h⟩ := Option.bind_eq_some_iff.mp h
        refine bX5_name_145 (evX7_put hq10) (Nat.le_of_ble_eq_true rfl) ?_
        obtain ⟨q11, hq11, h⟩ := Option.bind_eq_some_iff.mp h
        refine bX5_name_156 (evX5_next hq11) (Nat.le_of_ble_eq_true rfl) ?_
        cases h
        exact bX5_name_161
    · skip
      refine a_ite h (fun c12 h => ?_) (fun c12 h => ?_)
      · refine bX5_name_0 (fun _ _ n2 _ _ _ _ _ _ _ _ _ _ _ _ _ _ _ => absurd c12 n2) (fun z => absurd z c1) (fun z => absurd z c4) (fun _ => ?_) (fun z => absurd (c12.symm.trans z) (by decide)) (fun z => absurd (c12.symm.trans z) (by decide)) (fun z => absurd (c12.symm.trans z) (by decide)) (fun z => absurd (c12.symm.trans z) (by decide)) (fun z => absurd (c12.symm.trans z) (by decide)) (fun z => absurd (c12.symm.trans z) (by decide)) (fun z => absurd (c12.symm.trans z) (by decide)) (fun z => absurd (c12.symm.trans z) (by decide)) (fun z => absurd (c12.symm.trans z) (by decide)) (fun z => absurd (c12.symm.trans z) (by decide)) (fun z => absurd (c12.symm.trans z) (by decide)) (fun z => absurd (c12.symm.trans z) (by decide)) (fun z => absurd (c12.symm.trans z) (by decide)) (fun z => absurd (c12.symm.trans z) (by decide)) (fun z => absurd (c12.symm.trans z) (by decide))
        refine bX5_name_92 ?_
        obtain ⟨q13, hq13, h⟩ := Option.bind_eq_some_iff.mp h
        refine bX5_name_145 (evX7_put hq13) (Nat.le_of_ble_eq_true rfl) ?_
        obtain ⟨q14, hq14, h⟩ := Option.bind_eq_some_iff.mp h
        refine bX5_name_156 (evX5_next hq14) (Nat.le_of_ble_eq_true rfl) ?_
        cases h
        exact bX5_name_161
      · skip
        refine a_ite h (fun c15 h => ?_) (fun c15 h => ?_)
        · refine bX5_name_0 (fun _ _ _ n3 _ _ _ _ _ _ _ _ _ _ _ _ _ _ => absurd c15 n3) (fun z => absurd z c1) (fun z => absurd z c4) (fun z => absurd z c12) (fun _ => ?_) (fun z => absurd (c15.symm.trans z) (by decide)) (fun z => absurd (c15.symm.trans z) (by decide)) (fun z => absurd (c15.symm.trans z) (by decide)) (fun z => absurd (c15.symm.trans z) (by decide)) (fun z => absurd (c15.symm.trans z) (by decide)) (fun z => absurd (c15.symm.trans z) (by decide)) (fun z => absurd (c15.symm.trans z) (by decide)) (fun z => absurd (c15.symm.trans z) (by decide)) (fun z => absurd (c15.symm.trans z) (by decide)) (fun z => absurd (c15.symm.trans z) (by decide)) (fun z => absurd (c15.symm.trans z) (by decide)) (fun z => absurd (c15.symm.trans z) (by decide)) (fun z => absurd (c15.symm.trans z) (by decide)) (fun z => absurd (c15.symm.trans z) (by decide))
          obtain ⟨q16, hq16, h⟩ := Option.bind_eq_some_iff.mp h
          refine bX5_name_139 (evX5_blame hq16) (Nat.le_of_ble_eq_true rfl) ?_
          cases h
          exact bX5_name_144
        · skip
          refine a_ite h (fun c17 h => ?_) (fun c17 h => ?_)
          · refine bX5_name_0 (fun _ _ _ _ n4 _ _ _ _ _ _ _ _ _ _ _ _ _ => absurd c17 n4) (fun z => absurd z c1) (fun z => absurd z c4) (fun z => absurd z c12) (fun z => absurd z c15) (fun _ => ?_) (fun z => absurd (c17.symm.trans z) (by decide)) (fun z => absurd (c17.symm.trans z) (by decide)) (fun z => absurd (c17.symm.trans z) (by decide)) (fun z => absurd (c17.symm.trans z) (by decide)) (fun z => absurd (c17.symm.trans z) (by decide)) (fun z => absurd (c17.symm.trans z) (by decide)) (fun z => absurd (c17.symm.trans z) (by decide)) (fun z => absurd (c17.symm.trans z) (by decide)) (fun z => absurd (c17.symm.trans z) (by decide)) (fun z => absurd (c17.symm.trans z) (by decide)) (fun z => absurd (c17.symm.trans z) (by decide)) (fun z => absurd (c17.symm.trans z) (by decide)) (fun z => absurd (c17.symm.trans z) (by decide))
            obtain ⟨q18, hq18, h⟩ := Option.bind_eq_some_iff.mp h
            refine bX5_name_139 (evX5_blame hq18) (Nat.le_of_ble_eq_true rfl) ?_
            cases h
            exact bX5_name_144
          · skip
            refine a_ite h (fun c19 h => ?_) (fun c19 h => ?_)
            · refine bX5_name_0 (fun _ _ _ _ _ n5 _ _ _ _ _ _ _ _ _ _ _ _ => absurd c19 n5) (fun z => absurd z c1) (fun z => absurd z c4) (fun z => absurd z c12) (fun z => absurd z c15) (fun z => absurd z c17) (fun _ => ?_) (fun z => absurd (c19.symm.trans z) (by decide)) (fun z => absurd (c19.symm.trans z) (by decide)) (fun z => absurd (c19.symm.trans z) (by decide)) (fun z => absurd (c19.symm.trans z) (by decide)) (fun z => absurd (c19.symm.trans z) (by decide)) (fun z => absurd (c19.symm.trans z) (by decide)) (fun z => absurd (c19.symm.trans z) (by decide)) (fun z => absurd (c19.symm.trans z) (by decide)) (fun z => absurd (c19.symm.trans z) (by decide)) (fun z => absurd (c19.symm.trans z) (by decide)) (fun z => absurd (c19.symm.trans z) (by decide)) (fun z => absurd (c19.symm.trans z) (by decide))
              obtain ⟨q20, hq20, h⟩ := Option.bind_eq_some_iff.mp h
              refine bX5_name_139 (evX5_blame hq20) (Nat.le_of_ble_eq_true rfl) ?_
              cases h
              exact bX5_name_144
            · skip
              refine a_ite h (fun c21 h => ?_) (fun c21 h => ?_)
              · refine bX5_name_0 (fun _ _ _ _ _ _ n6 _ _ _ _ _ _ _ _ _ _ _ => absurd c21 n6) (fun z => absurd z c1) (fun z => absurd z c4) (fun z => absurd z c12) (fun z => absurd z c15) (fun z => absurd z c17) (fun z => absurd z c19) (fun _ => ?_) (fun z => absurd (c21.symm.trans z) (by decide)) (fun z => absurd (c21.symm.trans z) (by decide)) (fun z => absurd (c21.symm.trans z) (by decide)) (fun z => absurd (c21.symm.trans z) (by decide)) (fun z => absurd (c21.symm.trans z) (by decide)) (fun z => absurd (c21.symm.trans z) (by decide)) (fun z => absurd (c21.symm.trans z) (by decide)) (fun z => absurd (c21.symm.trans z) (by decide)) (fun z => absurd (c21.symm.trans z) (by decide)) (fun z => absurd (c21.symm.trans z) (by decide)) (fun z => absurd (c21.symm.trans z) (by decide))
                obtain ⟨q22, hq22, h⟩ := Option.bind_eq_some_iff.mp h
                refine bX5_name_139 (evX5_blame hq22) (Nat.le_of_ble_eq_true rfl) ?_
                cases h
                exact bX5_name_144
              · skip
                refine a_ite h (fun c23 h => ?_) (fun c23 h => ?_)
                · refine bX5_name_0 (fun _ _ _ _ _ _ _ n7 _ _ _ _ _ _ _ _ _ _ => absurd c23 n7) (fun z => absurd z c1) (fun z => absurd z c4) (fun z => absurd z c12) (fun z => absurd z c15) (fun z => absurd z c17) (fun z => absurd z c19) (fun z => absurd z c21) (fun _ => ?_) (fun z => absurd (c23.symm.trans z) (by decide)) (fun z => absurd (c23.symm.trans z) (by decide)) (fun z => absurd (c23.symm.trans z) (by decide)) (fun z => absurd (c23.symm.trans z) (by decide)) (fun z => absurd (c23.symm.trans z) (by decide)) (fun z => absurd (c23.symm.trans z) (by decide)) (fun z => absurd (c23.symm.trans z) (by decide)) (fun z => absurd (c23.symm.trans z) (by decide)) (fun z => absurd (c23.symm.trans z) (by decide)) (fun z => absurd (c23.symm.trans z) (by decide))
                  obtain ⟨q24, hq24, h⟩ := Option.bind_eq_some_iff.mp h
                  refine bX5_name_139 (evX5_blame hq24) (Nat.le_of_ble_eq_true rfl) ?_
                  cases h
                  exact bX5_name_144
                · skip
                  refine a_ite h (fun c25 h => ?_) (fun c25 h => ?_)
                  · refine bX5_name_0 (fun _ _ _ _ _ _ _ _ n8 _ _ _ _ _ _ _ _ _ => absurd c25 n8) (fun z => absurd z c1) (fun z => absurd z c4) (fun z => absurd z c12) (fun z => absurd z c15) (fun z => absurd z c17) (fun z => absurd z c19) (fun z => absurd z c21) (fun z => absurd z c23) (fun _ => ?_) (fun z => absurd (c25.symm.trans z) (by decide)) (fun z => absurd (c25.symm.trans z) (by decide)) (fun z => absurd (c25.symm.trans z) (by decide)) (fun z => absurd (c25.symm.trans z) (by decide)) (fun z => absurd (c25.symm.trans z) (by decide)) (fun z => absurd (c25.symm.trans z) (by decide)) (fun z => absurd (c25.symm.trans z) (by decide)) (fun z => absurd (c25.symm.trans z) (by decide)) (fun z => absurd (c25.symm.trans z) (by decide))
                    obtain ⟨q26, hq26, h⟩ := Option.bind_eq_some_iff.mp h
                    refine bX5_name_139 (evX5_blame hq26) (Nat.le_of_ble_eq_true rfl) ?_
                    cases h
                    exact bX5_name_144
                  · skip
                    refine a_ite h (fun c27 h => ?_) (fun c27 h => ?_)
                    · refine bX5_name_0 (fun _ _ _ _ _ _ _ _ _ n9 _ _ _ _ _ _ _ _ => absurd c27 n9) (fun z => absurd z c1) (fun z => absurd z c4) (fun z => absurd z c12) (fun z => absurd z c15) (fun z => absurd z c17) (fun z => absurd z c19) (fun z => absurd z c21) (fun z => absurd z c23) (fun z => absurd z c25) (fun _ => ?_) (fun z => absurd (c27.symm.trans z) (by decide)) (fun z => absurd (c27.symm.trans z) (by decide)) (fun z => absurd (c27.symm.trans z) (by decide)) (fun z => absurd (c27.symm.trans z) (by decide)) (fun z => absurd (c27.symm.trans z) (by decide)) (fun z => absurd (c27.symm.trans z) (by decide)) (fun z => absurd (c27.symm.trans z) (by decide)) (fun z => absurd (c27.symm.trans z) (by decide))
                      obtain ⟨q28, hq28, h⟩ := Option.bind_eq_some_iff.mp h
                      refine bX5_name_139 (evX5_blame hq28) (Nat.le_of_ble_eq_true rfl) ?_
                      cases h
                      exact bX5_name_144
                    · skip
                      refine a_ite h (fun c29 h => ?_) (fun c29 h => ?_)
                      · refine bX5_name_0 (fun _ _ _ _ _ _ _ _ _ _ n10 _ _ _ _ _ _ _ => absurd c29 n10) (fun z => absurd z c1) (fun z => absurd z c4) (fun z => absurd z c12) (fun z => absurd z c15) (fun z => absurd z c17) (fun z => absurd z c19) (fun z => absurd z c21) (fun z => absurd z c23) (fun z => absurd z c25) (fun z => absurd z c27) (fun _ => ?_) (fun z => absurd (c29.symm.trans z) (by decide)) (fun z => absurd (c29.symm.trans z) (by decide)) (fun z => absurd (c29.symm.trans z) (by decide)) (fun z => absurd (c29.symm.trans z) (by decide)) (fun z => absurd (c29.symm.trans z) (by decide)) (fun z => absurd (c29.symm.trans z) (by decide)) (fun z => absurd (c29.symm.trans z) (by decide))
                        obtain ⟨q30, hq30, h⟩ := Option.bind_eq_some_iff.mp h
                        refine bX5_name_139 (evX5_blame hq30) (Nat.le_of_ble_eq_true rfl) ?_
                        cases h
                        exact bX5_name_144
                      · skip
                        refine a_ite h (fun c31 h => ?_) (fun c31 h => ?_)
                        · refine bX5_name_0 (fun _ _ _ _ _ _ _ _ _ _ _ n11 _ _ _ _ _ _ => absurd c31 n11) (fun z => absurd z c1) (fun z => absurd z c4) (fun z => absurd z c12) (fun z => absurd z c15) (fun z => absurd z c17) (fun z => absurd z c19) (fun z => absurd z c21) (fun z => absurd z c23) (fun z => absurd z c25) (fun z => absurd z c27) (fun z => absurd z c29) (fun _ => ?_) (fun z => absurd (c31.symm.trans z) (by decide)) (fun z => absurd (c31.symm.trans z) (by decide)) (fun z => absurd (c31.symm.trans z) (by decide)) (fun z => absurd (c31.symm.trans z) (by decide)) (fun z => absurd (c31.symm.trans z) (by decide)) (fun z => absurd (c31.symm.trans z) (by decide))
                          obtain ⟨q32, hq32, h⟩ := Option.bind_eq_some_iff.mp h
                          refine bX5_name_139 (evX5_blame hq32) (Nat.le_of_ble_eq_true rfl) ?_
                          cases h
                          exact bX5_name_144
                        · skip
                          refine a_ite h (fun c33 h => ?_) (fun c33 h => ?_)
                          · refine bX5_name_0 (fun _ _ _ _ _ _ _ _ _ _ _ _ n12 _ _ _ _ _ => absurd c33 n12) (fun z => absurd z c1) (fun z => absurd z c4) (fun z => absurd z c12) (fun z => absurd z c15) (fun z => absurd z c17) (fun z => absurd z c19) (fun z => absurd z c21) (fun z => absurd z c23) (fun z => absurd z c25) (fun z => absurd z c27) (fun z => absurd z c29) (fun z => absurd z c31) (fun _ => ?_) (fun z => absurd (c33.symm.trans z) (by decide)) (fun z => absurd (c33.symm.trans z) (by decide)) (fun z => absurd (c33.symm.trans z) (by decide)) (fun z => absurd (c33.symm.trans z) (by decide)) (fun z => absurd (c33.symm.trans z) (by decide))
                            obtain ⟨q34, hq34, h⟩ := Option.bind_eq_some_iff.mp h
                            refine bX5_name_139 (evX5_blame hq34) (Nat.le_of_ble_eq_true rfl) ?_
                            cases h
                            exact bX5_name_144
                          · skip
                            refine a_ite h (fun c35 h => ?_) (fun c35 h => ?_)
                            · refine bX5_name_0 (fun _ _ _ _ _ _ _ _ _ _ _ _ _ n13 _ _ _ _ => absurd c35 n13) (fun z => absurd z c1) (fun z => absurd z c4) (fun z => absurd z c12) (fun z => absurd z c15) (fun z => absurd z c17) (fun z => absurd z c19) (fun z => absurd z c21) (fun z => absurd z c23) (fun z => absurd z c25) (fun z => absurd z c27) (fun z => absurd z c29) (fun z => absurd z c31) (fun z => absurd z c33) (fun _ => ?_) (fun z => absurd (c35.symm.trans z) (by decide)) (fun z => absurd (c35.symm.trans z) (by decide)) (fun z => absurd (c35.symm.trans z) (by decide)) (fun z => absurd (c35.symm.trans z) (by decide))
                              refine bX5_name_92 ?_
                              obtain ⟨q36, hq36, h⟩ := Option.bind_eq_some_iff.mp h
                              refine bX5_name_145 (evX7_put hq36) (Nat.le_of_ble_eq_true rfl) ?_
                              obtain ⟨q37, hq37, h⟩ := Option.bind_eq_some_iff.mp h
                              refine bX5_name_156 (evX5_next hq37) (Nat.le_of_ble_eq_true rfl) ?_
                              cases h
                              exact bX5_name_161
                            · skip
                              refine a_ite h (fun c38 h => ?_) (fun c38 h => ?_)
                              · refine bX5_name_0 (fun _ _ _ _ _ _ _ _ _ _ _ _ _ _ n14 _ _ _ => absurd c38 n14) (fun z => absurd z c1) (fun z => absurd z c4) (fun z => absurd z c12) (fun z => absurd z c15) (fun z => absurd z c17) (fun z => absurd z c19) (fun z => absurd z c21) (fun z => absurd z c23) (fun z => absurd z c25) (fun z => absurd z c27) (fun z => absurd z c29) (fun z => absurd z c31) (fun z => absurd z c33) (fun z => absurd z c35) (fun _ => ?_) (fun z => absurd (c38.symm.trans z) (by decide)) (fun z => absurd (c38.symm.trans z) (by decide)) (fun z => absurd (c38.symm.trans z) (by decide))
                                refine bX5_name_92 ?_
                                obtain ⟨q39, hq39, h⟩ := Option.bind_eq_some_iff.mp h
                                refine bX5_name_145 (evX7_put hq39) (Nat.le_of_ble_eq_true rfl) ?_
                                obtain ⟨q40, hq40, h⟩ := Option.bind_eq_some_iff.mp h
                                refine bX5_name_156 (evX5_next hq40) (Nat.le_of_ble_eq_true rfl) ?_
                                cases h
                                exact bX5_name_161
                              · skip
                                refine a_ite h (fun c41 h => ?_) (fun c41 h => ?_)
                                · refine bX5_name_0 (fun _ _ _ _ _ _ _ _ _ _ _ _ _ _ _ n15 _ _ => absurd c41 n15) (fun z => absurd z c1) (fun z => absurd z c4) (fun z => absurd z c12) (fun z => absurd z c15) (fun z => absurd z c17) (fun z => absurd z c19) (fun z => absurd z c21) (fun z => absurd z c23) (fun z => absurd z c25) (fun z => absurd z c27) (fun z => absurd z c29) (fun z => absurd z c31) (fun z => absurd z c33) (fun z => absurd z c35) (fun z => absurd z c38) (fun _ => ?_) (fun z => absurd (c41.symm.trans z) (by decide)) (fun z => absurd (c41.symm.trans z) (by decide))
                                  refine bX5_name_92 ?_
                                  obtain ⟨q42, hq42, h⟩ := Option.bind_eq_some_iff.mp h
                                  refine bX5_name_145 (evX7_put hq42) (Nat.le_of_ble_eq_true rfl) ?_
                                  obtain ⟨q43, hq43, h⟩ := Option.bind_eq_some_iff.mp h
                                  refine bX5_name_156 (evX5_next hq43) (Nat.le_of_ble_eq_true rfl) ?_
                                  cases h
                                  exact bX5_name_161
                                · skip
                                  refine a_ite h (fun c44 h => ?_) (fun c44 h => ?_)
                                  · refine bX5_name_0 (fun _ _ _ _ _ _ _ _ _ _ _ _ _ _ _ _ n16 _ => absurd c44 n16) (fun z => absurd z c1) (fun z => absurd z c4) (fun z => absurd z c12) (fun z => absurd z c15) (fun z => absurd z c17) (fun z => absurd z c19) (fun z => absurd z c21) (fun z => absurd z c23) (fun z => absurd z c25) (fun z => absurd z c27) (fun z => absurd z c29) (fun z => absurd z c31) (fun z => absurd z c33) (fun z => absurd z c35) (fun z => absurd z c38) (fun z => absurd z c41) (fun _ => ?_) (fun z => absurd (c44.symm.trans z) (by decide))
                                    refine a_ite h (fun c45 h => ?_) (fun c45 h => ?_)
                                    · refine bX5_name_95 (fun z => absurd c45 z) (fun _ => ?_)
                                      refine bX5_name_106 ?_
                                      obtain ⟨q46, hq46, h⟩ := Option.bind_eq_some_iff.mp h
                                      refine bX5_name_111 (evX5_blameUnless hq46) (Nat.le_of_ble_eq_true rfl) ?_
                                      refine bX5_name_114 ?_
                                      obtain ⟨q47, hq47, h⟩ := Option.bind_eq_some_iff.mp h
                                      refine bX5_name_145 (evX7_put hq47) (Nat.le_of_ble_eq_true rfl) ?_
                                      obtain ⟨q48, hq48, h⟩ := Option.bind_eq_some_iff.mp h
                                      refine bX5_name_156 (evX5_next hq48) (Nat.le_of_ble_eq_true rfl) ?_
                                      cases h
                                      exact bX5_name_161
                                    · refine bX5_name_95 (fun _ => ?_) (fun z => absurd z c45)
                                      refine bX5_name_110 ?_
                                      obtain ⟨q49, hq49, h⟩ := Option.bind_eq_some_iff.mp h
                                      refine bX5_name_111 (evX5_blameUnless hq49) (Nat.le_of_ble_eq_true rfl) ?_
                                      refine bX5_name_114 ?_
                                      obtain ⟨q50, hq50, h⟩ := Option.bind_eq_some_iff.mp h
                                      refine bX5_name_145 (evX7_put hq50) (Nat.le_of_ble_eq_true rfl) ?_
                                      obtain ⟨q51, hq51, h⟩ := Option.bind_eq_some_iff.mp h
                                      refine bX5_name_156 (evX5_next hq51) (Nat.le_of_ble_eq_true rfl) ?_
                                      cases h
                                      exact bX5_name_161
                                  · skip
                                    refine a_ite h (fun c52 h => ?_) (fun c52 h => ?_)
                                    · refine bX5_name_0 (fun _ _ _ _ _ _ _ _ _ _ _ _ _ _ _ _ _ n17 => absurd c52 n17) (fun z => absurd z c1) (fun z => absurd z c4) (fun z => absurd z c12) (fun z => absurd z c15) (fun z => absurd z c17) (fun z => absurd z c19) (fun z => absurd z c21) (fun z => absurd z c23) (fun z => absurd z c25) (fun z => absurd z c27) (fun z => absurd z c29) (fun z => absurd z c31) (fun z => absurd z c33) (fun z => absurd z c35) (fun z => absurd z c38) (fun z => absurd z c41) (fun z => absurd z c44) (fun _ => ?_)
                                      refine a_ite h (fun c53 h => ?_) (fun c53 h => ?_)
                                      · refine bX5_name_117 (fun z => absurd c53 z) (fun _ => ?_)
                                        refine bX5_name_128 ?_
                                        obtain ⟨q54, hq54, h⟩ := Option.bind_eq_some_iff.mp h
                                        refine bX5_name_133 (evX5_blameUnless hq54) (Nat.le_of_ble_eq_true rfl) ?_
                                        refine bX5_name_136 ?_
                                        obtain ⟨q55, hq55, h⟩ := Option.bind_eq_some_iff.mp h
                                        refine bX5_name_145 (evX7_put hq55) (Nat.le_of_ble_eq_true rfl) ?_
                                        obtain ⟨q56, hq56, h⟩ := Option.bind_eq_some_iff.mp h
                                        refine bX5_name_156 (evX5_next hq56) (Nat.le_of_ble_eq_true rfl) ?_
                                        cases h
                                        exact bX5_name_161
                                      · refine bX5_name_117 (fun _ => ?_) (fun z => absurd z c53)
                                        refine bX5_name_132 ?_
                                        obtain ⟨q57, hq57, h⟩ := Option.bind_eq_some_iff.mp h
                                        refine bX5_name_133 (evX5_blameUnless hq57) (Nat.le_of_ble_eq_true rfl) ?_
                                        refine bX5_name_136 ?_
                                        obtain ⟨q58, hq58, h⟩ := Option.bind_eq_some_iff.mp h
                                        refine bX5_name_145 (evX7_put hq58) (Nat.le_of_ble_eq_true rfl) ?_
                                        obtain ⟨q59, hq59, h⟩ := Option.bind_eq_some_iff.mp h
                                        refine bX5_name_156 (evX5_next hq59) (Nat.le_of_ble_eq_true rfl) ?_
                                        cases h
                                        exact bX5_name_161
                                    · skip
                                      refine bX5_name_0 (fun _ _ _ _ _ _ _ _ _ _ _ _ _ _ _ _ _ _ => ?_) (fun z => absurd z c1) (fun z => absurd z c4) (fun z => absurd z c12) (fun z => absurd z c15) (fun z => absurd z c17) (fun z => absurd z c19) (fun z => absurd z c21) (fun z => absurd z c23) (fun z => absurd z c25) (fun z => absurd z c27) (fun z => absurd z c29) (fun z => absurd z c31) (fun z => absurd z c33) (fun z => absurd z c35) (fun z => absurd z c38) (fun z => absurd z c41) (fun z => absurd z c44) (fun z => absurd z c52)
                                      obtain ⟨q60, hq60, h⟩ := Option.bind_eq_some_iff.mp h
                                      refine bX5_name_139 (evX5_blame hq60) (Nat.le_of_ble_eq_true rfl) ?_
                                      cases h
                                      exact bX5_name_144

def FX10_house (d : aI) (e : aJ) (x1 : Int32) (x2 : Int32) : Option (Int32 × aI × aJ) := ((FX10_within d e x1 (nI 0) (nI 9)).bind fun q1 => (if q1.1 = 0 then (some ((-(nI 1)), q1.2.1, q1.2.2)) else ((FX10_within q1.2.1 q1.2.2 x2 (nI 0) (nI 999)).bind fun q3 => (if q3.1 = 0 then (some ((-(nI 1)), q3.2.1, q3.2.2)) else ((FX2_build q3.2.1 q3.2.2 x1 x2).bind fun q5 => (some (q5.1, q5.2.1, q5.2.2)))))))
theorem evX10_house {Γ : aG × Launch} {d : aI} {e : aJ} {x1 : Int32} {x2 : Int32} {q : Int32 × aI × aJ} (h : FX10_house d e x1 x2 = some q) : Ev Γ 1 mX10_house [.ref 0, .int x1, .int x2] d e (some (.int q.1)) q.2.1 q.2.2 := by
  refine Ev.of (by decide) rfl (Nat.le_of_ble_eq_true rfl) (fun z => by cases z) ?_
  show Rn Γ 1 mX10_house 0 [some (.ref 0), some (.int x1), some (.int x2)] [] d e _ _ _
  unfold FX10_house at h
  obtain ⟨q1, hq1, h⟩ := Option.bind_eq_some_iff.mp h
  refine bX10_house_0 (evX10_within hq1) (Nat.le_of_ble_eq_true rfl) ?_
  refine a_ite h (fun c2 h => ?_) (fun c2 h => ?_)
  · refine bX10_house_7 (fun _ => ?_) (fun z => absurd c2 z)
    cases h
    exact bX10_house_21
  · refine bX10_house_7 (fun z => absurd z c2) (fun _ => ?_)
    obtain ⟨q3, hq3, h⟩ := Option.bind_eq_some_iff.mp h
    refine bX10_house_10 (evX10_within hq3) (Nat.le_of_ble_eq_true rfl) ?_
    refine a_ite h (fun c4 h => ?_) (fun c4 h => ?_)
    · refine bX10_house_18 (fun z => absurd c4 z) (fun _ => ?_)
      cases h
      exact bX10_house_21
    · refine bX10_house_18 (fun _ => ?_) (fun z => absurd z c4)
      obtain ⟨q5, hq5, h⟩ := Option.bind_eq_some_iff.mp h
      refine bX10_house_23 (evX2_build hq5) (Nat.le_of_ble_eq_true rfl) ?_
      cases h
      exact bX10_house_35

def FX10_cat (d : aI) (e : aJ) (x1 : Int32) (x2 : Int32) : Option (Int32 × aI × aJ) := ((FX10_within d e x1 (nI 0) (nI 9)).bind fun q1 => (if q1.1 = 0 then (some ((-(nI 1)), q1.2.1, q1.2.2)) else ((FX10_within q1.2.1 q1.2.2 x2 (nI 0) (nI 9)).bind fun q3 => (if q3.1 = 0 then (some ((-(nI 1)), q3.2.1, q3.2.2)) else ((FX2_bring q3.2.1 q3.2.2 x1 x2).bind fun q5 => (some (q5.1, q5.2.1, q5.2.2)))))))
theorem evX10_cat {Γ : aG × Launch} {d : aI} {e : aJ} {x1 : Int32} {x2 : Int32} {q : Int32 × aI × aJ} (h : FX10_cat d e x1 x2 = some q) : Ev Γ 1 mX10_cat [.ref 0, .int x1, .int x2] d e (some (.int q.1)) q.2.1 q.2.2 := by
  refine Ev.of (by decide) rfl (Nat.le_of_ble_eq_true rfl) (fun z => by cases z) ?_
  show Rn Γ 1 mX10_cat 0 [some (.ref 0), some (.int x1), some (.int x2)] [] d e _ _ _
  unfold FX10_cat at h
  obtain ⟨q1, hq1, h⟩ := Option.bind_eq_some_iff.mp h
  refine bX10_cat_0 (evX10_within hq1) (Nat.le_of_ble_eq_true rfl) ?_
  refine a_ite h (fun c2 h => ?_) (fun c2 h => ?_)
  · refine bX10_cat_7 (fun _ => ?_) (fun z => absurd c2 z)
    cases h
    exact bX10_cat_20
  · refine bX10_cat_7 (fun z => absurd z c2) (fun _ => ?_)
    obtain ⟨q3, hq3, h⟩ := Option.bind_eq_some_iff.mp h
    refine bX10_cat_10 (evX10_within hq3) (Nat.le_of_ble_eq_true rfl) ?_
    refine a_ite h (fun c4 h => ?_) (fun c4 h => ?_)
    · refine bX10_cat_17 (fun z => absurd c4 z) (fun _ => ?_)
      cases h
      exact bX10_cat_20
    · refine bX10_cat_17 (fun _ => ?_) (fun z => absurd z c4)
      obtain ⟨q5, hq5, h⟩ := Option.bind_eq_some_iff.mp h
      refine bX10_cat_22 (evX2_bring hq5) (Nat.le_of_ble_eq_true rfl) ?_
      cases h
      exact bX10_cat_34

def FX10_end (d : aI) (e : aJ) (x1 : Int32) : Option (Int32 × aI × aJ) := ((FX10_within d e x1 (nI 0) (d 83 2)).bind fun q1 => (if q1.1 = 0 then (some ((-(nI 1)), q1.2.1, q1.2.2)) else (some (x1, (uI q1.2.1 83 2 x1), q1.2.2))))
theorem evX10_end {Γ : aG × Launch} {d : aI} {e : aJ} {x1 : Int32} {q : Int32 × aI × aJ} (h : FX10_end d e x1 = some q) : Ev Γ 1 mX10_end [.ref 0, .int x1] d e (some (.int q.1)) q.2.1 q.2.2 := by
  refine Ev.of (by decide) rfl (Nat.le_of_ble_eq_true rfl) (fun z => by cases z) ?_
  show Rn Γ 1 mX10_end 0 [some (.ref 0), some (.int x1)] [] d e _ _ _
  unfold FX10_end at h
  obtain ⟨q1, hq1, h⟩ := Option.bind_eq_some_iff.mp h
  refine bX10_end_0 (evX10_within hq1) (Nat.le_of_ble_eq_true rfl) ?_
  refine a_ite h (fun c2 h => ?_) (fun c2 h => ?_)
  · refine bX10_end_12 (fun z => absurd c2 z) (fun _ => ?_)
    cases h
    exact bX10_end_15
  · refine bX10_end_12 (fun _ => ?_) (fun z => absurd z c2)
    cases h
    exact bX10_end_17

def FX10_by (d : aI) (e : aJ) (x1 : Int32) : Option (Int32 × aI × aJ) := (if x1 = (-(nI 1)) then (some ((nI 1), (uI d 1 7 x1), e)) else ((FX10_isText d e x1).bind fun q2 => (if q2.1 = 0 then (some ((nI 0), q2.2.1, q2.2.2)) else (some ((nI 1), (uI q2.2.1 1 7 x1), q2.2.2)))))
theorem evX10_by {Γ : aG × Launch} {d : aI} {e : aJ} {x1 : Int32} {q : Int32 × aI × aJ} (h : FX10_by d e x1 = some q) : Ev Γ 2 mX10_by [.ref 0, .int x1] d e (some (.int q.1)) q.2.1 q.2.2 := by
  refine Ev.of (by decide) rfl (Nat.le_of_ble_eq_true rfl) (fun z => by cases z) ?_
  show Rn Γ 2 mX10_by 0 [some (.ref 0), some (.int x1)] [] d e _ _ _
  unfold FX10_by at h
  refine a_ite h (fun c1 h => ?_) (fun c1 h => ?_)
  · refine bX10_by_0 (fun _ => ?_) (fun z => absurd c1 z)
    cases h
    exact bX10_by_15
  · refine bX10_by_0 (fun z => absurd z c1) (fun _ => ?_)
    obtain ⟨q2, hq2, h⟩ := Option.bind_eq_some_iff.mp h
    refine bX10_by_5 (evX10_isText hq2) (Nat.le_of_ble_eq_true rfl) ?_
    refine a_ite h (fun c3 h => ?_) (fun c3 h => ?_)
    · refine bX10_by_10 (fun z => absurd c3 z) (fun _ => ?_)
      cases h
      exact bX10_by_13
    · refine bX10_by_10 (fun _ => ?_) (fun z => absurd z c3)
      cases h
      exact bX10_by_15

def FX10_book (d : aI) (e : aJ) (x1 : Int32) (x2 : Int32) : Option (Int32 × aI × aJ) := (if x1 = (-(nI 1)) then (some ((d 2 10), d, e)) else ((FX10_within d e x1 (nI 0) ((d 2 10) - (nI 1))).bind fun q2 => (if q2.1 = 0 then (some ((-(nI 2)), q2.2.1, q2.2.2)) else (bif ((a_inb x1 25)) then (if x2 = (nI 0) then ((FX10_hourOf q2.2.1 q2.2.2 (q2.2.1 10 (x1).toNatClampNeg)).bind fun q6 => (some (q6.1, q6.2.1, q6.2.2))) else (if x2 = (nI 1) then ((FX10_catOf q2.2.1 q2.2.2 (q2.2.1 10 (x1).toNatClampNeg)).bind fun q8 => (some (q8.1, q8.2.1, q8.2.2))) else (if x2 = (nI 2) then ((FX10_houseOf q2.2.1 q2.2.2 (q2.2.1 10 (x1).toNatClampNeg)).bind fun q10 => (some (q10.1, q10.2.1, q10.2.2))) else (if x2 = (nI 3) then ((FX10_deedOf q2.2.1 q2.2.2 (q2.2.1 10 (x1).toNatClampNeg)).bind fun q12 => (some (q12.1, q12.2.1, q12.2.2))) else (some ((-(nI 2)), q2.2.1, q2.2.2)))))) else none))))
theorem evX10_book {Γ : aG × Launch} {d : aI} {e : aJ} {x1 : Int32} {x2 : Int32} {q : Int32 × aI × aJ} (h : FX10_book d e x1 x2 = some q) : Ev Γ 1 mX10_book [.ref 0, .int x1, .int x2] d e (some (.int q.1)) q.2.1 q.2.2 := by
  refine Ev.of (by decide) rfl (Nat.le_of_ble_eq_true rfl) (fun z => by cases z) ?_
  show Rn Γ 1 mX10_book 0 [some (.ref 0), some (.int x1), some (.int x2), none] [] d e _ _ _
  unfold FX10_book at h
  refine a_ite h (fun c1 h => ?_) (fun c1 h => ?_)
  · refine bX10_book_0 (fun z => absurd c1 z) (fun _ => ?_)
    cases h
    exact bX10_book_5
  · refine bX10_book_0 (fun _ => ?_) (fun z => absurd z c1)
    obtain ⟨q2, hq2, h⟩ := Option.bind_eq_some_iff.mp h
    refine bX10_book_16 (evX10_within hq2) (Nat.le_of_ble_eq_true rfl) ?_
    refine a_ite h (fun c3 h => ?_) (fun c3 h => ?_)
    · refine bX10_book_33 (fun z => absurd c3 z) (fun _ => ?_)
      cases h
      exact bX10_book_36
    · refine bX10_book_33 (fun _ => ?_) (fun z => absurd z c3)
      obtain ⟨g4, h⟩ := a_cond h
      refine a_ite h (fun c5 h => ?_) (fun c5 h => ?_)
      · refine bX10_book_39 (a_inb_vp g4) (fun n0 _ _ _ => absurd c5 n0) (fun _ => ?_) (fun z => absurd (c5.symm.trans z) (by decide)) (fun z => absurd (c5.symm.trans z) (by decide)) (fun z => absurd (c5.symm.trans z) (by decide))
        obtain ⟨q6, hq6, h⟩ := Option.bind_eq_some_iff.mp h
        refine bX10_book_84 (evX10_hourOf hq6) (Nat.le_of_ble_eq_true rfl) ?_
        cases h
        exact bX10_book_88
      · skip
        refine a_ite h (fun c7 h => ?_) (fun c7 h => ?_)
        · refine bX10_book_39 (a_inb_vp g4) (fun _ n1 _ _ => absurd c7 n1) (fun z => absurd z c5) (fun _ => ?_) (fun z => absurd (c7.symm.trans z) (by decide)) (fun z => absurd (c7.symm.trans z) (by decide))
          obtain ⟨q8, hq8, h⟩ := Option.bind_eq_some_iff.mp h
          refine bX10_book_89 (evX10_catOf hq8) (Nat.le_of_ble_eq_true rfl) ?_
          cases h
          exact bX10_book_93
        · skip
          refine a_ite h (fun c9 h => ?_) (fun c9 h => ?_)
          · refine bX10_book_39 (a_inb_vp g4) (fun _ _ n2 _ => absurd c9 n2) (fun z => absurd z c5) (fun z => absurd z c7) (fun _ => ?_) (fun z => absurd (c9.symm.trans z) (by decide))
            obtain ⟨q10, hq10, h⟩ := Option.bind_eq_some_iff.mp h
            refine bX10_book_94 (evX10_houseOf hq10) (Nat.le_of_ble_eq_true rfl) ?_
            cases h
            exact bX10_book_98
          · skip
            refine a_ite h (fun c11 h => ?_) (fun c11 h => ?_)
            · refine bX10_book_39 (a_inb_vp g4) (fun _ _ _ n3 => absurd c11 n3) (fun z => absurd z c5) (fun z => absurd z c7) (fun z => absurd z c9) (fun _ => ?_)
              obtain ⟨q12, hq12, h⟩ := Option.bind_eq_some_iff.mp h
              refine bX10_book_99 (evX10_deedOf hq12) (Nat.le_of_ble_eq_true rfl) ?_
              cases h
              exact bX10_book_103
            · skip
              refine bX10_book_39 (a_inb_vp g4) (fun _ _ _ _ => ?_) (fun z => absurd z c5) (fun z => absurd z c7) (fun z => absurd z c9) (fun z => absurd z c11)
              cases h
              exact bX10_book_104

def FX10_far (d : aI) (e : aJ) (x1 : Int32) (x2 : Int32) : Option (Int32 × aI × aJ) := ((FX2_isCat d e x1).bind fun q1 => (if q1.1 = 0 then (some ((-(nI 1)), q1.2.1, q1.2.2)) else ((FX2_isHouse q1.2.1 q1.2.2 x2).bind fun q3 => (if q3.1 = 0 then (some ((-(nI 1)), q3.2.1, q3.2.2)) else ((FX2_away q3.2.1 q3.2.2 x1 x2).bind fun q5 => (some (q5.1, q5.2.1, q5.2.2)))))))
theorem evX10_far {Γ : aG × Launch} {d : aI} {e : aJ} {x1 : Int32} {x2 : Int32} {q : Int32 × aI × aJ} (h : FX10_far d e x1 x2 = some q) : Ev Γ 2 mX10_far [.ref 0, .int x1, .int x2] d e (some (.int q.1)) q.2.1 q.2.2 := by
  refine Ev.of (by decide) rfl (Nat.le_of_ble_eq_true rfl) (fun z => by cases z) ?_
  show Rn Γ 2 mX10_far 0 [some (.ref 0), some (.int x1), some (.int x2)] [] d e _ _ _
  unfold FX10_far at h
  obtain ⟨q1, hq1, h⟩ := Option.bind_eq_some_iff.mp h
  refine bX10_far_0 (evX2_isCat hq1) (Nat.le_of_ble_eq_true rfl) ?_
  refine a_ite h (fun c2 h => ?_) (fun c2 h => ?_)
  · refine bX10_far_11 (fun _ => ?_) (fun z => absurd c2 z)
    cases h
    exact bX10_far_28
  · refine bX10_far_11 (fun z => absurd z c2) (fun _ => ?_)
    obtain ⟨q3, hq3, h⟩ := Option.bind_eq_some_iff.mp h
    refine bX10_far_14 (evX2_isHouse hq3) (Nat.le_of_ble_eq_true rfl) ?_
    refine a_ite h (fun c4 h => ?_) (fun c4 h => ?_)
    · refine bX10_far_25 (fun z => absurd c4 z) (fun _ => ?_)
      cases h
      exact bX10_far_28
    · refine bX10_far_25 (fun _ => ?_) (fun z => absurd z c4)
      obtain ⟨q5, hq5, h⟩ := Option.bind_eq_some_iff.mp h
      refine bX10_far_30 (evX2_away hq5) (Nat.le_of_ble_eq_true rfl) ?_
      cases h
      exact bX10_far_42

def FX10_seen (d : aI) (e : aJ) (x1 : Int32) (x2 : Int32) : Option (Int32 × aI × aJ) := ((FX10_within d e x1 (nI 0) (nI 99)).bind fun q1 => (if q1.1 = 0 then ((FX10_tell q1.2.1 q1.2.2 13 x1 x2 (nI 0) (nI 0)).bind fun q3 => (some (q3.1, q3.2.1, q3.2.2))) else ((FX10_within q1.2.1 q1.2.2 x2 (nI 0) (nI 9)).bind fun q4 => (if q4.1 = 0 then ((FX10_tell q4.2.1 q4.2.2 13 x1 x2 (nI 0) (nI 0)).bind fun q6 => (some (q6.1, q6.2.1, q6.2.2))) else ((FX10_tell q4.2.1 q4.2.2 13 x1 x2 (nI 0) (nI 1)).bind fun q7 => (some (q7.1, q7.2.1, q7.2.2)))))))
theorem evX10_seen {Γ : aG × Launch} {d : aI} {e : aJ} {x1 : Int32} {x2 : Int32} {q : Int32 × aI × aJ} (h : FX10_seen d e x1 x2 = some q) : Ev Γ 2 mX10_seen [.ref 0, .int x1, .int x2] d e (some (.int q.1)) q.2.1 q.2.2 := by
  refine Ev.of (by decide) rfl (Nat.le_of_ble_eq_true rfl) (fun z => by cases z) ?_
  show Rn Γ 2 mX10_seen 0 [some (.ref 0), some (.int x1), some (.int x2), none] [] d e _ _ _
  unfold FX10_seen at h
  obtain ⟨q1, hq1, h⟩ := Option.bind_eq_some_iff.mp h
  refine bX10_seen_0 (evX10_within hq1) (Nat.le_of_ble_eq_true rfl) ?_
  refine a_ite h (fun c2 h => ?_) (fun c2 h => ?_)
  · refine bX10_seen_7 (fun _ => ?_) (fun z => absurd c2 z)
    refine bX10_seen_24 ?_
    obtain ⟨q3, hq3, h⟩ := Option.bind_eq_some_iff.mp h
    refine bX10_seen_25 (evX10_tell hq3) (Nat.le_of_ble_eq_true rfl) ?_
    cases h
    exact bX10_seen_40
  · refine bX10_seen_7 (fun z => absurd z c2) (fun _ => ?_)
    obtain ⟨q4, hq4, h⟩ := Option.bind_eq_some_iff.mp h
    refine bX10_seen_10 (evX10_within hq4) (Nat.le_of_ble_eq_true rfl) ?_
    refine a_ite h (fun c5 h => ?_) (fun c5 h => ?_)
    · refine bX10_seen_17 (fun _ => ?_) (fun z => absurd c5 z)
      refine bX10_seen_24 ?_
      obtain ⟨q6, hq6, h⟩ := Option.bind_eq_some_iff.mp h
      refine bX10_seen_25 (evX10_tell hq6) (Nat.le_of_ble_eq_true rfl) ?_
      cases h
      exact bX10_seen_40
    · refine bX10_seen_17 (fun z => absurd z c5) (fun _ => ?_)
      refine bX10_seen_20 ?_
      obtain ⟨q7, hq7, h⟩ := Option.bind_eq_some_iff.mp h
      refine bX10_seen_25 (evX10_tell hq7) (Nat.le_of_ble_eq_true rfl) ?_
      cases h
      exact bX10_seen_40

def FX10_told (d : aI) (e : aJ) (x1 : Int32) (x2 : Int32) : Option (Int32 × aI × aJ) := ((FX2_isHouse d e x1).bind fun q1 => (if q1.1 = 0 then ((FX10_tell q1.2.1 q1.2.2 17 x1 x2 (nI 0) (nI 0)).bind fun q3 => (some (q3.1, q3.2.1, q3.2.2))) else ((FX10_within q1.2.1 q1.2.2 x2 (nI 0) (nI 99)).bind fun q4 => (if q4.1 = 0 then ((FX10_tell q4.2.1 q4.2.2 17 x1 x2 (nI 0) (nI 0)).bind fun q6 => (some (q6.1, q6.2.1, q6.2.2))) else ((FX10_tell q4.2.1 q4.2.2 17 x1 x2 (nI 0) (nI 1)).bind fun q7 => (some (q7.1, q7.2.1, q7.2.2)))))))
theorem evX10_told {Γ : aG × Launch} {d : aI} {e : aJ} {x1 : Int32} {x2 : Int32} {q : Int32 × aI × aJ} (h : FX10_told d e x1 x2 = some q) : Ev Γ 2 mX10_told [.ref 0, .int x1, .int x2] d e (some (.int q.1)) q.2.1 q.2.2 := by
  refine Ev.of (by decide) rfl (Nat.le_of_ble_eq_true rfl) (fun z => by cases z) ?_
  show Rn Γ 2 mX10_told 0 [some (.ref 0), some (.int x1), some (.int x2), none] [] d e _ _ _
  unfold FX10_told at h
  obtain ⟨q1, hq1, h⟩ := Option.bind_eq_some_iff.mp h
  refine bX10_told_0 (evX2_isHouse hq1) (Nat.le_of_ble_eq_true rfl) ?_
  refine a_ite h (fun c2 h => ?_) (fun c2 h => ?_)
  · refine bX10_told_11 (fun _ => ?_) (fun z => absurd c2 z)
    refine bX10_told_28 ?_
    obtain ⟨q3, hq3, h⟩ := Option.bind_eq_some_iff.mp h
    refine bX10_told_29 (evX10_tell hq3) (Nat.le_of_ble_eq_true rfl) ?_
    cases h
    exact bX10_told_44
  · refine bX10_told_11 (fun z => absurd z c2) (fun _ => ?_)
    obtain ⟨q4, hq4, h⟩ := Option.bind_eq_some_iff.mp h
    refine bX10_told_14 (evX10_within hq4) (Nat.le_of_ble_eq_true rfl) ?_
    refine a_ite h (fun c5 h => ?_) (fun c5 h => ?_)
    · refine bX10_told_21 (fun _ => ?_) (fun z => absurd c5 z)
      refine bX10_told_28 ?_
      obtain ⟨q6, hq6, h⟩ := Option.bind_eq_some_iff.mp h
      refine bX10_told_29 (evX10_tell hq6) (Nat.le_of_ble_eq_true rfl) ?_
      cases h
      exact bX10_told_44
    · refine bX10_told_21 (fun z => absurd z c5) (fun _ => ?_)
      refine bX10_told_24 ?_
      obtain ⟨q7, hq7, h⟩ := Option.bind_eq_some_iff.mp h
      refine bX10_told_29 (evX10_tell hq7) (Nat.le_of_ble_eq_true rfl) ?_
      cases h
      exact bX10_told_44

def FX10_piece (d : aI) (e : aJ) (x1 : Int32) (x2 : Int32) : Option (Int32 × aI × aJ) := ((FX10_within d e x1 (nI 1) (nI 4)).bind fun q1 => (if q1.1 = 0 then (some ((-(nI 1)), q1.2.1, q1.2.2)) else ((FX10_within q1.2.1 q1.2.2 x2 (nI 0) ((a_shl (nI 1) x1) - (nI 1))).bind fun q3 => (if q3.1 = 0 then (some ((-(nI 1)), q3.2.1, q3.2.2)) else ((FX3_add q3.2.1 q3.2.2 21 x1 x2 (nI 0)).bind fun q5 => (if q5.1 = 0 then (some ((-(nI 1)), q5.2.1, q5.2.2)) else (some (((q5.2.1 21 4) - (nI 1)), q5.2.1, q5.2.2))))))))
theorem evX10_piece {Γ : aG × Launch} {d : aI} {e : aJ} {x1 : Int32} {x2 : Int32} {q : Int32 × aI × aJ} (h : FX10_piece d e x1 x2 = some q) : Ev Γ 1 mX10_piece [.ref 0, .int x1, .int x2] d e (some (.int q.1)) q.2.1 q.2.2 := by
  refine Ev.of (by decide) rfl (Nat.le_of_ble_eq_true rfl) (fun z => by cases z) ?_
  show Rn Γ 1 mX10_piece 0 [some (.ref 0), some (.int x1), some (.int x2)] [] d e _ _ _
  unfold FX10_piece at h
  obtain ⟨q1, hq1, h⟩ := Option.bind_eq_some_iff.mp h
  refine bX10_piece_0 (evX10_within hq1) (Nat.le_of_ble_eq_true rfl) ?_
  refine a_ite h (fun c2 h => ?_) (fun c2 h => ?_)
  · refine bX10_piece_6 (fun _ => ?_) (fun z => absurd c2 z)
    cases h
    exact bX10_piece_22
  · refine bX10_piece_6 (fun z => absurd z c2) (fun _ => ?_)
    obtain ⟨q3, hq3, h⟩ := Option.bind_eq_some_iff.mp h
    refine bX10_piece_9 (evX10_within hq3) (Nat.le_of_ble_eq_true rfl) ?_
    refine a_ite h (fun c4 h => ?_) (fun c4 h => ?_)
    · refine bX10_piece_19 (fun z => absurd c4 z) (fun _ => ?_)
      cases h
      exact bX10_piece_22
    · refine bX10_piece_19 (fun _ => ?_) (fun z => absurd z c4)
      obtain ⟨q5, hq5, h⟩ := Option.bind_eq_some_iff.mp h
      refine bX10_piece_24 (evX3_add hq5) (Nat.le_of_ble_eq_true rfl) ?_
      refine a_ite h (fun c6 h => ?_) (fun c6 h => ?_)
      · refine bX10_piece_37 (fun _ => ?_) (fun z => absurd c6 z)
        refine bX10_piece_55 ?_
        cases h
        exact bX10_piece_56
      · refine bX10_piece_37 (fun z => absurd z c6) (fun _ => ?_)
        refine bX10_piece_40 ?_
        cases h
        exact bX10_piece_56

def FX10_game (d : aI) (e : aJ) (x1 : Int32) (x2 : Int32) : Option (Int32 × aI × aJ) := ((FX10_within d e x1 (nI 0) (nI 12)).bind fun q1 => (if q1.1 = 0 then (some ((-(nI 1)), q1.2.1, q1.2.2)) else ((FX10_within q1.2.1 q1.2.2 x2 (nI 0) (nI 12)).bind fun q3 => (if q3.1 = 0 then (some ((-(nI 1)), q3.2.1, q3.2.2)) else ((FX10_isLost q3.2.1 q3.2.2 x1 x2).bind fun q5 => (if q5.1 = 0 then (some ((nI 1), q5.2.1, q5.2.2)) else (some ((nI 0), q5.2.1, q5.2.2))))))))
theorem evX10_game {Γ : aG × Launch} {d : aI} {e : aJ} {x1 : Int32} {x2 : Int32} {q : Int32 × aI × aJ} (h : FX10_game d e x1 x2 = some q) : Ev Γ 1 mX10_game [.ref 0, .int x1, .int x2] d e (some (.int q.1)) q.2.1 q.2.2 := by
  refine Ev.of (by decide) rfl (Nat.le_of_ble_eq_true rfl) (fun z => by cases z) ?_
  show Rn Γ 1 mX10_game 0 [some (.ref 0), some (.int x1), some (.int x2)] [] d e _ _ _
  unfold FX10_game at h
  obtain ⟨q1, hq1, h⟩ := Option.bind_eq_some_iff.mp h
  refine bX10_game_0 (evX10_within hq1) (Nat.le_of_ble_eq_true rfl) ?_
  refine a_ite h (fun c2 h => ?_) (fun c2 h => ?_)
  · refine bX10_game_7 (fun _ => ?_) (fun z => absurd c2 z)
    cases h
    exact bX10_game_20
  · refine bX10_game_7 (fun z => absurd z c2) (fun _ => ?_)
    obtain ⟨q3, hq3, h⟩ := Option.bind_eq_some_iff.mp h
    refine bX10_game_10 (evX10_within hq3) (Nat.le_of_ble_eq_true rfl) ?_
    refine a_ite h (fun c4 h => ?_) (fun c4 h => ?_)
    · refine bX10_game_17 (fun z => absurd c4 z) (fun _ => ?_)
      cases h
      exact bX10_game_20
    · refine bX10_game_17 (fun _ => ?_) (fun z => absurd z c4)
      obtain ⟨q5, hq5, h⟩ := Option.bind_eq_some_iff.mp h
      refine bX10_game_22 (evX10_isLost hq5) (Nat.le_of_ble_eq_true rfl) ?_
      refine a_ite h (fun c6 h => ?_) (fun c6 h => ?_)
      · refine bX10_game_27 (fun _ => ?_) (fun z => absurd c6 z)
        refine bX10_game_34 ?_
        cases h
        exact bX10_game_35
      · refine bX10_game_27 (fun z => absurd z c6) (fun _ => ?_)
        refine bX10_game_30 ?_
        cases h
        exact bX10_game_35

def FX10_said (d : aI) (e : aJ) (x1 : Int32) (x2 : Int32) (x3 : Int32) : Option (Int32 × aI × aJ) := ((FX2_isCat d e x1).bind fun q1 => (if q1.1 = 0 then ((FX10_tell q1.2.1 q1.2.2 25 x1 x2 x3 (nI 0)).bind fun q3 => (some (q3.1, q3.2.1, q3.2.2))) else ((FX2_isHouse q1.2.1 q1.2.2 x2).bind fun q4 => (if q4.1 = 0 then ((FX10_tell q4.2.1 q4.2.2 25 x1 x2 x3 (nI 0)).bind fun q6 => (some (q6.1, q6.2.1, q6.2.2))) else ((FX10_within q4.2.1 q4.2.2 x3 (nI 0) (nI 99)).bind fun q7 => (if q7.1 = 0 then ((FX10_tell q7.2.1 q7.2.2 25 x1 x2 x3 (nI 0)).bind fun q9 => (some (q9.1, q9.2.1, q9.2.2))) else ((FX10_tell q7.2.1 q7.2.2 25 x1 x2 x3 (nI 1)).bind fun q10 => (some (q10.1, q10.2.1, q10.2.2)))))))))
theorem evX10_said {Γ : aG × Launch} {d : aI} {e : aJ} {x1 : Int32} {x2 : Int32} {x3 : Int32} {q : Int32 × aI × aJ} (h : FX10_said d e x1 x2 x3 = some q) : Ev Γ 2 mX10_said [.ref 0, .int x1, .int x2, .int x3] d e (some (.int q.1)) q.2.1 q.2.2 := by
  refine Ev.of (by decide) rfl (Nat.le_of_ble_eq_true rfl) (fun z => by cases z) ?_
  show Rn Γ 2 mX10_said 0 [some (.ref 0), some (.int x1), some (.int x2), some (.int x3), none] [] d e _ _ _
  unfold FX10_said at h
  obtain ⟨q1, hq1, h⟩ := Option.bind_eq_some_iff.mp h
  refine bX10_said_0 (evX2_isCat hq1) (Nat.le_of_ble_eq_true rfl) ?_
  refine a_ite h (fun c2 h => ?_) (fun c2 h => ?_)
  · refine bX10_said_11 (fun _ => ?_) (fun z => absurd c2 z)
    refine bX10_said_42 ?_
    obtain ⟨q3, hq3, h⟩ := Option.bind_eq_some_iff.mp h
    refine bX10_said_43 (evX10_tell hq3) (Nat.le_of_ble_eq_true rfl) ?_
    cases h
    exact bX10_said_60
  · refine bX10_said_11 (fun z => absurd z c2) (fun _ => ?_)
    obtain ⟨q4, hq4, h⟩ := Option.bind_eq_some_iff.mp h
    refine bX10_said_14 (evX2_isHouse hq4) (Nat.le_of_ble_eq_true rfl) ?_
    refine a_ite h (fun c5 h => ?_) (fun c5 h => ?_)
    · refine bX10_said_25 (fun _ => ?_) (fun z => absurd c5 z)
      refine bX10_said_42 ?_
      obtain ⟨q6, hq6, h⟩ := Option.bind_eq_some_iff.mp h
      refine bX10_said_43 (evX10_tell hq6) (Nat.le_of_ble_eq_true rfl) ?_
      cases h
      exact bX10_said_60
    · refine bX10_said_25 (fun z => absurd z c5) (fun _ => ?_)
      obtain ⟨q7, hq7, h⟩ := Option.bind_eq_some_iff.mp h
      refine bX10_said_28 (evX10_within hq7) (Nat.le_of_ble_eq_true rfl) ?_
      refine a_ite h (fun c8 h => ?_) (fun c8 h => ?_)
      · refine bX10_said_35 (fun _ => ?_) (fun z => absurd c8 z)
        refine bX10_said_42 ?_
        obtain ⟨q9, hq9, h⟩ := Option.bind_eq_some_iff.mp h
        refine bX10_said_43 (evX10_tell hq9) (Nat.le_of_ble_eq_true rfl) ?_
        cases h
        exact bX10_said_60
      · refine bX10_said_35 (fun z => absurd z c8) (fun _ => ?_)
        refine bX10_said_38 ?_
        obtain ⟨q10, hq10, h⟩ := Option.bind_eq_some_iff.mp h
        refine bX10_said_43 (evX10_tell hq10) (Nat.le_of_ble_eq_true rfl) ?_
        cases h
        exact bX10_said_60

def FX10_canBeOne (d : aI) (e : aJ) (x1 : Int32) (x2 : Int32) : Option (Int32 × aI × aJ) := (bif ((a_inb x1 10) && (a_inb x2 10) && (a_inb x1 10) && (a_inb x2 10)) then ((FX10_around d e (d 15 (x1).toNatClampNeg) (d 15 (x2).toNatClampNeg)).bind fun q2 => (if (a_abs ((d 14 (x1).toNatClampNeg) - (d 14 (x2).toNatClampNeg))) < q2.1 then (some ((nI 0), q2.2.1, q2.2.2)) else (some ((nI 1), q2.2.1, q2.2.2)))) else none)
theorem evX10_canBeOne {Γ : aG × Launch} {d : aI} {e : aJ} {x1 : Int32} {x2 : Int32} {q : Int32 × aI × aJ} (h : FX10_canBeOne d e x1 x2 = some q) : Ev Γ 1 mX10_canBeOne [.ref 13, .int x1, .int x2] d e (some (.int q.1)) q.2.1 q.2.2 := by
  refine Ev.of (by decide) rfl (Nat.le_of_ble_eq_true rfl) (fun z => by cases z) ?_
  show Rn Γ 1 mX10_canBeOne 0 [some (.ref 13), some (.int x1), some (.int x2), none] [] d e _ _ _
  unfold FX10_canBeOne at h
  obtain ⟨g1, h⟩ := a_cond h
  obtain ⟨g1x3, g1_3⟩ := a_and g1
  obtain ⟨g1x2, g1_2⟩ := a_and g1x3
  obtain ⟨g1x1, g1_1⟩ := a_and g1x2
  have g1_0 := g1x1
  obtain ⟨q2, hq2, h⟩ := Option.bind_eq_some_iff.mp h
  refine bX10_canBeOne_0 ⟨(a_inb_vp g1_0), (a_inb_vp g1_1), (a_inb_vp g1_2), (a_inb_vp g1_3)⟩ (evX10_around hq2) (Nat.le_of_ble_eq_true rfl) ?_
  refine a_ite h (fun c3 h => ?_) (fun c3 h => ?_)
  · refine bX10_canBeOne_32 (fun _ => ?_) (fun z => absurd c3 z)
    refine bX10_canBeOne_40 ?_
    cases h
    exact bX10_canBeOne_41 (a_nz (Or.inl rfl))
  · refine bX10_canBeOne_32 (fun z => absurd z c3) (fun _ => ?_)
    refine bX10_canBeOne_36 ?_
    cases h
    exact bX10_canBeOne_41 (a_nz (Or.inr rfl))

def FX11_house (d : aI) (e : aJ) (x1 : Int32) (x2 : Int32) : Option (Int32 × aI × aJ) := ((FX11_isPlace d e x1).bind fun q1 => (if q1.1 = 0 then (some ((-(nI 1)), q1.2.1, q1.2.2)) else ((FX11_isIn q1.2.1 q1.2.2 x2 (nI 0) (nI 999)).bind fun q3 => (if q3.1 = 0 then (some ((-(nI 1)), q3.2.1, q3.2.2)) else (bif ((a_inb (nI 0) 1961)) then (if (q3.2.1 109 0) = (nI 6) then (some ((-(nI 1)), q3.2.1, q3.2.2)) else (bif ((a_inb (nI 0) 1961) && (a_inb ((nI 42) + (q3.2.1 109 0)) 1961) && (a_inb ((nI 48) + (q3.2.1 109 0)) 1961)) then ((FX11_beginHouse (uI (uI q3.2.1 109 (((nI 42) + (q3.2.1 109 0))).toNatClampNeg x1) 109 (((nI 48) + (q3.2.1 109 0))).toNatClampNeg x2) q3.2.2 (q3.2.1 109 0)).bind fun q8 => (bif ((a_inb (nI 0) 1961) && (a_inb (nI 0) 1961)) then (some ((q3.2.1 109 0), (uI q8.2.1 109 0 ((q8.2.1 109 0) + (nI 1))), q8.2.2)) else none)) else none)) else none)))))
theorem evX11_house {Γ : aG × Launch} {d : aI} {e : aJ} {x1 : Int32} {x2 : Int32} {q : Int32 × aI × aJ} (h : FX11_house d e x1 x2 = some q) : Ev Γ 2 mX11_house [.ref 108, .int x1, .int x2] d e (some (.int q.1)) q.2.1 q.2.2 := by
  refine Ev.of (by decide) rfl (Nat.le_of_ble_eq_true rfl) (fun z => by cases z) ?_
  show Rn Γ 2 mX11_house 0 [some (.ref 108), some (.int x1), some (.int x2), none] [] d e _ _ _
  unfold FX11_house at h
  obtain ⟨q1, hq1, h⟩ := Option.bind_eq_some_iff.mp h
  refine bX11_house_0 (evX11_isPlace hq1) (Nat.le_of_ble_eq_true rfl) ?_
  refine a_ite h (fun c2 h => ?_) (fun c2 h => ?_)
  · refine bX11_house_4 (fun _ => ?_) (fun z => absurd c2 z)
    cases h
    exact bX11_house_29
  · refine bX11_house_4 (fun z => absurd z c2) (fun _ => ?_)
    obtain ⟨q3, hq3, h⟩ := Option.bind_eq_some_iff.mp h
    refine bX11_house_7 (evX11_isIn hq3) (Nat.le_of_ble_eq_true rfl) ?_
    refine a_ite h (fun c4 h => ?_) (fun c4 h => ?_)
    · refine bX11_house_15 (fun _ => ?_) (fun z => absurd c4 z)
      cases h
      exact bX11_house_29
    · refine bX11_house_15 (fun z => absurd z c4) (fun _ => ?_)
      obtain ⟨g5, h⟩ := a_cond h
      refine a_ite h (fun c6 h => ?_) (fun c6 h => ?_)
      · refine bX11_house_18 (a_inb_vp g5) (fun z => absurd c6 z) (fun _ => ?_)
        cases h
        exact bX11_house_29
      · refine bX11_house_18 (a_inb_vp g5) (fun _ => ?_) (fun z => absurd z c6)
        obtain ⟨g7, h⟩ := a_cond h
        obtain ⟨g7x2, g7_2⟩ := a_and g7
        obtain ⟨g7x1, g7_1⟩ := a_and g7x2
        have g7_0 := g7x1
        obtain ⟨q8, hq8, h⟩ := Option.bind_eq_some_iff.mp h
        refine bX11_house_31 ⟨(a_inb_vp g7_0), (a_inb_vp g7_1), (a_inb_vp g7_2)⟩ (evX11_beginHouse hq8) (Nat.le_of_ble_eq_true rfl) ?_
        obtain ⟨g9, h⟩ := a_cond h
        obtain ⟨g9x1, g9_1⟩ := a_and g9
        have g9_0 := g9x1
        cases h
        exact bX11_house_63 ⟨(a_inb_vp g9_0), (a_inb_vp g9_1)⟩

def FX11_cat (d : aI) (e : aJ) (x1 : Int32) (x2 : Int32) : Option (Int32 × aI × aJ) := ((FX11_isPlace d e x1).bind fun q1 => (if q1.1 = 0 then (some ((-(nI 1)), q1.2.1, q1.2.2)) else ((FX11_isIn q1.2.1 q1.2.2 x2 (nI 0) (nI 9)).bind fun q3 => (if q3.1 = 0 then (some ((-(nI 1)), q3.2.1, q3.2.2)) else (bif ((a_inb (nI 1) 1961)) then (if (q3.2.1 109 1) = (nI 6) then (some ((-(nI 1)), q3.2.1, q3.2.2)) else (bif ((a_inb (nI 1) 1961) && (a_inb ((nI 60) + (q3.2.1 109 1)) 1961) && (a_inb ((nI 54) + (q3.2.1 109 1)) 1961)) then ((FX11_beginCat (uI (uI q3.2.1 109 (((nI 60) + (q3.2.1 109 1))).toNatClampNeg x1) 109 (((nI 54) + (q3.2.1 109 1))).toNatClampNeg x2) q3.2.2 (q3.2.1 109 1)).bind fun q8 => (bif ((a_inb (nI 1) 1961) && (a_inb (nI 1) 1961)) then (some ((q3.2.1 109 1), (uI q8.2.1 109 1 ((q8.2.1 109 1) + (nI 1))), q8.2.2)) else none)) else none)) else none)))))
theorem evX11_cat {Γ : aG × Launch} {d : aI} {e : aJ} {x1 : Int32} {x2 : Int32} {q : Int32 × aI × aJ} (h : FX11_cat d e x1 x2 = some q) : Ev Γ 2 mX11_cat [.ref 108, .int x1, .int x2] d e (some (.int q.1)) q.2.1 q.2.2 := by
  refine Ev.of (by decide) rfl (Nat.le_of_ble_eq_true rfl) (fun z => by cases z) ?_
  show Rn Γ 2 mX11_cat 0 [some (.ref 108), some (.int x1), some (.int x2), none] [] d e _ _ _
  unfold FX11_cat at h
  obtain ⟨q1, hq1, h⟩ := Option.bind_eq_some_iff.mp h
  refine bX11_cat_0 (evX11_isPlace hq1) (Nat.le_of_ble_eq_true rfl) ?_
  refine a_ite h (fun c2 h => ?_) (fun c2 h => ?_)
  · refine bX11_cat_4 (fun _ => ?_) (fun z => absurd c2 z)
    cases h
    exact bX11_cat_28
  · refine bX11_cat_4 (fun z => absurd z c2) (fun _ => ?_)
    obtain ⟨q3, hq3, h⟩ := Option.bind_eq_some_iff.mp h
    refine bX11_cat_7 (evX11_isIn hq3) (Nat.le_of_ble_eq_true rfl) ?_
    refine a_ite h (fun c4 h => ?_) (fun c4 h => ?_)
    · refine bX11_cat_14 (fun _ => ?_) (fun z => absurd c4 z)
      cases h
      exact bX11_cat_28
    · refine bX11_cat_14 (fun z => absurd z c4) (fun _ => ?_)
      obtain ⟨g5, h⟩ := a_cond h
      refine a_ite h (fun c6 h => ?_) (fun c6 h => ?_)
      · refine bX11_cat_17 (a_inb_vp g5) (fun z => absurd c6 z) (fun _ => ?_)
        cases h
        exact bX11_cat_28
      · refine bX11_cat_17 (a_inb_vp g5) (fun _ => ?_) (fun z => absurd z c6)
        obtain ⟨g7, h⟩ := a_cond h
        obtain ⟨g7x2, g7_2⟩ := a_and g7
        obtain ⟨g7x1, g7_1⟩ := a_and g7x2
        have g7_0 := g7x1
        obtain ⟨q8, hq8, h⟩ := Option.bind_eq_some_iff.mp h
        refine bX11_cat_30 ⟨(a_inb_vp g7_0), (a_inb_vp g7_1), (a_inb_vp g7_2)⟩ (evX11_beginCat hq8) (Nat.le_of_ble_eq_true rfl) ?_
        obtain ⟨g9, h⟩ := a_cond h
        obtain ⟨g9x1, g9_1⟩ := a_and g9
        have g9_0 := g9x1
        cases h
        exact bX11_cat_62 ⟨(a_inb_vp g9_0), (a_inb_vp g9_1)⟩

def FX11_drawnBy (d : aI) (e : aJ) (x1 : Int32) : Option (Int32 × aI × aJ) := (bif ((a_inb (nI 10) 1961) && (decide (¬ x1 = 0))) then ((FX11_anew d e).bind fun q2 => (some ((a_irm (d 109 10) x1), q2.2.1, q2.2.2))) else none)
theorem evX11_drawnBy {Γ : aG × Launch} {d : aI} {e : aJ} {x1 : Int32} {q : Int32 × aI × aJ} (h : FX11_drawnBy d e x1 = some q) : Ev Γ 1 mX11_drawnBy [.ref 108, .int x1] d e (some (.int q.1)) q.2.1 q.2.2 := by
  refine Ev.of (by decide) rfl (Nat.le_of_ble_eq_true rfl) (fun z => by cases z) ?_
  show Rn Γ 1 mX11_drawnBy 0 [some (.ref 108), some (.int x1), none] [] d e _ _ _
  unfold FX11_drawnBy at h
  obtain ⟨g1, h⟩ := a_cond h
  obtain ⟨g1x1, g1_1⟩ := a_and g1
  have g1_0 := g1x1
  obtain ⟨q2, hq2, h⟩ := Option.bind_eq_some_iff.mp h
  refine bX11_drawnBy_0 ⟨(a_inb_vp g1_0), (of_decide_eq_true g1_1)⟩ (evX11_anew hq2) (Nat.le_of_ble_eq_true rfl) ?_
  cases h
  exact bX11_drawnBy_14

def FX10_same (d : aI) (e : aJ) (x1 : Int32) (x2 : Int32) : Option (Int32 × aI × aJ) := ((FX3_has d e 13 x1).bind fun q1 => (if q1.1 = 0 then (some ((nI 0), q1.2.1, q1.2.2)) else ((FX3_has q1.2.1 q1.2.2 13 x2).bind fun q3 => (if q3.1 = 0 then (some ((nI 0), q3.2.1, q3.2.2)) else ((FX10_canBeOne q3.2.1 q3.2.2 x1 x2).bind fun q5 => (if q5.1 = 0 then (some ((nI 0), q5.2.1, q5.2.2)) else (some ((nI 1), q5.2.1, q5.2.2))))))))
theorem evX10_same {Γ : aG × Launch} {d : aI} {e : aJ} {x1 : Int32} {x2 : Int32} {q : Int32 × aI × aJ} (h : FX10_same d e x1 x2 = some q) : Ev Γ 2 mX10_same [.ref 0, .int x1, .int x2] d e (some (.int q.1)) q.2.1 q.2.2 := by
  refine Ev.of (by decide) rfl (Nat.le_of_ble_eq_true rfl) (fun z => by cases z) ?_
  show Rn Γ 2 mX10_same 0 [some (.ref 0), some (.int x1), some (.int x2)] [] d e _ _ _
  unfold FX10_same at h
  obtain ⟨q1, hq1, h⟩ := Option.bind_eq_some_iff.mp h
  refine bX10_same_0 (evX3_has hq1) (Nat.le_of_ble_eq_true rfl) ?_
  refine a_ite h (fun c2 h => ?_) (fun c2 h => ?_)
  · refine bX10_same_11 (fun _ => ?_) (fun z => absurd c2 z)
    refine bX10_same_47 ?_
    cases h
    exact bX10_same_48 (a_nz (Or.inl rfl))
  · refine bX10_same_11 (fun z => absurd z c2) (fun _ => ?_)
    obtain ⟨q3, hq3, h⟩ := Option.bind_eq_some_iff.mp h
    refine bX10_same_14 (evX3_has hq3) (Nat.le_of_ble_eq_true rfl) ?_
    refine a_ite h (fun c4 h => ?_) (fun c4 h => ?_)
    · refine bX10_same_25 (fun _ => ?_) (fun z => absurd c4 z)
      refine bX10_same_47 ?_
      cases h
      exact bX10_same_48 (a_nz (Or.inl rfl))
    · refine bX10_same_25 (fun z => absurd z c4) (fun _ => ?_)
      obtain ⟨q5, hq5, h⟩ := Option.bind_eq_some_iff.mp h
      refine bX10_same_28 (evX10_canBeOne hq5) (Nat.le_of_ble_eq_true rfl) ?_
      refine a_ite h (fun c6 h => ?_) (fun c6 h => ?_)
      · refine bX10_same_40 (fun _ => ?_) (fun z => absurd c6 z)
        refine bX10_same_47 ?_
        cases h
        exact bX10_same_48 (a_nz (Or.inl rfl))
      · refine bX10_same_40 (fun z => absurd z c6) (fun _ => ?_)
        refine bX10_same_43 ?_
        cases h
        exact bX10_same_48 (a_nz (Or.inr rfl))

