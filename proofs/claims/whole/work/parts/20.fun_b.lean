/-! ===== functions out of the methods ===== -/
noncomputable def FX10_isText (d : aI) (e : aJ) (x1 : Int32) : Option (Int32 × aI × aJ) := ((FX10_within d e x1 (nI 0) ((d 1 6) - (nI 1))).bind fun q1 => (bif (decide (q1.1 = 0 ∨ q1.1 = 1)) then (some (q1.1, q1.2.1, q1.2.2)) else none))
theorem evX10_isText {Γ : aG × Launch} {d : aI} {e : aJ} {x1 : Int32} {q : Int32 × aI × aJ} (h : FX10_isText d e x1 = some q) : Ev Γ (1) mX10_isText [.ref 0, .int x1] d e (some (.int q.1)) q.2.1 q.2.2 := by
  refine Ev.of (by decide) rfl (Nat.le_of_ble_eq_true rfl) (fun z => by cases z) ?_
  show Rn Γ (1) mX10_isText 0 [some (.ref 0), some (.int x1)] [] d e _ _ _
  unfold FX10_isText at h
  obtain ⟨q1, hq1, h⟩ := Option.bind_eq_some_iff.mp h
  refine bX10_isText_0 (evX10_within hq1) (by omega) ?_
  obtain ⟨z2, h⟩ := a_cond h
  cases h
  exact bX10_isText_14 (a_nz (of_decide_eq_true z2))

noncomputable def FX10_rule (d : aI) (e : aJ)  : Option (Nat × aI × aJ) := ((FX10_isText d e (d 1 7)).bind fun q1 => (if q1.1 = 0 then (some (78, q1.2.1, q1.2.2)) else (bif (a_inb (q1.2.1 1 7) 4) then (some ((58 + 5 * ((q1.2.1 1 7)).toNatClampNeg), q1.2.1, q1.2.2)) else none)))
theorem evX10_rule {Γ : aG × Launch} {d : aI} {e : aJ}  {q : Nat × aI × aJ} (h : FX10_rule d e  = some q) : Ev Γ (2) mX10_rule [.ref 0] d e (some (.ref q.1)) q.2.1 q.2.2 := by
  refine Ev.of (by decide) rfl (Nat.le_of_ble_eq_true rfl) (fun z => by cases z) ?_
  show Rn Γ (2) mX10_rule 0 [some (.ref 0)] [] d e _ _ _
  unfold FX10_rule at h
  obtain ⟨q1, hq1, h⟩ := Option.bind_eq_some_iff.mp h
  refine bX10_rule_0 (evX10_isText hq1) (by omega) ?_
  refine a_ite h (fun c2 h => ?_) (fun c2 h => ?_)
  · refine bX10_rule_11 (fun _ => ?_) (fun z => absurd c2 z)
    refine bX10_rule_29 ?_
    cases h
    exact bX10_rule_33
  · refine bX10_rule_11 (fun z => absurd z c2) (fun _ => ?_)
    obtain ⟨g3, h⟩ := a_cond h
    refine bX10_rule_14 (a_inb_lt g3) (a_inb_nI g3) ?_
    refine bX10_rule_26 ?_
    cases h
    exact bX10_rule_33

theorem domX10_rule {d : aI} {e : aJ} {q : Nat × aI × aJ} (h : FX10_rule d e = some q) : q.1 = 58 ∨ q.1 = 63 ∨ q.1 = 68 ∨ q.1 = 73 ∨ q.1 = 78 := by
  unfold FX10_rule at h
  obtain ⟨q1, hq1, h⟩ := Option.bind_eq_some_iff.mp h
  split at h
  · cases h; simp
  · obtain ⟨g, h⟩ := a_cond h
    cases h
    rcases a_dom4 g with e | e | e | e <;> rw [e] <;> simp

noncomputable def FX10_keepIf (d : aI) (e : aJ) (x1 : Int32) : Option (Unit × aI × aJ) := (if x1 = 0 then (some ((), d, e)) else ((FX6_keep d e).bind fun q2 => (some ((), q2.2.1, q2.2.2))))
theorem evX10_keepIf {Γ : aG × Launch} {d : aI} {e : aJ} {x1 : Int32} {q : Unit × aI × aJ} (h : FX10_keepIf d e x1 = some q) : Ev Γ (2) mX10_keepIf [.ref 0, .int x1] d e none q.2.1 q.2.2 := by
  refine Ev.of (by decide) rfl (Nat.le_of_ble_eq_true rfl) (fun z => by cases z) ?_
  show Rn Γ (2) mX10_keepIf 0 [some (.ref 0), some (.int x1)] [] d e _ _ _
  unfold FX10_keepIf at h
  refine a_ite h (fun c1 h => ?_) (fun c1 h => ?_)
  · refine bX10_keepIf_0 (fun _ => ?_) (fun z => absurd c1 z)
    cases h
    exact bX10_keepIf_21
  · refine bX10_keepIf_0 (fun z => absurd z c1) (fun _ => ?_)
    obtain ⟨q2, hq2, h⟩ := Option.bind_eq_some_iff.mp h
    refine bX10_keepIf_4 (evX6_keep hq2) (by omega) ?_
    cases h
    exact bX10_keepIf_21

noncomputable def FX10_hourOf (d : aI) (e : aJ) (x0 : Int32) : Option (Int32 × aI × aJ) := (bif ((decide (¬ (nI 108) = 0))) then (some ((x0 / (nI 108)), d, e)) else none)
theorem evX10_hourOf {Γ : aG × Launch} {d : aI} {e : aJ} {x0 : Int32} {q : Int32 × aI × aJ} (h : FX10_hourOf d e x0 = some q) : Ev Γ (0) mX10_hourOf [.int x0] d e (some (.int q.1)) q.2.1 q.2.2 := by
  refine Ev.of (by decide) rfl (Nat.le_of_ble_eq_true rfl) (fun z => by cases z) ?_
  show Rn Γ (0) mX10_hourOf 0 [some (.int x0)] [] d e _ _ _
  unfold FX10_hourOf at h
  obtain ⟨g1, h⟩ := a_cond h
  cases h
  exact bX10_hourOf_0 (of_decide_eq_true g1)

noncomputable def FX10_catOf (d : aI) (e : aJ) (x0 : Int32) : Option (Int32 × aI × aJ) := (bif ((decide (¬ (nI 18) = 0)) && (decide (¬ (nI 6) = 0))) then (some ((a_irm (x0 / (nI 18)) (nI 6)), d, e)) else none)
theorem evX10_catOf {Γ : aG × Launch} {d : aI} {e : aJ} {x0 : Int32} {q : Int32 × aI × aJ} (h : FX10_catOf d e x0 = some q) : Ev Γ (0) mX10_catOf [.int x0] d e (some (.int q.1)) q.2.1 q.2.2 := by
  refine Ev.of (by decide) rfl (Nat.le_of_ble_eq_true rfl) (fun z => by cases z) ?_
  show Rn Γ (0) mX10_catOf 0 [some (.int x0)] [] d e _ _ _
  unfold FX10_catOf at h
  obtain ⟨g1, h⟩ := a_cond h
  obtain ⟨g1x1, g1_1⟩ := a_and g1
  have g1_0 := g1x1
  cases h
  exact bX10_catOf_0 ⟨(of_decide_eq_true g1_0), (of_decide_eq_true g1_1)⟩

noncomputable def FX10_houseOf (d : aI) (e : aJ) (x0 : Int32) : Option (Int32 × aI × aJ) := (bif ((decide (¬ (nI 3) = 0)) && (decide (¬ (nI 6) = 0))) then (some ((a_irm (x0 / (nI 3)) (nI 6)), d, e)) else none)
theorem evX10_houseOf {Γ : aG × Launch} {d : aI} {e : aJ} {x0 : Int32} {q : Int32 × aI × aJ} (h : FX10_houseOf d e x0 = some q) : Ev Γ (0) mX10_houseOf [.int x0] d e (some (.int q.1)) q.2.1 q.2.2 := by
  refine Ev.of (by decide) rfl (Nat.le_of_ble_eq_true rfl) (fun z => by cases z) ?_
  show Rn Γ (0) mX10_houseOf 0 [some (.int x0)] [] d e _ _ _
  unfold FX10_houseOf at h
  obtain ⟨g1, h⟩ := a_cond h
  obtain ⟨g1x1, g1_1⟩ := a_and g1
  have g1_0 := g1x1
  cases h
  exact bX10_houseOf_0 ⟨(of_decide_eq_true g1_0), (of_decide_eq_true g1_1)⟩

noncomputable def FX10_deedOf (d : aI) (e : aJ) (x0 : Int32) : Option (Int32 × aI × aJ) := (bif ((decide (¬ (nI 3) = 0))) then (some ((a_irm x0 (nI 3)), d, e)) else none)
theorem evX10_deedOf {Γ : aG × Launch} {d : aI} {e : aJ} {x0 : Int32} {q : Int32 × aI × aJ} (h : FX10_deedOf d e x0 = some q) : Ev Γ (0) mX10_deedOf [.int x0] d e (some (.int q.1)) q.2.1 q.2.2 := by
  refine Ev.of (by decide) rfl (Nat.le_of_ble_eq_true rfl) (fun z => by cases z) ?_
  show Rn Γ (0) mX10_deedOf 0 [some (.int x0)] [] d e _ _ _
  unfold FX10_deedOf at h
  obtain ⟨g1, h⟩ := a_cond h
  cases h
  exact bX10_deedOf_0 (of_decide_eq_true g1)

noncomputable def FX10_tell (d : aI) (e : aJ) (o0 : Nat) (x1 : Int32) (x2 : Int32) (x3 : Int32) (x4 : Int32) : Option (Int32 × aI × aJ) := (bif (decide (o0 = 13 ∨ o0 = 17 ∨ o0 = 25)) then (if x1 = (-(nI 1)) then (some ((nI 0), (uI d o0 4 (nI 0)), e)) else (if x4 = 0 then (some ((-(nI 2)), d, e)) else ((FX3_add d e o0 x1 x2 x3).bind fun q3 => (if q3.1 = 0 then (some ((-(nI 2)), q3.2.1, q3.2.2)) else (some ((q3.2.1 o0 4), q3.2.1, q3.2.2)))))) else none)
theorem evX10_tell {Γ : aG × Launch} {d : aI} {e : aJ} {o0 : Nat} {x1 : Int32} {x2 : Int32} {x3 : Int32} {x4 : Int32} {q : Int32 × aI × aJ} (h : FX10_tell d e o0 x1 x2 x3 x4 = some q) : Ev Γ (1) mX10_tell [.ref o0, .int x1, .int x2, .int x3, .int x4] d e (some (.int q.1)) q.2.1 q.2.2 := by
  refine Ev.of (by decide) rfl (Nat.le_of_ble_eq_true rfl) (fun z => by cases z) ?_
  show Rn Γ (1) mX10_tell 0 [some (.ref o0), some (.int x1), some (.int x2), some (.int x3), some (.int x4)] [] d e _ _ _
  unfold FX10_tell at h
  obtain ⟨ho0x, h⟩ := a_cond h
  have ho0 := of_decide_eq_true ho0x
  refine a_ite h (fun c1 h => ?_) (fun c1 h => ?_)
  · refine bX10_tell_0 (fun z => absurd c1 z) (fun _ => ?_)
    cases h
    exact bX10_tell_5 ho0
  · refine bX10_tell_0 (fun _ => ?_) (fun z => absurd z c1)
    refine a_ite h (fun c2 h => ?_) (fun c2 h => ?_)
    · refine bX10_tell_12 (fun _ => ?_) (fun z => absurd c2 z)
      cases h
      exact bX10_tell_27
    · refine bX10_tell_12 (fun z => absurd z c2) (fun _ => ?_)
      obtain ⟨q3, hq3, h⟩ := Option.bind_eq_some_iff.mp h
      refine bX10_tell_17 ho0 (evX3_add hq3) (by omega) ?_
      refine a_ite h (fun c4 h => ?_) (fun c4 h => ?_)
      · refine bX10_tell_24 (fun z => absurd c4 z) (fun _ => ?_)
        cases h
        exact bX10_tell_27
      · refine bX10_tell_24 (fun _ => ?_) (fun z => absurd z c4)
        cases h
        exact bX10_tell_30 ho0

noncomputable def FX10_around (d : aI) (e : aJ) (x0 : Int32) (x1 : Int32) : Option (Int32 × aI × aJ) := (some ((a_min (a_abs (x0 - x1)) ((nI 10) - (a_abs (x0 - x1)))), d, e))
theorem evX10_around {Γ : aG × Launch} {d : aI} {e : aJ} {x0 : Int32} {x1 : Int32} {q : Int32 × aI × aJ} (h : FX10_around d e x0 x1 = some q) : Ev Γ (0) mX10_around [.int x0, .int x1] d e (some (.int q.1)) q.2.1 q.2.2 := by
  refine Ev.of (by decide) rfl (Nat.le_of_ble_eq_true rfl) (fun z => by cases z) ?_
  show Rn Γ (0) mX10_around 0 [some (.int x0), some (.int x1), none] [] d e _ _ _
  unfold FX10_around at h
  cases h
  exact bX10_around_0

noncomputable def FX10_isMove (d : aI) (e : aJ) (x0 : Int32) (x1 : Int32) : Option (Int32 × aI × aJ) := (if (x0 + x1) ≤ 0 then (some ((nI 0), d, e)) else (if x0 = 0 then (some ((nI 1), d, e)) else (if x1 = 0 then (some ((nI 1), d, e)) else (if x0 = x1 then (some ((nI 1), d, e)) else (some ((nI 0), d, e))))))
theorem evX10_isMove {Γ : aG × Launch} {d : aI} {e : aJ} {x0 : Int32} {x1 : Int32} {q : Int32 × aI × aJ} (h : FX10_isMove d e x0 x1 = some q) : Ev Γ (0) mX10_isMove [.int x0, .int x1] d e (some (.int q.1)) q.2.1 q.2.2 := by
  refine Ev.of (by decide) rfl (Nat.le_of_ble_eq_true rfl) (fun z => by cases z) ?_
  show Rn Γ (0) mX10_isMove 0 [some (.int x0), some (.int x1)] [] d e _ _ _
  unfold FX10_isMove at h
  refine a_ite h (fun c1 h => ?_) (fun c1 h => ?_)
  · refine bX10_isMove_0 (fun _ => ?_) (fun z => absurd c1 z)
    refine bX10_isMove_23 ?_
    cases h
    exact bX10_isMove_24 (a_nz (Or.inl rfl))
  · refine bX10_isMove_0 (fun z => absurd z c1) (fun _ => ?_)
    refine a_ite h (fun c2 h => ?_) (fun c2 h => ?_)
    · refine bX10_isMove_6 (fun _ => ?_) (fun z => absurd c2 z)
      refine bX10_isMove_19 ?_
      cases h
      exact bX10_isMove_24 (a_nz (Or.inr rfl))
    · refine bX10_isMove_6 (fun z => absurd z c2) (fun _ => ?_)
      refine a_ite h (fun c3 h => ?_) (fun c3 h => ?_)
      · refine bX10_isMove_10 (fun _ => ?_) (fun z => absurd c3 z)
        refine bX10_isMove_19 ?_
        cases h
        exact bX10_isMove_24 (a_nz (Or.inr rfl))
      · refine bX10_isMove_10 (fun z => absurd z c3) (fun _ => ?_)
        refine a_ite h (fun c4 h => ?_) (fun c4 h => ?_)
        · refine bX10_isMove_14 (fun z => absurd c4 z) (fun _ => ?_)
          refine bX10_isMove_19 ?_
          cases h
          exact bX10_isMove_24 (a_nz (Or.inr rfl))
        · refine bX10_isMove_14 (fun _ => ?_) (fun z => absurd z c4)
          refine bX10_isMove_23 ?_
          cases h
          exact bX10_isMove_24 (a_nz (Or.inl rfl))

noncomputable def FX10_isLost (d : aI) (e : aJ) (x0 : Int32) (x1 : Int32) : Option (Int32 × aI × aJ) := (bif ((decide (¬ (nI 3) = 0))) then (if (a_irm (x0 + x1) (nI 3)) = 0 then (some ((nI 1), d, e)) else (some ((nI 0), d, e))) else none)
theorem evX10_isLost {Γ : aG × Launch} {d : aI} {e : aJ} {x0 : Int32} {x1 : Int32} {q : Int32 × aI × aJ} (h : FX10_isLost d e x0 x1 = some q) : Ev Γ (0) mX10_isLost [.int x0, .int x1] d e (some (.int q.1)) q.2.1 q.2.2 := by
  refine Ev.of (by decide) rfl (Nat.le_of_ble_eq_true rfl) (fun z => by cases z) ?_
  show Rn Γ (0) mX10_isLost 0 [some (.int x0), some (.int x1)] [] d e _ _ _
  unfold FX10_isLost at h
  obtain ⟨g1, h⟩ := a_cond h
  refine a_ite h (fun c2 h => ?_) (fun c2 h => ?_)
  · refine bX10_isLost_0 (of_decide_eq_true g1) (fun z => absurd c2 z) (fun _ => ?_)
    refine bX10_isLost_8 ?_
    cases h
    exact bX10_isLost_13 (a_nz (Or.inr rfl))
  · refine bX10_isLost_0 (of_decide_eq_true g1) (fun _ => ?_) (fun z => absurd z c2)
    refine bX10_isLost_12 ?_
    cases h
    exact bX10_isLost_13 (a_nz (Or.inl rfl))

noncomputable def sX11_copyn_0 (d : aI) (e : aJ)  : Option (Nat × aL × aI × aJ) := (some (2, [some (.ref 109), some (.ref 110), some (.int (nI 0))], d, e))
theorem tX11_copyn_0 {Γ : aG × Launch} {d dF : aI} {e eF : aJ}  {r : Option Value} {p : Nat × aL × aI × aJ} (h : sX11_copyn_0 d e  = some p) (kc : Nat.beq p.1 100000 = false → Rn Γ (0) mX11_copy p.1 p.2.1 [] p.2.2.1 p.2.2.2 r dF eF) (kr : p.1 = 100000 → r = a_rt p.2.1 ∧ dF = p.2.2.1 ∧ eF = p.2.2.2) : Rn Γ (0) mX11_copy 0 [some (.ref 109), some (.ref 110), none] [] d e r dF eF := by
  unfold sX11_copyn_0 at h
  refine bX11_copyn_0 ?_
  cases h
  exact kc rfl

noncomputable def sX11_copyn_2 (d : aI) (e : aJ) (x2 : Int32) : Option (Nat × aL × aI × aJ) := (if (nI 1961) ≤ x2 then (some (100000, [], d, e)) else (bif ((a_inb x2 1961) && (a_inb x2 1961)) then (some (2, [some (.ref 109), some (.ref 110), some (.int (x2 + (nI 1)))], (uI d 110 (x2).toNatClampNeg (d 109 (x2).toNatClampNeg)), e)) else none))
theorem tX11_copyn_2 {Γ : aG × Launch} {d dF : aI} {e eF : aJ} {x2 : Int32} {r : Option Value} {p : Nat × aL × aI × aJ} (h : sX11_copyn_2 d e x2 = some p) (kc : Nat.beq p.1 100000 = false → Rn Γ (0) mX11_copy p.1 p.2.1 [] p.2.2.1 p.2.2.2 r dF eF) (kr : p.1 = 100000 → r = a_rt p.2.1 ∧ dF = p.2.2.1 ∧ eF = p.2.2.2) : Rn Γ (0) mX11_copy 2 [some (.ref 109), some (.ref 110), some (.int x2)] [] d e r dF eF := by
  unfold sX11_copyn_2 at h
  refine a_ite h (fun c1 h => ?_) (fun c1 h => ?_)
  · refine bX11_copyn_2 (fun _ => ?_) (fun z => absurd c1 z)
    cases h
    obtain ⟨k1, k2, k3⟩ := kr rfl
    exact bX11_copyn_21 k1 k2 k3
  · refine bX11_copyn_2 (fun z => absurd z c1) (fun _ => ?_)
    obtain ⟨g2, h⟩ := a_cond h
    obtain ⟨g2x1, g2_1⟩ := a_and g2
    have g2_0 := g2x1
    refine bX11_copyn_9 ⟨(a_inb_vp g2_0), (a_inb_vp g2_1)⟩ ?_
    cases h
    exact kc rfl

noncomputable def stX11_copyn (p : Nat × aL × aI × aJ) : Option (Nat × aL × aI × aJ) := match p with
  | (0, [some (.ref 109), some (.ref 110), none], d, e) => sX11_copyn_0 d e 
  | (2, [some (.ref 109), some (.ref 110), some (.int x2)], d, e) => sX11_copyn_2 d e x2
  | _ => none
theorem uX11_copyn {Γ : aG × Launch} {p p2 : Nat × aL × aI × aJ} {r : Option Value} {dF : aI} {eF : aJ} (h : stX11_copyn p = some p2) (kc : Nat.beq p2.1 100000 = false → Rn Γ (0) mX11_copy p2.1 p2.2.1 [] p2.2.2.1 p2.2.2.2 r dF eF) (kr : p2.1 = 100000 → r = a_rt p2.2.1 ∧ dF = p2.2.2.1 ∧ eF = p2.2.2.2) : Rn Γ (0) mX11_copy p.1 p.2.1 [] p.2.2.1 p.2.2.2 r dF eF := by
  unfold stX11_copyn at h
  split at h
  · exact tX11_copyn_0 h kc kr
  · exact tX11_copyn_2 h kc kr
  · cases h
noncomputable def FX11_copyn (d : aI) (e : aJ)  : Option (Unit × aI × aJ) := (a_run (stX11_copyn) (0, [some (.ref 109), some (.ref 110), none], d, e)).bind a_xV
theorem evX11_copyn {Γ : aG × Launch} {d : aI} {e : aJ}  {q : Unit × aI × aJ} (h : FX11_copyn d e  = some q) : Ev Γ (0) mX11_copy [.ref 109, .ref 110] d e none q.2.1 q.2.2 := by
  refine Ev.of (by decide) rfl (Nat.le_of_ble_eq_true rfl) (fun z => by cases z) ?_
  show Rn Γ (0) mX11_copy 0 [some (.ref 109), some (.ref 110), none] [] d e _ _ _
  obtain ⟨q1, h1, h2⟩ := Option.bind_eq_some_iff.mp h
  obtain ⟨e1, e2, e3⟩ := a_xV_rt h2
  exact Rn.cast (a_run_ok (uX11_copyn) rfl h1) e1.symm e2.symm e3.symm
noncomputable def sX11_copyk_0 (d : aI) (e : aJ)  : Option (Nat × aL × aI × aJ) := (some (2, [some (.ref 110), some (.ref 109), some (.int (nI 0))], d, e))
theorem tX11_copyk_0 {Γ : aG × Launch} {d dF : aI} {e eF : aJ}  {r : Option Value} {p : Nat × aL × aI × aJ} (h : sX11_copyk_0 d e  = some p) (kc : Nat.beq p.1 100000 = false → Rn Γ (0) mX11_copy p.1 p.2.1 [] p.2.2.1 p.2.2.2 r dF eF) (kr : p.1 = 100000 → r = a_rt p.2.1 ∧ dF = p.2.2.1 ∧ eF = p.2.2.2) : Rn Γ (0) mX11_copy 0 [some (.ref 110), some (.ref 109), none] [] d e r dF eF := by
  unfold sX11_copyk_0 at h
  refine bX11_copyk_0 ?_
  cases h
  exact kc rfl

noncomputable def sX11_copyk_2 (d : aI) (e : aJ) (x2 : Int32) : Option (Nat × aL × aI × aJ) := (if (nI 1961) ≤ x2 then (some (100000, [], d, e)) else (bif ((a_inb x2 1961) && (a_inb x2 1961)) then (some (2, [some (.ref 110), some (.ref 109), some (.int (x2 + (nI 1)))], (uI d 109 (x2).toNatClampNeg (d 110 (x2).toNatClampNeg)), e)) else none))
theorem tX11_copyk_2 {Γ : aG × Launch} {d dF : aI} {e eF : aJ} {x2 : Int32} {r : Option Value} {p : Nat × aL × aI × aJ} (h : sX11_copyk_2 d e x2 = some p) (kc : Nat.beq p.1 100000 = false → Rn Γ (0) mX11_copy p.1 p.2.1 [] p.2.2.1 p.2.2.2 r dF eF) (kr : p.1 = 100000 → r = a_rt p.2.1 ∧ dF = p.2.2.1 ∧ eF = p.2.2.2) : Rn Γ (0) mX11_copy 2 [some (.ref 110), some (.ref 109), some (.int x2)] [] d e r dF eF := by
  unfold sX11_copyk_2 at h
  refine a_ite h (fun c1 h => ?_) (fun c1 h => ?_)
  · refine bX11_copyk_2 (fun _ => ?_) (fun z => absurd c1 z)
    cases h
    obtain ⟨k1, k2, k3⟩ := kr rfl
    exact bX11_copyk_21 k1 k2 k3
  · refine bX11_copyk_2 (fun z => absurd z c1) (fun _ => ?_)
    obtain ⟨g2, h⟩ := a_cond h
    obtain ⟨g2x1, g2_1⟩ := a_and g2
    have g2_0 := g2x1
    refine bX11_copyk_9 ⟨(a_inb_vp g2_0), (a_inb_vp g2_1)⟩ ?_
    cases h
    exact kc rfl

noncomputable def stX11_copyk (p : Nat × aL × aI × aJ) : Option (Nat × aL × aI × aJ) := match p with
  | (0, [some (.ref 110), some (.ref 109), none], d, e) => sX11_copyk_0 d e 
  | (2, [some (.ref 110), some (.ref 109), some (.int x2)], d, e) => sX11_copyk_2 d e x2
  | _ => none
theorem uX11_copyk {Γ : aG × Launch} {p p2 : Nat × aL × aI × aJ} {r : Option Value} {dF : aI} {eF : aJ} (h : stX11_copyk p = some p2) (kc : Nat.beq p2.1 100000 = false → Rn Γ (0) mX11_copy p2.1 p2.2.1 [] p2.2.2.1 p2.2.2.2 r dF eF) (kr : p2.1 = 100000 → r = a_rt p2.2.1 ∧ dF = p2.2.2.1 ∧ eF = p2.2.2.2) : Rn Γ (0) mX11_copy p.1 p.2.1 [] p.2.2.1 p.2.2.2 r dF eF := by
  unfold stX11_copyk at h
  split at h
  · exact tX11_copyk_0 h kc kr
  · exact tX11_copyk_2 h kc kr
  · cases h
noncomputable def FX11_copyk (d : aI) (e : aJ)  : Option (Unit × aI × aJ) := (a_run (stX11_copyk) (0, [some (.ref 110), some (.ref 109), none], d, e)).bind a_xV
theorem evX11_copyk {Γ : aG × Launch} {d : aI} {e : aJ}  {q : Unit × aI × aJ} (h : FX11_copyk d e  = some q) : Ev Γ (0) mX11_copy [.ref 110, .ref 109] d e none q.2.1 q.2.2 := by
  refine Ev.of (by decide) rfl (Nat.le_of_ble_eq_true rfl) (fun z => by cases z) ?_
  show Rn Γ (0) mX11_copy 0 [some (.ref 110), some (.ref 109), none] [] d e _ _ _
  obtain ⟨q1, h1, h2⟩ := Option.bind_eq_some_iff.mp h
  obtain ⟨e1, e2, e3⟩ := a_xV_rt h2
  exact Rn.cast (a_run_ok (uX11_copyk) rfl h1) e1.symm e2.symm e3.symm
noncomputable def FX11_isIn (d : aI) (e : aJ) (x0 : Int32) (x1 : Int32) (x2 : Int32) : Option (Int32 × aI × aJ) := (if x0 < x1 then (some ((nI 0), d, e)) else (if x2 < x0 then (some ((nI 0), d, e)) else (some ((nI 1), d, e))))
theorem evX11_isIn {Γ : aG × Launch} {d : aI} {e : aJ} {x0 : Int32} {x1 : Int32} {x2 : Int32} {q : Int32 × aI × aJ} (h : FX11_isIn d e x0 x1 x2 = some q) : Ev Γ (0) mX11_isIn [.int x0, .int x1, .int x2] d e (some (.int q.1)) q.2.1 q.2.2 := by
  refine Ev.of (by decide) rfl (Nat.le_of_ble_eq_true rfl) (fun z => by cases z) ?_
  show Rn Γ (0) mX11_isIn 0 [some (.int x0), some (.int x1), some (.int x2)] [] d e _ _ _
  unfold FX11_isIn at h
  refine a_ite h (fun c1 h => ?_) (fun c1 h => ?_)
  · refine bX11_isIn_0 (fun _ => ?_) (fun z => absurd c1 z)
    refine bX11_isIn_14 ?_
    cases h
    exact bX11_isIn_15 (a_nz (Or.inl rfl))
  · refine bX11_isIn_0 (fun z => absurd z c1) (fun _ => ?_)
    refine a_ite h (fun c2 h => ?_) (fun c2 h => ?_)
    · refine bX11_isIn_5 (fun _ => ?_) (fun z => absurd c2 z)
      refine bX11_isIn_14 ?_
      cases h
      exact bX11_isIn_15 (a_nz (Or.inl rfl))
    · refine bX11_isIn_5 (fun z => absurd z c2) (fun _ => ?_)
      refine bX11_isIn_10 ?_
      cases h
      exact bX11_isIn_15 (a_nz (Or.inr rfl))

noncomputable def FX11_held (d : aI) (e : aJ) (y0 : Int64) (x2 : Int32) (x3 : Int32) : Option (Int32 × aI × aJ) := (if 0 ≤ (lg_cmp y0 (Int32.toInt64 x2)) then (if (lg_cmp y0 (Int32.toInt64 x3)) ≤ 0 then (some ((Int64.toInt32 y0), d, e)) else (some (x3, d, e))) else (some (x2, d, e)))
theorem evX11_held {Γ : aG × Launch} {d : aI} {e : aJ} {y0 : Int64} {x2 : Int32} {x3 : Int32} {q : Int32 × aI × aJ} (h : FX11_held d e y0 x2 x3 = some q) : Ev Γ (0) mX11_held [.long y0, .int x2, .int x3] d e (some (.int q.1)) q.2.1 q.2.2 := by
  refine Ev.of (by decide) rfl (Nat.le_of_ble_eq_true rfl) (fun z => by cases z) ?_
  show Rn Γ (0) mX11_held 0 [some (.long y0), none, some (.int x2), some (.int x3)] [] d e _ _ _
  unfold FX11_held at h
  refine a_ite h (fun c1 h => ?_) (fun c1 h => ?_)
  · refine bX11_held_0 (fun _ => ?_) (fun z => absurd c1 z)
    refine a_ite h (fun c2 h => ?_) (fun c2 h => ?_)
    · refine bX11_held_11 (fun _ => ?_) (fun z => absurd c2 z)
      refine bX11_held_22 ?_
      cases h
      exact bX11_held_24
    · refine bX11_held_11 (fun z => absurd z c2) (fun _ => ?_)
      refine bX11_held_18 ?_
      cases h
      exact bX11_held_24
  · refine bX11_held_0 (fun z => absurd z c1) (fun _ => ?_)
    refine bX11_held_7 ?_
    cases h
    exact bX11_held_24

noncomputable def FX11_has (d : aI) (e : aJ) (x0 : Int32) (x1 : Int32) : Option (Int32 × aI × aJ) := (if ((a_shr x0 x1) &&& (nI 1)) = (nI 1) then (some ((nI 1), d, e)) else (some ((nI 0), d, e)))
theorem evX11_has {Γ : aG × Launch} {d : aI} {e : aJ} {x0 : Int32} {x1 : Int32} {q : Int32 × aI × aJ} (h : FX11_has d e x0 x1 = some q) : Ev Γ (0) mX11_has [.int x0, .int x1] d e (some (.int q.1)) q.2.1 q.2.2 := by
  refine Ev.of (by decide) rfl (Nat.le_of_ble_eq_true rfl) (fun z => by cases z) ?_
  show Rn Γ (0) mX11_has 0 [some (.int x0), some (.int x1)] [] d e _ _ _
  unfold FX11_has at h
  refine a_ite h (fun c1 h => ?_) (fun c1 h => ?_)
  · refine bX11_has_0 (fun z => absurd c1 z) (fun _ => ?_)
    refine bX11_has_9 ?_
    cases h
    exact bX11_has_14 (a_nz (Or.inr rfl))
  · refine bX11_has_0 (fun _ => ?_) (fun z => absurd z c1)
    refine bX11_has_13 ?_
    cases h
    exact bX11_has_14 (a_nz (Or.inl rfl))

noncomputable def sX11_bits_0 (d : aI) (e : aJ) (x0 : Int32) : Option (Nat × aL × aI × aJ) := (some (4, [some (.int x0), some (.int (nI 0)), some (.int x0)], d, e))
theorem tX11_bits_0 {Γ : aG × Launch} {d dF : aI} {e eF : aJ} {x0 : Int32} {r : Option Value} {p : Nat × aL × aI × aJ} (h : sX11_bits_0 d e x0 = some p) (kc : Nat.beq p.1 100000 = false → Rn Γ (0) mX11_bits p.1 p.2.1 [] p.2.2.1 p.2.2.2 r dF eF) (kr : p.1 = 100000 → r = a_rt p.2.1 ∧ dF = p.2.2.1 ∧ eF = p.2.2.2) : Rn Γ (0) mX11_bits 0 [some (.int x0), none, none] [] d e r dF eF := by
  unfold sX11_bits_0 at h
  refine bX11_bits_0 ?_
  cases h
  exact kc rfl

noncomputable def sX11_bits_4 (d : aI) (e : aJ) (x0 : Int32) (x1 : Int32) (x2 : Int32) : Option (Nat × aL × aI × aJ) := (if x2 = 0 then (some (100000, [some (.int x1)], d, e)) else (some (4, [some (.int x0), some (.int (x1 + (nI 1))), some (.int (x2 &&& (x2 - (nI 1))))], d, e)))
theorem tX11_bits_4 {Γ : aG × Launch} {d dF : aI} {e eF : aJ} {x0 : Int32} {x1 : Int32} {x2 : Int32} {r : Option Value} {p : Nat × aL × aI × aJ} (h : sX11_bits_4 d e x0 x1 x2 = some p) (kc : Nat.beq p.1 100000 = false → Rn Γ (0) mX11_bits p.1 p.2.1 [] p.2.2.1 p.2.2.2 r dF eF) (kr : p.1 = 100000 → r = a_rt p.2.1 ∧ dF = p.2.2.1 ∧ eF = p.2.2.2) : Rn Γ (0) mX11_bits 4 [some (.int x0), some (.int x1), some (.int x2)] [] d e r dF eF := by
  unfold sX11_bits_4 at h
  refine a_ite h (fun c1 h => ?_) (fun c1 h => ?_)
  · refine bX11_bits_4 (fun _ => ?_) (fun z => absurd c1 z)
    cases h
    obtain ⟨k1, k2, k3⟩ := kr rfl
    exact bX11_bits_20 k1 k2 k3
  · refine bX11_bits_4 (fun z => absurd z c1) (fun _ => ?_)
    refine bX11_bits_8 ?_
    cases h
    exact kc rfl

noncomputable def stX11_bits (p : Nat × aL × aI × aJ) : Option (Nat × aL × aI × aJ) := match p with
  | (0, [some (.int x0), none, none], d, e) => sX11_bits_0 d e x0
  | (4, [some (.int x0), some (.int x1), some (.int x2)], d, e) => sX11_bits_4 d e x0 x1 x2
  | _ => none
theorem uX11_bits {Γ : aG × Launch} {p p2 : Nat × aL × aI × aJ} {r : Option Value} {dF : aI} {eF : aJ} (h : stX11_bits p = some p2) (kc : Nat.beq p2.1 100000 = false → Rn Γ (0) mX11_bits p2.1 p2.2.1 [] p2.2.2.1 p2.2.2.2 r dF eF) (kr : p2.1 = 100000 → r = a_rt p2.2.1 ∧ dF = p2.2.2.1 ∧ eF = p2.2.2.2) : Rn Γ (0) mX11_bits p.1 p.2.1 [] p.2.2.1 p.2.2.2 r dF eF := by
  unfold stX11_bits at h
  split at h
  · exact tX11_bits_0 h kc kr
  · exact tX11_bits_4 h kc kr
  · cases h
noncomputable def FX11_bits (d : aI) (e : aJ) (x0 : Int32) : Option (Int32 × aI × aJ) := (a_run (stX11_bits) (0, [some (.int x0), none, none], d, e)).bind a_xI
theorem evX11_bits {Γ : aG × Launch} {d : aI} {e : aJ} {x0 : Int32} {q : Int32 × aI × aJ} (h : FX11_bits d e x0 = some q) : Ev Γ (0) mX11_bits [.int x0] d e (some (.int q.1)) q.2.1 q.2.2 := by
  refine Ev.of (by decide) rfl (Nat.le_of_ble_eq_true rfl) (fun z => by cases z) ?_
  show Rn Γ (0) mX11_bits 0 [some (.int x0), none, none] [] d e _ _ _
  obtain ⟨q1, h1, h2⟩ := Option.bind_eq_some_iff.mp h
  obtain ⟨e1, e2, e3⟩ := a_xI_rt h2
  exact Rn.cast (a_run_ok (uX11_bits) rfl h1) e1.symm e2.symm e3.symm
noncomputable def FX11_isHouse (d : aI) (e : aJ) (x1 : Int32) : Option (Int32 × aI × aJ) := (bif ((a_inb (nI 0) 1961)) then ((FX11_isIn d e x1 (nI 0) ((d 109 0) - (nI 1))).bind fun q2 => (bif (decide (q2.1 = 0 ∨ q2.1 = 1)) then (some (q2.1, q2.2.1, q2.2.2)) else none)) else none)
theorem evX11_isHouse {Γ : aG × Launch} {d : aI} {e : aJ} {x1 : Int32} {q : Int32 × aI × aJ} (h : FX11_isHouse d e x1 = some q) : Ev Γ (1) mX11_isHouse [.ref 108, .int x1] d e (some (.int q.1)) q.2.1 q.2.2 := by
  refine Ev.of (by decide) rfl (Nat.le_of_ble_eq_true rfl) (fun z => by cases z) ?_
  show Rn Γ (1) mX11_isHouse 0 [some (.ref 108), some (.int x1)] [] d e _ _ _
  unfold FX11_isHouse at h
  obtain ⟨g1, h⟩ := a_cond h
  obtain ⟨q2, hq2, h⟩ := Option.bind_eq_some_iff.mp h
  refine bX11_isHouse_0 (a_inb_vp g1) (evX11_isIn hq2) (by omega) ?_
  obtain ⟨z3, h⟩ := a_cond h
  cases h
  exact bX11_isHouse_13 (a_nz (of_decide_eq_true z3))

noncomputable def FX11_isCat (d : aI) (e : aJ) (x1 : Int32) : Option (Int32 × aI × aJ) := (bif ((a_inb (nI 1) 1961)) then ((FX11_isIn d e x1 (nI 0) ((d 109 1) - (nI 1))).bind fun q2 => (bif (decide (q2.1 = 0 ∨ q2.1 = 1)) then (some (q2.1, q2.2.1, q2.2.2)) else none)) else none)
theorem evX11_isCat {Γ : aG × Launch} {d : aI} {e : aJ} {x1 : Int32} {q : Int32 × aI × aJ} (h : FX11_isCat d e x1 = some q) : Ev Γ (1) mX11_isCat [.ref 108, .int x1] d e (some (.int q.1)) q.2.1 q.2.2 := by
  refine Ev.of (by decide) rfl (Nat.le_of_ble_eq_true rfl) (fun z => by cases z) ?_
  show Rn Γ (1) mX11_isCat 0 [some (.ref 108), some (.int x1)] [] d e _ _ _
  unfold FX11_isCat at h
  obtain ⟨g1, h⟩ := a_cond h
  obtain ⟨q2, hq2, h⟩ := Option.bind_eq_some_iff.mp h
  refine bX11_isCat_0 (a_inb_vp g1) (evX11_isIn hq2) (by omega) ?_
  obtain ⟨z3, h⟩ := a_cond h
  cases h
  exact bX11_isCat_13 (a_nz (of_decide_eq_true z3))

noncomputable def FX11_isPlace (d : aI) (e : aJ) (x0 : Int32) : Option (Int32 × aI × aJ) := ((FX11_isIn d e x0 (nI 0) (nI 9)).bind fun q1 => (bif (decide (q1.1 = 0 ∨ q1.1 = 1)) then (some (q1.1, q1.2.1, q1.2.2)) else none))
theorem evX11_isPlace {Γ : aG × Launch} {d : aI} {e : aJ} {x0 : Int32} {q : Int32 × aI × aJ} (h : FX11_isPlace d e x0 = some q) : Ev Γ (1) mX11_isPlace [.int x0] d e (some (.int q.1)) q.2.1 q.2.2 := by
  refine Ev.of (by decide) rfl (Nat.le_of_ble_eq_true rfl) (fun z => by cases z) ?_
  show Rn Γ (1) mX11_isPlace 0 [some (.int x0)] [] d e _ _ _
  unfold FX11_isPlace at h
  obtain ⟨q1, hq1, h⟩ := Option.bind_eq_some_iff.mp h
  refine bX11_isPlace_0 (evX11_isIn hq1) (by omega) ?_
  obtain ⟨z2, h⟩ := a_cond h
  cases h
  exact bX11_isPlace_7 (a_nz (of_decide_eq_true z2))

noncomputable def FX11_get (d : aI) (e : aJ) (x1 : Int32) (x2 : Int32) : Option (Int32 × aI × aJ) := (bif ((a_inb (((nI 12) + ((nI 3) * x1)) + x2) 1961)) then (some ((d 109 ((((nI 12) + ((nI 3) * x1)) + x2)).toNatClampNeg), d, e)) else none)
theorem evX11_get {Γ : aG × Launch} {d : aI} {e : aJ} {x1 : Int32} {x2 : Int32} {q : Int32 × aI × aJ} (h : FX11_get d e x1 x2 = some q) : Ev Γ (0) mX11_get [.ref 108, .int x1, .int x2] d e (some (.int q.1)) q.2.1 q.2.2 := by
  refine Ev.of (by decide) rfl (Nat.le_of_ble_eq_true rfl) (fun z => by cases z) ?_
  show Rn Γ (0) mX11_get 0 [some (.ref 108), some (.int x1), some (.int x2)] [] d e _ _ _
  unfold FX11_get at h
  obtain ⟨g1, h⟩ := a_cond h
  cases h
  exact bX11_get_0 (a_inb_vp g1)

noncomputable def FX11_lay (d : aI) (e : aJ) (x1 : Int32) (x2 : Int32) (x3 : Int32) : Option (Unit × aI × aJ) := (bif ((a_inb (((nI 12) + ((nI 3) * x1)) + x2) 1961)) then (some ((), (uI d 109 ((((nI 12) + ((nI 3) * x1)) + x2)).toNatClampNeg x3), e)) else none)
theorem evX11_lay {Γ : aG × Launch} {d : aI} {e : aJ} {x1 : Int32} {x2 : Int32} {x3 : Int32} {q : Unit × aI × aJ} (h : FX11_lay d e x1 x2 x3 = some q) : Ev Γ (0) mX11_lay [.ref 108, .int x1, .int x2, .int x3] d e none q.2.1 q.2.2 := by
  refine Ev.of (by decide) rfl (Nat.le_of_ble_eq_true rfl) (fun z => by cases z) ?_
  show Rn Γ (0) mX11_lay 0 [some (.ref 108), some (.int x1), some (.int x2), some (.int x3)] [] d e _ _ _
  unfold FX11_lay at h
  obtain ⟨g1, h⟩ := a_cond h
  cases h
  exact bX11_lay_0 (a_inb_vp g1)

noncomputable def FX11_getOf (d : aI) (e : aJ) (x1 : Int32) (x2 : Int32) : Option (Int32 × aI × aJ) := (bif ((a_inb (((nI 30) + ((nI 2) * x1)) + x2) 1961)) then (some ((d 109 ((((nI 30) + ((nI 2) * x1)) + x2)).toNatClampNeg), d, e)) else none)
theorem evX11_getOf {Γ : aG × Launch} {d : aI} {e : aJ} {x1 : Int32} {x2 : Int32} {q : Int32 × aI × aJ} (h : FX11_getOf d e x1 x2 = some q) : Ev Γ (0) mX11_getOf [.ref 108, .int x1, .int x2] d e (some (.int q.1)) q.2.1 q.2.2 := by
  refine Ev.of (by decide) rfl (Nat.le_of_ble_eq_true rfl) (fun z => by cases z) ?_
  show Rn Γ (0) mX11_getOf 0 [some (.ref 108), some (.int x1), some (.int x2)] [] d e _ _ _
  unfold FX11_getOf at h
  obtain ⟨g1, h⟩ := a_cond h
  cases h
  exact bX11_getOf_0 (a_inb_vp g1)

noncomputable def FX11_layOf (d : aI) (e : aJ) (x1 : Int32) (x2 : Int32) (x3 : Int32) : Option (Unit × aI × aJ) := (bif ((a_inb (((nI 30) + ((nI 2) * x1)) + x2) 1961)) then (some ((), (uI d 109 ((((nI 30) + ((nI 2) * x1)) + x2)).toNatClampNeg x3), e)) else none)
theorem evX11_layOf {Γ : aG × Launch} {d : aI} {e : aJ} {x1 : Int32} {x2 : Int32} {x3 : Int32} {q : Unit × aI × aJ} (h : FX11_layOf d e x1 x2 x3 = some q) : Ev Γ (0) mX11_layOf [.ref 108, .int x1, .int x2, .int x3] d e none q.2.1 q.2.2 := by
  refine Ev.of (by decide) rfl (Nat.le_of_ble_eq_true rfl) (fun z => by cases z) ?_
  show Rn Γ (0) mX11_layOf 0 [some (.ref 108), some (.int x1), some (.int x2), some (.int x3)] [] d e _ _ _
  unfold FX11_layOf at h
  obtain ⟨g1, h⟩ := a_cond h
  cases h
  exact bX11_layOf_0 (a_inb_vp g1)

noncomputable def FX11_isWithout (d : aI) (e : aJ) (x1 : Int32) : Option (Int32 × aI × aJ) := ((FX11_get d e x1 (nI 1)).bind fun q1 => (if q1.1 = (-(nI 1)) then (some ((nI 1), q1.2.1, q1.2.2)) else (some ((nI 0), q1.2.1, q1.2.2))))
theorem evX11_isWithout {Γ : aG × Launch} {d : aI} {e : aJ} {x1 : Int32} {q : Int32 × aI × aJ} (h : FX11_isWithout d e x1 = some q) : Ev Γ (1) mX11_isWithout [.ref 108, .int x1] d e (some (.int q.1)) q.2.1 q.2.2 := by
  refine Ev.of (by decide) rfl (Nat.le_of_ble_eq_true rfl) (fun z => by cases z) ?_
  show Rn Γ (1) mX11_isWithout 0 [some (.ref 108), some (.int x1)] [] d e _ _ _
  unfold FX11_isWithout at h
  obtain ⟨q1, hq1, h⟩ := Option.bind_eq_some_iff.mp h
  refine bX11_isWithout_0 (evX11_get hq1) (by omega) ?_
  refine a_ite h (fun c2 h => ?_) (fun c2 h => ?_)
  · refine bX11_isWithout_6 (fun z => absurd c2 z) (fun _ => ?_)
    refine bX11_isWithout_10 ?_
    cases h
    exact bX11_isWithout_15 (a_nz (Or.inr rfl))
  · refine bX11_isWithout_6 (fun _ => ?_) (fun z => absurd z c2)
    refine bX11_isWithout_14 ?_
    cases h
    exact bX11_isWithout_15 (a_nz (Or.inl rfl))

noncomputable def FX11_placeOf (d : aI) (e : aJ) (x1 : Int32) : Option (Int32 × aI × aJ) := ((FX11_isWithout d e x1).bind fun q1 => (if q1.1 = 0 then ((FX11_get q1.2.1 q1.2.2 x1 (nI 1)).bind fun q3 => (bif ((a_inb ((nI 42) + q3.1) 1961)) then (some ((q3.2.1 109 (((nI 42) + q3.1)).toNatClampNeg), q3.2.1, q3.2.2)) else none)) else ((FX11_get q1.2.1 q1.2.2 x1 (nI 0)).bind fun q5 => (some (q5.1, q5.2.1, q5.2.2)))))
theorem evX11_placeOf {Γ : aG × Launch} {d : aI} {e : aJ} {x1 : Int32} {q : Int32 × aI × aJ} (h : FX11_placeOf d e x1 = some q) : Ev Γ (2) mX11_placeOf [.ref 108, .int x1] d e (some (.int q.1)) q.2.1 q.2.2 := by
  refine Ev.of (by decide) rfl (Nat.le_of_ble_eq_true rfl) (fun z => by cases z) ?_
  show Rn Γ (2) mX11_placeOf 0 [some (.ref 108), some (.int x1)] [] d e _ _ _
  unfold FX11_placeOf at h
  obtain ⟨q1, hq1, h⟩ := Option.bind_eq_some_iff.mp h
  refine bX11_placeOf_0 (evX11_isWithout hq1) (by omega) ?_
  refine a_ite h (fun c2 h => ?_) (fun c2 h => ?_)
  · refine bX11_placeOf_5 (fun _ => ?_) (fun z => absurd c2 z)
    obtain ⟨q3, hq3, h⟩ := Option.bind_eq_some_iff.mp h
    refine bX11_placeOf_17 (evX11_get hq3) (by omega) ?_
    obtain ⟨g4, h⟩ := a_cond h
    refine bX11_placeOf_29 (a_inb_vp g4) ?_
    cases h
    exact bX11_placeOf_31
  · refine bX11_placeOf_5 (fun z => absurd z c2) (fun _ => ?_)
    obtain ⟨q5, hq5, h⟩ := Option.bind_eq_some_iff.mp h
    refine bX11_placeOf_8 (evX11_get hq5) (by omega) ?_
    refine bX11_placeOf_14 ?_
    cases h
    exact bX11_placeOf_31

noncomputable def sX11_catIn_0 (d : aI) (e : aJ) (x1 : Int32) : Option (Nat × aL × aI × aJ) := (some (2, [some (.ref 108), some (.int x1), some (.int (nI 0))], d, e))
theorem tX11_catIn_0 {Γ : aG × Launch} {d dF : aI} {e eF : aJ} {x1 : Int32} {r : Option Value} {p : Nat × aL × aI × aJ} (h : sX11_catIn_0 d e x1 = some p) (kc : Nat.beq p.1 100000 = false → Rn Γ (1) mX11_catIn p.1 p.2.1 [] p.2.2.1 p.2.2.2 r dF eF) (kr : p.1 = 100000 → r = a_rt p.2.1 ∧ dF = p.2.2.1 ∧ eF = p.2.2.2) : Rn Γ (1) mX11_catIn 0 [some (.ref 108), some (.int x1), none] [] d e r dF eF := by
  unfold sX11_catIn_0 at h
  refine bX11_catIn_0 ?_
  cases h
  exact kc rfl

noncomputable def sX11_catIn_2 (d : aI) (e : aJ) (x1 : Int32) (x2 : Int32) : Option (Nat × aL × aI × aJ) := (bif ((a_inb (nI 1) 1961)) then (if (d 109 1) ≤ x2 then (some (100000, [some (.int (-(nI 1)))], d, e)) else ((FX11_get d e x2 (nI 1)).bind fun q3 => (if q3.1 = x1 then (some (100000, [some (.int x2)], q3.2.1, q3.2.2)) else (some (2, [some (.ref 108), some (.int x1), some (.int (x2 + (nI 1)))], q3.2.1, q3.2.2))))) else none)
theorem tX11_catIn_2 {Γ : aG × Launch} {d dF : aI} {e eF : aJ} {x1 : Int32} {x2 : Int32} {r : Option Value} {p : Nat × aL × aI × aJ} (h : sX11_catIn_2 d e x1 x2 = some p) (kc : Nat.beq p.1 100000 = false → Rn Γ (1) mX11_catIn p.1 p.2.1 [] p.2.2.1 p.2.2.2 r dF eF) (kr : p.1 = 100000 → r = a_rt p.2.1 ∧ dF = p.2.2.1 ∧ eF = p.2.2.2) : Rn Γ (1) mX11_catIn 2 [some (.ref 108), some (.int x1), some (.int x2)] [] d e r dF eF := by
  unfold sX11_catIn_2 at h
  obtain ⟨g1, h⟩ := a_cond h
  refine a_ite h (fun c2 h => ?_) (fun c2 h => ?_)
  · refine bX11_catIn_2 (a_inb_vp g1) (fun _ => ?_) (fun z => absurd c2 z)
    cases h
    obtain ⟨k1, k2, k3⟩ := kr rfl
    exact bX11_catIn_30 k1 k2 k3
  · refine bX11_catIn_2 (a_inb_vp g1) (fun z => absurd z c2) (fun _ => ?_)
    obtain ⟨q3, hq3, h⟩ := Option.bind_eq_some_iff.mp h
    refine bX11_catIn_12 (evX11_get hq3) (by omega) ?_
    refine a_ite h (fun c4 h => ?_) (fun c4 h => ?_)
    · refine bX11_catIn_18 (fun z => absurd c4 z) (fun _ => ?_)
      cases h
      obtain ⟨k1, k2, k3⟩ := kr rfl
      exact bX11_catIn_22 k1 k2 k3
    · refine bX11_catIn_18 (fun _ => ?_) (fun z => absurd z c4)
      refine bX11_catIn_24 ?_
      cases h
      exact kc rfl

noncomputable def stX11_catIn (p : Nat × aL × aI × aJ) : Option (Nat × aL × aI × aJ) := match p with
  | (0, [some (.ref 108), some (.int x1), none], d, e) => sX11_catIn_0 d e x1
  | (2, [some (.ref 108), some (.int x1), some (.int x2)], d, e) => sX11_catIn_2 d e x1 x2
  | _ => none
theorem uX11_catIn {Γ : aG × Launch} {p p2 : Nat × aL × aI × aJ} {r : Option Value} {dF : aI} {eF : aJ} (h : stX11_catIn p = some p2) (kc : Nat.beq p2.1 100000 = false → Rn Γ (1) mX11_catIn p2.1 p2.2.1 [] p2.2.2.1 p2.2.2.2 r dF eF) (kr : p2.1 = 100000 → r = a_rt p2.2.1 ∧ dF = p2.2.2.1 ∧ eF = p2.2.2.2) : Rn Γ (1) mX11_catIn p.1 p.2.1 [] p.2.2.1 p.2.2.2 r dF eF := by
  unfold stX11_catIn at h
  split at h
  · exact tX11_catIn_0 h kc kr
  · exact tX11_catIn_2 h kc kr
  · cases h
noncomputable def FX11_catIn (d : aI) (e : aJ) (x1 : Int32) : Option (Int32 × aI × aJ) := (a_run (stX11_catIn) (0, [some (.ref 108), some (.int x1), none], d, e)).bind a_xI
theorem evX11_catIn {Γ : aG × Launch} {d : aI} {e : aJ} {x1 : Int32} {q : Int32 × aI × aJ} (h : FX11_catIn d e x1 = some q) : Ev Γ (1) mX11_catIn [.ref 108, .int x1] d e (some (.int q.1)) q.2.1 q.2.2 := by
  refine Ev.of (by decide) rfl (Nat.le_of_ble_eq_true rfl) (fun z => by cases z) ?_
  show Rn Γ (1) mX11_catIn 0 [some (.ref 108), some (.int x1), none] [] d e _ _ _
  obtain ⟨q1, h1, h2⟩ := Option.bind_eq_some_iff.mp h
  obtain ⟨e1, e2, e3⟩ := a_xI_rt h2
  exact Rn.cast (a_run_ok (uX11_catIn) rfl h1) e1.symm e2.symm e3.symm
noncomputable def FX11_apart (d : aI) (e : aJ) (x0 : Int32) (x1 : Int32) : Option (Int32 × aI × aJ) := (if x1 ≤ x0 then (if (x0 - x1) ≤ ((nI 10) - (x0 - x1)) then (some ((x0 - x1), d, e)) else (some (((nI 10) - (x0 - x1)), d, e))) else (if (x1 - x0) ≤ ((nI 10) - (x1 - x0)) then (some ((x1 - x0), d, e)) else (some (((nI 10) - (x1 - x0)), d, e))))
theorem evX11_apart {Γ : aG × Launch} {d : aI} {e : aJ} {x0 : Int32} {x1 : Int32} {q : Int32 × aI × aJ} (h : FX11_apart d e x0 x1 = some q) : Ev Γ (0) mX11_apart [.int x0, .int x1] d e (some (.int q.1)) q.2.1 q.2.2 := by
  refine Ev.of (by decide) rfl (Nat.le_of_ble_eq_true rfl) (fun z => by cases z) ?_
  show Rn Γ (0) mX11_apart 0 [some (.int x0), some (.int x1), none] [] d e _ _ _
  unfold FX11_apart at h
  refine a_ite h (fun c1 h => ?_) (fun c1 h => ?_)
  · refine bX11_apart_0 (fun _ => ?_) (fun z => absurd c1 z)
    refine bX11_apart_11 ?_
    refine a_ite h (fun c2 h => ?_) (fun c2 h => ?_)
    · refine bX11_apart_14 (fun _ => ?_) (fun z => absurd c2 z)
      refine bX11_apart_30 ?_
      cases h
      exact bX11_apart_31
    · refine bX11_apart_14 (fun z => absurd z c2) (fun _ => ?_)
      refine bX11_apart_23 ?_
      cases h
      exact bX11_apart_31
  · refine bX11_apart_0 (fun z => absurd z c1) (fun _ => ?_)
    refine bX11_apart_5 ?_
    refine a_ite h (fun c3 h => ?_) (fun c3 h => ?_)
    · refine bX11_apart_14 (fun _ => ?_) (fun z => absurd c3 z)
      refine bX11_apart_30 ?_
      cases h
      exact bX11_apart_31
    · refine bX11_apart_14 (fun z => absurd z c3) (fun _ => ?_)
      refine bX11_apart_23 ?_
      cases h
      exact bX11_apart_31

noncomputable def FX11_farOf (d : aI) (e : aJ) (x1 : Int32) (x2 : Int32) : Option (Int32 × aI × aJ) := ((FX11_placeOf d e x1).bind fun q1 => (bif ((a_inb ((nI 42) + x2) 1961)) then ((FX11_apart q1.2.1 q1.2.2 q1.1 (q1.2.1 109 (((nI 42) + x2)).toNatClampNeg)).bind fun q3 => (some (q3.1, q3.2.1, q3.2.2))) else none))
theorem evX11_farOf {Γ : aG × Launch} {d : aI} {e : aJ} {x1 : Int32} {x2 : Int32} {q : Int32 × aI × aJ} (h : FX11_farOf d e x1 x2 = some q) : Ev Γ (3) mX11_farOf [.ref 108, .int x1, .int x2] d e (some (.int q.1)) q.2.1 q.2.2 := by
  refine Ev.of (by decide) rfl (Nat.le_of_ble_eq_true rfl) (fun z => by cases z) ?_
  show Rn Γ (3) mX11_farOf 0 [some (.ref 108), some (.int x1), some (.int x2)] [] d e _ _ _
  unfold FX11_farOf at h
  obtain ⟨q1, hq1, h⟩ := Option.bind_eq_some_iff.mp h
  refine bX11_farOf_0 (evX11_placeOf hq1) (by omega) ?_
  obtain ⟨g2, h⟩ := a_cond h
  obtain ⟨q3, hq3, h⟩ := Option.bind_eq_some_iff.mp h
  refine bX11_farOf_5 (a_inb_vp g2) (evX11_apart hq3) (by omega) ?_
  cases h
  exact bX11_farOf_17

noncomputable def FX11_beginHouse (d : aI) (e : aJ) (x1 : Int32) : Option (Unit × aI × aJ) := (bif ((a_inb ((nI 48) + x1) 1961)) then ((FX11_layOf d e x1 (nI 0) (d 109 (((nI 48) + x1)).toNatClampNeg)).bind fun q2 => ((FX11_layOf q2.2.1 q2.2.2 x1 (nI 1) (nI 0)).bind fun q3 => (some ((), q3.2.1, q3.2.2)))) else none)
theorem evX11_beginHouse {Γ : aG × Launch} {d : aI} {e : aJ} {x1 : Int32} {q : Unit × aI × aJ} (h : FX11_beginHouse d e x1 = some q) : Ev Γ (1) mX11_beginHouse [.ref 108, .int x1] d e none q.2.1 q.2.2 := by
  refine Ev.of (by decide) rfl (Nat.le_of_ble_eq_true rfl) (fun z => by cases z) ?_
  show Rn Γ (1) mX11_beginHouse 0 [some (.ref 108), some (.int x1)] [] d e _ _ _
  unfold FX11_beginHouse at h
  obtain ⟨g1, h⟩ := a_cond h
  obtain ⟨q2, hq2, h⟩ := Option.bind_eq_some_iff.mp h
  refine bX11_beginHouse_0 (a_inb_vp g1) (evX11_layOf hq2) (by omega) ?_
  obtain ⟨q3, hq3, h⟩ := Option.bind_eq_some_iff.mp h
  refine bX11_beginHouse_15 (evX11_layOf hq3) (by omega) ?_
  cases h
  exact bX11_beginHouse_22

noncomputable def FX11_beginCat (d : aI) (e : aJ) (x1 : Int32) : Option (Unit × aI × aJ) := (bif ((a_inb ((nI 60) + x1) 1961)) then ((FX11_lay d e x1 (nI 0) (d 109 (((nI 60) + x1)).toNatClampNeg)).bind fun q2 => ((FX11_lay q2.2.1 q2.2.2 x1 (nI 1) (-(nI 1))).bind fun q3 => ((FX11_lay q3.2.1 q3.2.2 x1 (nI 2) (nI 0)).bind fun q4 => (some ((), q4.2.1, q4.2.2))))) else none)
theorem evX11_beginCat {Γ : aG × Launch} {d : aI} {e : aJ} {x1 : Int32} {q : Unit × aI × aJ} (h : FX11_beginCat d e x1 = some q) : Ev Γ (1) mX11_beginCat [.ref 108, .int x1] d e none q.2.1 q.2.2 := by
  refine Ev.of (by decide) rfl (Nat.le_of_ble_eq_true rfl) (fun z => by cases z) ?_
  show Rn Γ (1) mX11_beginCat 0 [some (.ref 108), some (.int x1)] [] d e _ _ _
  unfold FX11_beginCat at h
  obtain ⟨g1, h⟩ := a_cond h
  obtain ⟨q2, hq2, h⟩ := Option.bind_eq_some_iff.mp h
  refine bX11_beginCat_0 (a_inb_vp g1) (evX11_lay hq2) (by omega) ?_
  obtain ⟨q3, hq3, h⟩ := Option.bind_eq_some_iff.mp h
  refine bX11_beginCat_15 (evX11_lay hq3) (by omega) ?_
  obtain ⟨q4, hq4, h⟩ := Option.bind_eq_some_iff.mp h
  refine bX11_beginCat_22 (evX11_lay hq4) (by omega) ?_
  cases h
  exact bX11_beginCat_29

noncomputable def sX11_four_0 (d : aI) (e : aJ) (x1 : Int32) : Option (Nat × aL × aI × aJ) := (some (3, [some (.ref 108), some (.int x1), some (.int (nI 24))], d, e))
theorem tX11_four_0 {Γ : aG × Launch} {d dF : aI} {e eF : aJ} {x1 : Int32} {r : Option Value} {p : Nat × aL × aI × aJ} (h : sX11_four_0 d e x1 = some p) (kc : Nat.beq p.1 100000 = false → Rn Γ (0) mX11_four p.1 p.2.1 [] p.2.2.1 p.2.2.2 r dF eF) (kr : p.1 = 100000 → r = a_rt p.2.1 ∧ dF = p.2.2.1 ∧ eF = p.2.2.2) : Rn Γ (0) mX11_four 0 [some (.ref 108), some (.int x1), none] [] d e r dF eF := by
  unfold sX11_four_0 at h
  refine bX11_four_0 ?_
  cases h
  exact kc rfl

noncomputable def sX11_four_3 (d : aI) (e : aJ) (x1 : Int32) (x2 : Int32) : Option (Nat × aL × aI × aJ) := (if x2 < 0 then (some (100000, [], d, e)) else (bif ((a_inb (d 108 4) 300)) then (some (3, [some (.ref 108), some (.int x1), some (.int (x2 + (-(nI 8))))], (uI (uI d 112 ((d 108 4)).toNatClampNeg ((a_shr x1 x2) &&& (nI 255))) 108 4 ((d 108 4) + (nI 1))), e)) else none))
theorem tX11_four_3 {Γ : aG × Launch} {d dF : aI} {e eF : aJ} {x1 : Int32} {x2 : Int32} {r : Option Value} {p : Nat × aL × aI × aJ} (h : sX11_four_3 d e x1 x2 = some p) (kc : Nat.beq p.1 100000 = false → Rn Γ (0) mX11_four p.1 p.2.1 [] p.2.2.1 p.2.2.2 r dF eF) (kr : p.1 = 100000 → r = a_rt p.2.1 ∧ dF = p.2.2.1 ∧ eF = p.2.2.2) : Rn Γ (0) mX11_four 3 [some (.ref 108), some (.int x1), some (.int x2)] [] d e r dF eF := by
  unfold sX11_four_3 at h
  refine a_ite h (fun c1 h => ?_) (fun c1 h => ?_)
  · refine bX11_four_3 (fun _ => ?_) (fun z => absurd c1 z)
    cases h
    obtain ⟨k1, k2, k3⟩ := kr rfl
    exact bX11_four_39 k1 k2 k3
  · refine bX11_four_3 (fun z => absurd z c1) (fun _ => ?_)
    obtain ⟨g2, h⟩ := a_cond h
    refine bX11_four_7 (a_inb_vp g2) ?_
    cases h
    exact kc rfl

noncomputable def stX11_four (p : Nat × aL × aI × aJ) : Option (Nat × aL × aI × aJ) := match p with
  | (0, [some (.ref 108), some (.int x1), none], d, e) => sX11_four_0 d e x1
  | (3, [some (.ref 108), some (.int x1), some (.int x2)], d, e) => sX11_four_3 d e x1 x2
  | _ => none
theorem uX11_four {Γ : aG × Launch} {p p2 : Nat × aL × aI × aJ} {r : Option Value} {dF : aI} {eF : aJ} (h : stX11_four p = some p2) (kc : Nat.beq p2.1 100000 = false → Rn Γ (0) mX11_four p2.1 p2.2.1 [] p2.2.2.1 p2.2.2.2 r dF eF) (kr : p2.1 = 100000 → r = a_rt p2.2.1 ∧ dF = p2.2.2.1 ∧ eF = p2.2.2.2) : Rn Γ (0) mX11_four p.1 p.2.1 [] p.2.2.1 p.2.2.2 r dF eF := by
  unfold stX11_four at h
  split at h
  · exact tX11_four_0 h kc kr
  · exact tX11_four_3 h kc kr
  · cases h
noncomputable def FX11_four (d : aI) (e : aJ) (x1 : Int32) : Option (Unit × aI × aJ) := (a_run (stX11_four) (0, [some (.ref 108), some (.int x1), none], d, e)).bind a_xV
theorem evX11_four {Γ : aG × Launch} {d : aI} {e : aJ} {x1 : Int32} {q : Unit × aI × aJ} (h : FX11_four d e x1 = some q) : Ev Γ (0) mX11_four [.ref 108, .int x1] d e none q.2.1 q.2.2 := by
  refine Ev.of (by decide) rfl (Nat.le_of_ble_eq_true rfl) (fun z => by cases z) ?_
  show Rn Γ (0) mX11_four 0 [some (.ref 108), some (.int x1), none] [] d e _ _ _
  obtain ⟨q1, h1, h2⟩ := Option.bind_eq_some_iff.mp h
  obtain ⟨e1, e2, e3⟩ := a_xV_rt h2
  exact Rn.cast (a_run_ok (uX11_four) rfl h1) e1.symm e2.symm e3.symm
noncomputable def FX11_feed (d : aI) (e : aJ) (x1 : Int32) (x2 : Int32) (x3 : Int32) (x4 : Int32) (x5 : Int32) : Option (Int32 × aI × aJ) := (if ((d 108 4) + (nI 20)) ≤ (nI 300) then ((FX11_four d e x1).bind fun q2 => ((FX11_four q2.2.1 q2.2.2 x2).bind fun q3 => ((FX11_four q3.2.1 q3.2.2 x3).bind fun q4 => ((FX11_four q4.2.1 q4.2.2 x4).bind fun q5 => ((FX11_four q5.2.1 q5.2.2 x5).bind fun q6 => (some ((q6.2.1 108 4), q6.2.1, q6.2.2))))))) else (some ((-(nI 1)), d, e)))
theorem evX11_feed {Γ : aG × Launch} {d : aI} {e : aJ} {x1 : Int32} {x2 : Int32} {x3 : Int32} {x4 : Int32} {x5 : Int32} {q : Int32 × aI × aJ} (h : FX11_feed d e x1 x2 x3 x4 x5 = some q) : Ev Γ (1) mX11_feed [.ref 108, .int x1, .int x2, .int x3, .int x4, .int x5] d e (some (.int q.1)) q.2.1 q.2.2 := by
  refine Ev.of (by decide) rfl (Nat.le_of_ble_eq_true rfl) (fun z => by cases z) ?_
  show Rn Γ (1) mX11_feed 0 [some (.ref 108), some (.int x1), some (.int x2), some (.int x3), some (.int x4), some (.int x5)] [] d e _ _ _
  unfold FX11_feed at h
  refine a_ite h (fun c1 h => ?_) (fun c1 h => ?_)
  · refine bX11_feed_0 (fun _ => ?_) (fun z => absurd c1 z)
    obtain ⟨q2, hq2, h⟩ := Option.bind_eq_some_iff.mp h
    refine bX11_feed_15 (evX11_four hq2) (by omega) ?_
    obtain ⟨q3, hq3, h⟩ := Option.bind_eq_some_iff.mp h
    refine bX11_feed_20 (evX11_four hq3) (by omega) ?_
    obtain ⟨q4, hq4, h⟩ := Option.bind_eq_some_iff.mp h
    refine bX11_feed_25 (evX11_four hq4) (by omega) ?_
    obtain ⟨q5, hq5, h⟩ := Option.bind_eq_some_iff.mp h
    refine bX11_feed_30 (evX11_four hq5) (by omega) ?_
    obtain ⟨q6, hq6, h⟩ := Option.bind_eq_some_iff.mp h
    refine bX11_feed_36 (evX11_four hq6) (by omega) ?_
    cases h
    exact bX11_feed_42
  · refine bX11_feed_0 (fun z => absurd z c1) (fun _ => ?_)
    cases h
    exact bX11_feed_13

noncomputable def FX11_end (d : aI) (e : aJ) (x1 : Int32) : Option (Int32 × aI × aJ) := ((FX11_isIn d e x1 (nI 0) (d 108 4)).bind fun q1 => (if q1.1 = 0 then (some ((-(nI 1)), q1.2.1, q1.2.2)) else (some (x1, (uI q1.2.1 108 4 x1), q1.2.2))))
theorem evX11_end {Γ : aG × Launch} {d : aI} {e : aJ} {x1 : Int32} {q : Int32 × aI × aJ} (h : FX11_end d e x1 = some q) : Ev Γ (1) mX11_end [.ref 108, .int x1] d e (some (.int q.1)) q.2.1 q.2.2 := by
  refine Ev.of (by decide) rfl (Nat.le_of_ble_eq_true rfl) (fun z => by cases z) ?_
  show Rn Γ (1) mX11_end 0 [some (.ref 108), some (.int x1)] [] d e _ _ _
  unfold FX11_end at h
  obtain ⟨q1, hq1, h⟩ := Option.bind_eq_some_iff.mp h
  refine bX11_end_0 (evX11_isIn hq1) (by omega) ?_
  refine a_ite h (fun c2 h => ?_) (fun c2 h => ?_)
  · refine bX11_end_9 (fun z => absurd c2 z) (fun _ => ?_)
    cases h
    exact bX11_end_12
  · refine bX11_end_9 (fun _ => ?_) (fun z => absurd z c2)
    cases h
    exact bX11_end_14

noncomputable def FX11_byteAt (d : aI) (e : aJ) (x1 : Int32) : Option (Int32 × aI × aJ) := (if (d 108 4) ≤ x1 then (some ((-(nI 1)), d, e)) else (bif ((a_inb x1 300)) then (some ((d 112 (x1).toNatClampNeg), d, e)) else none))
theorem evX11_byteAt {Γ : aG × Launch} {d : aI} {e : aJ} {x1 : Int32} {q : Int32 × aI × aJ} (h : FX11_byteAt d e x1 = some q) : Ev Γ (0) mX11_byteAt [.ref 108, .int x1] d e (some (.int q.1)) q.2.1 q.2.2 := by
  refine Ev.of (by decide) rfl (Nat.le_of_ble_eq_true rfl) (fun z => by cases z) ?_
  show Rn Γ (0) mX11_byteAt 0 [some (.ref 108), some (.int x1)] [] d e _ _ _
  unfold FX11_byteAt at h
  refine a_ite h (fun c1 h => ?_) (fun c1 h => ?_)
  · refine bX11_byteAt_0 (fun _ => ?_) (fun z => absurd c1 z)
    refine bX11_byteAt_17 ?_
    cases h
    exact bX11_byteAt_18
  · refine bX11_byteAt_0 (fun z => absurd z c1) (fun _ => ?_)
    obtain ⟨g2, h⟩ := a_cond h
    refine bX11_byteAt_8 (a_inb_vp g2) ?_
    cases h
    exact bX11_byteAt_18

noncomputable def FX11_isLetterByte (d : aI) (e : aJ) (x0 : Int32) : Option (Int32 × aI × aJ) := (if x0 < (nI 97) then (if x0 < (nI 65) then (some ((nI 0), d, e)) else (if (nI 90) < x0 then (some ((nI 0), d, e)) else (some ((nI 1), d, e)))) else (if x0 ≤ (nI 122) then (some ((nI 1), d, e)) else (if x0 < (nI 65) then (some ((nI 0), d, e)) else (if (nI 90) < x0 then (some ((nI 0), d, e)) else (some ((nI 1), d, e))))))
theorem evX11_isLetterByte {Γ : aG × Launch} {d : aI} {e : aJ} {x0 : Int32} {q : Int32 × aI × aJ} (h : FX11_isLetterByte d e x0 = some q) : Ev Γ (0) mX11_isLetterByte [.int x0] d e (some (.int q.1)) q.2.1 q.2.2 := by
  refine Ev.of (by decide) rfl (Nat.le_of_ble_eq_true rfl) (fun z => by cases z) ?_
  show Rn Γ (0) mX11_isLetterByte 0 [some (.int x0)] [] d e _ _ _
  unfold FX11_isLetterByte at h
  refine a_ite h (fun c1 h => ?_) (fun c1 h => ?_)
  · refine bX11_isLetterByte_0 (fun _ => ?_) (fun z => absurd c1 z)
    refine a_ite h (fun c2 h => ?_) (fun c2 h => ?_)
    · refine bX11_isLetterByte_12 (fun _ => ?_) (fun z => absurd c2 z)
      refine bX11_isLetterByte_28 ?_
      cases h
      exact bX11_isLetterByte_29 (a_nz (Or.inl rfl))
    · refine bX11_isLetterByte_12 (fun z => absurd z c2) (fun _ => ?_)
      refine a_ite h (fun c3 h => ?_) (fun c3 h => ?_)
      · refine bX11_isLetterByte_18 (fun _ => ?_) (fun z => absurd c3 z)
        refine bX11_isLetterByte_28 ?_
        cases h
        exact bX11_isLetterByte_29 (a_nz (Or.inl rfl))
      · refine bX11_isLetterByte_18 (fun z => absurd z c3) (fun _ => ?_)
        refine bX11_isLetterByte_24 ?_
        cases h
        exact bX11_isLetterByte_29 (a_nz (Or.inr rfl))
  · refine bX11_isLetterByte_0 (fun z => absurd z c1) (fun _ => ?_)
    refine a_ite h (fun c4 h => ?_) (fun c4 h => ?_)
    · refine bX11_isLetterByte_6 (fun _ => ?_) (fun z => absurd c4 z)
      refine bX11_isLetterByte_24 ?_
      cases h
      exact bX11_isLetterByte_29 (a_nz (Or.inr rfl))
    · refine bX11_isLetterByte_6 (fun z => absurd z c4) (fun _ => ?_)
      refine a_ite h (fun c5 h => ?_) (fun c5 h => ?_)
      · refine bX11_isLetterByte_12 (fun _ => ?_) (fun z => absurd c5 z)
        refine bX11_isLetterByte_28 ?_
        cases h
        exact bX11_isLetterByte_29 (a_nz (Or.inl rfl))
      · refine bX11_isLetterByte_12 (fun z => absurd z c5) (fun _ => ?_)
        refine a_ite h (fun c6 h => ?_) (fun c6 h => ?_)
        · refine bX11_isLetterByte_18 (fun _ => ?_) (fun z => absurd c6 z)
          refine bX11_isLetterByte_28 ?_
          cases h
          exact bX11_isLetterByte_29 (a_nz (Or.inl rfl))
        · refine bX11_isLetterByte_18 (fun z => absurd z c6) (fun _ => ?_)
          refine bX11_isLetterByte_24 ?_
          cases h
          exact bX11_isLetterByte_29 (a_nz (Or.inr rfl))

noncomputable def FX11_isFigure (d : aI) (e : aJ) (x0 : Int32) : Option (Int32 × aI × aJ) := (if x0 < (nI 48) then (some ((nI 0), d, e)) else (if (nI 57) < x0 then (some ((nI 0), d, e)) else (some ((nI 1), d, e))))
theorem evX11_isFigure {Γ : aG × Launch} {d : aI} {e : aJ} {x0 : Int32} {q : Int32 × aI × aJ} (h : FX11_isFigure d e x0 = some q) : Ev Γ (0) mX11_isFigure [.int x0] d e (some (.int q.1)) q.2.1 q.2.2 := by
  refine Ev.of (by decide) rfl (Nat.le_of_ble_eq_true rfl) (fun z => by cases z) ?_
  show Rn Γ (0) mX11_isFigure 0 [some (.int x0)] [] d e _ _ _
  unfold FX11_isFigure at h
  refine a_ite h (fun c1 h => ?_) (fun c1 h => ?_)
  · refine bX11_isFigure_0 (fun _ => ?_) (fun z => absurd c1 z)
    refine bX11_isFigure_16 ?_
    cases h
    exact bX11_isFigure_17 (a_nz (Or.inl rfl))
  · refine bX11_isFigure_0 (fun z => absurd z c1) (fun _ => ?_)
    refine a_ite h (fun c2 h => ?_) (fun c2 h => ?_)
    · refine bX11_isFigure_6 (fun _ => ?_) (fun z => absurd c2 z)
      refine bX11_isFigure_16 ?_
      cases h
      exact bX11_isFigure_17 (a_nz (Or.inl rfl))
    · refine bX11_isFigure_6 (fun z => absurd z c2) (fun _ => ?_)
      refine bX11_isFigure_12 ?_
      cases h
      exact bX11_isFigure_17 (a_nz (Or.inr rfl))

noncomputable def FX11_isSign (d : aI) (e : aJ) (x0 : Int32) : Option (Int32 × aI × aJ) := (if x0 = (nI 35) then (some ((nI 1), d, e)) else (if x0 = (nI 36) then (some ((nI 0), d, e)) else (if x0 = (nI 37) then (some ((nI 0), d, e)) else (if x0 = (nI 38) then (some ((nI 0), d, e)) else (if x0 = (nI 39) then (some ((nI 0), d, e)) else (if x0 = (nI 40) then (some ((nI 1), d, e)) else (if x0 = (nI 41) then (some ((nI 1), d, e)) else (if x0 = (nI 42) then (some ((nI 1), d, e)) else (if x0 = (nI 43) then (some ((nI 1), d, e)) else (if x0 = (nI 44) then (some ((nI 0), d, e)) else (if x0 = (nI 45) then (some ((nI 1), d, e)) else (if x0 = (nI 46) then (some ((nI 0), d, e)) else (if x0 = (nI 47) then (some ((nI 1), d, e)) else (if x0 = (nI 48) then (some ((nI 0), d, e)) else (if x0 = (nI 49) then (some ((nI 0), d, e)) else (if x0 = (nI 50) then (some ((nI 0), d, e)) else (if x0 = (nI 51) then (some ((nI 0), d, e)) else (if x0 = (nI 52) then (some ((nI 0), d, e)) else (if x0 = (nI 53) then (some ((nI 0), d, e)) else (if x0 = (nI 54) then (some ((nI 0), d, e)) else (if x0 = (nI 55) then (some ((nI 0), d, e)) else (if x0 = (nI 56) then (some ((nI 0), d, e)) else (if x0 = (nI 57) then (some ((nI 0), d, e)) else (if x0 = (nI 58) then (some ((nI 1), d, e)) else (if x0 = (nI 59) then (some ((nI 1), d, e)) else (if x0 = (nI 60) then (some ((nI 1), d, e)) else (if x0 = (nI 61) then (some ((nI 1), d, e)) else (if x0 = (nI 62) then (some ((nI 1), d, e)) else (some ((nI 0), d, e))))))))))))))))))))))))))))))
theorem evX11_isSign {Γ : aG × Launch} {d : aI} {e : aJ} {x0 : Int32} {q : Int32 × aI × aJ} (h : FX11_isSign d e x0 = some q) : Ev Γ (0) mX11_isSign [.int x0] d e (some (.int q.1)) q.2.1 q.2.2 := by
  refine Ev.of (by decide) rfl (Nat.le_of_ble_eq_true rfl) (fun z => by cases z) ?_
  show Rn Γ (0) mX11_isSign 0 [some (.int x0)] [] d e _ _ _
  unfold FX11_isSign at h
  refine a_ite h (fun c1 h => ?_) (fun c1 h => ?_)
  · refine bX11_isSign_0 (fun n0 _ _ _ _ _ _ _ _ _ _ _ _ _ _ _ _ _ _ _ _ _ _ _ _ _ _ _ => absurd c1 n0) (fun _ => ?_) (fun z => absurd (c1.symm.trans z) (by decide)) (fun z => absurd (c1.symm.trans z) (by decide)) (fun z => absurd (c1.symm.trans z) (by decide)) (fun z => absurd (c1.symm.trans z) (by decide)) (fun z => absurd (c1.symm.trans z) (by decide)) (fun z => absurd (c1.symm.trans z) (by decide)) (fun z => absurd (c1.symm.trans z) (by decide)) (fun z => absurd (c1.symm.trans z) (by decide)) (fun z => absurd (c1.symm.trans z) (by decide)) (fun z => absurd (c1.symm.trans z) (by decide)) (fun z => absurd (c1.symm.trans z) (by decide)) (fun z => absurd (c1.symm.trans z) (by decide)) (fun z => absurd (c1.symm.trans z) (by decide)) (fun z => absurd (c1.symm.trans z) (by decide)) (fun z => absurd (c1.symm.trans z) (by decide)) (fun z => absurd (c1.symm.trans z) (by decide)) (fun z => absurd (c1.symm.trans z) (by decide)) (fun z => absurd (c1.symm.trans z) (by decide)) (fun z => absurd (c1.symm.trans z) (by decide)) (fun z => absurd (c1.symm.trans z) (by decide)) (fun z => absurd (c1.symm.trans z) (by decide)) (fun z => absurd (c1.symm.trans z) (by decide)) (fun z => absurd (c1.symm.trans z) (by decide)) (fun z => absurd (c1.symm.trans z) (by decide)) (fun z => absurd (c1.symm.trans z) (by decide)) (fun z => absurd (c1.symm.trans z) (by decide)) (fun z => absurd (c1.symm.trans z) (by decide))
    cases h
    exact bX11_isSign_128
  · skip
    refine a_ite h (fun c2 h => ?_) (fun c2 h => ?_)
    · refine bX11_isSign_0 (fun _ n1 _ _ _ _ _ _ _ _ _ _ _ _ _ _ _ _ _ _ _ _ _ _ _ _ _ _ => absurd c2 n1) (fun z => absurd z c1) (fun _ => ?_) (fun z => absurd (c2.symm.trans z) (by decide)) (fun z => absurd (c2.symm.trans z) (by decide)) (fun z => absurd (c2.symm.trans z) (by decide)) (fun z => absurd (c2.symm.trans z) (by decide)) (fun z => absurd (c2.symm.trans z) (by decide)) (fun z => absurd (c2.symm.trans z) (by decide)) (fun z => absurd (c2.symm.trans z) (by decide)) (fun z => absurd (c2.symm.trans z) (by decide)) (fun z => absurd (c2.symm.trans z) (by decide)) (fun z => absurd (c2.symm.trans z) (by decide)) (fun z => absurd (c2.symm.trans z) (by decide)) (fun z => absurd (c2.symm.trans z) (by decide)) (fun z => absurd (c2.symm.trans z) (by decide)) (fun z => absurd (c2.symm.trans z) (by decide)) (fun z => absurd (c2.symm.trans z) (by decide)) (fun z => absurd (c2.symm.trans z) (by decide)) (fun z => absurd (c2.symm.trans z) (by decide)) (fun z => absurd (c2.symm.trans z) (by decide)) (fun z => absurd (c2.symm.trans z) (by decide)) (fun z => absurd (c2.symm.trans z) (by decide)) (fun z => absurd (c2.symm.trans z) (by decide)) (fun z => absurd (c2.symm.trans z) (by decide)) (fun z => absurd (c2.symm.trans z) (by decide)) (fun z => absurd (c2.symm.trans z) (by decide)) (fun z => absurd (c2.symm.trans z) (by decide)) (fun z => absurd (c2.symm.trans z) (by decide))
      cases h
      exact bX11_isSign_130
    · skip
      refine a_ite h (fun c3 h => ?_) (fun c3 h => ?_)
      · refine bX11_isSign_0 (fun _ _ n2 _ _ _ _ _ _ _ _ _ _ _ _ _ _ _ _ _ _ _ _ _ _ _ _ _ => absurd c3 n2) (fun z => absurd z c1) (fun z => absurd z c2) (fun _ => ?_) (fun z => absurd (c3.symm.trans z) (by decide)) (fun z => absurd (c3.symm.trans z) (by decide)) (fun z => absurd (c3.symm.trans z) (by decide)) (fun z => absurd (c3.symm.trans z) (by decide)) (fun z => absurd (c3.symm.trans z) (by decide)) (fun z => absurd (c3.symm.trans z) (by decide)) (fun z => absurd (c3.symm.trans z) (by decide)) (fun z => absurd (c3.symm.trans z) (by decide)) (fun z => absurd (c3.symm.trans z) (by decide)) (fun z => absurd (c3.symm.trans z) (by decide)) (fun z => absurd (c3.symm.trans z) (by decide)) (fun z => absurd (c3.symm.trans z) (by decide)) (fun z => absurd (c3.symm.trans z) (by decide)) (fun z => absurd (c3.symm.trans z) (by decide)) (fun z => absurd (c3.symm.trans z) (by decide)) (fun z => absurd (c3.symm.trans z) (by decide)) (fun z => absurd (c3.symm.trans z) (by decide)) (fun z => absurd (c3.symm.trans z) (by decide)) (fun z => absurd (c3.symm.trans z) (by decide)) (fun z => absurd (c3.symm.trans z) (by decide)) (fun z => absurd (c3.symm.trans z) (by decide)) (fun z => absurd (c3.symm.trans z) (by decide)) (fun z => absurd (c3.symm.trans z) (by decide)) (fun z => absurd (c3.symm.trans z) (by decide)) (fun z => absurd (c3.symm.trans z) (by decide))
        cases h
        exact bX11_isSign_130
      · skip
        refine a_ite h (fun c4 h => ?_) (fun c4 h => ?_)
        · refine bX11_isSign_0 (fun _ _ _ n3 _ _ _ _ _ _ _ _ _ _ _ _ _ _ _ _ _ _ _ _ _ _ _ _ => absurd c4 n3) (fun z => absurd z c1) (fun z => absurd z c2) (fun z => absurd z c3) (fun _ => ?_) (fun z => absurd (c4.symm.trans z) (by decide)) (fun z => absurd (c4.symm.trans z) (by decide)) (fun z => absurd (c4.symm.trans z) (by decide)) (fun z => absurd (c4.symm.trans z) (by decide)) (fun z => absurd (c4.symm.trans z) (by decide)) (fun z => absurd (c4.symm.trans z) (by decide)) (fun z => absurd (c4.symm.trans z) (by decide)) (fun z => absurd (c4.symm.trans z) (by decide)) (fun z => absurd (c4.symm.trans z) (by decide)) (fun z => absurd (c4.symm.trans z) (by decide)) (fun z => absurd (c4.symm.trans z) (by decide)) (fun z => absurd (c4.symm.trans z) (by decide)) (fun z => absurd (c4.symm.trans z) (by decide)) (fun z => absurd (c4.symm.trans z) (by decide)) (fun z => absurd (c4.symm.trans z) (by decide)) (fun z => absurd (c4.symm.trans z) (by decide)) (fun z => absurd (c4.symm.trans z) (by decide)) (fun z => absurd (c4.symm.trans z) (by decide)) (fun z => absurd (c4.symm.trans z) (by decide)) (fun z => absurd (c4.symm.trans z) (by decide)) (fun z => absurd (c4.symm.trans z) (by decide)) (fun z => absurd (c4.symm.trans z) (by decide)) (fun z => absurd (c4.symm.trans z) (by decide)) (fun z => absurd (c4.symm.trans z) (by decide))
          cases h
          exact bX11_isSign_130
        · skip
          refine a_ite h (fun c5 h => ?_) (fun c5 h => ?_)
          · refine bX11_isSign_0 (fun _ _ _ _ n4 _ _ _ _ _ _ _ _ _ _ _ _ _ _ _ _ _ _ _ _ _ _ _ => absurd c5 n4) (fun z => absurd z c1) (fun z => absurd z c2) (fun z => absurd z c3) (fun z => absurd z c4) (fun _ => ?_) (fun z => absurd (c5.symm.trans z) (by decide)) (fun z => absurd (c5.symm.trans z) (by decide)) (fun z => absurd (c5.symm.trans z) (by decide)) (fun z => absurd (c5.symm.trans z) (by decide)) (fun z => absurd (c5.symm.trans z) (by decide)) (fun z => absurd (c5.symm.trans z) (by decide)) (fun z => absurd (c5.symm.trans z) (by decide)) (fun z => absurd (c5.symm.trans z) (by decide)) (fun z => absurd (c5.symm.trans z) (by decide)) (fun z => absurd (c5.symm.trans z) (by decide)) (fun z => absurd (c5.symm.trans z) (by decide)) (fun z => absurd (c5.symm.trans z) (by decide)) (fun z => absurd (c5.symm.trans z) (by decide)) (fun z => absurd (c5.symm.trans z) (by decide)) (fun z => absurd (c5.symm.trans z) (by decide)) (fun z => absurd (c5.symm.trans z) (by decide)) (fun z => absurd (c5.symm.trans z) (by decide)) (fun z => absurd (c5.symm.trans z) (by decide)) (fun z => absurd (c5.symm.trans z) (by decide)) (fun z => absurd (c5.symm.trans z) (by decide)) (fun z => absurd (c5.symm.trans z) (by decide)) (fun z => absurd (c5.symm.trans z) (by decide)) (fun z => absurd (c5.symm.trans z) (by decide))
            cases h
            exact bX11_isSign_130
          · skip
            refine a_ite h (fun c6 h => ?_) (fun c6 h => ?_)
            · refine bX11_isSign_0 (fun _ _ _ _ _ n5 _ _ _ _ _ _ _ _ _ _ _ _ _ _ _ _ _ _ _ _ _ _ => absurd c6 n5) (fun z => absurd z c1) (fun z => absurd z c2) (fun z => absurd z c3) (fun z => absurd z c4) (fun z => absurd z c5) (fun _ => ?_) (fun z => absurd (c6.symm.trans z) (by decide)) (fun z => absurd (c6.symm.trans z) (by decide)) (fun z => absurd (c6.symm.trans z) (by decide)) (fun z => absurd (c6.symm.trans z) (by decide)) (fun z => absurd (c6.symm.trans z) (by decide)) (fun z => absurd (c6.symm.trans z) (by decide)) (fun z => absurd (c6.symm.trans z) (by decide)) (fun z => absurd (c6.symm.trans z) (by decide)) (fun z => absurd (c6.symm.trans z) (by decide)) (fun z => absurd (c6.symm.trans z) (by decide)) (fun z => absurd (c6.symm.trans z) (by decide)) (fun z => absurd (c6.symm.trans z) (by decide)) (fun z => absurd (c6.symm.trans z) (by decide)) (fun z => absurd (c6.symm.trans z) (by decide)) (fun z => absurd (c6.symm.trans z) (by decide)) (fun z => absurd (c6.symm.trans z) (by decide)) (fun z => absurd (c6.symm.trans z) (by decide)) (fun z => absurd (c6.symm.trans z) (by decide)) (fun z => absurd (c6.symm.trans z) (by decide)) (fun z => absurd (c6.symm.trans z) (by decide)) (fun z => absurd (c6.symm.trans z) (by decide)) (fun z => absurd (c6.symm.trans z) (by decide))
              cases h
              exact bX11_isSign_128
            · skip
              refine a_ite h (fun c7 h => ?_) (fun c7 h => ?_)
              · refine bX11_isSign_0 (fun _ _ _ _ _ _ n6 _ _ _ _ _ _ _ _ _ _ _ _ _ _ _ _ _ _ _ _ _ => absurd c7 n6) (fun z => absurd z c1) (fun z => absurd z c2) (fun z => absurd z c3) (fun z => absurd z c4) (fun z => absurd z c5) (fun z => absurd z c6) (fun _ => ?_) (fun z => absurd (c7.symm.trans z) (by decide)) (fun z => absurd (c7.symm.trans z) (by decide)) (fun z => absurd (c7.symm.trans z) (by decide)) (fun z => absurd (c7.symm.trans z) (by decide)) (fun z => absurd (c7.symm.trans z) (by decide)) (fun z => absurd (c7.symm.trans z) (by decide)) (fun z => absurd (c7.symm.trans z) (by decide)) (fun z => absurd (c7.symm.trans z) (by decide)) (fun z => absurd (c7.symm.trans z) (by decide)) (fun z => absurd (c7.symm.trans z) (by decide)) (fun z => absurd (c7.symm.trans z) (by decide)) (fun z => absurd (c7.symm.trans z) (by decide)) (fun z => absurd (c7.symm.trans z) (by decide)) (fun z => absurd (c7.symm.trans z) (by decide)) (fun z => absurd (c7.symm.trans z) (by decide)) (fun z => absurd (c7.symm.trans z) (by decide)) (fun z => absurd (c7.symm.trans z) (by decide)) (fun z => absurd (c7.symm.trans z) (by decide)) (fun z => absurd (c7.symm.trans z) (by decide)) (fun z => absurd (c7.symm.trans z) (by decide)) (fun z => absurd (c7.symm.trans z) (by decide))
                cases h
                exact bX11_isSign_128
              · skip
                refine a_ite h (fun c8 h => ?_) (fun c8 h => ?_)
                · refine bX11_isSign_0 (fun _ _ _ _ _ _ _ n7 _ _ _ _ _ _ _ _ _ _ _ _ _ _ _ _ _ _ _ _ => absurd c8 n7) (fun z => absurd z c1) (fun z => absurd z c2) (fun z => absurd z c3) (fun z => absurd z c4) (fun z => absurd z c5) (fun z => absurd z c6) (fun z => absurd z c7) (fun _ => ?_) (fun z => absurd (c8.symm.trans z) (by decide)) (fun z => absurd (c8.symm.trans z) (by decide)) (fun z => absurd (c8.symm.trans z) (by decide)) (fun z => absurd (c8.symm.trans z) (by decide)) (fun z => absurd (c8.symm.trans z) (by decide)) (fun z => absurd (c8.symm.trans z) (by decide)) (fun z => absurd (c8.symm.trans z) (by decide)) (fun z => absurd (c8.symm.trans z) (by decide)) (fun z => absurd (c8.symm.trans z) (by decide)) (fun z => absurd (c8.symm.trans z) (by decide)) (fun z => absurd (c8.symm.trans z) (by decide)) (fun z => absurd (c8.symm.trans z) (by decide)) (fun z => absurd (c8.symm.trans z) (by decide)) (fun z => absurd (c8.symm.trans z) (by decide)) (fun z => absurd (c8.symm.trans z) (by decide)) (fun z => absurd (c8.symm.trans z) (by decide)) (fun z => absurd (c8.symm.trans z) (by decide)) (fun z => absurd (c8.symm.trans z) (by decide)) (fun z => absurd (c8.symm.trans z) (by decide)) (fun z => absurd (c8.symm.trans z) (by decide))
                  cases h
                  exact bX11_isSign_128
                · skip
                  refine a_ite h (fun c9 h => ?_) (fun c9 h => ?_)
                  · refine bX11_isSign_0 (fun _ _ _ _ _ _ _ _ n8 _ _ _ _ _ _ _ _ _ _ _ _ _ _ _ _ _ _ _ => absurd c9 n8) (fun z => absurd z c1) (fun z => absurd z c2) (fun z => absurd z c3) (fun z => absurd z c4) (fun z => absurd z c5) (fun z => absurd z c6) (fun z => absurd z c7) (fun z => absurd z c8) (fun _ => ?_) (fun z => absurd (c9.symm.trans z) (by decide)) (fun z => absurd (c9.symm.trans z) (by decide)) (fun z => absurd (c9.symm.trans z) (by decide)) (fun z => absurd (c9.symm.trans z) (by decide)) (fun z => absurd (c9.symm.trans z) (by decide)) (fun z => absurd (c9.symm.trans z) (by decide)) (fun z => absurd (c9.symm.trans z) (by decide)) (fun z => absurd (c9.symm.trans z) (by decide)) (fun z => absurd (c9.symm.trans z) (by decide)) (fun z => absurd (c9.symm.trans z) (by decide)) (fun z => absurd (c9.symm.trans z) (by decide)) (fun z => absurd (c9.symm.trans z) (by decide)) (fun z => absurd (c9.symm.trans z) (by decide)) (fun z => absurd (c9.symm.trans z) (by decide)) (fun z => absurd (c9.symm.trans z) (by decide)) (fun z => absurd (c9.symm.trans z) (by decide)) (fun z => absurd (c9.symm.trans z) (by decide)) (fun z => absurd (c9.symm.trans z) (by decide)) (fun z => absurd (c9.symm.trans z) (by decide))
                    cases h
                    exact bX11_isSign_128
                  · skip
                    refine a_ite h (fun c10 h => ?_) (fun c10 h => ?_)
                    · refine bX11_isSign_0 (fun _ _ _ _ _ _ _ _ _ n9 _ _ _ _ _ _ _ _ _ _ _ _ _ _ _ _ _ _ => absurd c10 n9) (fun z => absurd z c1) (fun z => absurd z c2) (fun z => absurd z c3) (fun z => absurd z c4) (fun z => absurd z c5) (fun z => absurd z c6) (fun z => absurd z c7) (fun z => absurd z c8) (fun z => absurd z c9) (fun _ => ?_) (fun z => absurd (c10.symm.trans z) (by decide)) (fun z => absurd (c10.symm.trans z) (by decide)) (fun z => absurd (c10.symm.trans z) (by decide)) (fun z => absurd (c10.symm.trans z) (by decide)) (fun z => absurd (c10.symm.trans z) (by decide)) (fun z => absurd (c10.symm.trans z) (by decide)) (fun z => absurd (c10.symm.trans z) (by decide)) (fun z => absurd (c10.symm.trans z) (by decide)) (fun z => absurd (c10.symm.trans z) (by decide)) (fun z => absurd (c10.symm.trans z) (by decide)) (fun z => absurd (c10.symm.trans z) (by decide)) (fun z => absurd (c10.symm.trans z) (by decide)) (fun z => absurd (c10.symm.trans z) (by decide)) (fun z => absurd (c10.symm.trans z) (by decide)) (fun z => absurd (c10.symm.trans z) (by decide)) (fun z => absurd (c10.symm.trans z) (by decide)) (fun z => absurd (c10.symm.trans z) (by decide)) (fun z => absurd (c10.symm.trans z) (by decide))
                      cases h
                      exact bX11_isSign_130
                    · skip
                      refine a_ite h (fun c11 h => ?_) (fun c11 h => ?_)
                      · refine bX11_isSign_0 (fun _ _ _ _ _ _ _ _ _ _ n10 _ _ _ _ _ _ _ _ _ _ _ _ _ _ _ _ _ => absurd c11 n10) (fun z => absurd z c1) (fun z => absurd z c2) (fun z => absurd z c3) (fun z => absurd z c4) (fun z => absurd z c5) (fun z => absurd z c6) (fun z => absurd z c7) (fun z => absurd z c8) (fun z => absurd z c9) (fun z => absurd z c10) (fun _ => ?_) (fun z => absurd (c11.symm.trans z) (by decide)) (fun z => absurd (c11.symm.trans z) (by decide)) (fun z => absurd (c11.symm.trans z) (by decide)) (fun z => absurd (c11.symm.trans z) (by decide)) (fun z => absurd (c11.symm.trans z) (by decide)) (fun z => absurd (c11.symm.trans z) (by decide)) (fun z => absurd (c11.symm.trans z) (by decide)) (fun z => absurd (c11.symm.trans z) (by decide)) (fun z => absurd (c11.symm.trans z) (by decide)) (fun z => absurd (c11.symm.trans z) (by decide)) (fun z => absurd (c11.symm.trans z) (by decide)) (fun z => absurd (c11.symm.trans z) (by decide)) (fun z => absurd (c11.symm.trans z) (by decide)) (fun z => absurd (c11.symm.trans z) (by decide)) (fun z => absurd (c11.symm.trans z) (by decide)) (fun z => absurd (c11.symm.trans z) (by decide)) (fun z => absurd (c11.symm.trans z) (by decide))
                        cases h
                        exact bX11_isSign_128
                      · skip
                        refine a_ite h (fun c12 h => ?_) (fun c12 h => ?_)
                        · refine bX11_isSign_0 (fun _ _ _ _ _ _ _ _ _ _ _ n11 _ _ _ _ _ _ _ _ _ _ _ _ _ _ _ _ => absurd c12 n11) (fun z => absurd z c1) (fun z => absurd z c2) (fun z => absurd z c3) (fun z => absurd z c4) (fun z => absurd z c5) (fun z => absurd z c6) (fun z => absurd z c7) (fun z => absurd z c8) (fun z => absurd z c9) (fun z => absurd z c10) (fun z => absurd z c11) (fun _ => ?_) (fun z => absurd (c12.symm.trans z) (by decide)) (fun z => absurd (c12.symm.trans z) (by decide)) (fun z => absurd (c12.symm.trans z) (by decide)) (fun z => absurd (c12.symm.trans z) (by decide)) (fun z => absurd (c12.symm.trans z) (by decide)) (fun z => absurd (c12.symm.trans z) (by decide)) (fun z => absurd (c12.symm.trans z) (by decide)) (fun z => absurd (c12.symm.trans z) (by decide)) (fun z => absurd (c12.symm.trans z) (by decide)) (fun z => absurd (c12.symm.trans z) (by decide)) (fun z => absurd (c12.symm.trans z) (by decide)) (fun z => absurd (c12.symm.trans z) (by decide)) (fun z => absurd (c12.symm.trans z) (by decide)) (fun z => absurd (c12.symm.trans z) (by decide)) (fun z => absurd (c12.symm.trans z) (by decide)) (fun z => absurd (c12.symm.trans z) (by decide))
                          cases h
                          exact bX11_isSign_130
                        · skip
                          refine a_ite h (fun c13 h => ?_) (fun c13 h => ?_)
                          · refine bX11_isSign_0 (fun _ _ _ _ _ _ _ _ _ _ _ _ n12 _ _ _ _ _ _ _ _ _ _ _ _ _ _ _ => absurd c13 n12) (fun z => absurd z c1) (fun z => absurd z c2) (fun z => absurd z c3) (fun z => absurd z c4) (fun z => absurd z c5) (fun z => absurd z c6) (fun z => absurd z c7) (fun z => absurd z c8) (fun z => absurd z c9) (fun z => absurd z c10) (fun z => absurd z c11) (fun z => absurd z c12) (fun _ => ?_) (fun z => absurd (c13.symm.trans z) (by decide)) (fun z => absurd (c13.symm.trans z) (by decide)) (fun z => absurd (c13.symm.trans z) (by decide)) (fun z => absurd (c13.symm.trans z) (by decide)) (fun z => absurd (c13.symm.trans z) (by decide)) (fun z => absurd (c13.symm.trans z) (by decide)) (fun z => absurd (c13.symm.trans z) (by decide)) (fun z => absurd (c13.symm.trans z) (by decide)) (fun z => absurd (c13.symm.trans z) (by decide)) (fun z => absurd (c13.symm.trans z) (by decide)) (fun z => absurd (c13.symm.trans z) (by decide)) (fun z => absurd (c13.symm.trans z) (by decide)) (fun z => absurd (c13.symm.trans z) (by decide)) (fun z => absurd (c13.symm.trans z) (by decide)) (fun z => absurd (c13.symm.trans z) (by decide))
                            cases h
                            exact bX11_isSign_128
                          · skip
                            refine a_ite h (fun c14 h => ?_) (fun c14 h => ?_)
                            · refine bX11_isSign_0 (fun _ _ _ _ _ _ _ _ _ _ _ _ _ n13 _ _ _ _ _ _ _ _ _ _ _ _ _ _ => absurd c14 n13) (fun z => absurd z c1) (fun z => absurd z c2) (fun z => absurd z c3) (fun z => absurd z c4) (fun z => absurd z c5) (fun z => absurd z c6) (fun z => absurd z c7) (fun z => absurd z c8) (fun z => absurd z c9) (fun z => absurd z c10) (fun z => absurd z c11) (fun z => absurd z c12) (fun z => absurd z c13) (fun _ => ?_) (fun z => absurd (c14.symm.trans z) (by decide)) (fun z => absurd (c14.symm.trans z) (by decide)) (fun z => absurd (c14.symm.trans z) (by decide)) (fun z => absurd (c14.symm.trans z) (by decide)) (fun z => absurd (c14.symm.trans z) (by decide)) (fun z => absurd (c14.symm.trans z) (by decide)) (fun z => absurd (c14.symm.trans z) (by decide)) (fun z => absurd (c14.symm.trans z) (by decide)) (fun z => absurd (c14.symm.trans z) (by decide)) (fun z => absurd (c14.symm.trans z) (by decide)) (fun z => absurd (c14.symm.trans z) (by decide)) (fun z => absurd (c14.symm.trans z) (by decide)) (fun z => absurd (c14.symm.trans z) (by decide)) (fun z => absurd (c14.symm.trans z) (by decide))
                              cases h
                              exact bX11_isSign_130
                            · skip
                              refine a_ite h (fun c15 h => ?_) (fun c15 h => ?_)
                              · refine bX11_isSign_0 (fun _ _ _ _ _ _ _ _ _ _ _ _ _ _ n14 _ _ _ _ _ _ _ _ _ _ _ _ _ => absurd c15 n14) (fun z => absurd z c1) (fun z => absurd z c2) (fun z => absurd z c3) (fun z => absurd z c4) (fun z => absurd z c5) (fun z => absurd z c6) (fun z => absurd z c7) (fun z => absurd z c8) (fun z => absurd z c9) (fun z => absurd z c10) (fun z => absurd z c11) (fun z => absurd z c12) (fun z => absurd z c13) (fun z => absurd z c14) (fun _ => ?_) (fun z => absurd (c15.symm.trans z) (by decide)) (fun z => absurd (c15.symm.trans z) (by decide)) (fun z => absurd (c15.symm.trans z) (by decide)) (fun z => absurd (c15.symm.trans z) (by decide)) (fun z => absurd (c15.symm.trans z) (by decide)) (fun z => absurd (c15.symm.trans z) (by decide)) (fun z => absurd (c15.symm.trans z) (by decide)) (fun z => absurd (c15.symm.trans z) (by decide)) (fun z => absurd (c15.symm.trans z) (by decide)) (fun z => absurd (c15.symm.trans z) (by decide)) (fun z => absurd (c15.symm.trans z) (by decide)) (fun z => absurd (c15.symm.trans z) (by decide)) (fun z => absurd (c15.symm.trans z) (by decide))
                                cases h
                                exact bX11_isSign_130
                              · skip
                                refine a_ite h (fun c16 h => ?_) (fun c16 h => ?_)
                                · refine bX11_isSign_0 (fun _ _ _ _ _ _ _ _ _ _ _ _ _ _ _ n15 _ _ _ _ _ _ _ _ _ _ _ _ => absurd c16 n15) (fun z => absurd z c1) (fun z => absurd z c2) (fun z => absurd z c3) (fun z => absurd z c4) (fun z => absurd z c5) (fun z => absurd z c6) (fun z => absurd z c7) (fun z => absurd z c8) (fun z => absurd z c9) (fun z => absurd z c10) (fun z => absurd z c11) (fun z => absurd z c12) (fun z => absurd z c13) (fun z => absurd z c14) (fun z => absurd z c15) (fun _ => ?_) (fun z => absurd (c16.symm.trans z) (by decide)) (fun z => absurd (c16.symm.trans z) (by decide)) (fun z => absurd (c16.symm.trans z) (by decide)) (fun z => absurd (c16.symm.trans z) (by decide)) (fun z => absurd (c16.symm.trans z) (by decide)) (fun z => absurd (c16.symm.trans z) (by decide)) (fun z => absurd (c16.symm.trans z) (by decide)) (fun z => absurd (c16.symm.trans z) (by decide)) (fun z => absurd (c16.symm.trans z) (by decide)) (fun z => absurd (c16.symm.trans z) (by decide)) (fun z => absurd (c16.symm.trans z) (by decide)) (fun z => absurd (c16.symm.trans z) (by decide))
                                  cases h
                                  exact bX11_isSign_130
                                · skip
                                  refine a_ite h (fun c17 h => ?_) (fun c17 h => ?_)
                                  · refine bX11_isSign_0 (fun _ _ _ _ _ _ _ _ _ _ _ _ _ _ _ _ n16 _ _ _ _ _ _ _ _ _ _ _ => absurd c17 n16) (fun z => absurd z c1) (fun z => absurd z c2) (fun z => absurd z c3) (fun z => absurd z c4) (fun z => absurd z c5) (fun z => absurd z c6) (fun z => absurd z c7) (fun z => absurd z c8) (fun z => absurd z c9) (fun z => absurd z c10) (fun z => absurd z c11) (fun z => absurd z c12) (fun z => absurd z c13) (fun z => absurd z c14) (fun z => absurd z c15) (fun z => absurd z c16) (fun _ => ?_) (fun z => absurd (c17.symm.trans z) (by decide)) (fun z => absurd (c17.symm.trans z) (by decide)) (fun z => absurd (c17.symm.trans z) (by decide)) (fun z => absurd (c17.symm.trans z) (by decide)) (fun z => absurd (c17.symm.trans z) (by decide)) (fun z => absurd (c17.symm.trans z) (by decide)) (fun z => absurd (c17.symm.trans z) (by decide)) (fun z => absurd (c17.symm.trans z) (by decide)) (fun z => absurd (c17.symm.trans z) (by decide)) (fun z => absurd (c17.symm.trans z) (by decide)) (fun z => absurd (c17.symm.trans z) (by decide))
                                    cases h
                                    exact bX11_isSign_130
                                  · skip
                                    refine a_ite h (fun c18 h => ?_) (fun c18 h => ?_)
                                    · refine bX11_isSign_0 (fun _ _ _ _ _ _ _ _ _ _ _ _ _ _ _ _ _ n17 _ _ _ _ _ _ _ _ _ _ => absurd c18 n17) (fun z => absurd z c1) (fun z => absurd z c2) (fun z => absurd z c3) (fun z => absurd z c4) (fun z => absurd z c5) (fun z => absurd z c6) (fun z => absurd z c7) (fun z => absurd z c8) (fun z => absurd z c9) (fun z => absurd z c10) (fun z => absurd z c11) (fun z => absurd z c12) (fun z => absurd z c13) (fun z => absurd z c14) (fun z => absurd z c15) (fun z => absurd z c16) (fun z => absurd z c17) (fun _ => ?_) (fun z => absurd (c18.symm.trans z) (by decide)) (fun z => absurd (c18.symm.trans z) (by decide)) (fun z => absurd (c18.symm.trans z) (by decide)) (fun z => absurd (c18.symm.trans z) (by decide)) (fun z => absurd (c18.symm.trans z) (by decide)) (fun z => absurd (c18.symm.trans z) (by decide)) (fun z => absurd (c18.symm.trans z) (by decide)) (fun z => absurd (c18.symm.trans z) (by decide)) (fun z => absurd (c18.symm.trans z) (by decide)) (fun z => absurd (c18.symm.trans z) (by decide))
                                      cases h
                                      exact bX11_isSign_130
                                    · skip
                                      refine a_ite h (fun c19 h => ?_) (fun c19 h => ?_)
                                      · refine bX11_isSign_0 (fun _ _ _ _ _ _ _ _ _ _ _ _ _ _ _ _ _ _ n18 _ _ _ _ _ _ _ _ _ => absurd c19 n18) (fun z => absurd z c1) (fun z => absurd z c2) (fun z => absurd z c3) (fun z => absurd z c4) (fun z => absurd z c5) (fun z => absurd z c6) (fun z => absurd z c7) (fun z => absurd z c8) (fun z => absurd z c9) (fun z => absurd z c10) (fun z => absurd z c11) (fun z => absurd z c12) (fun z => absurd z c13) (fun z => absurd z c14) (fun z => absurd z c15) (fun z => absurd z c16) (fun z => absurd z c17) (fun z => absurd z c18) (fun _ => ?_) (fun z => absurd (c19.symm.trans z) (by decide)) (fun z => absurd (c19.symm.trans z) (by decide)) (fun z => absurd (c19.symm.trans z) (by decide)) (fun z => absurd (c19.symm.trans z) (by decide)) (fun z => absurd (c19.symm.trans z) (by decide)) (fun z => absurd (c19.symm.trans z) (by decide)) (fun z => absurd (c19.symm.trans z) (by decide)) (fun z => absurd (c19.symm.trans z) (by decide)) (fun z => absurd (c19.symm.trans z) (by decide))
                                        cases h
                                        exact bX11_isSign_130
                                      · skip
                                        refine a_ite h (fun c20 h => ?_) (fun c20 h => ?_)
                                        · refine bX11_isSign_0 (fun _ _ _ _ _ _ _ _ _ _ _ _ _ _ _ _ _ _ _ n19 _ _ _ _ _ _ _ _ => absurd c20 n19) (fun z => absurd z c1) (fun z => absurd z c2) (fun z => absurd z c3) (fun z => absurd z c4) (fun z => absurd z c5) (fun z => absurd z c6) (fun z => absurd z c7) (fun z => absurd z c8) (fun z => absurd z c9) (fun z => absurd z c10) (fun z => absurd z c11) (fun z => absurd z c12) (fun z => absurd z c13) (fun z => absurd z c14) (fun z => absurd z c15) (fun z => absurd z c16) (fun z => absurd z c17) (fun z => absurd z c18) (fun z => absurd z c19) (fun _ => ?_) (fun z => absurd (c20.symm.trans z) (by decide)) (fun z => absurd (c20.symm.trans z) (by decide)) (fun z => absurd (c20.symm.trans z) (by decide)) (fun z => absurd (c20.symm.trans z) (by decide)) (fun z => absurd (c20.symm.trans z) (by decide)) (fun z => absurd (c20.symm.trans z) (by decide)) (fun z => absurd (c20.symm.trans z) (by decide)) (fun z => absurd (c20.symm.trans z) (by decide))
                                          cases h
                                          exact bX11_isSign_130
                                        · skip
                                          refine a_ite h (fun c21 h => ?_) (fun c21 h => ?_)
                                          · refine bX11_isSign_0 (fun _ _ _ _ _ _ _ _ _ _ _ _ _ _ _ _ _ _ _ _ n20 _ _ _ _ _ _ _ => absurd c21 n20) (fun z => absurd z c1) (fun z => absurd z c2) (fun z => absurd z c3) (fun z => absurd z c4) (fun z => absurd z c5) (fun z => absurd z c6) (fun z => absurd z c7) (fun z => absurd z c8) (fun z => absurd z c9) (fun z => absurd z c10) (fun z => absurd z c11) (fun z => absurd z c12) (fun z => absurd z c13) (fun z => absurd z c14) (fun z => absurd z c15) (fun z => absurd z c16) (fun z => absurd z c17) (fun z => absurd z c18) (fun z => absurd z c19) (fun z => absurd z c20) (fun _ => ?_) (fun z => absurd (c21.symm.trans z) (by decide)) (fun z => absurd (c21.symm.trans z) (by decide)) (fun z => absurd (c21.symm.trans z) (by decide)) (fun z => absurd (c21.symm.trans z) (by decide)) (fun z => absurd (c21.symm.trans z) (by decide)) (fun z => absurd (c21.symm.trans z) (by decide)) (fun z => absurd (c21.symm.trans z) (by decide))
                                            cases h
                                            exact bX11_isSign_130
                                          · skip
                                            refine a_ite h (fun c22 h => ?_) (fun c22 h => ?_)
                                            · refine bX11_isSign_0 (fun _ _ _ _ _ _ _ _ _ _ _ _ _ _ _ _ _ _ _ _ _ n21 _ _ _ _ _ _ => absurd c22 n21) (fun z => absurd z c1) (fun z => absurd z c2) (fun z => absurd z c3) (fun z => absurd z c4) (fun z => absurd z c5) (fun z => absurd z c6) (fun z => absurd z c7) (fun z => absurd z c8) (fun z => absurd z c9) (fun z => absurd z c10) (fun z => absurd z c11) (fun z => absurd z c12) (fun z => absurd z c13) (fun z => absurd z c14) (fun z => absurd z c15) (fun z => absurd z c16) (fun z => absurd z c17) (fun z => absurd z c18) (fun z => absurd z c19) (fun z => absurd z c20) (fun z => absurd z c21) (fun _ => ?_) (fun z => absurd (c22.symm.trans z) (by decide)) (fun z => absurd (c22.symm.trans z) (by decide)) (fun z => absurd (c22.symm.trans z) (by decide)) (fun z => absurd (c22.symm.trans z) (by decide)) (fun z => absurd (c22.symm.trans z) (by decide)) (fun z => absurd (c22.symm.trans z) (by decide))
                                              cases h
                                              exact bX11_isSign_130
                                            · skip
                                              refine a_ite h (fun c23 h => ?_) (fun c23 h => ?_)
                                              · refine bX11_isSign_0 (fun _ _ _ _ _ _ _ _ _ _ _ _ _ _ _ _ _ _ _ _ _ _ n22 _ _ _ _ _ => absurd c23 n22) (fun z => absurd z c1) (fun z => absurd z c2) (fun z => absurd z c3) (fun z => absurd z c4) (fun z => absurd z c5) (fun z => absurd z c6) (fun z => absurd z c7) (fun z => absurd z c8) (fun z => absurd z c9) (fun z => absurd z c10) (fun z => absurd z c11) (fun z => absurd z c12) (fun z => absurd z c13) (fun z => absurd z c14) (fun z => absurd z c15) (fun z => absurd z c16) (fun z => absurd z c17) (fun z => absurd z c18) (fun z => absurd z c19) (fun z => absurd z c20) (fun z => absurd z c21) (fun z => absurd z c22) (fun _ => ?_) (fun z => absurd (c23.symm.trans z) (by decide)) (fun z => absurd (c23.symm.trans z) (by decide)) (fun z => absurd (c23.symm.trans z) (by decide)) (fun z => absurd (c23.symm.trans z) (by decide)) (fun z => absurd (c23.symm.trans z) (by decide))
                                                cases h
                                                exact bX11_isSign_130
                                              · skip
                                                refine a_ite h (fun c24 h => ?_) (fun c24 h => ?_)
                                                · refine bX11_isSign_0 (fun _ _ _ _ _ _ _ _ _ _ _ _ _ _ _ _ _ _ _ _ _ _ _ n23 _ _ _ _ => absurd c24 n23) (fun z => absurd z c1) (fun z => absurd z c2) (fun z => absurd z c3) (fun z => absurd z c4) (fun z => absurd z c5) (fun z => absurd z c6) (fun z => absurd z c7) (fun z => absurd z c8) (fun z => absurd z c9) (fun z => absurd z c10) (fun z => absurd z c11) (fun z => absurd z c12) (fun z => absurd z c13) (fun z => absurd z c14) (fun z => absurd z c15) (fun z => absurd z c16) (fun z => absurd z c17) (fun z => absurd z c18) (fun z => absurd z c19) (fun z => absurd z c20) (fun z => absurd z c21) (fun z => absurd z c22) (fun z => absurd z c23) (fun _ => ?_) (fun z => absurd (c24.symm.trans z) (by decide)) (fun z => absurd (c24.symm.trans z) (by decide)) (fun z => absurd (c24.symm.trans z) (by decide)) (fun z => absurd (c24.symm.trans z) (by decide))
                                                  cases h
                                                  exact bX11_isSign_128
                                                · skip
                                                  refine a_ite h (fun c25 h => ?_) (fun c25 h => ?_)
                                                  · refine bX11_isSign_0 (fun _ _ _ _ _ _ _ _ _ _ _ _ _ _ _ _ _ _ _ _ _ _ _ _ n24 _ _ _ => absurd c25 n24) (fun z => absurd z c1) (fun z => absurd z c2) (fun z => absurd z c3) (fun z => absurd z c4) (fun z => absurd z c5) (fun z => absurd z c6) (fun z => absurd z c7) (fun z => absurd z c8) (fun z => absurd z c9) (fun z => absurd z c10) (fun z => absurd z c11) (fun z => absurd z c12) (fun z => absurd z c13) (fun z => absurd z c14) (fun z => absurd z c15) (fun z => absurd z c16) (fun z => absurd z c17) (fun z => absurd z c18) (fun z => absurd z c19) (fun z => absurd z c20) (fun z => absurd z c21) (fun z => absurd z c22) (fun z => absurd z c23) (fun z => absurd z c24) (fun _ => ?_) (fun z => absurd (c25.symm.trans z) (by decide)) (fun z => absurd (c25.symm.trans z) (by decide)) (fun z => absurd (c25.symm.trans z) (by decide))
                                                    cases h
                                                    exact bX11_isSign_128
                                                  · skip
                                                    refine a_ite h (fun c26 h => ?_) (fun c26 h => ?_)
                                                    · refine bX11_isSign_0 (fun _ _ _ _ _ _ _ _ _ _ _ _ _ _ _ _ _ _ _ _ _ _ _ _ _ n25 _ _ => absurd c26 n25) (fun z => absurd z c1) (fun z => absurd z c2) (fun z => absurd z c3) (fun z => absurd z c4) (fun z => absurd z c5) (fun z => absurd z c6) (fun z => absurd z c7) (fun z => absurd z c8) (fun z => absurd z c9) (fun z => absurd z c10) (fun z => absurd z c11) (fun z => absurd z c12) (fun z => absurd z c13) (fun z => absurd z c14) (fun z => absurd z c15) (fun z => absurd z c16) (fun z => absurd z c17) (fun z => absurd z c18) (fun z => absurd z c19) (fun z => absurd z c20) (fun z => absurd z c21) (fun z => absurd z c22) (fun z => absurd z c23) (fun z => absurd z c24) (fun z => absurd z c25) (fun _ => ?_) (fun z => absurd (c26.symm.trans z) (by decide)) (fun z => absurd (c26.symm.trans z) (by decide))
                                                      cases h
                                                      exact bX11_isSign_128
                                                    · skip
                                                      refine a_ite h (fun c27 h => ?_) (fun c27 h => ?_)
                                                      · refine bX11_isSign_0 (fun _ _ _ _ _ _ _ _ _ _ _ _ _ _ _ _ _ _ _ _ _ _ _ _ _ _ n26 _ => absurd c27 n26) (fun z => absurd z c1) (fun z => absurd z c2) (fun z => absurd z c3) (fun z => absurd z c4) (fun z => absurd z c5) (fun z => absurd z c6) (fun z => absurd z c7) (fun z => absurd z c8) (fun z => absurd z c9) (fun z => absurd z c10) (fun z => absurd z c11) (fun z => absurd z c12) (fun z => absurd z c13) (fun z => absurd z c14) (fun z => absurd z c15) (fun z => absurd z c16) (fun z => absurd z c17) (fun z => absurd z c18) (fun z => absurd z c19) (fun z => absurd z c20) (fun z => absurd z c21) (fun z => absurd z c22) (fun z => absurd z c23) (fun z => absurd z c24) (fun z => absurd z c25) (fun z => absurd z c26) (fun _ => ?_) (fun z => absurd (c27.symm.trans z) (by decide))
                                                        cases h
                                                        exact bX11_isSign_128
                                                      · skip
                                                        refine a_ite h (fun c28 h => ?_) (fun c28 h => ?_)
                                                        · refine bX11_isSign_0 (fun _ _ _ _ _ _ _ _ _ _ _ _ _ _ _ _ _ _ _ _ _ _ _ _ _ _ _ n27 => absurd c28 n27) (fun z => absurd z c1) (fun z => absurd z c2) (fun z => absurd z c3) (fun z => absurd z c4) (fun z => absurd z c5) (fun z => absurd z c6) (fun z => absurd z c7) (fun z => absurd z c8) (fun z => absurd z c9) (fun z => absurd z c10) (fun z => absurd z c11) (fun z => absurd z c12) (fun z => absurd z c13) (fun z => absurd z c14) (fun z => absurd z c15) (fun z => absurd z c16) (fun z => absurd z c17) (fun z => absurd z c18) (fun z => absurd z c19) (fun z => absurd z c20) (fun z => absurd z c21) (fun z => absurd z c22) (fun z => absurd z c23) (fun z => absurd z c24) (fun z => absurd z c25) (fun z => absurd z c26) (fun z => absurd z c27) (fun _ => ?_)
                                                          cases h
                                                          exact bX11_isSign_128
                                                        · skip
                                                          refine bX11_isSign_0 (fun _ _ _ _ _ _ _ _ _ _ _ _ _ _ _ _ _ _ _ _ _ _ _ _ _ _ _ _ => ?_) (fun z => absurd z c1) (fun z => absurd z c2) (fun z => absurd z c3) (fun z => absurd z c4) (fun z => absurd z c5) (fun z => absurd z c6) (fun z => absurd z c7) (fun z => absurd z c8) (fun z => absurd z c9) (fun z => absurd z c10) (fun z => absurd z c11) (fun z => absurd z c12) (fun z => absurd z c13) (fun z => absurd z c14) (fun z => absurd z c15) (fun z => absurd z c16) (fun z => absurd z c17) (fun z => absurd z c18) (fun z => absurd z c19) (fun z => absurd z c20) (fun z => absurd z c21) (fun z => absurd z c22) (fun z => absurd z c23) (fun z => absurd z c24) (fun z => absurd z c25) (fun z => absurd z c26) (fun z => absurd z c27) (fun z => absurd z c28)
                                                          cases h
                                                          exact bX11_isSign_130

noncomputable def sX11_nextToken_0 (d : aI) (e : aJ)  : Option (Nat × aL × aI × aJ) := ((FX11_byteAt d e (d 108 7)).bind fun q1 => (if q1.1 = (nI 32) then (some (0, [some (.ref 108), none], (uI q1.2.1 108 7 ((q1.2.1 108 7) + (nI 1))), q1.2.2)) else ((FX11_byteAt q1.2.1 q1.2.2 (q1.2.1 108 7)).bind fun q3 => (if q3.1 = (nI 10) then (some (0, [some (.ref 108), none], (uI q3.2.1 108 7 ((q3.2.1 108 7) + (nI 1))), q3.2.2)) else ((FX11_byteAt (uI q3.2.1 108 8 (q3.2.1 108 7)) q3.2.2 (q3.2.1 108 7)).bind fun q5 => (if 0 ≤ q5.1 then ((FX11_isFigure q5.2.1 q5.2.2 q5.1).bind fun q7 => (if q7.1 = 0 then ((FX11_isLetterByte q7.2.1 q7.2.2 q5.1).bind fun q9 => (if q9.1 = 0 then ((FX11_isSign q9.2.1 q9.2.2 q5.1).bind fun q11 => (if q11.1 = 0 then (if q5.1 = (nI 60) then ((FX11_byteAt (uI (uI q11.2.1 108 9 (nI 3)) 108 7 ((q11.2.1 108 7) + (nI 1))) q11.2.2 ((uI (uI q11.2.1 108 9 (nI 3)) 108 7 ((q11.2.1 108 7) + (nI 1))) 108 7)).bind fun q14 => (if q14.1 = (nI 61) then (if q5.1 = (nI 60) then (some (100000, [], (uI (uI q14.2.1 108 9 (nI 4)) 108 7 ((q14.2.1 108 7) + (nI 1))), q14.2.2)) else (some (100000, [], (uI (uI q14.2.1 108 9 (nI 5)) 108 7 ((q14.2.1 108 7) + (nI 1))), q14.2.2))) else (some (100000, [], q14.2.1, q14.2.2)))) else (if q5.1 = (nI 62) then ((FX11_byteAt (uI (uI q11.2.1 108 9 (nI 3)) 108 7 ((q11.2.1 108 7) + (nI 1))) q11.2.2 ((uI (uI q11.2.1 108 9 (nI 3)) 108 7 ((q11.2.1 108 7) + (nI 1))) 108 7)).bind fun q18 => (if q18.1 = (nI 61) then (if q5.1 = (nI 60) then (some (100000, [], (uI (uI q18.2.1 108 9 (nI 4)) 108 7 ((q18.2.1 108 7) + (nI 1))), q18.2.2)) else (some (100000, [], (uI (uI q18.2.1 108 9 (nI 5)) 108 7 ((q18.2.1 108 7) + (nI 1))), q18.2.2))) else (some (100000, [], q18.2.1, q18.2.2)))) else (some (100000, [], (uI (uI q11.2.1 108 9 (nI 3)) 108 7 ((q11.2.1 108 7) + (nI 1))), q11.2.2)))) else (if q5.1 = (nI 60) then ((FX11_byteAt (uI (uI q11.2.1 108 9 q5.1) 108 7 ((q11.2.1 108 7) + (nI 1))) q11.2.2 ((uI (uI q11.2.1 108 9 q5.1) 108 7 ((q11.2.1 108 7) + (nI 1))) 108 7)).bind fun q22 => (if q22.1 = (nI 61) then (if q5.1 = (nI 60) then (some (100000, [], (uI (uI q22.2.1 108 9 (nI 4)) 108 7 ((q22.2.1 108 7) + (nI 1))), q22.2.2)) else (some (100000, [], (uI (uI q22.2.1 108 9 (nI 5)) 108 7 ((q22.2.1 108 7) + (nI 1))), q22.2.2))) else (some (100000, [], q22.2.1, q22.2.2)))) else (if q5.1 = (nI 62) then ((FX11_byteAt (uI (uI q11.2.1 108 9 q5.1) 108 7 ((q11.2.1 108 7) + (nI 1))) q11.2.2 ((uI (uI q11.2.1 108 9 q5.1) 108 7 ((q11.2.1 108 7) + (nI 1))) 108 7)).bind fun q26 => (if q26.1 = (nI 61) then (if q5.1 = (nI 60) then (some (100000, [], (uI (uI q26.2.1 108 9 (nI 4)) 108 7 ((q26.2.1 108 7) + (nI 1))), q26.2.2)) else (some (100000, [], (uI (uI q26.2.1 108 9 (nI 5)) 108 7 ((q26.2.1 108 7) + (nI 1))), q26.2.2))) else (some (100000, [], q26.2.1, q26.2.2)))) else (some (100000, [], (uI (uI q11.2.1 108 9 q5.1) 108 7 ((q11.2.1 108 7) + (nI 1))), q11.2.2)))))) else (some (168, [some (.ref 108), some (.int q5.1)], (uI q9.2.1 108 9 (nI 2)), (uJ q9.2.2 108 11 (lN 0)))))) else (some (85, [some (.ref 108), some (.int q5.1)], (uI (uI q7.2.1 108 9 (nI 1)) 108 10 (nI 0)), q7.2.2)))) else (some (100000, [], (uI q5.2.1 108 9 (nI 0)), q5.2.2))))))))
theorem tX11_nextToken_0 {Γ : aG × Launch} {d dF : aI} {e eF : aJ}  {r : Option Value} {p : Nat × aL × aI × aJ} (h : sX11_nextToken_0 d e  = some p) (kc : Nat.beq p.1 100000 = false → Rn Γ (1) mX11_nextToken p.1 p.2.1 [] p.2.2.1 p.2.2.2 r dF eF) (kr : p.1 = 100000 → r = a_rt p.2.1 ∧ dF = p.2.2.1 ∧ eF = p.2.2.2) : Rn Γ (1) mX11_nextToken 0 [some (.ref 108), none] [] d e r dF eF := by
  unfold sX11_nextToken_0 at h
  obtain ⟨q1, hq1, h⟩ := Option.bind_eq_some_iff.mp h
  refine bX11_nextToken_0 (evX11_byteAt hq1) (by omega) ?_
  refine a_ite h (fun c2 h => ?_) (fun c2 h => ?_)
  · refine bX11_nextToken_8 (fun _ => ?_) (fun z => absurd c2 z)
    refine bX11_nextToken_26 ?_
    cases h
    exact kc rfl
  · refine bX11_nextToken_8 (fun z => absurd z c2) (fun _ => ?_)
    obtain ⟨q3, hq3, h⟩ := Option.bind_eq_some_iff.mp h
    refine bX11_nextToken_13 (evX11_byteAt hq3) (by omega) ?_
    refine a_ite h (fun c4 h => ?_) (fun c4 h => ?_)
    · refine bX11_nextToken_21 (fun z => absurd c4 z) (fun _ => ?_)
      refine bX11_nextToken_26 ?_
      cases h
      exact kc rfl
    · refine bX11_nextToken_21 (fun _ => ?_) (fun z => absurd z c4)
      obtain ⟨q5, hq5, h⟩ := Option.bind_eq_some_iff.mp h
      refine bX11_nextToken_39 (evX11_byteAt hq5) (by omega) ?_
      refine a_ite h (fun c6 h => ?_) (fun c6 h => ?_)
      · refine bX11_nextToken_55 (fun _ => ?_) (fun z => absurd c6 z)
        obtain ⟨q7, hq7, h⟩ := Option.bind_eq_some_iff.mp h
        refine bX11_nextToken_68 (evX11_isFigure hq7) (by omega) ?_
        refine a_ite h (fun c8 h => ?_) (fun c8 h => ?_)
        · refine bX11_nextToken_72 (fun _ => ?_) (fun z => absurd c8 z)
          obtain ⟨q9, hq9, h⟩ := Option.bind_eq_some_iff.mp h
          refine bX11_nextToken_151 (evX11_isLetterByte hq9) (by omega) ?_
          refine a_ite h (fun c10 h => ?_) (fun c10 h => ?_)
          · refine bX11_nextToken_155 (fun _ => ?_) (fun z => absurd c10 z)
            obtain ⟨q11, hq11, h⟩ := Option.bind_eq_some_iff.mp h
            refine bX11_nextToken_234 (evX11_isSign hq11) (by omega) ?_
            refine a_ite h (fun c12 h => ?_) (fun c12 h => ?_)
            · refine bX11_nextToken_239 (fun _ => ?_) (fun z => absurd c12 z)
              refine bX11_nextToken_246 ?_
              refine a_ite h (fun c13 h => ?_) (fun c13 h => ?_)
              · refine bX11_nextToken_247 (fun _ => ?_) (fun z => absurd c13 z)
                obtain ⟨q14, hq14, h⟩ := Option.bind_eq_some_iff.mp h
                refine bX11_nextToken_272 (evX11_byteAt hq14) (by omega) ?_
                refine a_ite h (fun c15 h => ?_) (fun c15 h => ?_)
                · refine bX11_nextToken_280 (fun z => absurd c15 z) (fun _ => ?_)
                  refine a_ite h (fun c16 h => ?_) (fun c16 h => ?_)
                  · refine bX11_nextToken_285 (fun z => absurd c16 z) (fun _ => ?_)
                    refine bX11_nextToken_292 ?_
                    refine bX11_nextToken_297 ?_
                    cases h
                    obtain ⟨k1, k2, k3⟩ := kr rfl
                    exact bX11_nextToken_310 k1 k2 k3
                  · refine bX11_nextToken_285 (fun _ => ?_) (fun z => absurd z c16)
                    refine bX11_nextToken_296 ?_
                    refine bX11_nextToken_297 ?_
                    cases h
                    obtain ⟨k1, k2, k3⟩ := kr rfl
                    exact bX11_nextToken_310 k1 k2 k3
                · refine bX11_nextToken_280 (fun _ => ?_) (fun z => absurd z c15)
                  cases h
                  obtain ⟨k1, k2, k3⟩ := kr rfl
                  exact bX11_nextToken_310 k1 k2 k3
              · refine bX11_nextToken_247 (fun z => absurd z c13) (fun _ => ?_)
                refine a_ite h (fun c17 h => ?_) (fun c17 h => ?_)
                · refine bX11_nextToken_266 (fun z => absurd c17 z) (fun _ => ?_)
                  obtain ⟨q18, hq18, h⟩ := Option.bind_eq_some_iff.mp h
                  refine bX11_nextToken_272 (evX11_byteAt hq18) (by omega) ?_
                  refine a_ite h (fun c19 h => ?_) (fun c19 h => ?_)
                  · refine bX11_nextToken_280 (fun z => absurd c19 z) (fun _ => ?_)
                    refine a_ite h (fun c20 h => ?_) (fun c20 h => ?_)
                    · refine bX11_nextToken_285 (fun z => absurd c20 z) (fun _ => ?_)
                      refine bX11_nextToken_292 ?_
                      refine bX11_nextToken_297 ?_
                      cases h
                      obtain ⟨k1, k2, k3⟩ := kr rfl
                      exact bX11_nextToken_310 k1 k2 k3
                    · refine bX11_nextToken_285 (fun _ => ?_) (fun z => absurd z c20)
                      refine bX11_nextToken_296 ?_
                      refine bX11_nextToken_297 ?_
                      cases h
                      obtain ⟨k1, k2, k3⟩ := kr rfl
                      exact bX11_nextToken_310 k1 k2 k3
                  · refine bX11_nextToken_280 (fun _ => ?_) (fun z => absurd z c19)
                    cases h
                    obtain ⟨k1, k2, k3⟩ := kr rfl
                    exact bX11_nextToken_310 k1 k2 k3
                · refine bX11_nextToken_266 (fun _ => ?_) (fun z => absurd z c17)
                  cases h
                  obtain ⟨k1, k2, k3⟩ := kr rfl
                  exact bX11_nextToken_310 k1 k2 k3
            · refine bX11_nextToken_239 (fun z => absurd z c12) (fun _ => ?_)
              refine bX11_nextToken_242 ?_
              refine a_ite h (fun c21 h => ?_) (fun c21 h => ?_)
              · refine bX11_nextToken_247 (fun _ => ?_) (fun z => absurd c21 z)
                obtain ⟨q22, hq22, h⟩ := Option.bind_eq_some_iff.mp h
                refine bX11_nextToken_272 (evX11_byteAt hq22) (by omega) ?_
                refine a_ite h (fun c23 h => ?_) (fun c23 h => ?_)
                · refine bX11_nextToken_280 (fun z => absurd c23 z) (fun _ => ?_)
                  refine a_ite h (fun c24 h => ?_) (fun c24 h => ?_)
                  · refine bX11_nextToken_285 (fun z => absurd c24 z) (fun _ => ?_)
                    refine bX11_nextToken_292 ?_
                    refine bX11_nextToken_297 ?_
                    cases h
                    obtain ⟨k1, k2, k3⟩ := kr rfl
                    exact bX11_nextToken_310 k1 k2 k3
                  · refine bX11_nextToken_285 (fun _ => ?_) (fun z => absurd z c24)
                    refine bX11_nextToken_296 ?_
                    refine bX11_nextToken_297 ?_
                    cases h
                    obtain ⟨k1, k2, k3⟩ := kr rfl
                    exact bX11_nextToken_310 k1 k2 k3
                · refine bX11_nextToken_280 (fun _ => ?_) (fun z => absurd z c23)
                  cases h
                  obtain ⟨k1, k2, k3⟩ := kr rfl
                  exact bX11_nextToken_310 k1 k2 k3
              · refine bX11_nextToken_247 (fun z => absurd z c21) (fun _ => ?_)
                refine a_ite h (fun c25 h => ?_) (fun c25 h => ?_)
                · refine bX11_nextToken_266 (fun z => absurd c25 z) (fun _ => ?_)
                  obtain ⟨q26, hq26, h⟩ := Option.bind_eq_some_iff.mp h
                  refine bX11_nextToken_272 (evX11_byteAt hq26) (by omega) ?_
                  refine a_ite h (fun c27 h => ?_) (fun c27 h => ?_)
                  · refine bX11_nextToken_280 (fun z => absurd c27 z) (fun _ => ?_)
                    refine a_ite h (fun c28 h => ?_) (fun c28 h => ?_)
                    · refine bX11_nextToken_285 (fun z => absurd c28 z) (fun _ => ?_)
                      refine bX11_nextToken_292 ?_
                      refine bX11_nextToken_297 ?_
                      cases h
                      obtain ⟨k1, k2, k3⟩ := kr rfl
                      exact bX11_nextToken_310 k1 k2 k3
                    · refine bX11_nextToken_285 (fun _ => ?_) (fun z => absurd z c28)
                      refine bX11_nextToken_296 ?_
                      refine bX11_nextToken_297 ?_
                      cases h
                      obtain ⟨k1, k2, k3⟩ := kr rfl
                      exact bX11_nextToken_310 k1 k2 k3
                  · refine bX11_nextToken_280 (fun _ => ?_) (fun z => absurd z c27)
                    cases h
                    obtain ⟨k1, k2, k3⟩ := kr rfl
                    exact bX11_nextToken_310 k1 k2 k3
                · refine bX11_nextToken_266 (fun _ => ?_) (fun z => absurd z c25)
                  cases h
                  obtain ⟨k1, k2, k3⟩ := kr rfl
                  exact bX11_nextToken_310 k1 k2 k3
          · refine bX11_nextToken_155 (fun z => absurd z c10) (fun _ => ?_)
            refine bX11_nextToken_158 ?_
            cases h
            exact kc rfl
        · refine bX11_nextToken_72 (fun z => absurd z c8) (fun _ => ?_)
          refine bX11_nextToken_75 ?_
          cases h
          exact kc rfl
      · refine bX11_nextToken_55 (fun z => absurd z c6) (fun _ => ?_)
        refine bX11_nextToken_60 ?_
        cases h
        obtain ⟨k1, k2, k3⟩ := kr rfl
        exact bX11_nextToken_310 k1 k2 k3

noncomputable def sX11_nextToken_85 (d : aI) (e : aJ) (x1 : Int32) : Option (Nat × aL × aI × aJ) := ((FX11_byteAt d e (d 108 7)).bind fun q1 => ((FX11_isFigure q1.2.1 q1.2.2 q1.1).bind fun q2 => (if q2.1 = 0 then (some (100000, [], q2.2.1, q2.2.2)) else (if (q2.2.1 108 10) ≤ (nI 99999) then ((FX11_byteAt q2.2.1 q2.2.2 (q2.2.1 108 7)).bind fun q5 => (some (85, [some (.ref 108), some (.int x1)], (uI (uI q5.2.1 108 10 ((((nI 10) * (q2.2.1 108 10)) + q5.1) - (nI 48))) 108 7 ((q5.2.1 108 7) + (nI 1))), q5.2.2))) else (some (85, [some (.ref 108), some (.int x1)], (uI (uI q2.2.1 108 10 (q2.2.1 108 10)) 108 7 ((q2.2.1 108 7) + (nI 1))), q2.2.2))))))
theorem tX11_nextToken_85 {Γ : aG × Launch} {d dF : aI} {e eF : aJ} {x1 : Int32} {r : Option Value} {p : Nat × aL × aI × aJ} (h : sX11_nextToken_85 d e x1 = some p) (kc : Nat.beq p.1 100000 = false → Rn Γ (1) mX11_nextToken p.1 p.2.1 [] p.2.2.1 p.2.2.2 r dF eF) (kr : p.1 = 100000 → r = a_rt p.2.1 ∧ dF = p.2.2.1 ∧ eF = p.2.2.2) : Rn Γ (1) mX11_nextToken 85 [some (.ref 108), some (.int x1)] [] d e r dF eF := by
  unfold sX11_nextToken_85 at h
  obtain ⟨q1, hq1, h⟩ := Option.bind_eq_some_iff.mp h
  refine bX11_nextToken_85 (evX11_byteAt hq1) (by omega) ?_
  obtain ⟨q2, hq2, h⟩ := Option.bind_eq_some_iff.mp h
  refine bX11_nextToken_93 (evX11_isFigure hq2) (by omega) ?_
  refine a_ite h (fun c3 h => ?_) (fun c3 h => ?_)
  · refine bX11_nextToken_96 (fun _ => ?_) (fun z => absurd c3 z)
    cases h
    obtain ⟨k1, k2, k3⟩ := kr rfl
    exact bX11_nextToken_310 k1 k2 k3
  · refine bX11_nextToken_96 (fun z => absurd z c3) (fun _ => ?_)
    refine a_ite h (fun c4 h => ?_) (fun c4 h => ?_)
    · refine bX11_nextToken_99 (fun _ => ?_) (fun z => absurd c4 z)
      obtain ⟨q5, hq5, h⟩ := Option.bind_eq_some_iff.mp h
      refine bX11_nextToken_116 (evX11_byteAt hq5) (by omega) ?_
      refine bX11_nextToken_131 ?_
      refine bX11_nextToken_135 ?_
      cases h
      exact kc rfl
    · refine bX11_nextToken_99 (fun z => absurd z c4) (fun _ => ?_)
      refine bX11_nextToken_109 ?_
      refine bX11_nextToken_135 ?_
      cases h
      exact kc rfl

noncomputable def sX11_nextToken_168 (d : aI) (e : aJ) (x1 : Int32) : Option (Nat × aL × aI × aJ) := ((FX11_byteAt d e (d 108 7)).bind fun q1 => ((FX11_isLetterByte q1.2.1 q1.2.2 q1.1).bind fun q2 => (if q2.1 = 0 then (some (100000, [], q2.2.1, q2.2.2)) else (if (lg_cmp (a_jshr (q2.2.2 108 11) (nI 48)) (lN 0)) = 0 then ((FX11_byteAt q2.2.1 q2.2.2 (q2.2.1 108 7)).bind fun q5 => (some (168, [some (.ref 108), some (.int x1)], (uI q5.2.1 108 7 ((q5.2.1 108 7) + (nI 1))), (uJ q5.2.2 108 11 ((a_jshl (q2.2.2 108 11) (nI 8)) ||| (Int32.toInt64 q5.1)))))) else (some (168, [some (.ref 108), some (.int x1)], (uI q2.2.1 108 7 ((q2.2.1 108 7) + (nI 1))), (uJ q2.2.2 108 11 (lN 1152921504606846976))))))))
theorem tX11_nextToken_168 {Γ : aG × Launch} {d dF : aI} {e eF : aJ} {x1 : Int32} {r : Option Value} {p : Nat × aL × aI × aJ} (h : sX11_nextToken_168 d e x1 = some p) (kc : Nat.beq p.1 100000 = false → Rn Γ (1) mX11_nextToken p.1 p.2.1 [] p.2.2.1 p.2.2.2 r dF eF) (kr : p.1 = 100000 → r = a_rt p.2.1 ∧ dF = p.2.2.1 ∧ eF = p.2.2.2) : Rn Γ (1) mX11_nextToken 168 [some (.ref 108), some (.int x1)] [] d e r dF eF := by
  unfold sX11_nextToken_168 at h
  obtain ⟨q1, hq1, h⟩ := Option.bind_eq_some_iff.mp h
  refine bX11_nextToken_168 (evX11_byteAt hq1) (by omega) ?_
  obtain ⟨q2, hq2, h⟩ := Option.bind_eq_some_iff.mp h
  refine bX11_nextToken_176 (evX11_isLetterByte hq2) (by omega) ?_
  refine a_ite h (fun c3 h => ?_) (fun c3 h => ?_)
  · refine bX11_nextToken_179 (fun _ => ?_) (fun z => absurd c3 z)
    cases h
    obtain ⟨k1, k2, k3⟩ := kr rfl
    exact bX11_nextToken_310 k1 k2 k3
  · refine bX11_nextToken_179 (fun z => absurd z c3) (fun _ => ?_)
    refine a_ite h (fun c4 h => ?_) (fun c4 h => ?_)
    · refine bX11_nextToken_182 (fun _ => ?_) (fun z => absurd c4 z)
      obtain ⟨q5, hq5, h⟩ := Option.bind_eq_some_iff.mp h
      refine bX11_nextToken_201 (evX11_byteAt hq5) (by omega) ?_
      refine bX11_nextToken_216 ?_
      refine bX11_nextToken_218 ?_
      cases h
      exact kc rfl
    · refine bX11_nextToken_182 (fun z => absurd z c4) (fun _ => ?_)
      refine bX11_nextToken_195 ?_
      refine bX11_nextToken_218 ?_
      cases h
      exact kc rfl

noncomputable def stX11_nextToken (p : Nat × aL × aI × aJ) : Option (Nat × aL × aI × aJ) := match p with
  | (0, [some (.ref 108), none], d, e) => sX11_nextToken_0 d e 
  | (85, [some (.ref 108), some (.int x1)], d, e) => sX11_nextToken_85 d e x1
  | (168, [some (.ref 108), some (.int x1)], d, e) => sX11_nextToken_168 d e x1
  | _ => none
theorem uX11_nextToken {Γ : aG × Launch} {p p2 : Nat × aL × aI × aJ} {r : Option Value} {dF : aI} {eF : aJ} (h : stX11_nextToken p = some p2) (kc : Nat.beq p2.1 100000 = false → Rn Γ (1) mX11_nextToken p2.1 p2.2.1 [] p2.2.2.1 p2.2.2.2 r dF eF) (kr : p2.1 = 100000 → r = a_rt p2.2.1 ∧ dF = p2.2.2.1 ∧ eF = p2.2.2.2) : Rn Γ (1) mX11_nextToken p.1 p.2.1 [] p.2.2.1 p.2.2.2 r dF eF := by
  unfold stX11_nextToken at h
  split at h
  · exact tX11_nextToken_0 h kc kr
  · exact tX11_nextToken_85 h kc kr
  · exact tX11_nextToken_168 h kc kr
  · cases h
noncomputable def FX11_nextToken (d : aI) (e : aJ)  : Option (Unit × aI × aJ) := (a_run (stX11_nextToken) (0, [some (.ref 108), none], d, e)).bind a_xV
theorem evX11_nextToken {Γ : aG × Launch} {d : aI} {e : aJ}  {q : Unit × aI × aJ} (h : FX11_nextToken d e  = some q) : Ev Γ (1) mX11_nextToken [.ref 108] d e none q.2.1 q.2.2 := by
  refine Ev.of (by decide) rfl (Nat.le_of_ble_eq_true rfl) (fun z => by cases z) ?_
  show Rn Γ (1) mX11_nextToken 0 [some (.ref 108), none] [] d e _ _ _
  obtain ⟨q1, h1, h2⟩ := Option.bind_eq_some_iff.mp h
  obtain ⟨e1, e2, e3⟩ := a_xV_rt h2
  exact Rn.cast (a_run_ok (uX11_nextToken) rfl h1) e1.symm e2.symm e3.symm
noncomputable def FX11_w2 (d : aI) (e : aJ) (x0 : Int32) (x1 : Int32) : Option (Int64 × aI × aJ) := (some (((a_jshl (Int32.toInt64 x0) (nI 8)) ||| (Int32.toInt64 x1)), d, e))
theorem evX11_w2 {Γ : aG × Launch} {d : aI} {e : aJ} {x0 : Int32} {x1 : Int32} {q : Int64 × aI × aJ} (h : FX11_w2 d e x0 x1 = some q) : Ev Γ (0) mX11_w2 [.int x0, .int x1] d e (some (.long q.1)) q.2.1 q.2.2 := by
  refine Ev.of (by decide) rfl (Nat.le_of_ble_eq_true rfl) (fun z => by cases z) ?_
  show Rn Γ (0) mX11_w2 0 [some (.int x0), some (.int x1)] [] d e _ _ _
  unfold FX11_w2 at h
  cases h
  exact bX11_w2_0

noncomputable def FX11_w3 (d : aI) (e : aJ) (x0 : Int32) (x1 : Int32) (x2 : Int32) : Option (Int64 × aI × aJ) := ((FX11_w2 d e x0 x1).bind fun q1 => (some (((a_jshl q1.1 (nI 8)) ||| (Int32.toInt64 x2)), q1.2.1, q1.2.2)))
theorem evX11_w3 {Γ : aG × Launch} {d : aI} {e : aJ} {x0 : Int32} {x1 : Int32} {x2 : Int32} {q : Int64 × aI × aJ} (h : FX11_w3 d e x0 x1 x2 = some q) : Ev Γ (1) mX11_w3 [.int x0, .int x1, .int x2] d e (some (.long q.1)) q.2.1 q.2.2 := by
  refine Ev.of (by decide) rfl (Nat.le_of_ble_eq_true rfl) (fun z => by cases z) ?_
  show Rn Γ (1) mX11_w3 0 [some (.int x0), some (.int x1), some (.int x2)] [] d e _ _ _
  unfold FX11_w3 at h
  obtain ⟨q1, hq1, h⟩ := Option.bind_eq_some_iff.mp h
  refine bX11_w3_0 (evX11_w2 hq1) (by omega) ?_
  cases h
  exact bX11_w3_5

noncomputable def FX11_w4 (d : aI) (e : aJ) (x0 : Int32) (x1 : Int32) (x2 : Int32) (x3 : Int32) : Option (Int64 × aI × aJ) := ((FX11_w3 d e x0 x1 x2).bind fun q1 => (some (((a_jshl q1.1 (nI 8)) ||| (Int32.toInt64 x3)), q1.2.1, q1.2.2)))
theorem evX11_w4 {Γ : aG × Launch} {d : aI} {e : aJ} {x0 : Int32} {x1 : Int32} {x2 : Int32} {x3 : Int32} {q : Int64 × aI × aJ} (h : FX11_w4 d e x0 x1 x2 x3 = some q) : Ev Γ (2) mX11_w4 [.int x0, .int x1, .int x2, .int x3] d e (some (.long q.1)) q.2.1 q.2.2 := by
  refine Ev.of (by decide) rfl (Nat.le_of_ble_eq_true rfl) (fun z => by cases z) ?_
  show Rn Γ (2) mX11_w4 0 [some (.int x0), some (.int x1), some (.int x2), some (.int x3)] [] d e _ _ _
  unfold FX11_w4 at h
  obtain ⟨q1, hq1, h⟩ := Option.bind_eq_some_iff.mp h
  refine bX11_w4_0 (evX11_w3 hq1) (by omega) ?_
  cases h
  exact bX11_w4_6

noncomputable def FX11_w5 (d : aI) (e : aJ) (x0 : Int32) (x1 : Int32) (x2 : Int32) (x3 : Int32) (x4 : Int32) : Option (Int64 × aI × aJ) := ((FX11_w4 d e x0 x1 x2 x3).bind fun q1 => (some (((a_jshl q1.1 (nI 8)) ||| (Int32.toInt64 x4)), q1.2.1, q1.2.2)))
theorem evX11_w5 {Γ : aG × Launch} {d : aI} {e : aJ} {x0 : Int32} {x1 : Int32} {x2 : Int32} {x3 : Int32} {x4 : Int32} {q : Int64 × aI × aJ} (h : FX11_w5 d e x0 x1 x2 x3 x4 = some q) : Ev Γ (3) mX11_w5 [.int x0, .int x1, .int x2, .int x3, .int x4] d e (some (.long q.1)) q.2.1 q.2.2 := by
  refine Ev.of (by decide) rfl (Nat.le_of_ble_eq_true rfl) (fun z => by cases z) ?_
  show Rn Γ (3) mX11_w5 0 [some (.int x0), some (.int x1), some (.int x2), some (.int x3), some (.int x4)] [] d e _ _ _
  unfold FX11_w5 at h
  obtain ⟨q1, hq1, h⟩ := Option.bind_eq_some_iff.mp h
  refine bX11_w5_0 (evX11_w4 hq1) (by omega) ?_
  cases h
  exact bX11_w5_7

noncomputable def FX11_w6 (d : aI) (e : aJ) (x0 : Int32) (x1 : Int32) (x2 : Int32) (x3 : Int32) (x4 : Int32) (x5 : Int32) : Option (Int64 × aI × aJ) := ((FX11_w5 d e x0 x1 x2 x3 x4).bind fun q1 => (some (((a_jshl q1.1 (nI 8)) ||| (Int32.toInt64 x5)), q1.2.1, q1.2.2)))
theorem evX11_w6 {Γ : aG × Launch} {d : aI} {e : aJ} {x0 : Int32} {x1 : Int32} {x2 : Int32} {x3 : Int32} {x4 : Int32} {x5 : Int32} {q : Int64 × aI × aJ} (h : FX11_w6 d e x0 x1 x2 x3 x4 x5 = some q) : Ev Γ (4) mX11_w6 [.int x0, .int x1, .int x2, .int x3, .int x4, .int x5] d e (some (.long q.1)) q.2.1 q.2.2 := by
  refine Ev.of (by decide) rfl (Nat.le_of_ble_eq_true rfl) (fun z => by cases z) ?_
  show Rn Γ (4) mX11_w6 0 [some (.int x0), some (.int x1), some (.int x2), some (.int x3), some (.int x4), some (.int x5)] [] d e _ _ _
  unfold FX11_w6 at h
  obtain ⟨q1, hq1, h⟩ := Option.bind_eq_some_iff.mp h
  refine bX11_w6_0 (evX11_w5 hq1) (by omega) ?_
  cases h
  exact bX11_w6_9

noncomputable def FX11_isWord (d : aI) (e : aJ) (y1 : Int64) : Option (Int32 × aI × aJ) := (if (d 108 9) = (nI 2) then (if (lg_cmp (e 108 11) y1) = 0 then (some ((nI 1), d, e)) else (some ((nI 0), d, e))) else (some ((nI 0), d, e)))
theorem evX11_isWord {Γ : aG × Launch} {d : aI} {e : aJ} {y1 : Int64} {q : Int32 × aI × aJ} (h : FX11_isWord d e y1 = some q) : Ev Γ (0) mX11_isWord [.ref 108, .long y1] d e (some (.int q.1)) q.2.1 q.2.2 := by
  refine Ev.of (by decide) rfl (Nat.le_of_ble_eq_true rfl) (fun z => by cases z) ?_
  show Rn Γ (0) mX11_isWord 0 [some (.ref 108), some (.long y1), none] [] d e _ _ _
  unfold FX11_isWord at h
  refine a_ite h (fun c1 h => ?_) (fun c1 h => ?_)
  · refine bX11_isWord_0 (fun z => absurd c1 z) (fun _ => ?_)
    refine a_ite h (fun c2 h => ?_) (fun c2 h => ?_)
    · refine bX11_isWord_8 (fun z => absurd c2 z) (fun _ => ?_)
      refine bX11_isWord_17 ?_
      cases h
      exact bX11_isWord_22 (a_nz (Or.inr rfl))
    · refine bX11_isWord_8 (fun _ => ?_) (fun z => absurd z c2)
      refine bX11_isWord_21 ?_
      cases h
      exact bX11_isWord_22 (a_nz (Or.inl rfl))
  · refine bX11_isWord_0 (fun _ => ?_) (fun z => absurd z c1)
    refine bX11_isWord_21 ?_
    cases h
    exact bX11_isWord_22 (a_nz (Or.inl rfl))

noncomputable def FX11_emit (d : aI) (e : aJ) (x1 : Int32) (x2 : Int32) : Option (Unit × aI × aJ) := (bif ((a_inb (((d 108 12) + (nI 73)) + ((nI 2) * (d 108 13))) 2724) && (a_inb ((((d 108 12) + (nI 73)) + ((nI 2) * (d 108 13))) + (nI 1)) 2724)) then (some ((), (uI (uI (uI d 111 ((((d 108 12) + (nI 73)) + ((nI 2) * (d 108 13)))).toNatClampNeg x1) 111 (((((d 108 12) + (nI 73)) + ((nI 2) * (d 108 13))) + (nI 1))).toNatClampNeg x2) 108 13 ((d 108 13) + (nI 1))), e)) else none)
theorem evX11_emit {Γ : aG × Launch} {d : aI} {e : aJ} {x1 : Int32} {x2 : Int32} {q : Unit × aI × aJ} (h : FX11_emit d e x1 x2 = some q) : Ev Γ (0) mX11_emit [.ref 108, .int x1, .int x2] d e none q.2.1 q.2.2 := by
  refine Ev.of (by decide) rfl (Nat.le_of_ble_eq_true rfl) (fun z => by cases z) ?_
  show Rn Γ (0) mX11_emit 0 [some (.ref 108), some (.int x1), some (.int x2)] [] d e _ _ _
  unfold FX11_emit at h
  obtain ⟨g1, h⟩ := a_cond h
  obtain ⟨g1x1, g1_1⟩ := a_and g1
  have g1_0 := g1x1
  cases h
  exact bX11_emit_0 ⟨(a_inb_vp g1_0), (a_inb_vp g1_1)⟩

noncomputable def FX11_nameOf (d : aI) (e : aJ)  : Option (Int32 × aI × aJ) := (if (d 108 9) = (nI 2) then ((FX11_w4 d e (nI 104) (nI 111) (nI 117) (nI 114)).bind fun q2 => (if (lg_cmp (e 108 11) q2.1) = 0 then (some ((nI 0), q2.2.1, q2.2.2)) else ((FX11_w3 q2.2.1 q2.2.2 (nI 119) (nI 104) (nI 111)).bind fun q4 => (if (lg_cmp (q2.2.2 108 11) q4.1) = 0 then (some ((nI 1), q4.2.1, q4.2.2)) else ((FX11_w4 q4.2.1 q4.2.2 (nI 99) (nI 111) (nI 108) (nI 100)).bind fun q6 => (if (lg_cmp (q4.2.2 108 11) q6.1) = 0 then (some ((nI 2), q6.2.1, q6.2.2)) else ((FX11_w5 q6.2.1 q6.2.2 (nI 116) (nI 97) (nI 107) (nI 101) (nI 110)).bind fun q8 => (if (lg_cmp (q6.2.2 108 11) q8.1) = 0 then (some ((nI 3), q8.2.1, q8.2.2)) else ((FX11_w5 q8.2.1 q8.2.2 (nI 112) (nI 108) (nI 97) (nI 99) (nI 101)).bind fun q10 => (if (lg_cmp (q8.2.2 108 11) q10.1) = 0 then (some ((nI 4), q10.2.1, q10.2.2)) else ((FX11_w5 q10.2.1 q10.2.2 (nI 100) (nI 114) (nI 101) (nI 97) (nI 109)).bind fun q12 => (if (lg_cmp (q10.2.2 108 11) q12.1) = 0 then (some ((nI 5), q12.2.1, q12.2.2)) else ((FX11_w4 q12.2.1 q12.2.2 (nI 99) (nI 97) (nI 109) (nI 101)).bind fun q14 => (if (lg_cmp (q12.2.2 108 11) q14.1) = 0 then (some ((nI 6), q14.2.1, q14.2.2)) else ((FX11_w6 q14.2.1 q14.2.2 (nI 105) (nI 110) (nI 115) (nI 105) (nI 100) (nI 101)).bind fun q16 => (if (lg_cmp (q14.2.2 108 11) q16.1) = 0 then (some ((nI 7), q16.2.1, q16.2.2)) else (some ((-(nI 1)), q16.2.1, q16.2.2)))))))))))))))))) else (some ((-(nI 1)), d, e)))
theorem evX11_nameOf {Γ : aG × Launch} {d : aI} {e : aJ}  {q : Int32 × aI × aJ} (h : FX11_nameOf d e  = some q) : Ev Γ (5) mX11_nameOf [.ref 108] d e (some (.int q.1)) q.2.1 q.2.2 := by
  refine Ev.of (by decide) rfl (Nat.le_of_ble_eq_true rfl) (fun z => by cases z) ?_
  show Rn Γ (5) mX11_nameOf 0 [some (.ref 108)] [] d e _ _ _
  unfold FX11_nameOf at h
  refine a_ite h (fun c1 h => ?_) (fun c1 h => ?_)
  · refine bX11_nameOf_0 (fun _ => ?_) (fun z => absurd c1 z)
    obtain ⟨q2, hq2, h⟩ := Option.bind_eq_some_iff.mp h
    refine bX11_nameOf_10 (evX11_w4 hq2) (by omega) ?_
    refine a_ite h (fun c3 h => ?_) (fun c3 h => ?_)
    · refine bX11_nameOf_25 (fun z => absurd c3 z) (fun _ => ?_)
      cases h
      exact bX11_nameOf_29
    · refine bX11_nameOf_25 (fun _ => ?_) (fun z => absurd z c3)
      obtain ⟨q4, hq4, h⟩ := Option.bind_eq_some_iff.mp h
      refine bX11_nameOf_31 (evX11_w3 hq4) (by omega) ?_
      refine a_ite h (fun c5 h => ?_) (fun c5 h => ?_)
      · refine bX11_nameOf_44 (fun z => absurd c5 z) (fun _ => ?_)
        cases h
        exact bX11_nameOf_48
      · refine bX11_nameOf_44 (fun _ => ?_) (fun z => absurd z c5)
        obtain ⟨q6, hq6, h⟩ := Option.bind_eq_some_iff.mp h
        refine bX11_nameOf_50 (evX11_w4 hq6) (by omega) ?_
        refine a_ite h (fun c7 h => ?_) (fun c7 h => ?_)
        · refine bX11_nameOf_65 (fun z => absurd c7 z) (fun _ => ?_)
          cases h
          exact bX11_nameOf_69
        · refine bX11_nameOf_65 (fun _ => ?_) (fun z => absurd z c7)
          obtain ⟨q8, hq8, h⟩ := Option.bind_eq_some_iff.mp h
          refine bX11_nameOf_71 (evX11_w5 hq8) (by omega) ?_
          refine a_ite h (fun c9 h => ?_) (fun c9 h => ?_)
          · refine bX11_nameOf_88 (fun z => absurd c9 z) (fun _ => ?_)
            cases h
            exact bX11_nameOf_92
          · refine bX11_nameOf_88 (fun _ => ?_) (fun z => absurd z c9)
            obtain ⟨q10, hq10, h⟩ := Option.bind_eq_some_iff.mp h
            refine bX11_nameOf_94 (evX11_w5 hq10) (by omega) ?_
            refine a_ite h (fun c11 h => ?_) (fun c11 h => ?_)
            · refine bX11_nameOf_111 (fun z => absurd c11 z) (fun _ => ?_)
              cases h
              exact bX11_nameOf_115
            · refine bX11_nameOf_111 (fun _ => ?_) (fun z => absurd z c11)
              obtain ⟨q12, hq12, h⟩ := Option.bind_eq_some_iff.mp h
              refine bX11_nameOf_117 (evX11_w5 hq12) (by omega) ?_
              refine a_ite h (fun c13 h => ?_) (fun c13 h => ?_)
              · refine bX11_nameOf_134 (fun z => absurd c13 z) (fun _ => ?_)
                cases h
                exact bX11_nameOf_138
              · refine bX11_nameOf_134 (fun _ => ?_) (fun z => absurd z c13)
                obtain ⟨q14, hq14, h⟩ := Option.bind_eq_some_iff.mp h
                refine bX11_nameOf_140 (evX11_w4 hq14) (by omega) ?_
                refine a_ite h (fun c15 h => ?_) (fun c15 h => ?_)
                · refine bX11_nameOf_155 (fun z => absurd c15 z) (fun _ => ?_)
                  refine bX11_nameOf_159 ?_
                  cases h
                  exact bX11_nameOf_193
                · refine bX11_nameOf_155 (fun _ => ?_) (fun z => absurd z c15)
                  obtain ⟨q16, hq16, h⟩ := Option.bind_eq_some_iff.mp h
                  refine bX11_nameOf_164 (evX11_w6 hq16) (by omega) ?_
                  refine a_ite h (fun c17 h => ?_) (fun c17 h => ?_)
                  · refine bX11_nameOf_183 (fun z => absurd c17 z) (fun _ => ?_)
                    refine bX11_nameOf_187 ?_
                    cases h
                    exact bX11_nameOf_193
                  · refine bX11_nameOf_183 (fun _ => ?_) (fun z => absurd z c17)
                    refine bX11_nameOf_192 ?_
                    cases h
                    exact bX11_nameOf_193
  · refine bX11_nameOf_0 (fun z => absurd z c1) (fun _ => ?_)
    cases h
    exact bX11_nameOf_8

noncomputable def FX11_isOf (d : aI) (e : aJ) (x1 : Int32) : Option (Int32 × aI × aJ) := (if x1 < (nI 5) then (some ((nI 1), d, e)) else (if (nI 7) ≤ x1 then (if (d 108 14) = (nI 1) then (some ((nI 1), d, e)) else (some ((nI 0), d, e))) else (if (d 108 14) = 0 then (some ((nI 1), d, e)) else (some ((nI 0), d, e)))))
theorem evX11_isOf {Γ : aG × Launch} {d : aI} {e : aJ} {x1 : Int32} {q : Int32 × aI × aJ} (h : FX11_isOf d e x1 = some q) : Ev Γ (0) mX11_isOf [.ref 108, .int x1] d e (some (.int q.1)) q.2.1 q.2.2 := by
  refine Ev.of (by decide) rfl (Nat.le_of_ble_eq_true rfl) (fun z => by cases z) ?_
  show Rn Γ (0) mX11_isOf 0 [some (.ref 108), some (.int x1)] [] d e _ _ _
  unfold FX11_isOf at h
  refine a_ite h (fun c1 h => ?_) (fun c1 h => ?_)
  · refine bX11_isOf_0 (fun _ => ?_) (fun z => absurd c1 z)
    refine bX11_isOf_29 ?_
    cases h
    exact bX11_isOf_34 (a_nz (Or.inr rfl))
  · refine bX11_isOf_0 (fun z => absurd z c1) (fun _ => ?_)
    refine a_ite h (fun c2 h => ?_) (fun c2 h => ?_)
    · refine bX11_isOf_5 (fun _ => ?_) (fun z => absurd c2 z)
      refine a_ite h (fun c3 h => ?_) (fun c3 h => ?_)
      · refine bX11_isOf_21 (fun z => absurd c3 z) (fun _ => ?_)
        refine bX11_isOf_29 ?_
        cases h
        exact bX11_isOf_34 (a_nz (Or.inr rfl))
      · refine bX11_isOf_21 (fun _ => ?_) (fun z => absurd z c3)
        refine bX11_isOf_33 ?_
        cases h
        exact bX11_isOf_34 (a_nz (Or.inl rfl))
    · refine bX11_isOf_5 (fun z => absurd z c2) (fun _ => ?_)
      refine a_ite h (fun c4 h => ?_) (fun c4 h => ?_)
      · refine bX11_isOf_11 (fun z => absurd c4 z) (fun _ => ?_)
        refine bX11_isOf_18 ?_
        refine bX11_isOf_29 ?_
        cases h
        exact bX11_isOf_34 (a_nz (Or.inr rfl))
      · refine bX11_isOf_11 (fun _ => ?_) (fun z => absurd z c4)
        refine bX11_isOf_33 ?_
        cases h
        exact bX11_isOf_34 (a_nz (Or.inl rfl))

noncomputable def FX11_rank (d : aI) (e : aJ) (x0 : Int32) : Option (Int32 × aI × aJ) := (if x0 < (nI 40) then (if x0 = (nI 22) then (some ((nI 1), d, e)) else (if x0 = (nI 21) then (some ((nI 2), d, e)) else (if x0 = (nI 20) then (some ((nI 3), d, e)) else (if x0 < (nI 10) then (if x0 = (nI 5) then (some ((nI 7), d, e)) else (if x0 = (nI 2) then (some ((nI 7), d, e)) else (if x0 = (nI 4) then (some ((nI 7), d, e)) else (if x0 < (nI 8) then (some ((nI 5), d, e)) else (some ((nI 6), d, e)))))) else (some ((nI 4), d, e)))))) else (some ((nI 0), d, e)))
theorem evX11_rank {Γ : aG × Launch} {d : aI} {e : aJ} {x0 : Int32} {q : Int32 × aI × aJ} (h : FX11_rank d e x0 = some q) : Ev Γ (0) mX11_rank [.int x0] d e (some (.int q.1)) q.2.1 q.2.2 := by
  refine Ev.of (by decide) rfl (Nat.le_of_ble_eq_true rfl) (fun z => by cases z) ?_
  show Rn Γ (0) mX11_rank 0 [some (.int x0)] [] d e _ _ _
  unfold FX11_rank at h
  refine a_ite h (fun c1 h => ?_) (fun c1 h => ?_)
  · refine bX11_rank_0 (fun _ => ?_) (fun z => absurd c1 z)
    refine a_ite h (fun c2 h => ?_) (fun c2 h => ?_)
    · refine bX11_rank_10 (fun z => absurd c2 z) (fun _ => ?_)
      refine bX11_rank_16 ?_
      cases h
      exact bX11_rank_82
    · refine bX11_rank_10 (fun _ => ?_) (fun z => absurd z c2)
      refine a_ite h (fun c3 h => ?_) (fun c3 h => ?_)
      · refine bX11_rank_20 (fun z => absurd c3 z) (fun _ => ?_)
        refine bX11_rank_26 ?_
        cases h
        exact bX11_rank_82
      · refine bX11_rank_20 (fun _ => ?_) (fun z => absurd z c3)
        refine a_ite h (fun c4 h => ?_) (fun c4 h => ?_)
        · refine bX11_rank_30 (fun z => absurd c4 z) (fun _ => ?_)
          refine bX11_rank_36 ?_
          cases h
          exact bX11_rank_82
        · refine bX11_rank_30 (fun _ => ?_) (fun z => absurd z c4)
          refine a_ite h (fun c5 h => ?_) (fun c5 h => ?_)
          · refine bX11_rank_40 (fun _ => ?_) (fun z => absurd c5 z)
            refine a_ite h (fun c6 h => ?_) (fun c6 h => ?_)
            · refine bX11_rank_50 (fun _ => ?_) (fun z => absurd c6 z)
              refine bX11_rank_65 ?_
              cases h
              exact bX11_rank_82
            · refine bX11_rank_50 (fun z => absurd z c6) (fun _ => ?_)
              refine a_ite h (fun c7 h => ?_) (fun c7 h => ?_)
              · refine bX11_rank_55 (fun _ => ?_) (fun z => absurd c7 z)
                refine bX11_rank_65 ?_
                cases h
                exact bX11_rank_82
              · refine bX11_rank_55 (fun z => absurd z c7) (fun _ => ?_)
                refine a_ite h (fun c8 h => ?_) (fun c8 h => ?_)
                · refine bX11_rank_60 (fun z => absurd c8 z) (fun _ => ?_)
                  refine bX11_rank_65 ?_
                  cases h
                  exact bX11_rank_82
                · refine bX11_rank_60 (fun _ => ?_) (fun z => absurd z c8)
                  refine a_ite h (fun c9 h => ?_) (fun c9 h => ?_)
                  · refine bX11_rank_70 (fun _ => ?_) (fun z => absurd c9 z)
                    refine bX11_rank_81 ?_
                    cases h
                    exact bX11_rank_82
                  · refine bX11_rank_70 (fun z => absurd z c9) (fun _ => ?_)
                    refine bX11_rank_76 ?_
                    cases h
                    exact bX11_rank_82
          · refine bX11_rank_40 (fun z => absurd z c5) (fun _ => ?_)
            refine bX11_rank_46 ?_
            cases h
            exact bX11_rank_82
  · refine bX11_rank_0 (fun z => absurd z c1) (fun _ => ?_)
    refine bX11_rank_6 ?_
    cases h
    exact bX11_rank_82

noncomputable def sX11_settle_0 (d : aI) (e : aJ) (x1 : Int32) : Option (Nat × aL × aI × aJ) := (if (d 108 16) ≤ 0 then (some (100000, [], d, e)) else (bif ((a_inb ((d 108 16) - (nI 1)) 160)) then ((FX11_rank d e (d 113 (((d 108 16) - (nI 1))).toNatClampNeg)).bind fun q3 => (if q3.1 < x1 then (some (100000, [], q3.2.1, q3.2.2)) else (bif ((a_inb ((q3.2.1 108 16) - (nI 1)) 160)) then ((FX11_emit (uI q3.2.1 108 16 ((q3.2.1 108 16) - (nI 1))) q3.2.2 (q3.2.1 113 (((q3.2.1 108 16) - (nI 1))).toNatClampNeg) (nI 0)).bind fun q6 => (bif ((a_inb (q6.2.1 108 16) 160)) then ((FX11_rank q6.2.1 q6.2.2 (q6.2.1 113 ((q6.2.1 108 16)).toNatClampNeg)).bind fun q8 => (if q8.1 = (nI 7) then (some (0, [some (.ref 108), some (.int x1)], (uI q8.2.1 108 17 ((q8.2.1 108 17) - (nI 1))), q8.2.2)) else (bif ((a_inb (q8.2.1 108 16) 160)) then (if (q8.2.1 113 ((q8.2.1 108 16)).toNatClampNeg) = (nI 20) then (some (0, [some (.ref 108), some (.int x1)], (uI q8.2.1 108 17 ((q8.2.1 108 17) - (nI 1))), q8.2.2)) else (some (0, [some (.ref 108), some (.int x1)], q8.2.1, q8.2.2))) else none))) else none)) else none))) else none))
theorem tX11_settle_0 {Γ : aG × Launch} {d dF : aI} {e eF : aJ} {x1 : Int32} {r : Option Value} {p : Nat × aL × aI × aJ} (h : sX11_settle_0 d e x1 = some p) (kc : Nat.beq p.1 100000 = false → Rn Γ (1) mX11_settle p.1 p.2.1 [] p.2.2.1 p.2.2.2 r dF eF) (kr : p.1 = 100000 → r = a_rt p.2.1 ∧ dF = p.2.2.1 ∧ eF = p.2.2.2) : Rn Γ (1) mX11_settle 0 [some (.ref 108), some (.int x1)] [] d e r dF eF := by
  unfold sX11_settle_0 at h
  refine a_ite h (fun c1 h => ?_) (fun c1 h => ?_)
  · refine bX11_settle_0 (fun _ => ?_) (fun z => absurd c1 z)
    cases h
    obtain ⟨k1, k2, k3⟩ := kr rfl
    exact bX11_settle_93 k1 k2 k3
  · refine bX11_settle_0 (fun z => absurd z c1) (fun _ => ?_)
    obtain ⟨g2, h⟩ := a_cond h
    obtain ⟨q3, hq3, h⟩ := Option.bind_eq_some_iff.mp h
    refine bX11_settle_7 (a_inb_vp g2) (evX11_rank hq3) (by omega) ?_
    refine a_ite h (fun c4 h => ?_) (fun c4 h => ?_)
    · refine bX11_settle_21 (fun _ => ?_) (fun z => absurd c4 z)
      cases h
      obtain ⟨k1, k2, k3⟩ := kr rfl
      exact bX11_settle_93 k1 k2 k3
    · refine bX11_settle_21 (fun z => absurd z c4) (fun _ => ?_)
      obtain ⟨g5, h⟩ := a_cond h
      obtain ⟨q6, hq6, h⟩ := Option.bind_eq_some_iff.mp h
      refine bX11_settle_25 (a_inb_vp g5) (evX11_emit hq6) (by omega) ?_
      obtain ⟨g7, h⟩ := a_cond h
      obtain ⟨q8, hq8, h⟩ := Option.bind_eq_some_iff.mp h
      refine bX11_settle_49 (a_inb_vp g7) (evX11_rank hq8) (by omega) ?_
      refine a_ite h (fun c9 h => ?_) (fun c9 h => ?_)
      · refine bX11_settle_61 (fun _ => ?_) (fun z => absurd c9 z)
        refine bX11_settle_80 ?_
        cases h
        exact kc rfl
      · refine bX11_settle_61 (fun z => absurd z c9) (fun _ => ?_)
        obtain ⟨g10, h⟩ := a_cond h
        refine a_ite h (fun c11 h => ?_) (fun c11 h => ?_)
        · refine bX11_settle_66 (a_inb_vp g10) (fun z => absurd c11 z) (fun _ => ?_)
          refine bX11_settle_80 ?_
          cases h
          exact kc rfl
        · refine bX11_settle_66 (a_inb_vp g10) (fun _ => ?_) (fun z => absurd z c11)
          cases h
          exact kc rfl

noncomputable def stX11_settle (p : Nat × aL × aI × aJ) : Option (Nat × aL × aI × aJ) := match p with
  | (0, [some (.ref 108), some (.int x1)], d, e) => sX11_settle_0 d e x1
  | _ => none
theorem uX11_settle {Γ : aG × Launch} {p p2 : Nat × aL × aI × aJ} {r : Option Value} {dF : aI} {eF : aJ} (h : stX11_settle p = some p2) (kc : Nat.beq p2.1 100000 = false → Rn Γ (1) mX11_settle p2.1 p2.2.1 [] p2.2.2.1 p2.2.2.2 r dF eF) (kr : p2.1 = 100000 → r = a_rt p2.2.1 ∧ dF = p2.2.2.1 ∧ eF = p2.2.2.2) : Rn Γ (1) mX11_settle p.1 p.2.1 [] p.2.2.1 p.2.2.2 r dF eF := by
  unfold stX11_settle at h
  split at h
  · exact tX11_settle_0 h kc kr
  · cases h
noncomputable def FX11_settle (d : aI) (e : aJ) (x1 : Int32) : Option (Unit × aI × aJ) := (a_run (stX11_settle) (0, [some (.ref 108), some (.int x1)], d, e)).bind a_xV
theorem evX11_settle {Γ : aG × Launch} {d : aI} {e : aJ} {x1 : Int32} {q : Unit × aI × aJ} (h : FX11_settle d e x1 = some q) : Ev Γ (1) mX11_settle [.ref 108, .int x1] d e none q.2.1 q.2.2 := by
  refine Ev.of (by decide) rfl (Nat.le_of_ble_eq_true rfl) (fun z => by cases z) ?_
  show Rn Γ (1) mX11_settle 0 [some (.ref 108), some (.int x1)] [] d e _ _ _
  obtain ⟨q1, h1, h2⟩ := Option.bind_eq_some_iff.mp h
  obtain ⟨e1, e2, e3⟩ := a_xV_rt h2
  exact Rn.cast (a_run_ok (uX11_settle) rfl h1) e1.symm e2.symm e3.symm
noncomputable def sX11_openAt_0 (d : aI) (e : aJ)  : Option (Nat × aL × aI × aJ) := (some (7, [some (.ref 108), some (.int ((d 108 16) - (nI 1)))], d, e))
theorem tX11_openAt_0 {Γ : aG × Launch} {d dF : aI} {e eF : aJ}  {r : Option Value} {p : Nat × aL × aI × aJ} (h : sX11_openAt_0 d e  = some p) (kc : Nat.beq p.1 100000 = false → Rn Γ (0) mX11_openAt p.1 p.2.1 [] p.2.2.1 p.2.2.2 r dF eF) (kr : p.1 = 100000 → r = a_rt p.2.1 ∧ dF = p.2.2.1 ∧ eF = p.2.2.2) : Rn Γ (0) mX11_openAt 0 [some (.ref 108), none] [] d e r dF eF := by
  unfold sX11_openAt_0 at h
  refine bX11_openAt_0 ?_
  cases h
  exact kc rfl

noncomputable def sX11_openAt_7 (d : aI) (e : aJ) (x1 : Int32) : Option (Nat × aL × aI × aJ) := (if x1 < 0 then (some (100000, [some (.int x1)], d, e)) else (bif ((a_inb x1 160)) then (if (nI 40) ≤ (d 113 (x1).toNatClampNeg) then (some (100000, [some (.int x1)], d, e)) else (some (7, [some (.ref 108), some (.int (x1 + (-(nI 1))))], d, e))) else none))
theorem tX11_openAt_7 {Γ : aG × Launch} {d dF : aI} {e eF : aJ} {x1 : Int32} {r : Option Value} {p : Nat × aL × aI × aJ} (h : sX11_openAt_7 d e x1 = some p) (kc : Nat.beq p.1 100000 = false → Rn Γ (0) mX11_openAt p.1 p.2.1 [] p.2.2.1 p.2.2.2 r dF eF) (kr : p.1 = 100000 → r = a_rt p.2.1 ∧ dF = p.2.2.1 ∧ eF = p.2.2.2) : Rn Γ (0) mX11_openAt 7 [some (.ref 108), some (.int x1)] [] d e r dF eF := by
  unfold sX11_openAt_7 at h
  refine a_ite h (fun c1 h => ?_) (fun c1 h => ?_)
  · refine bX11_openAt_7 (fun _ => ?_) (fun z => absurd c1 z)
    cases h
    obtain ⟨k1, k2, k3⟩ := kr rfl
    exact bX11_openAt_28 k1 k2 k3
  · refine bX11_openAt_7 (fun z => absurd z c1) (fun _ => ?_)
    obtain ⟨g2, h⟩ := a_cond h
    refine a_ite h (fun c3 h => ?_) (fun c3 h => ?_)
    · refine bX11_openAt_11 (a_inb_vp g2) (fun _ => ?_) (fun z => absurd c3 z)
      cases h
      obtain ⟨k1, k2, k3⟩ := kr rfl
      exact bX11_openAt_28 k1 k2 k3
    · refine bX11_openAt_11 (a_inb_vp g2) (fun z => absurd z c3) (fun _ => ?_)
      refine bX11_openAt_22 ?_
      cases h
      exact kc rfl

noncomputable def stX11_openAt (p : Nat × aL × aI × aJ) : Option (Nat × aL × aI × aJ) := match p with
  | (0, [some (.ref 108), none], d, e) => sX11_openAt_0 d e 
  | (7, [some (.ref 108), some (.int x1)], d, e) => sX11_openAt_7 d e x1
  | _ => none
theorem uX11_openAt {Γ : aG × Launch} {p p2 : Nat × aL × aI × aJ} {r : Option Value} {dF : aI} {eF : aJ} (h : stX11_openAt p = some p2) (kc : Nat.beq p2.1 100000 = false → Rn Γ (0) mX11_openAt p2.1 p2.2.1 [] p2.2.2.1 p2.2.2.2 r dF eF) (kr : p2.1 = 100000 → r = a_rt p2.2.1 ∧ dF = p2.2.2.1 ∧ eF = p2.2.2.2) : Rn Γ (0) mX11_openAt p.1 p.2.1 [] p.2.2.1 p.2.2.2 r dF eF := by
  unfold stX11_openAt at h
  split at h
  · exact tX11_openAt_0 h kc kr
  · exact tX11_openAt_7 h kc kr
  · cases h
noncomputable def FX11_openAt (d : aI) (e : aJ)  : Option (Int32 × aI × aJ) := (a_run (stX11_openAt) (0, [some (.ref 108), none], d, e)).bind a_xI
theorem evX11_openAt {Γ : aG × Launch} {d : aI} {e : aJ}  {q : Int32 × aI × aJ} (h : FX11_openAt d e  = some q) : Ev Γ (0) mX11_openAt [.ref 108] d e (some (.int q.1)) q.2.1 q.2.2 := by
  refine Ev.of (by decide) rfl (Nat.le_of_ble_eq_true rfl) (fun z => by cases z) ?_
  show Rn Γ (0) mX11_openAt 0 [some (.ref 108), none] [] d e _ _ _
  obtain ⟨q1, h1, h2⟩ := Option.bind_eq_some_iff.mp h
  obtain ⟨e1, e2, e3⟩ := a_xI_rt h2
  exact Rn.cast (a_run_ok (uX11_openAt) rfl h1) e1.symm e2.symm e3.symm
noncomputable def FX11_openNow (d : aI) (e : aJ)  : Option (Int32 × aI × aJ) := ((FX11_openAt d e).bind fun q1 => (if 0 ≤ q1.1 then ((FX11_openAt q1.2.1 q1.2.2).bind fun q3 => (bif ((a_inb q3.1 160)) then (some ((q3.2.1 113 (q3.1).toNatClampNeg), q3.2.1, q3.2.2)) else none)) else (some ((-(nI 1)), q1.2.1, q1.2.2))))
theorem evX11_openNow {Γ : aG × Launch} {d : aI} {e : aJ}  {q : Int32 × aI × aJ} (h : FX11_openNow d e  = some q) : Ev Γ (1) mX11_openNow [.ref 108] d e (some (.int q.1)) q.2.1 q.2.2 := by
  refine Ev.of (by decide) rfl (Nat.le_of_ble_eq_true rfl) (fun z => by cases z) ?_
  show Rn Γ (1) mX11_openNow 0 [some (.ref 108)] [] d e _ _ _
  unfold FX11_openNow at h
  obtain ⟨q1, hq1, h⟩ := Option.bind_eq_some_iff.mp h
  refine bX11_openNow_0 (evX11_openAt hq1) (by omega) ?_
  refine a_ite h (fun c2 h => ?_) (fun c2 h => ?_)
  · refine bX11_openNow_4 (fun _ => ?_) (fun z => absurd c2 z)
    obtain ⟨q3, hq3, h⟩ := Option.bind_eq_some_iff.mp h
    refine bX11_openNow_11 (evX11_openAt hq3) (by omega) ?_
    obtain ⟨g4, h⟩ := a_cond h
    refine bX11_openNow_19 (a_inb_vp g4) ?_
    cases h
    exact bX11_openNow_20
  · refine bX11_openNow_4 (fun z => absurd z c2) (fun _ => ?_)
    refine bX11_openNow_7 ?_
    cases h
    exact bX11_openNow_20

noncomputable def sX11_isCompared_0 (d : aI) (e : aJ)  : Option (Nat × aL × aI × aJ) := (some (7, [some (.ref 108), some (.int ((d 108 16) - (nI 1)))], d, e))
theorem tX11_isCompared_0 {Γ : aG × Launch} {d dF : aI} {e eF : aJ}  {r : Option Value} {p : Nat × aL × aI × aJ} (h : sX11_isCompared_0 d e  = some p) (kc : Nat.beq p.1 100000 = false → Rn Γ (1) mX11_isCompared p.1 p.2.1 [] p.2.2.1 p.2.2.2 r dF eF) (kr : p.1 = 100000 → r = a_rt p.2.1 ∧ dF = p.2.2.1 ∧ eF = p.2.2.2) : Rn Γ (1) mX11_isCompared 0 [some (.ref 108), none] [] d e r dF eF := by
  unfold sX11_isCompared_0 at h
  refine bX11_isCompared_0 ?_
  cases h
  exact kc rfl

noncomputable def sX11_isCompared_7 (d : aI) (e : aJ) (x1 : Int32) : Option (Nat × aL × aI × aJ) := (if x1 < 0 then (if x1 < 0 then (some (100000, [some (.int (nI 0))], d, e)) else (bif ((a_inb x1 160)) then ((FX11_rank d e (d 113 (x1).toNatClampNeg)).bind fun q4 => (if q4.1 = (nI 4) then (some (100000, [some (.int (nI 1))], q4.2.1, q4.2.2)) else (some (100000, [some (.int (nI 0))], q4.2.1, q4.2.2)))) else none)) else (bif ((a_inb x1 160)) then ((FX11_rank d e (d 113 (x1).toNatClampNeg)).bind fun q7 => (if q7.1 ≤ (nI 4) then (if x1 < 0 then (some (100000, [some (.int (nI 0))], q7.2.1, q7.2.2)) else (bif ((a_inb x1 160)) then ((FX11_rank q7.2.1 q7.2.2 (q7.2.1 113 (x1).toNatClampNeg)).bind fun q11 => (if q11.1 = (nI 4) then (some (100000, [some (.int (nI 1))], q11.2.1, q11.2.2)) else (some (100000, [some (.int (nI 0))], q11.2.1, q11.2.2)))) else none)) else (some (7, [some (.ref 108), some (.int (x1 + (-(nI 1))))], q7.2.1, q7.2.2)))) else none))
theorem tX11_isCompared_7 {Γ : aG × Launch} {d dF : aI} {e eF : aJ} {x1 : Int32} {r : Option Value} {p : Nat × aL × aI × aJ} (h : sX11_isCompared_7 d e x1 = some p) (kc : Nat.beq p.1 100000 = false → Rn Γ (1) mX11_isCompared p.1 p.2.1 [] p.2.2.1 p.2.2.2 r dF eF) (kr : p.1 = 100000 → r = a_rt p.2.1 ∧ dF = p.2.2.1 ∧ eF = p.2.2.2) : Rn Γ (1) mX11_isCompared 7 [some (.ref 108), some (.int x1)] [] d e r dF eF := by
  unfold sX11_isCompared_7 at h
  refine a_ite h (fun c1 h => ?_) (fun c1 h => ?_)
  · refine bX11_isCompared_7 (fun _ => ?_) (fun z => absurd c1 z)
    refine a_ite h (fun c2 h => ?_) (fun c2 h => ?_)
    · refine bX11_isCompared_30 (fun _ => ?_) (fun z => absurd c2 z)
      refine bX11_isCompared_51 ?_
      cases h
      obtain ⟨k1, k2, k3⟩ := kr rfl
      exact bX11_isCompared_52 (a_nz (Or.inl rfl)) k1 k2 k3
    · refine bX11_isCompared_30 (fun z => absurd z c2) (fun _ => ?_)
      obtain ⟨g3, h⟩ := a_cond h
      obtain ⟨q4, hq4, h⟩ := Option.bind_eq_some_iff.mp h
      refine bX11_isCompared_34 (a_inb_vp g3) (evX11_rank hq4) (by omega) ?_
      refine a_ite h (fun c5 h => ?_) (fun c5 h => ?_)
      · refine bX11_isCompared_43 (fun z => absurd c5 z) (fun _ => ?_)
        refine bX11_isCompared_47 ?_
        cases h
        obtain ⟨k1, k2, k3⟩ := kr rfl
        exact bX11_isCompared_52 (a_nz (Or.inr rfl)) k1 k2 k3
      · refine bX11_isCompared_43 (fun _ => ?_) (fun z => absurd z c5)
        refine bX11_isCompared_51 ?_
        cases h
        obtain ⟨k1, k2, k3⟩ := kr rfl
        exact bX11_isCompared_52 (a_nz (Or.inl rfl)) k1 k2 k3
  · refine bX11_isCompared_7 (fun z => absurd z c1) (fun _ => ?_)
    obtain ⟨g6, h⟩ := a_cond h
    obtain ⟨q7, hq7, h⟩ := Option.bind_eq_some_iff.mp h
    refine bX11_isCompared_11 (a_inb_vp g6) (evX11_rank hq7) (by omega) ?_
    refine a_ite h (fun c8 h => ?_) (fun c8 h => ?_)
    · refine bX11_isCompared_20 (fun _ => ?_) (fun z => absurd c8 z)
      refine a_ite h (fun c9 h => ?_) (fun c9 h => ?_)
      · refine bX11_isCompared_30 (fun _ => ?_) (fun z => absurd c9 z)
        refine bX11_isCompared_51 ?_
        cases h
        obtain ⟨k1, k2, k3⟩ := kr rfl
        exact bX11_isCompared_52 (a_nz (Or.inl rfl)) k1 k2 k3
      · refine bX11_isCompared_30 (fun z => absurd z c9) (fun _ => ?_)
        obtain ⟨g10, h⟩ := a_cond h
        obtain ⟨q11, hq11, h⟩ := Option.bind_eq_some_iff.mp h
        refine bX11_isCompared_34 (a_inb_vp g10) (evX11_rank hq11) (by omega) ?_
        refine a_ite h (fun c12 h => ?_) (fun c12 h => ?_)
        · refine bX11_isCompared_43 (fun z => absurd c12 z) (fun _ => ?_)
          refine bX11_isCompared_47 ?_
          cases h
          obtain ⟨k1, k2, k3⟩ := kr rfl
          exact bX11_isCompared_52 (a_nz (Or.inr rfl)) k1 k2 k3
        · refine bX11_isCompared_43 (fun _ => ?_) (fun z => absurd z c12)
          refine bX11_isCompared_51 ?_
          cases h
          obtain ⟨k1, k2, k3⟩ := kr rfl
          exact bX11_isCompared_52 (a_nz (Or.inl rfl)) k1 k2 k3
    · refine bX11_isCompared_20 (fun z => absurd z c8) (fun _ => ?_)
      refine bX11_isCompared_24 ?_
      cases h
      exact kc rfl

noncomputable def stX11_isCompared (p : Nat × aL × aI × aJ) : Option (Nat × aL × aI × aJ) := match p with
  | (0, [some (.ref 108), none], d, e) => sX11_isCompared_0 d e 
  | (7, [some (.ref 108), some (.int x1)], d, e) => sX11_isCompared_7 d e x1
  | _ => none
theorem uX11_isCompared {Γ : aG × Launch} {p p2 : Nat × aL × aI × aJ} {r : Option Value} {dF : aI} {eF : aJ} (h : stX11_isCompared p = some p2) (kc : Nat.beq p2.1 100000 = false → Rn Γ (1) mX11_isCompared p2.1 p2.2.1 [] p2.2.2.1 p2.2.2.2 r dF eF) (kr : p2.1 = 100000 → r = a_rt p2.2.1 ∧ dF = p2.2.2.1 ∧ eF = p2.2.2.2) : Rn Γ (1) mX11_isCompared p.1 p.2.1 [] p.2.2.1 p.2.2.2 r dF eF := by
  unfold stX11_isCompared at h
  split at h
  · exact tX11_isCompared_0 h kc kr
  · exact tX11_isCompared_7 h kc kr
  · cases h
noncomputable def FX11_isCompared (d : aI) (e : aJ)  : Option (Int32 × aI × aJ) := (a_run (stX11_isCompared) (0, [some (.ref 108), none], d, e)).bind a_xI
theorem evX11_isCompared {Γ : aG × Launch} {d : aI} {e : aJ}  {q : Int32 × aI × aJ} (h : FX11_isCompared d e  = some q) : Ev Γ (1) mX11_isCompared [.ref 108] d e (some (.int q.1)) q.2.1 q.2.2 := by
  refine Ev.of (by decide) rfl (Nat.le_of_ble_eq_true rfl) (fun z => by cases z) ?_
  show Rn Γ (1) mX11_isCompared 0 [some (.ref 108), none] [] d e _ _ _
  obtain ⟨q1, h1, h2⟩ := Option.bind_eq_some_iff.mp h
  obtain ⟨e1, e2, e3⟩ := a_xI_rt h2
  exact Rn.cast (a_run_ok (uX11_isCompared) rfl h1) e1.symm e2.symm e3.symm
noncomputable def FX11_isAskAhead (d : aI) (e : aJ)  : Option (Int32 × aI × aJ) := ((FX11_openNow d e).bind fun q1 => (if q1.1 = (nI 42) then (bif ((a_inb ((q1.2.1 108 16) - (nI 1)) 160)) then (if (nI 40) ≤ (q1.2.1 113 (((q1.2.1 108 16) - (nI 1))).toNatClampNeg) then (some ((nI 1), q1.2.1, q1.2.2)) else (bif ((a_inb ((q1.2.1 108 16) - (nI 1)) 160)) then ((FX11_rank q1.2.1 q1.2.2 (q1.2.1 113 (((q1.2.1 108 16) - (nI 1))).toNatClampNeg)).bind fun q6 => ((FX11_isIn q6.2.1 q6.2.2 q6.1 (nI 1) (nI 3)).bind fun q7 => (if q7.1 = 0 then (some ((nI 0), q7.2.1, q7.2.2)) else (some ((nI 1), q7.2.1, q7.2.2))))) else none)) else none) else (some ((nI 0), q1.2.1, q1.2.2))))
theorem evX11_isAskAhead {Γ : aG × Launch} {d : aI} {e : aJ}  {q : Int32 × aI × aJ} (h : FX11_isAskAhead d e  = some q) : Ev Γ (2) mX11_isAskAhead [.ref 108] d e (some (.int q.1)) q.2.1 q.2.2 := by
  refine Ev.of (by decide) rfl (Nat.le_of_ble_eq_true rfl) (fun z => by cases z) ?_
  show Rn Γ (2) mX11_isAskAhead 0 [some (.ref 108)] [] d e _ _ _
  unfold FX11_isAskAhead at h
  obtain ⟨q1, hq1, h⟩ := Option.bind_eq_some_iff.mp h
  refine bX11_isAskAhead_0 (evX11_openNow hq1) (by omega) ?_
  refine a_ite h (fun c2 h => ?_) (fun c2 h => ?_)
  · refine bX11_isAskAhead_4 (fun z => absurd c2 z) (fun _ => ?_)
    obtain ⟨g3, h⟩ := a_cond h
    refine a_ite h (fun c4 h => ?_) (fun c4 h => ?_)
    · refine bX11_isAskAhead_9 (a_inb_vp g3) (fun _ => ?_) (fun z => absurd c4 z)
      refine bX11_isAskAhead_47 ?_
      cases h
      exact bX11_isAskAhead_52 (a_nz (Or.inr rfl))
    · refine bX11_isAskAhead_9 (a_inb_vp g3) (fun z => absurd z c4) (fun _ => ?_)
      obtain ⟨g5, h⟩ := a_cond h
      obtain ⟨q6, hq6, h⟩ := Option.bind_eq_some_iff.mp h
      refine bX11_isAskAhead_25 (a_inb_vp g5) (evX11_rank hq6) (by omega) ?_
      obtain ⟨q7, hq7, h⟩ := Option.bind_eq_some_iff.mp h
      refine bX11_isAskAhead_39 (evX11_isIn hq7) (by omega) ?_
      refine a_ite h (fun c8 h => ?_) (fun c8 h => ?_)
      · refine bX11_isAskAhead_44 (fun _ => ?_) (fun z => absurd c8 z)
        refine bX11_isAskAhead_51 ?_
        cases h
        exact bX11_isAskAhead_52 (a_nz (Or.inl rfl))
      · refine bX11_isAskAhead_44 (fun z => absurd z c8) (fun _ => ?_)
        refine bX11_isAskAhead_47 ?_
        cases h
        exact bX11_isAskAhead_52 (a_nz (Or.inr rfl))
  · refine bX11_isAskAhead_4 (fun _ => ?_) (fun z => absurd z c2)
    refine bX11_isAskAhead_51 ?_
    cases h
    exact bX11_isAskAhead_52 (a_nz (Or.inl rfl))

noncomputable def FX11_opened (d : aI) (e : aJ) (x1 : Int32) : Option (Int32 × aI × aJ) := (if (d 108 17) = (nI 8) then (some ((nI 3), d, e)) else (bif ((a_inb (d 108 16) 160)) then ((FX11_nextToken (uI (uI (uI d 108 17 ((d 108 17) + (nI 1))) 113 ((d 108 16)).toNatClampNeg x1) 108 16 ((d 108 16) + (nI 1))) e).bind fun q3 => (some ((nI 0), q3.2.1, q3.2.2))) else none))
theorem evX11_opened {Γ : aG × Launch} {d : aI} {e : aJ} {x1 : Int32} {q : Int32 × aI × aJ} (h : FX11_opened d e x1 = some q) : Ev Γ (2) mX11_opened [.ref 108, .int x1] d e (some (.int q.1)) q.2.1 q.2.2 := by
  refine Ev.of (by decide) rfl (Nat.le_of_ble_eq_true rfl) (fun z => by cases z) ?_
  show Rn Γ (2) mX11_opened 0 [some (.ref 108), some (.int x1)] [] d e _ _ _
  unfold FX11_opened at h
  refine a_ite h (fun c1 h => ?_) (fun c1 h => ?_)
  · refine bX11_opened_0 (fun z => absurd c1 z) (fun _ => ?_)
    cases h
    exact bX11_opened_9
  · refine bX11_opened_0 (fun _ => ?_) (fun z => absurd z c1)
    obtain ⟨g2, h⟩ := a_cond h
    obtain ⟨q3, hq3, h⟩ := Option.bind_eq_some_iff.mp h
    refine bX11_opened_11 (a_inb_vp g2) (evX11_nextToken hq3) (by omega) ?_
    cases h
    exact bX11_opened_45

noncomputable def FX11_endOne (d : aI) (e : aJ)  : Option (Int32 × aI × aJ) := ((FX11_settle d e (nI 7)).bind fun q1 => (bif ((decide ((nI 1) = 0 ∨ (nI 1) = 1))) then (if (q1.2.1 108 16) = 0 then (some ((nI 0), (uI q1.2.1 108 18 (nI 1)), q1.2.2)) else (bif ((a_inb (((uI q1.2.1 108 18 (nI 1)) 108 16) - (nI 1)) 160)) then (if ((uI q1.2.1 108 18 (nI 1)) 113 ((((uI q1.2.1 108 18 (nI 1)) 108 16) - (nI 1))).toNatClampNeg) = (nI 41) then ((FX11_w2 (uI q1.2.1 108 18 (nI 1)) q1.2.2 (nI 116) (nI 111)).bind fun q6 => ((FX11_isWord q6.2.1 q6.2.2 q6.1).bind fun q7 => (if q7.1 = 0 then (some ((nI 1), q7.2.1, q7.2.2)) else ((FX11_nextToken q7.2.1 q7.2.2).bind fun q9 => (bif ((a_inb ((q9.2.1 108 16) - (nI 1)) 160) && (decide ((nI 0) = 0 ∨ (nI 0) = 1))) then (some ((nI 0), (uI (uI q9.2.1 113 (((q9.2.1 108 16) - (nI 1))).toNatClampNeg (nI 4)) 108 18 (nI 0)), q9.2.2)) else none))))) else (some ((nI 0), (uI q1.2.1 108 18 (nI 1)), q1.2.2))) else none)) else none))
theorem evX11_endOne {Γ : aG × Launch} {d : aI} {e : aJ}  {q : Int32 × aI × aJ} (h : FX11_endOne d e  = some q) : Ev Γ (2) mX11_endOne [.ref 108] d e (some (.int q.1)) q.2.1 q.2.2 := by
  refine Ev.of (by decide) rfl (Nat.le_of_ble_eq_true rfl) (fun z => by cases z) ?_
  show Rn Γ (2) mX11_endOne 0 [some (.ref 108)] [] d e _ _ _
  unfold FX11_endOne at h
  obtain ⟨q1, hq1, h⟩ := Option.bind_eq_some_iff.mp h
  refine bX11_endOne_0 (evX11_settle hq1) (by omega) ?_
  obtain ⟨g2, h⟩ := a_cond h
  refine a_ite h (fun c3 h => ?_) (fun c3 h => ?_)
  · refine bX11_endOne_6 (of_decide_eq_true g2) (fun _ => ?_) (fun z => absurd c3 z)
    cases h
    exact bX11_endOne_34
  · refine bX11_endOne_6 (of_decide_eq_true g2) (fun z => absurd z c3) (fun _ => ?_)
    obtain ⟨g4, h⟩ := a_cond h
    refine a_ite h (fun c5 h => ?_) (fun c5 h => ?_)
    · refine bX11_endOne_18 (a_inb_vp g4) (fun _ => ?_) (fun z => absurd c5 z)
      obtain ⟨q6, hq6, h⟩ := Option.bind_eq_some_iff.mp h
      refine bX11_endOne_36 (evX11_w2 hq6) (by omega) ?_
      obtain ⟨q7, hq7, h⟩ := Option.bind_eq_some_iff.mp h
      refine bX11_endOne_44 (evX11_isWord hq7) (by omega) ?_
      refine a_ite h (fun c8 h => ?_) (fun c8 h => ?_)
      · refine bX11_endOne_47 (fun z => absurd c8 z) (fun _ => ?_)
        cases h
        exact bX11_endOne_50
      · refine bX11_endOne_47 (fun _ => ?_) (fun z => absurd z c8)
        obtain ⟨q9, hq9, h⟩ := Option.bind_eq_some_iff.mp h
        refine bX11_endOne_52 (evX11_nextToken hq9) (by omega) ?_
        obtain ⟨g10, h⟩ := a_cond h
        obtain ⟨g10x1, g10_1⟩ := a_and g10
        have g10_0 := g10x1
        cases h
        exact bX11_endOne_56 ⟨(a_inb_vp g10_0), (of_decide_eq_true g10_1)⟩
    · refine bX11_endOne_18 (a_inb_vp g4) (fun z => absurd z c5) (fun _ => ?_)
      cases h
      exact bX11_endOne_34

noncomputable def FX11_compareOf (d : aI) (e : aJ)  : Option (Int32 × aI × aJ) := (if (d 108 9) = (nI 60) then (some ((nI 10), d, e)) else (if (d 108 9) = (nI 4) then (some ((nI 11), d, e)) else (if (d 108 9) = (nI 62) then (some ((nI 12), d, e)) else (if (d 108 9) = (nI 5) then (some ((nI 13), d, e)) else (if (d 108 9) = (nI 61) then (some ((nI 14), d, e)) else (if (d 108 9) = (nI 35) then (some ((nI 15), d, e)) else (some ((-(nI 1)), d, e))))))))
theorem evX11_compareOf {Γ : aG × Launch} {d : aI} {e : aJ}  {q : Int32 × aI × aJ} (h : FX11_compareOf d e  = some q) : Ev Γ (0) mX11_compareOf [.ref 108] d e (some (.int q.1)) q.2.1 q.2.2 := by
  refine Ev.of (by decide) rfl (Nat.le_of_ble_eq_true rfl) (fun z => by cases z) ?_
  show Rn Γ (0) mX11_compareOf 0 [some (.ref 108)] [] d e _ _ _
  unfold FX11_compareOf at h
  refine a_ite h (fun c1 h => ?_) (fun c1 h => ?_)
  · refine bX11_compareOf_0 (fun z => absurd c1 z) (fun _ => ?_)
    refine bX11_compareOf_9 ?_
    cases h
    exact bX11_compareOf_83
  · refine bX11_compareOf_0 (fun _ => ?_) (fun z => absurd z c1)
    refine a_ite h (fun c2 h => ?_) (fun c2 h => ?_)
    · refine bX11_compareOf_14 (fun z => absurd c2 z) (fun _ => ?_)
      refine bX11_compareOf_22 ?_
      cases h
      exact bX11_compareOf_83
    · refine bX11_compareOf_14 (fun _ => ?_) (fun z => absurd z c2)
      refine a_ite h (fun c3 h => ?_) (fun c3 h => ?_)
      · refine bX11_compareOf_27 (fun z => absurd c3 z) (fun _ => ?_)
        refine bX11_compareOf_36 ?_
        cases h
        exact bX11_compareOf_83
      · refine bX11_compareOf_27 (fun _ => ?_) (fun z => absurd z c3)
        refine a_ite h (fun c4 h => ?_) (fun c4 h => ?_)
        · refine bX11_compareOf_41 (fun z => absurd c4 z) (fun _ => ?_)
          refine bX11_compareOf_49 ?_
          cases h
          exact bX11_compareOf_83
        · refine bX11_compareOf_41 (fun _ => ?_) (fun z => absurd z c4)
          refine a_ite h (fun c5 h => ?_) (fun c5 h => ?_)
          · refine bX11_compareOf_54 (fun z => absurd c5 z) (fun _ => ?_)
            refine bX11_compareOf_63 ?_
            cases h
            exact bX11_compareOf_83
          · refine bX11_compareOf_54 (fun _ => ?_) (fun z => absurd z c5)
            refine a_ite h (fun c6 h => ?_) (fun c6 h => ?_)
            · refine bX11_compareOf_68 (fun z => absurd c6 z) (fun _ => ?_)
              refine bX11_compareOf_77 ?_
              cases h
              exact bX11_compareOf_83
            · refine bX11_compareOf_68 (fun _ => ?_) (fun z => absurd z c6)
              refine bX11_compareOf_82 ?_
              cases h
              exact bX11_compareOf_83

noncomputable def FX11_betweenOf (d : aI) (e : aJ)  : Option (Int32 × aI × aJ) := (if (d 108 9) = (nI 43) then (some ((nI 6), d, e)) else (if (d 108 9) = (nI 45) then (some ((nI 7), d, e)) else (if (d 108 9) = (nI 42) then (some ((nI 8), d, e)) else (if (d 108 9) = (nI 47) then (some ((nI 9), d, e)) else ((FX11_openNow d e).bind fun q5 => (if q5.1 = (nI 42) then ((FX11_isCompared q5.2.1 q5.2.2).bind fun q7 => (if q7.1 = 0 then ((FX11_compareOf q7.2.1 q7.2.2).bind fun q9 => (some (q9.1, q9.2.1, q9.2.2))) else ((FX11_w3 q7.2.1 q7.2.2 (nI 97) (nI 110) (nI 100)).bind fun q10 => ((FX11_isWord q10.2.1 q10.2.2 q10.1).bind fun q11 => (if q11.1 = 0 then ((FX11_w2 q11.2.1 q11.2.2 (nI 111) (nI 114)).bind fun q13 => ((FX11_isWord q13.2.1 q13.2.2 q13.1).bind fun q14 => (if q14.1 = 0 then (some ((-(nI 1)), q14.2.1, q14.2.2)) else (some ((nI 22), q14.2.1, q14.2.2))))) else (some ((nI 21), q11.2.1, q11.2.2))))))) else (some ((-(nI 1)), q5.2.1, q5.2.2))))))))
theorem evX11_betweenOf {Γ : aG × Launch} {d : aI} {e : aJ}  {q : Int32 × aI × aJ} (h : FX11_betweenOf d e  = some q) : Ev Γ (2) mX11_betweenOf [.ref 108] d e (some (.int q.1)) q.2.1 q.2.2 := by
  refine Ev.of (by decide) rfl (Nat.le_of_ble_eq_true rfl) (fun z => by cases z) ?_
  show Rn Γ (2) mX11_betweenOf 0 [some (.ref 108)] [] d e _ _ _
  unfold FX11_betweenOf at h
  refine a_ite h (fun c1 h => ?_) (fun c1 h => ?_)
  · refine bX11_betweenOf_0 (fun z => absurd c1 z) (fun _ => ?_)
    cases h
    exact bX11_betweenOf_9
  · refine bX11_betweenOf_0 (fun _ => ?_) (fun z => absurd z c1)
    refine a_ite h (fun c2 h => ?_) (fun c2 h => ?_)
    · refine bX11_betweenOf_12 (fun z => absurd c2 z) (fun _ => ?_)
      cases h
      exact bX11_betweenOf_21
    · refine bX11_betweenOf_12 (fun _ => ?_) (fun z => absurd z c2)
      refine a_ite h (fun c3 h => ?_) (fun c3 h => ?_)
      · refine bX11_betweenOf_24 (fun z => absurd c3 z) (fun _ => ?_)
        cases h
        exact bX11_betweenOf_33
      · refine bX11_betweenOf_24 (fun _ => ?_) (fun z => absurd z c3)
        refine a_ite h (fun c4 h => ?_) (fun c4 h => ?_)
        · refine bX11_betweenOf_36 (fun z => absurd c4 z) (fun _ => ?_)
          cases h
          exact bX11_betweenOf_45
        · refine bX11_betweenOf_36 (fun _ => ?_) (fun z => absurd z c4)
          obtain ⟨q5, hq5, h⟩ := Option.bind_eq_some_iff.mp h
          refine bX11_betweenOf_48 (evX11_openNow hq5) (by omega) ?_
          refine a_ite h (fun c6 h => ?_) (fun c6 h => ?_)
          · refine bX11_betweenOf_52 (fun _ => ?_) (fun z => absurd c6 z)
            obtain ⟨q7, hq7, h⟩ := Option.bind_eq_some_iff.mp h
            refine bX11_betweenOf_59 (evX11_isCompared hq7) (by omega) ?_
            refine a_ite h (fun c8 h => ?_) (fun c8 h => ?_)
            · refine bX11_betweenOf_63 (fun z => absurd c8 z) (fun _ => ?_)
              obtain ⟨q9, hq9, h⟩ := Option.bind_eq_some_iff.mp h
              refine bX11_betweenOf_66 (evX11_compareOf hq9) (by omega) ?_
              cases h
              exact bX11_betweenOf_70
            · refine bX11_betweenOf_63 (fun _ => ?_) (fun z => absurd z c8)
              obtain ⟨q10, hq10, h⟩ := Option.bind_eq_some_iff.mp h
              refine bX11_betweenOf_71 (evX11_w3 hq10) (by omega) ?_
              obtain ⟨q11, hq11, h⟩ := Option.bind_eq_some_iff.mp h
              refine bX11_betweenOf_81 (evX11_isWord hq11) (by omega) ?_
              refine a_ite h (fun c12 h => ?_) (fun c12 h => ?_)
              · refine bX11_betweenOf_84 (fun _ => ?_) (fun z => absurd c12 z)
                obtain ⟨q13, hq13, h⟩ := Option.bind_eq_some_iff.mp h
                refine bX11_betweenOf_92 (evX11_w2 hq13) (by omega) ?_
                obtain ⟨q14, hq14, h⟩ := Option.bind_eq_some_iff.mp h
                refine bX11_betweenOf_100 (evX11_isWord hq14) (by omega) ?_
                refine a_ite h (fun c15 h => ?_) (fun c15 h => ?_)
                · refine bX11_betweenOf_103 (fun _ => ?_) (fun z => absurd c15 z)
                  refine bX11_betweenOf_111 ?_
                  cases h
                  exact bX11_betweenOf_112
                · refine bX11_betweenOf_103 (fun z => absurd z c15) (fun _ => ?_)
                  refine bX11_betweenOf_106 ?_
                  cases h
                  exact bX11_betweenOf_112
              · refine bX11_betweenOf_84 (fun z => absurd z c12) (fun _ => ?_)
                refine bX11_betweenOf_87 ?_
                cases h
                exact bX11_betweenOf_112
          · refine bX11_betweenOf_52 (fun z => absurd z c6) (fun _ => ?_)
            cases h
            exact bX11_betweenOf_57

noncomputable def FX11_partOf (d : aI) (e : aJ) (x1 : Int32) : Option (Int32 × aI × aJ) := (if x1 = (nI 40) then (if (d 108 9) = (nI 41) then (some ((nI 0), d, e)) else (some ((-(nI 1)), d, e))) else (if x1 = (nI 41) then (some ((-(nI 1)), d, e)) else (if x1 = (nI 42) then ((FX11_w4 d e (nI 116) (nI 104) (nI 101) (nI 110)).bind fun q5 => ((FX11_isWord q5.2.1 q5.2.2 q5.1).bind fun q6 => (if q6.1 = 0 then (some ((-(nI 1)), q6.2.1, q6.2.2)) else ((FX11_isCompared q6.2.1 q6.2.2).bind fun q8 => (if q8.1 = 0 then (some ((-(nI 1)), q8.2.1, q8.2.2)) else (some ((nI 43), q8.2.1, q8.2.2))))))) else (if x1 = (nI 43) then ((FX11_w4 d e (nI 101) (nI 108) (nI 115) (nI 101)).bind fun q11 => ((FX11_isWord q11.2.1 q11.2.2 q11.1).bind fun q12 => (if q12.1 = 0 then (some ((-(nI 1)), q12.2.1, q12.2.2)) else (some ((nI 44), q12.2.1, q12.2.2))))) else (if x1 = (nI 44) then ((FX11_w3 d e (nI 101) (nI 110) (nI 100)).bind fun q15 => ((FX11_isWord q15.2.1 q15.2.2 q15.1).bind fun q16 => (if q16.1 = 0 then (some ((-(nI 1)), q16.2.1, q16.2.2)) else (some ((nI 0), q16.2.1, q16.2.2))))) else (some ((-(nI 1)), d, e)))))))
theorem evX11_partOf {Γ : aG × Launch} {d : aI} {e : aJ} {x1 : Int32} {q : Int32 × aI × aJ} (h : FX11_partOf d e x1 = some q) : Ev Γ (3) mX11_partOf [.ref 108, .int x1] d e (some (.int q.1)) q.2.1 q.2.2 := by
  refine Ev.of (by decide) rfl (Nat.le_of_ble_eq_true rfl) (fun z => by cases z) ?_
  show Rn Γ (3) mX11_partOf 0 [some (.ref 108), some (.int x1)] [] d e _ _ _
  unfold FX11_partOf at h
  refine a_ite h (fun c1 h => ?_) (fun c1 h => ?_)
  · refine bX11_partOf_0 (fun n0 _ _ _ _ => absurd c1 n0) (fun _ => ?_) (fun z => absurd (c1.symm.trans z) (by decide)) (fun z => absurd (c1.symm.trans z) (by decide)) (fun z => absurd (c1.symm.trans z) (by decide)) (fun z => absurd (c1.symm.trans z) (by decide))
    refine a_ite h (fun c2 h => ?_) (fun c2 h => ?_)
    · refine bX11_partOf_36 (fun z => absurd c2 z) (fun _ => ?_)
      refine bX11_partOf_45 ?_
      cases h
      exact bX11_partOf_50
    · refine bX11_partOf_36 (fun _ => ?_) (fun z => absurd z c2)
      refine bX11_partOf_49 ?_
      cases h
      exact bX11_partOf_50
  · skip
    refine a_ite h (fun c3 h => ?_) (fun c3 h => ?_)
    · refine bX11_partOf_0 (fun _ n1 _ _ _ => absurd c3 n1) (fun z => absurd z c1) (fun _ => ?_) (fun z => absurd (c3.symm.trans z) (by decide)) (fun z => absurd (c3.symm.trans z) (by decide)) (fun z => absurd (c3.symm.trans z) (by decide))
      cases h
      exact bX11_partOf_130
    · skip
      refine a_ite h (fun c4 h => ?_) (fun c4 h => ?_)
      · refine bX11_partOf_0 (fun _ _ n2 _ _ => absurd c4 n2) (fun z => absurd z c1) (fun z => absurd z c3) (fun _ => ?_) (fun z => absurd (c4.symm.trans z) (by decide)) (fun z => absurd (c4.symm.trans z) (by decide))
        obtain ⟨q5, hq5, h⟩ := Option.bind_eq_some_iff.mp h
        refine bX11_partOf_51 (evX11_w4 hq5) (by omega) ?_
        obtain ⟨q6, hq6, h⟩ := Option.bind_eq_some_iff.mp h
        refine bX11_partOf_63 (evX11_isWord hq6) (by omega) ?_
        refine a_ite h (fun c7 h => ?_) (fun c7 h => ?_)
        · refine bX11_partOf_66 (fun _ => ?_) (fun z => absurd c7 z)
          refine bX11_partOf_81 ?_
          cases h
          exact bX11_partOf_82
        · refine bX11_partOf_66 (fun z => absurd z c7) (fun _ => ?_)
          obtain ⟨q8, hq8, h⟩ := Option.bind_eq_some_iff.mp h
          refine bX11_partOf_69 (evX11_isCompared hq8) (by omega) ?_
          refine a_ite h (fun c9 h => ?_) (fun c9 h => ?_)
          · refine bX11_partOf_73 (fun _ => ?_) (fun z => absurd c9 z)
            refine bX11_partOf_81 ?_
            cases h
            exact bX11_partOf_82
          · refine bX11_partOf_73 (fun z => absurd z c9) (fun _ => ?_)
            refine bX11_partOf_76 ?_
            cases h
            exact bX11_partOf_82
      · skip
        refine a_ite h (fun c10 h => ?_) (fun c10 h => ?_)
        · refine bX11_partOf_0 (fun _ _ _ n3 _ => absurd c10 n3) (fun z => absurd z c1) (fun z => absurd z c3) (fun z => absurd z c4) (fun _ => ?_) (fun z => absurd (c10.symm.trans z) (by decide))
          obtain ⟨q11, hq11, h⟩ := Option.bind_eq_some_iff.mp h
          refine bX11_partOf_83 (evX11_w4 hq11) (by omega) ?_
          obtain ⟨q12, hq12, h⟩ := Option.bind_eq_some_iff.mp h
          refine bX11_partOf_95 (evX11_isWord hq12) (by omega) ?_
          refine a_ite h (fun c13 h => ?_) (fun c13 h => ?_)
          · refine bX11_partOf_98 (fun _ => ?_) (fun z => absurd c13 z)
            refine bX11_partOf_106 ?_
            cases h
            exact bX11_partOf_107
          · refine bX11_partOf_98 (fun z => absurd z c13) (fun _ => ?_)
            refine bX11_partOf_101 ?_
            cases h
            exact bX11_partOf_107
        · skip
          refine a_ite h (fun c14 h => ?_) (fun c14 h => ?_)
          · refine bX11_partOf_0 (fun _ _ _ _ n4 => absurd c14 n4) (fun z => absurd z c1) (fun z => absurd z c3) (fun z => absurd z c4) (fun z => absurd z c10) (fun _ => ?_)
            obtain ⟨q15, hq15, h⟩ := Option.bind_eq_some_iff.mp h
            refine bX11_partOf_108 (evX11_w3 hq15) (by omega) ?_
            obtain ⟨q16, hq16, h⟩ := Option.bind_eq_some_iff.mp h
            refine bX11_partOf_118 (evX11_isWord hq16) (by omega) ?_
            refine a_ite h (fun c17 h => ?_) (fun c17 h => ?_)
            · refine bX11_partOf_121 (fun _ => ?_) (fun z => absurd c17 z)
              refine bX11_partOf_128 ?_
              cases h
              exact bX11_partOf_129
            · refine bX11_partOf_121 (fun z => absurd z c17) (fun _ => ?_)
              refine bX11_partOf_124 ?_
              cases h
              exact bX11_partOf_129
          · skip
            refine bX11_partOf_0 (fun _ _ _ _ _ => ?_) (fun z => absurd z c1) (fun z => absurd z c3) (fun z => absurd z c4) (fun z => absurd z c10) (fun z => absurd z c14)
            cases h
            exact bX11_partOf_130

noncomputable def FX11_behindOne (d : aI) (e : aJ)  : Option (Int32 × aI × aJ) := ((FX11_betweenOf d e).bind fun q1 => (if q1.1 < 0 then ((FX11_openNow q1.2.1 q1.2.2).bind fun q3 => ((FX11_partOf q3.2.1 q3.2.2 q3.1).bind fun q4 => (if 0 ≤ q4.1 then ((FX11_settle q4.2.1 q4.2.2 (nI 1)).bind fun q6 => ((FX11_nextToken q6.2.1 q6.2.2).bind fun q7 => (if q4.1 = 0 then (if q3.1 = (nI 44) then ((FX11_emit (uI (uI q7.2.1 108 17 ((q7.2.1 108 17) - (nI 1))) 108 16 ((q7.2.1 108 16) - (nI 1))) q7.2.2 (nI 3) (nI 0)).bind fun q10 => ((FX11_endOne q10.2.1 q10.2.2).bind fun q11 => (some (q11.1, q11.2.1, q11.2.2)))) else ((FX11_endOne (uI (uI q7.2.1 108 17 ((q7.2.1 108 17) - (nI 1))) 108 16 ((q7.2.1 108 16) - (nI 1))) q7.2.2).bind fun q12 => (some (q12.1, q12.2.1, q12.2.2)))) else ((FX11_openAt q7.2.1 q7.2.2).bind fun q13 => (bif ((a_inb q13.1 160) && (decide ((nI 0) = 0 ∨ (nI 0) = 1))) then (some ((nI 0), (uI (uI q13.2.1 113 (q13.1).toNatClampNeg q4.1) 108 18 (nI 0)), q13.2.2)) else none))))) else (some ((-(nI 1)), q4.2.1, q4.2.2))))) else ((FX11_rank q1.2.1 q1.2.2 q1.1).bind fun q15 => (if q15.1 = (nI 4) then ((FX11_settle q15.2.1 q15.2.2 (nI 5)).bind fun q17 => (bif ((a_inb (q17.2.1 108 16) 160) && (decide ((nI 0) = 0 ∨ (nI 0) = 1))) then ((FX11_nextToken (uI (uI (uI q17.2.1 113 ((q17.2.1 108 16)).toNatClampNeg q1.1) 108 16 ((q17.2.1 108 16) + (nI 1))) 108 18 (nI 0)) q17.2.2).bind fun q19 => (some ((nI 0), q19.2.1, q19.2.2))) else none)) else ((FX11_rank q15.2.1 q15.2.2 q1.1).bind fun q20 => ((FX11_settle q20.2.1 q20.2.2 q20.1).bind fun q21 => (bif ((a_inb (q21.2.1 108 16) 160) && (decide ((nI 0) = 0 ∨ (nI 0) = 1))) then ((FX11_nextToken (uI (uI (uI q21.2.1 113 ((q21.2.1 108 16)).toNatClampNeg q1.1) 108 16 ((q21.2.1 108 16) + (nI 1))) 108 18 (nI 0)) q21.2.2).bind fun q23 => (some ((nI 0), q23.2.1, q23.2.2))) else none)))))))
theorem evX11_behindOne {Γ : aG × Launch} {d : aI} {e : aJ}  {q : Int32 × aI × aJ} (h : FX11_behindOne d e  = some q) : Ev Γ (4) mX11_behindOne [.ref 108] d e (some (.int q.1)) q.2.1 q.2.2 := by
  refine Ev.of (by decide) rfl (Nat.le_of_ble_eq_true rfl) (fun z => by cases z) ?_
  show Rn Γ (4) mX11_behindOne 0 [some (.ref 108), none, none, none] [] d e _ _ _
  unfold FX11_behindOne at h
  obtain ⟨q1, hq1, h⟩ := Option.bind_eq_some_iff.mp h
  refine bX11_behindOne_0 (evX11_betweenOf hq1) (by omega) ?_
  refine a_ite h (fun c2 h => ?_) (fun c2 h => ?_)
  · refine bX11_behindOne_4 (fun _ => ?_) (fun z => absurd c2 z)
    obtain ⟨q3, hq3, h⟩ := Option.bind_eq_some_iff.mp h
    refine bX11_behindOne_60 (evX11_openNow hq3) (by omega) ?_
    obtain ⟨q4, hq4, h⟩ := Option.bind_eq_some_iff.mp h
    refine bX11_behindOne_64 (evX11_partOf hq4) (by omega) ?_
    refine a_ite h (fun c5 h => ?_) (fun c5 h => ?_)
    · refine bX11_behindOne_70 (fun _ => ?_) (fun z => absurd c5 z)
      obtain ⟨q6, hq6, h⟩ := Option.bind_eq_some_iff.mp h
      refine bX11_behindOne_77 (evX11_settle hq6) (by omega) ?_
      obtain ⟨q7, hq7, h⟩ := Option.bind_eq_some_iff.mp h
      refine bX11_behindOne_82 (evX11_nextToken hq7) (by omega) ?_
      refine a_ite h (fun c8 h => ?_) (fun c8 h => ?_)
      · refine bX11_behindOne_86 (fun z => absurd c8 z) (fun _ => ?_)
        refine a_ite h (fun c9 h => ?_) (fun c9 h => ?_)
        · refine bX11_behindOne_90 (fun z => absurd c9 z) (fun _ => ?_)
          obtain ⟨q10, hq10, h⟩ := Option.bind_eq_some_iff.mp h
          refine bX11_behindOne_116 (evX11_emit hq10) (by omega) ?_
          obtain ⟨q11, hq11, h⟩ := Option.bind_eq_some_iff.mp h
          refine bX11_behindOne_122 (evX11_endOne hq11) (by omega) ?_
          cases h
          exact bX11_behindOne_126
        · refine bX11_behindOne_90 (fun _ => ?_) (fun z => absurd z c9)
          obtain ⟨q12, hq12, h⟩ := Option.bind_eq_some_iff.mp h
          refine bX11_behindOne_122 (evX11_endOne hq12) (by omega) ?_
          cases h
          exact bX11_behindOne_126
      · refine bX11_behindOne_86 (fun _ => ?_) (fun z => absurd z c8)
        obtain ⟨q13, hq13, h⟩ := Option.bind_eq_some_iff.mp h
        refine bX11_behindOne_127 (evX11_openAt hq13) (by omega) ?_
        obtain ⟨g14, h⟩ := a_cond h
        obtain ⟨g14x1, g14_1⟩ := a_and g14
        have g14_0 := g14x1
        cases h
        exact bX11_behindOne_135 ⟨(a_inb_vp g14_0), (of_decide_eq_true g14_1)⟩
    · refine bX11_behindOne_70 (fun z => absurd z c5) (fun _ => ?_)
      cases h
      exact bX11_behindOne_75
  · refine bX11_behindOne_4 (fun z => absurd z c2) (fun _ => ?_)
    obtain ⟨q15, hq15, h⟩ := Option.bind_eq_some_iff.mp h
    refine bX11_behindOne_9 (evX11_rank hq15) (by omega) ?_
    refine a_ite h (fun c16 h => ?_) (fun c16 h => ?_)
    · refine bX11_behindOne_14 (fun z => absurd c16 z) (fun _ => ?_)
      refine bX11_behindOne_18 ?_
      obtain ⟨q17, hq17, h⟩ := Option.bind_eq_some_iff.mp h
      refine bX11_behindOne_26 (evX11_settle hq17) (by omega) ?_
      obtain ⟨g18, h⟩ := a_cond h
      obtain ⟨g18x1, g18_1⟩ := a_and g18
      have g18_0 := g18x1
      obtain ⟨q19, hq19, h⟩ := Option.bind_eq_some_iff.mp h
      refine bX11_behindOne_29 ⟨(a_inb_vp g18_0), (of_decide_eq_true g18_1)⟩ (evX11_nextToken hq19) (by omega) ?_
      cases h
      exact bX11_behindOne_58
    · refine bX11_behindOne_14 (fun _ => ?_) (fun z => absurd z c16)
      obtain ⟨q20, hq20, h⟩ := Option.bind_eq_some_iff.mp h
      refine bX11_behindOne_22 (evX11_rank hq20) (by omega) ?_
      obtain ⟨q21, hq21, h⟩ := Option.bind_eq_some_iff.mp h
      refine bX11_behindOne_26 (evX11_settle hq21) (by omega) ?_
      obtain ⟨g22, h⟩ := a_cond h
      obtain ⟨g22x1, g22_1⟩ := a_and g22
      have g22_0 := g22x1
      obtain ⟨q23, hq23, h⟩ := Option.bind_eq_some_iff.mp h
      refine bX11_behindOne_29 ⟨(a_inb_vp g22_0), (of_decide_eq_true g22_1)⟩ (evX11_nextToken hq23) (by omega) ?_
      cases h
      exact bX11_behindOne_58

noncomputable def FX11_figure (d : aI) (e : aJ) (x1 : Int32) (x2 : Int32) (x3 : Int32) : Option (Int32 × aI × aJ) := (if (d 108 9) = (nI 1) then ((FX11_isIn d e (d 108 10) x2 x3).bind fun q2 => (if q2.1 = 0 then (some ((nI 2), q2.2.1, q2.2.2)) else (bif ((a_inb x1 2724)) then ((FX11_nextToken (uI q2.2.1 111 (x1).toNatClampNeg (q2.2.1 108 10)) q2.2.2).bind fun q5 => (some ((nI 0), q5.2.1, q5.2.2))) else none))) else (some ((nI 1), d, e)))
theorem evX11_figure {Γ : aG × Launch} {d : aI} {e : aJ} {x1 : Int32} {x2 : Int32} {x3 : Int32} {q : Int32 × aI × aJ} (h : FX11_figure d e x1 x2 x3 = some q) : Ev Γ (2) mX11_figure [.ref 108, .int x1, .int x2, .int x3] d e (some (.int q.1)) q.2.1 q.2.2 := by
  refine Ev.of (by decide) rfl (Nat.le_of_ble_eq_true rfl) (fun z => by cases z) ?_
  show Rn Γ (2) mX11_figure 0 [some (.ref 108), some (.int x1), some (.int x2), some (.int x3)] [] d e _ _ _
  unfold FX11_figure at h
  refine a_ite h (fun c1 h => ?_) (fun c1 h => ?_)
  · refine bX11_figure_0 (fun _ => ?_) (fun z => absurd c1 z)
    obtain ⟨q2, hq2, h⟩ := Option.bind_eq_some_iff.mp h
    refine bX11_figure_10 (evX11_isIn hq2) (by omega) ?_
    refine a_ite h (fun c3 h => ?_) (fun c3 h => ?_)
    · refine bX11_figure_19 (fun z => absurd c3 z) (fun _ => ?_)
      cases h
      exact bX11_figure_22
    · refine bX11_figure_19 (fun _ => ?_) (fun z => absurd z c3)
      obtain ⟨g4, h⟩ := a_cond h
      obtain ⟨q5, hq5, h⟩ := Option.bind_eq_some_iff.mp h
      refine bX11_figure_24 (a_inb_vp g4) (evX11_nextToken hq5) (by omega) ?_
      cases h
      exact bX11_figure_38
  · refine bX11_figure_0 (fun z => absurd z c1) (fun _ => ?_)
    cases h
    exact bX11_figure_8

noncomputable def FX11_pair (d : aI) (e : aJ) (x1 : Int32) (x2 : Int32) (y3 : Int64) (x5 : Int32) : Option (Int32 × aI × aJ) := ((FX11_figure d e (x1 + (nI 1)) (nI 0) x2).bind fun q1 => (if q1.1 = 0 then ((FX11_isWord q1.2.1 q1.2.2 y3).bind fun q3 => (if q3.1 = 0 then (some ((nI 1), q3.2.1, q3.2.2)) else ((FX11_nextToken q3.2.1 q3.2.2).bind fun q5 => ((FX11_figure q5.2.1 q5.2.2 (x1 + (nI 2)) (nI 0) x5).bind fun q6 => (some (q6.1, q6.2.1, q6.2.2)))))) else (some (q1.1, q1.2.1, q1.2.2))))
theorem evX11_pair {Γ : aG × Launch} {d : aI} {e : aJ} {x1 : Int32} {x2 : Int32} {y3 : Int64} {x5 : Int32} {q : Int32 × aI × aJ} (h : FX11_pair d e x1 x2 y3 x5 = some q) : Ev Γ (3) mX11_pair [.ref 108, .int x1, .int x2, .long y3, .int x5] d e (some (.int q.1)) q.2.1 q.2.2 := by
  refine Ev.of (by decide) rfl (Nat.le_of_ble_eq_true rfl) (fun z => by cases z) ?_
  show Rn Γ (3) mX11_pair 0 [some (.ref 108), some (.int x1), some (.int x2), some (.long y3), none, some (.int x5), none] [] d e _ _ _
  unfold FX11_pair at h
  obtain ⟨q1, hq1, h⟩ := Option.bind_eq_some_iff.mp h
  refine bX11_pair_0 (evX11_figure hq1) (by omega) ?_
  refine a_ite h (fun c2 h => ?_) (fun c2 h => ?_)
  · refine bX11_pair_9 (fun _ => ?_) (fun z => absurd c2 z)
    obtain ⟨q3, hq3, h⟩ := Option.bind_eq_some_iff.mp h
    refine bX11_pair_19 (evX11_isWord hq3) (by omega) ?_
    refine a_ite h (fun c4 h => ?_) (fun c4 h => ?_)
    · refine bX11_pair_24 (fun z => absurd c4 z) (fun _ => ?_)
      cases h
      exact bX11_pair_27
    · refine bX11_pair_24 (fun _ => ?_) (fun z => absurd z c4)
      obtain ⟨q5, hq5, h⟩ := Option.bind_eq_some_iff.mp h
      refine bX11_pair_29 (evX11_nextToken hq5) (by omega) ?_
      obtain ⟨q6, hq6, h⟩ := Option.bind_eq_some_iff.mp h
      refine bX11_pair_33 (evX11_figure hq6) (by omega) ?_
      cases h
      exact bX11_pair_43
  · refine bX11_pair_9 (fun z => absurd z c2) (fun _ => ?_)
    cases h
    exact bX11_pair_16

noncomputable def FX11_sortOf (d : aI) (e : aJ)  : Option (Int32 × aI × aJ) := ((FX11_w5 d e (nI 116) (nI 97) (nI 107) (nI 101) (nI 115)).bind fun q1 => ((FX11_isWord q1.2.1 q1.2.2 q1.1).bind fun q2 => (if q2.1 = 0 then ((FX11_w4 q2.2.1 q2.2.2 (nI 103) (nI 111) (nI 101) (nI 115)).bind fun q4 => ((FX11_isWord q4.2.1 q4.2.2 q4.1).bind fun q5 => (if q5.1 = 0 then ((FX11_w5 q5.2.1 q5.2.2 (nI 104) (nI 111) (nI 117) (nI 115) (nI 101)).bind fun q7 => ((FX11_isWord q7.2.1 q7.2.2 q7.1).bind fun q8 => (if q8.1 = 0 then ((FX11_w3 q8.2.1 q8.2.2 (nI 99) (nI 97) (nI 116)).bind fun q10 => ((FX11_isWord q10.2.1 q10.2.2 q10.1).bind fun q11 => (if q11.1 = 0 then ((FX11_w3 q11.2.1 q11.2.2 (nI 108) (nI 101) (nI 116)).bind fun q13 => ((FX11_isWord q13.2.1 q13.2.2 q13.1).bind fun q14 => (if q14.1 = 0 then ((FX11_w3 q14.2.1 q14.2.2 (nI 111) (nI 117) (nI 116)).bind fun q16 => ((FX11_isWord q16.2.1 q16.2.2 q16.1).bind fun q17 => (if q17.1 = 0 then ((FX11_w2 q17.2.1 q17.2.2 (nI 117) (nI 112)).bind fun q19 => ((FX11_isWord q19.2.1 q19.2.2 q19.1).bind fun q20 => (if q20.1 = 0 then ((FX11_w4 q20.2.1 q20.2.2 (nI 100) (nI 111) (nI 119) (nI 110)).bind fun q22 => ((FX11_isWord q22.2.1 q22.2.2 q22.1).bind fun q23 => (if q23.1 = 0 then ((FX11_w4 q23.2.1 q23.2.2 (nI 104) (nI 111) (nI 117) (nI 114)).bind fun q25 => ((FX11_isWord q25.2.1 q25.2.2 q25.1).bind fun q26 => (if q26.1 = 0 then (some ((-(nI 1)), q26.2.1, q26.2.2)) else (some ((nI 8), q26.2.1, q26.2.2))))) else (some ((nI 7), q23.2.1, q23.2.2))))) else (some ((nI 6), q20.2.1, q20.2.2))))) else (some ((nI 5), q17.2.1, q17.2.2))))) else (some ((nI 4), q14.2.1, q14.2.2))))) else (some ((nI 3), q11.2.1, q11.2.2))))) else (some ((nI 2), q8.2.1, q8.2.2))))) else (some ((nI 1), q5.2.1, q5.2.2))))) else (some ((nI 0), q2.2.1, q2.2.2)))))
theorem evX11_sortOf {Γ : aG × Launch} {d : aI} {e : aJ}  {q : Int32 × aI × aJ} (h : FX11_sortOf d e  = some q) : Ev Γ (4) mX11_sortOf [.ref 108] d e (some (.int q.1)) q.2.1 q.2.2 := by
  refine Ev.of (by decide) rfl (Nat.le_of_ble_eq_true rfl) (fun z => by cases z) ?_
  show Rn Γ (4) mX11_sortOf 0 [some (.ref 108)] [] d e _ _ _
  unfold FX11_sortOf at h
  obtain ⟨q1, hq1, h⟩ := Option.bind_eq_some_iff.mp h
  refine bX11_sortOf_0 (evX11_w5 hq1) (by omega) ?_
  obtain ⟨q2, hq2, h⟩ := Option.bind_eq_some_iff.mp h
  refine bX11_sortOf_14 (evX11_isWord hq2) (by omega) ?_
  refine a_ite h (fun c3 h => ?_) (fun c3 h => ?_)
  · refine bX11_sortOf_17 (fun _ => ?_) (fun z => absurd c3 z)
    obtain ⟨q4, hq4, h⟩ := Option.bind_eq_some_iff.mp h
    refine bX11_sortOf_22 (evX11_w4 hq4) (by omega) ?_
    obtain ⟨q5, hq5, h⟩ := Option.bind_eq_some_iff.mp h
    refine bX11_sortOf_34 (evX11_isWord hq5) (by omega) ?_
    refine a_ite h (fun c6 h => ?_) (fun c6 h => ?_)
    · refine bX11_sortOf_37 (fun _ => ?_) (fun z => absurd c6 z)
      obtain ⟨q7, hq7, h⟩ := Option.bind_eq_some_iff.mp h
      refine bX11_sortOf_42 (evX11_w5 hq7) (by omega) ?_
      obtain ⟨q8, hq8, h⟩ := Option.bind_eq_some_iff.mp h
      refine bX11_sortOf_56 (evX11_isWord hq8) (by omega) ?_
      refine a_ite h (fun c9 h => ?_) (fun c9 h => ?_)
      · refine bX11_sortOf_59 (fun _ => ?_) (fun z => absurd c9 z)
        obtain ⟨q10, hq10, h⟩ := Option.bind_eq_some_iff.mp h
        refine bX11_sortOf_64 (evX11_w3 hq10) (by omega) ?_
        obtain ⟨q11, hq11, h⟩ := Option.bind_eq_some_iff.mp h
        refine bX11_sortOf_74 (evX11_isWord hq11) (by omega) ?_
        refine a_ite h (fun c12 h => ?_) (fun c12 h => ?_)
        · refine bX11_sortOf_77 (fun _ => ?_) (fun z => absurd c12 z)
          obtain ⟨q13, hq13, h⟩ := Option.bind_eq_some_iff.mp h
          refine bX11_sortOf_82 (evX11_w3 hq13) (by omega) ?_
          obtain ⟨q14, hq14, h⟩ := Option.bind_eq_some_iff.mp h
          refine bX11_sortOf_92 (evX11_isWord hq14) (by omega) ?_
          refine a_ite h (fun c15 h => ?_) (fun c15 h => ?_)
          · refine bX11_sortOf_95 (fun _ => ?_) (fun z => absurd c15 z)
            obtain ⟨q16, hq16, h⟩ := Option.bind_eq_some_iff.mp h
            refine bX11_sortOf_100 (evX11_w3 hq16) (by omega) ?_
            obtain ⟨q17, hq17, h⟩ := Option.bind_eq_some_iff.mp h
            refine bX11_sortOf_110 (evX11_isWord hq17) (by omega) ?_
            refine a_ite h (fun c18 h => ?_) (fun c18 h => ?_)
            · refine bX11_sortOf_113 (fun _ => ?_) (fun z => absurd c18 z)
              obtain ⟨q19, hq19, h⟩ := Option.bind_eq_some_iff.mp h
              refine bX11_sortOf_118 (evX11_w2 hq19) (by omega) ?_
              obtain ⟨q20, hq20, h⟩ := Option.bind_eq_some_iff.mp h
              refine bX11_sortOf_126 (evX11_isWord hq20) (by omega) ?_
              refine a_ite h (fun c21 h => ?_) (fun c21 h => ?_)
              · refine bX11_sortOf_129 (fun _ => ?_) (fun z => absurd c21 z)
                obtain ⟨q22, hq22, h⟩ := Option.bind_eq_some_iff.mp h
                refine bX11_sortOf_135 (evX11_w4 hq22) (by omega) ?_
                obtain ⟨q23, hq23, h⟩ := Option.bind_eq_some_iff.mp h
                refine bX11_sortOf_147 (evX11_isWord hq23) (by omega) ?_
                refine a_ite h (fun c24 h => ?_) (fun c24 h => ?_)
                · refine bX11_sortOf_150 (fun _ => ?_) (fun z => absurd c24 z)
                  obtain ⟨q25, hq25, h⟩ := Option.bind_eq_some_iff.mp h
                  refine bX11_sortOf_158 (evX11_w4 hq25) (by omega) ?_
                  obtain ⟨q26, hq26, h⟩ := Option.bind_eq_some_iff.mp h
                  refine bX11_sortOf_170 (evX11_isWord hq26) (by omega) ?_
                  refine a_ite h (fun c27 h => ?_) (fun c27 h => ?_)
                  · refine bX11_sortOf_173 (fun _ => ?_) (fun z => absurd c27 z)
                    refine bX11_sortOf_181 ?_
                    cases h
                    exact bX11_sortOf_182
                  · refine bX11_sortOf_173 (fun z => absurd z c27) (fun _ => ?_)
                    refine bX11_sortOf_176 ?_
                    cases h
                    exact bX11_sortOf_182
                · refine bX11_sortOf_150 (fun z => absurd z c24) (fun _ => ?_)
                  refine bX11_sortOf_153 ?_
                  cases h
                  exact bX11_sortOf_182
              · refine bX11_sortOf_129 (fun z => absurd z c21) (fun _ => ?_)
                cases h
                exact bX11_sortOf_132
            · refine bX11_sortOf_113 (fun z => absurd z c18) (fun _ => ?_)
              cases h
              exact bX11_sortOf_116
          · refine bX11_sortOf_95 (fun z => absurd z c15) (fun _ => ?_)
            cases h
            exact bX11_sortOf_98
        · refine bX11_sortOf_77 (fun z => absurd z c12) (fun _ => ?_)
          cases h
          exact bX11_sortOf_80
      · refine bX11_sortOf_59 (fun z => absurd z c9) (fun _ => ?_)
        cases h
        exact bX11_sortOf_62
    · refine bX11_sortOf_37 (fun z => absurd z c6) (fun _ => ?_)
      cases h
      exact bX11_sortOf_40
  · refine bX11_sortOf_17 (fun z => absurd z c3) (fun _ => ?_)
    cases h
    exact bX11_sortOf_20

noncomputable def FX11_fault (d : aI) (e : aJ) (x1 : Int32) : Option (Int32 × aI × aJ) := (if x1 = 0 then (some ((d 108 5), d, e)) else (if x1 = (nI 1) then (some ((d 108 6), d, e)) else (some ((-(nI 1)), d, e))))
theorem evX11_fault {Γ : aG × Launch} {d : aI} {e : aJ} {x1 : Int32} {q : Int32 × aI × aJ} (h : FX11_fault d e x1 = some q) : Ev Γ (0) mX11_fault [.ref 108, .int x1] d e (some (.int q.1)) q.2.1 q.2.2 := by
  refine Ev.of (by decide) rfl (Nat.le_of_ble_eq_true rfl) (fun z => by cases z) ?_
  show Rn Γ (0) mX11_fault 0 [some (.ref 108), some (.int x1)] [] d e _ _ _
  unfold FX11_fault at h
  refine a_ite h (fun c1 h => ?_) (fun c1 h => ?_)
  · refine bX11_fault_0 (fun z => absurd c1 z) (fun _ => ?_)
    refine bX11_fault_4 ?_
    cases h
    exact bX11_fault_24
  · refine bX11_fault_0 (fun _ => ?_) (fun z => absurd z c1)
    refine a_ite h (fun c2 h => ?_) (fun c2 h => ?_)
    · refine bX11_fault_11 (fun z => absurd c2 z) (fun _ => ?_)
      refine bX11_fault_16 ?_
      cases h
      exact bX11_fault_24
    · refine bX11_fault_11 (fun _ => ?_) (fun z => absurd z c2)
      refine bX11_fault_23 ?_
      cases h
      exact bX11_fault_24

noncomputable def FX11_by (d : aI) (e : aJ) (x1 : Int32) : Option (Int32 × aI × aJ) := (bif ((a_inb (nI 2) 1961)) then ((FX11_isIn d e x1 (-(nI 1)) ((d 109 2) - (nI 1))).bind fun q2 => (if q2.1 = 0 then (some ((nI 0), q2.2.1, q2.2.2)) else (bif ((a_inb (nI 3) 1961)) then (some ((nI 1), (uI q2.2.1 109 3 x1), q2.2.2)) else none))) else none)
theorem evX11_by {Γ : aG × Launch} {d : aI} {e : aJ} {x1 : Int32} {q : Int32 × aI × aJ} (h : FX11_by d e x1 = some q) : Ev Γ (1) mX11_by [.ref 108, .int x1] d e (some (.int q.1)) q.2.1 q.2.2 := by
  refine Ev.of (by decide) rfl (Nat.le_of_ble_eq_true rfl) (fun z => by cases z) ?_
  show Rn Γ (1) mX11_by 0 [some (.ref 108), some (.int x1)] [] d e _ _ _
  unfold FX11_by at h
  obtain ⟨g1, h⟩ := a_cond h
  obtain ⟨q2, hq2, h⟩ := Option.bind_eq_some_iff.mp h
  refine bX11_by_0 (a_inb_vp g1) (evX11_isIn hq2) (by omega) ?_
  refine a_ite h (fun c3 h => ?_) (fun c3 h => ?_)
  · refine bX11_by_13 (fun z => absurd c3 z) (fun _ => ?_)
    cases h
    exact bX11_by_16
  · refine bX11_by_13 (fun _ => ?_) (fun z => absurd z c3)
    obtain ⟨g4, h⟩ := a_cond h
    cases h
    exact bX11_by_18 (a_inb_vp g4)

noncomputable def FX11_clip (d : aI) (e : aJ) (y0 : Int64) : Option (Int64 × aI × aJ) := (if (lg_cmp y0 (lN 1000000)) ≤ 0 then (if 0 ≤ (lg_cmp y0 (-(lN 1000000))) then (some (y0, d, e)) else (some ((-(lN 1000000)), d, e))) else (some ((lN 1000000), d, e)))
theorem evX11_clip {Γ : aG × Launch} {d : aI} {e : aJ} {y0 : Int64} {q : Int64 × aI × aJ} (h : FX11_clip d e y0 = some q) : Ev Γ (0) mX11_clip [.long y0] d e (some (.long q.1)) q.2.1 q.2.2 := by
  refine Ev.of (by decide) rfl (Nat.le_of_ble_eq_true rfl) (fun z => by cases z) ?_
  show Rn Γ (0) mX11_clip 0 [some (.long y0), none] [] d e _ _ _
  unfold FX11_clip at h
  refine a_ite h (fun c1 h => ?_) (fun c1 h => ?_)
  · refine bX11_clip_0 (fun _ => ?_) (fun z => absurd c1 z)
    refine a_ite h (fun c2 h => ?_) (fun c2 h => ?_)
    · refine bX11_clip_14 (fun _ => ?_) (fun z => absurd c2 z)
      refine bX11_clip_28 ?_
      cases h
      exact bX11_clip_29
    · refine bX11_clip_14 (fun z => absurd z c2) (fun _ => ?_)
      refine bX11_clip_22 ?_
      cases h
      exact bX11_clip_29
  · refine bX11_clip_0 (fun z => absurd z c1) (fun _ => ?_)
    refine bX11_clip_8 ?_
    cases h
    exact bX11_clip_29

noncomputable def FX11_two (d : aI) (e : aJ) (x0 : Int32) (y1 : Int64) (y3 : Int64) : Option (Int64 × aI × aJ) := (if x0 = (nI 6) then ((FX11_clip d e (y1 + y3)).bind fun q2 => (some (q2.1, q2.2.1, q2.2.2))) else (if x0 = (nI 7) then ((FX11_clip d e (y1 - y3)).bind fun q4 => (some (q4.1, q4.2.1, q4.2.2))) else (if x0 = (nI 8) then ((FX11_clip d e (y1 * y3)).bind fun q6 => (some (q6.1, q6.2.1, q6.2.2))) else (if (lg_cmp y3 (lN 0)) = 0 then (some ((lN 0), d, e)) else (bif ((decide (¬ y3 = 0))) then ((FX11_clip d e (y1 / y3)).bind fun q9 => (some (q9.1, q9.2.1, q9.2.2))) else none)))))
theorem evX11_two {Γ : aG × Launch} {d : aI} {e : aJ} {x0 : Int32} {y1 : Int64} {y3 : Int64} {q : Int64 × aI × aJ} (h : FX11_two d e x0 y1 y3 = some q) : Ev Γ (1) mX11_two [.int x0, .long y1, .long y3] d e (some (.long q.1)) q.2.1 q.2.2 := by
  refine Ev.of (by decide) rfl (Nat.le_of_ble_eq_true rfl) (fun z => by cases z) ?_
  show Rn Γ (1) mX11_two 0 [some (.int x0), some (.long y1), none, some (.long y3), none] [] d e _ _ _
  unfold FX11_two at h
  refine a_ite h (fun c1 h => ?_) (fun c1 h => ?_)
  · refine bX11_two_0 (fun n0 _ _ => absurd c1 n0) (fun _ => ?_) (fun z => absurd (c1.symm.trans z) (by decide)) (fun z => absurd (c1.symm.trans z) (by decide))
    obtain ⟨q2, hq2, h⟩ := Option.bind_eq_some_iff.mp h
    refine bX11_two_28 (evX11_clip hq2) (by omega) ?_
    cases h
    exact bX11_two_34
  · skip
    refine a_ite h (fun c3 h => ?_) (fun c3 h => ?_)
    · refine bX11_two_0 (fun _ n1 _ => absurd c3 n1) (fun z => absurd z c1) (fun _ => ?_) (fun z => absurd (c3.symm.trans z) (by decide))
      obtain ⟨q4, hq4, h⟩ := Option.bind_eq_some_iff.mp h
      refine bX11_two_35 (evX11_clip hq4) (by omega) ?_
      cases h
      exact bX11_two_41
    · skip
      refine a_ite h (fun c5 h => ?_) (fun c5 h => ?_)
      · refine bX11_two_0 (fun _ _ n2 => absurd c5 n2) (fun z => absurd z c1) (fun z => absurd z c3) (fun _ => ?_)
        obtain ⟨q6, hq6, h⟩ := Option.bind_eq_some_iff.mp h
        refine bX11_two_42 (evX11_clip hq6) (by omega) ?_
        cases h
        exact bX11_two_48
      · skip
        refine bX11_two_0 (fun _ _ _ => ?_) (fun z => absurd z c1) (fun z => absurd z c3) (fun z => absurd z c5)
        refine a_ite h (fun c7 h => ?_) (fun c7 h => ?_)
        · refine bX11_two_49 (fun z => absurd c7 z) (fun _ => ?_)
          refine bX11_two_55 ?_
          cases h
          exact bX11_two_65
        · refine bX11_two_49 (fun _ => ?_) (fun z => absurd z c7)
          obtain ⟨g8, h⟩ := a_cond h
          obtain ⟨q9, hq9, h⟩ := Option.bind_eq_some_iff.mp h
          refine bX11_two_59 (of_decide_eq_true g8) (evX11_clip hq9) (by omega) ?_
          cases h
          exact bX11_two_65

noncomputable def FX11_isAsked (d : aI) (e : aJ) (x0 : Int32) (y1 : Int64) (y3 : Int64) : Option (Int32 × aI × aJ) := (if x0 = (nI 10) then (if 0 ≤ (lg_cmp y1 y3) then (some ((nI 0), d, e)) else (some ((nI 1), d, e))) else (if x0 = (nI 11) then (if 0 < (lg_cmp y1 y3) then (some ((nI 0), d, e)) else (some ((nI 1), d, e))) else (if x0 = (nI 12) then (if (lg_cmp y1 y3) ≤ 0 then (some ((nI 0), d, e)) else (some ((nI 1), d, e))) else (if x0 = (nI 13) then (if (lg_cmp y1 y3) < 0 then (some ((nI 0), d, e)) else (some ((nI 1), d, e))) else (if x0 = (nI 14) then (if (lg_cmp y1 y3) = 0 then (some ((nI 1), d, e)) else (some ((nI 0), d, e))) else (if (lg_cmp y1 y3) = 0 then (some ((nI 0), d, e)) else (some ((nI 1), d, e))))))))
theorem evX11_isAsked {Γ : aG × Launch} {d : aI} {e : aJ} {x0 : Int32} {y1 : Int64} {y3 : Int64} {q : Int32 × aI × aJ} (h : FX11_isAsked d e x0 y1 y3 = some q) : Ev Γ (0) mX11_isAsked [.int x0, .long y1, .long y3] d e (some (.int q.1)) q.2.1 q.2.2 := by
  refine Ev.of (by decide) rfl (Nat.le_of_ble_eq_true rfl) (fun z => by cases z) ?_
  show Rn Γ (0) mX11_isAsked 0 [some (.int x0), some (.long y1), none, some (.long y3), none] [] d e _ _ _
  unfold FX11_isAsked at h
  refine a_ite h (fun c1 h => ?_) (fun c1 h => ?_)
  · refine bX11_isAsked_0 (fun z => absurd c1 z) (fun _ => ?_)
    refine a_ite h (fun c2 h => ?_) (fun c2 h => ?_)
    · refine bX11_isAsked_6 (fun _ => ?_) (fun z => absurd c2 z)
      refine bX11_isAsked_16 ?_
      cases h
      exact bX11_isAsked_111 (a_nz (Or.inl rfl))
    · refine bX11_isAsked_6 (fun z => absurd z c2) (fun _ => ?_)
      refine bX11_isAsked_12 ?_
      cases h
      exact bX11_isAsked_111 (a_nz (Or.inr rfl))
  · refine bX11_isAsked_0 (fun _ => ?_) (fun z => absurd z c1)
    refine a_ite h (fun c3 h => ?_) (fun c3 h => ?_)
    · refine bX11_isAsked_20 (fun z => absurd c3 z) (fun _ => ?_)
      refine a_ite h (fun c4 h => ?_) (fun c4 h => ?_)
      · refine bX11_isAsked_26 (fun _ => ?_) (fun z => absurd c4 z)
        refine bX11_isAsked_36 ?_
        cases h
        exact bX11_isAsked_111 (a_nz (Or.inl rfl))
      · refine bX11_isAsked_26 (fun z => absurd z c4) (fun _ => ?_)
        refine bX11_isAsked_32 ?_
        cases h
        exact bX11_isAsked_111 (a_nz (Or.inr rfl))
    · refine bX11_isAsked_20 (fun _ => ?_) (fun z => absurd z c3)
      refine a_ite h (fun c5 h => ?_) (fun c5 h => ?_)
      · refine bX11_isAsked_40 (fun z => absurd c5 z) (fun _ => ?_)
        refine a_ite h (fun c6 h => ?_) (fun c6 h => ?_)
        · refine bX11_isAsked_46 (fun _ => ?_) (fun z => absurd c6 z)
          refine bX11_isAsked_56 ?_
          cases h
          exact bX11_isAsked_111 (a_nz (Or.inl rfl))
        · refine bX11_isAsked_46 (fun z => absurd z c6) (fun _ => ?_)
          refine bX11_isAsked_52 ?_
          cases h
          exact bX11_isAsked_111 (a_nz (Or.inr rfl))
      · refine bX11_isAsked_40 (fun _ => ?_) (fun z => absurd z c5)
        refine a_ite h (fun c7 h => ?_) (fun c7 h => ?_)
        · refine bX11_isAsked_60 (fun z => absurd c7 z) (fun _ => ?_)
          refine a_ite h (fun c8 h => ?_) (fun c8 h => ?_)
          · refine bX11_isAsked_66 (fun _ => ?_) (fun z => absurd c8 z)
            refine bX11_isAsked_76 ?_
            cases h
            exact bX11_isAsked_111 (a_nz (Or.inl rfl))
          · refine bX11_isAsked_66 (fun z => absurd z c8) (fun _ => ?_)
            refine bX11_isAsked_72 ?_
            cases h
            exact bX11_isAsked_111 (a_nz (Or.inr rfl))
        · refine bX11_isAsked_60 (fun _ => ?_) (fun z => absurd z c7)
          refine a_ite h (fun c9 h => ?_) (fun c9 h => ?_)
          · refine bX11_isAsked_80 (fun z => absurd c9 z) (fun _ => ?_)
            refine a_ite h (fun c10 h => ?_) (fun c10 h => ?_)
            · refine bX11_isAsked_86 (fun z => absurd c10 z) (fun _ => ?_)
              refine bX11_isAsked_92 ?_
              cases h
              exact bX11_isAsked_111 (a_nz (Or.inr rfl))
            · refine bX11_isAsked_86 (fun _ => ?_) (fun z => absurd z c10)
              refine bX11_isAsked_96 ?_
              cases h
              exact bX11_isAsked_111 (a_nz (Or.inl rfl))
          · refine bX11_isAsked_80 (fun _ => ?_) (fun z => absurd z c9)
            refine a_ite h (fun c11 h => ?_) (fun c11 h => ?_)
            · refine bX11_isAsked_100 (fun _ => ?_) (fun z => absurd c11 z)
              refine bX11_isAsked_110 ?_
              cases h
              exact bX11_isAsked_111 (a_nz (Or.inl rfl))
            · refine bX11_isAsked_100 (fun z => absurd z c11) (fun _ => ?_)
              refine bX11_isAsked_106 ?_
              cases h
              exact bX11_isAsked_111 (a_nz (Or.inr rfl))

noncomputable def FX11_chillOf (d : aI) (e : aJ) (y1 : Int64) : Option (Int64 × aI × aJ) := (if (lg_cmp y1 (lN 0)) < 0 then (some ((lN 0), d, e)) else (bif ((a_inb (nI 1) 1961)) then (if 0 ≤ (lg_cmp y1 (Int32.toInt64 (d 109 1))) then (some ((lN 0), d, e)) else (bif ((a_inb ((nI 54) + (Int64.toInt32 y1)) 1961)) then (some ((Int32.toInt64 (d 109 (((nI 54) + (Int64.toInt32 y1))).toNatClampNeg)), d, e)) else none)) else none))
theorem evX11_chillOf {Γ : aG × Launch} {d : aI} {e : aJ} {y1 : Int64} {q : Int64 × aI × aJ} (h : FX11_chillOf d e y1 = some q) : Ev Γ (0) mX11_chillOf [.ref 108, .long y1] d e (some (.long q.1)) q.2.1 q.2.2 := by
  refine Ev.of (by decide) rfl (Nat.le_of_ble_eq_true rfl) (fun z => by cases z) ?_
  show Rn Γ (0) mX11_chillOf 0 [some (.ref 108), some (.long y1), none] [] d e _ _ _
  unfold FX11_chillOf at h
  refine a_ite h (fun c1 h => ?_) (fun c1 h => ?_)
  · refine bX11_chillOf_0 (fun _ => ?_) (fun z => absurd c1 z)
    refine bX11_chillOf_32 ?_
    cases h
    exact bX11_chillOf_33
  · refine bX11_chillOf_0 (fun z => absurd z c1) (fun _ => ?_)
    obtain ⟨g2, h⟩ := a_cond h
    refine a_ite h (fun c3 h => ?_) (fun c3 h => ?_)
    · refine bX11_chillOf_6 (a_inb_vp g2) (fun _ => ?_) (fun z => absurd c3 z)
      refine bX11_chillOf_32 ?_
      cases h
      exact bX11_chillOf_33
    · refine bX11_chillOf_6 (a_inb_vp g2) (fun z => absurd z c3) (fun _ => ?_)
      obtain ⟨g4, h⟩ := a_cond h
      refine bX11_chillOf_18 (a_inb_vp g4) ?_
      cases h
      exact bX11_chillOf_33

noncomputable def FX11_byTen (d : aI) (e : aJ) (y0 : Int64) : Option (Int64 × aI × aJ) := (if 0 ≤ (lg_cmp y0 (lN 0)) then (bif ((decide (¬ (lN 10) = 0))) then (some ((a_jrm y0 (lN 10)), d, e)) else none) else (bif ((decide (¬ (lN 10) = 0))) then (some ((a_jrm (-y0) (lN 10)), d, e)) else none))
theorem evX11_byTen {Γ : aG × Launch} {d : aI} {e : aJ} {y0 : Int64} {q : Int64 × aI × aJ} (h : FX11_byTen d e y0 = some q) : Ev Γ (0) mX11_byTen [.long y0] d e (some (.long q.1)) q.2.1 q.2.2 := by
  refine Ev.of (by decide) rfl (Nat.le_of_ble_eq_true rfl) (fun z => by cases z) ?_
  show Rn Γ (0) mX11_byTen 0 [some (.long y0), none] [] d e _ _ _
  unfold FX11_byTen at h
  refine a_ite h (fun c1 h => ?_) (fun c1 h => ?_)
  · refine bX11_byTen_0 (fun _ => ?_) (fun z => absurd c1 z)
    refine bX11_byTen_11 ?_
    obtain ⟨g2, h⟩ := a_cond h
    cases h
    exact bX11_byTen_12 (of_decide_eq_true g2)
  · refine bX11_byTen_0 (fun z => absurd z c1) (fun _ => ?_)
    refine bX11_byTen_6 ?_
    obtain ⟨g3, h⟩ := a_cond h
    cases h
    exact bX11_byTen_12 (of_decide_eq_true g3)

noncomputable def FX11_turnOf (d : aI) (e : aJ) (y0 : Int64) (y2 : Int64) : Option (Int64 × aI × aJ) := ((FX11_byTen d e y2).bind fun q1 => ((FX11_byTen q1.2.1 q1.2.2 y0).bind fun q2 => (bif ((decide (¬ (lN 10) = 0))) then (some ((a_jrm ((q1.1 - q2.1) + (lN 10)) (lN 10)), q2.2.1, q2.2.2)) else none)))
theorem evX11_turnOf {Γ : aG × Launch} {d : aI} {e : aJ} {y0 : Int64} {y2 : Int64} {q : Int64 × aI × aJ} (h : FX11_turnOf d e y0 y2 = some q) : Ev Γ (1) mX11_turnOf [.long y0, .long y2] d e (some (.long q.1)) q.2.1 q.2.2 := by
  refine Ev.of (by decide) rfl (Nat.le_of_ble_eq_true rfl) (fun z => by cases z) ?_
  show Rn Γ (1) mX11_turnOf 0 [some (.long y0), none, some (.long y2), none] [] d e _ _ _
  unfold FX11_turnOf at h
  obtain ⟨q1, hq1, h⟩ := Option.bind_eq_some_iff.mp h
  refine bX11_turnOf_0 (evX11_byTen hq1) (by omega) ?_
  obtain ⟨q2, hq2, h⟩ := Option.bind_eq_some_iff.mp h
  refine bX11_turnOf_4 (evX11_byTen hq2) (by omega) ?_
  obtain ⟨g3, h⟩ := a_cond h
  cases h
  exact bX11_turnOf_8 (of_decide_eq_true g3)

noncomputable def FX11_joined (d : aI) (e : aJ) (x0 : Int32) (x1 : Int32) (x2 : Int32) : Option (Int32 × aI × aJ) := (if x0 = (nI 21) then (if x1 = 0 then (some ((nI 0), d, e)) else (if x2 = 0 then (some ((nI 0), d, e)) else (some ((nI 1), d, e)))) else (if x1 = 0 then (if x2 = 0 then (some ((nI 0), d, e)) else (some ((nI 1), d, e))) else (some ((nI 1), d, e))))
theorem evX11_joined {Γ : aG × Launch} {d : aI} {e : aJ} {x0 : Int32} {x1 : Int32} {x2 : Int32} {q : Int32 × aI × aJ} (h : FX11_joined d e x0 x1 x2 = some q) : Ev Γ (0) mX11_joined [.int x0, .int x1, .int x2] d e (some (.int q.1)) q.2.1 q.2.2 := by
  refine Ev.of (by decide) rfl (Nat.le_of_ble_eq_true rfl) (fun z => by cases z) ?_
  show Rn Γ (0) mX11_joined 0 [some (.int x0), some (.int x1), some (.int x2)] [] d e _ _ _
  unfold FX11_joined at h
  refine a_ite h (fun c1 h => ?_) (fun c1 h => ?_)
  · refine bX11_joined_0 (fun z => absurd c1 z) (fun _ => ?_)
    refine a_ite h (fun c2 h => ?_) (fun c2 h => ?_)
    · refine bX11_joined_6 (fun _ => ?_) (fun z => absurd c2 z)
      refine bX11_joined_18 ?_
      cases h
      exact bX11_joined_35 (a_nz (Or.inl rfl))
    · refine bX11_joined_6 (fun z => absurd z c2) (fun _ => ?_)
      refine a_ite h (fun c3 h => ?_) (fun c3 h => ?_)
      · refine bX11_joined_10 (fun _ => ?_) (fun z => absurd c3 z)
        refine bX11_joined_18 ?_
        cases h
        exact bX11_joined_35 (a_nz (Or.inl rfl))
      · refine bX11_joined_10 (fun z => absurd z c3) (fun _ => ?_)
        refine bX11_joined_14 ?_
        cases h
        exact bX11_joined_35 (a_nz (Or.inr rfl))
  · refine bX11_joined_0 (fun _ => ?_) (fun z => absurd z c1)
    refine a_ite h (fun c4 h => ?_) (fun c4 h => ?_)
    · refine bX11_joined_22 (fun z => absurd c4 z) (fun _ => ?_)
      refine a_ite h (fun c5 h => ?_) (fun c5 h => ?_)
      · refine bX11_joined_26 (fun _ => ?_) (fun z => absurd c5 z)
        refine bX11_joined_34 ?_
        cases h
        exact bX11_joined_35 (a_nz (Or.inl rfl))
      · refine bX11_joined_26 (fun z => absurd z c5) (fun _ => ?_)
        refine bX11_joined_30 ?_
        cases h
        exact bX11_joined_35 (a_nz (Or.inr rfl))
    · refine bX11_joined_22 (fun _ => ?_) (fun z => absurd z c4)
      refine bX11_joined_30 ?_
      cases h
      exact bX11_joined_35 (a_nz (Or.inr rfl))

noncomputable def sX11_summedUp_0 (d : aI) (e : aJ) (x1 : Int32) (x2 : Int32) : Option (Nat × aL × aI × aJ) := (bif ((a_inb (((((nI 681) * x1) + (nI 1)) + ((nI 3) * x2)) + (nI 1)) 2724)) then (some (38, [some (.ref 108), some (.int x1), some (.int x2), some (.int ((((nI 681) * x1) + (nI 1)) + ((nI 3) * x2))), some (.int (((nI 681) * x1) + (nI 73))), some (.int (nI 0)), some (.int (nI 0)), some (.int (d 111 ((((((nI 681) * x1) + (nI 1)) + ((nI 3) * x2)) + (nI 1))).toNatClampNeg)), none, none], d, e)) else none)
theorem tX11_summedUp_0 {Γ : aG × Launch} {d dF : aI} {e eF : aJ} {x1 : Int32} {x2 : Int32} {r : Option Value} {p : Nat × aL × aI × aJ} (h : sX11_summedUp_0 d e x1 x2 = some p) (kc : Nat.beq p.1 100000 = false → Rn Γ (2) mX11_summedUp p.1 p.2.1 [] p.2.2.1 p.2.2.2 r dF eF) (kr : p.1 = 100000 → r = a_rt p.2.1 ∧ dF = p.2.2.1 ∧ eF = p.2.2.2) : Rn Γ (2) mX11_summedUp 0 [some (.ref 108), some (.int x1), some (.int x2), none, none, none, none, none, none, none] [] d e r dF eF := by
  unfold sX11_summedUp_0 at h
  obtain ⟨g1, h⟩ := a_cond h
  refine bX11_summedUp_0 (a_inb_vp g1) ?_
  cases h
  exact kc rfl

noncomputable def sX11_summedUp_38 (d : aI) (e : aJ) (x1 : Int32) (x2 : Int32) (x3 : Int32) (x4 : Int32) (x5 : Int32) (x6 : Int32) (x7 : Int32) (v8 : Option Value) (v9 : Option Value) : Option (Nat × aL × aI × aJ) := (bif ((a_inb (x3 + (nI 2)) 2724)) then (if (d 111 ((x3 + (nI 2))).toNatClampNeg) ≤ x7 then (bif ((a_inb (nI 0) 330)) then (some (100000, [some (.long (e 115 0))], d, e)) else none) else (bif ((a_inb (x4 + ((nI 2) * x7)) 2724) && (a_inb ((x4 + ((nI 2) * x7)) + (nI 1)) 2724)) then (if (nI 1) < (d 111 ((x4 + ((nI 2) * x7))).toNatClampNeg) then (if (d 111 ((x4 + ((nI 2) * x7))).toNatClampNeg) = (nI 3) then (bif ((a_inb (x6 + (-(nI 1))) 330)) then (if (d 116 ((x6 + (-(nI 1)))).toNatClampNeg) = 0 then (bif ((a_inb (x5 + (-(nI 1))) 330) && (a_inb ((x5 + (-(nI 1))) - (nI 1)) 330)) then (some (38, [some (.ref 108), some (.int x1), some (.int x2), some (.int x3), some (.int x4), some (.int (x5 + (-(nI 1)))), some (.int (x6 + (-(nI 1)))), some (.int (x7 + (nI 1))), some (.int (d 111 ((x4 + ((nI 2) * x7))).toNatClampNeg)), some (.int (d 111 (((x4 + ((nI 2) * x7)) + (nI 1))).toNatClampNeg))], d, (uJ e 115 (((x5 + (-(nI 1))) - (nI 1))).toNatClampNeg (e 115 ((x5 + (-(nI 1)))).toNatClampNeg)))) else none) else (some (38, [some (.ref 108), some (.int x1), some (.int x2), some (.int x3), some (.int x4), some (.int (x5 + (-(nI 1)))), some (.int (x6 + (-(nI 1)))), some (.int (x7 + (nI 1))), some (.int (d 111 ((x4 + ((nI 2) * x7))).toNatClampNeg)), some (.int (d 111 (((x4 + ((nI 2) * x7)) + (nI 1))).toNatClampNeg))], d, e))) else none) else (if (d 111 ((x4 + ((nI 2) * x7))).toNatClampNeg) = (nI 5) then (if (d 111 ((x4 + ((nI 2) * x7))).toNatClampNeg) = (nI 5) then (bif ((a_inb (x5 - (nI 1)) 330)) then (bif ((a_inb (x5 - (nI 1)) 330)) then (some (38, [some (.ref 108), some (.int x1), some (.int x2), some (.int x3), some (.int x4), some (.int x5), some (.int x6), some (.int (x7 + (nI 1))), some (.int (d 111 ((x4 + ((nI 2) * x7))).toNatClampNeg)), some (.int (d 111 (((x4 + ((nI 2) * x7)) + (nI 1))).toNatClampNeg))], d, (uJ e 115 ((x5 - (nI 1))).toNatClampNeg (-(e 115 ((x5 - (nI 1))).toNatClampNeg))))) else none) else none) else (bif ((a_inb (x5 - (nI 1)) 330)) then ((FX11_chillOf d e (e 115 ((x5 - (nI 1))).toNatClampNeg)).bind fun q15 => (bif ((a_inb (x5 - (nI 1)) 330)) then (some (38, [some (.ref 108), some (.int x1), some (.int x2), some (.int x3), some (.int x4), some (.int x5), some (.int x6), some (.int (x7 + (nI 1))), some (.int (d 111 ((x4 + ((nI 2) * x7))).toNatClampNeg)), some (.int (d 111 (((x4 + ((nI 2) * x7)) + (nI 1))).toNatClampNeg))], q15.2.1, (uJ q15.2.2 115 ((x5 - (nI 1))).toNatClampNeg q15.1))) else none)) else none)) else (if (d 111 ((x4 + ((nI 2) * x7))).toNatClampNeg) = (nI 2) then (if (d 111 ((x4 + ((nI 2) * x7))).toNatClampNeg) = (nI 5) then (bif ((a_inb (x5 - (nI 1)) 330)) then (bif ((a_inb (x5 - (nI 1)) 330)) then (some (38, [some (.ref 108), some (.int x1), some (.int x2), some (.int x3), some (.int x4), some (.int x5), some (.int x6), some (.int (x7 + (nI 1))), some (.int (d 111 ((x4 + ((nI 2) * x7))).toNatClampNeg)), some (.int (d 111 (((x4 + ((nI 2) * x7)) + (nI 1))).toNatClampNeg))], d, (uJ e 115 ((x5 - (nI 1))).toNatClampNeg (-(e 115 ((x5 - (nI 1))).toNatClampNeg))))) else none) else none) else (bif ((a_inb (x5 - (nI 1)) 330)) then ((FX11_chillOf d e (e 115 ((x5 - (nI 1))).toNatClampNeg)).bind fun q22 => (bif ((a_inb (x5 - (nI 1)) 330)) then (some (38, [some (.ref 108), some (.int x1), some (.int x2), some (.int x3), some (.int x4), some (.int x5), some (.int x6), some (.int (x7 + (nI 1))), some (.int (d 111 ((x4 + ((nI 2) * x7))).toNatClampNeg)), some (.int (d 111 (((x4 + ((nI 2) * x7)) + (nI 1))).toNatClampNeg))], q22.2.1, (uJ q22.2.2 115 ((x5 - (nI 1))).toNatClampNeg q22.1))) else none)) else none)) else (if (nI 10) ≤ (d 111 ((x4 + ((nI 2) * x7))).toNatClampNeg) then (if (nI 20) ≤ (d 111 ((x4 + ((nI 2) * x7))).toNatClampNeg) then (if (d 111 ((x4 + ((nI 2) * x7))).toNatClampNeg) = (nI 20) then (bif ((a_inb (x6 - (nI 1)) 330)) then (if (d 116 ((x6 - (nI 1))).toNatClampNeg) = 0 then (bif ((a_inb (x6 - (nI 1)) 330)) then (some (38, [some (.ref 108), some (.int x1), some (.int x2), some (.int x3), some (.int x4), some (.int x5), some (.int x6), some (.int (x7 + (nI 1))), some (.int (d 111 ((x4 + ((nI 2) * x7))).toNatClampNeg)), some (.int (d 111 (((x4 + ((nI 2) * x7)) + (nI 1))).toNatClampNeg))], (uI d 116 ((x6 - (nI 1))).toNatClampNeg (vp_nar .boolean (nI 1))), e)) else none) else (bif ((a_inb (x6 - (nI 1)) 330)) then (some (38, [some (.ref 108), some (.int x1), some (.int x2), some (.int x3), some (.int x4), some (.int x5), some (.int x6), some (.int (x7 + (nI 1))), some (.int (d 111 ((x4 + ((nI 2) * x7))).toNatClampNeg)), some (.int (d 111 (((x4 + ((nI 2) * x7)) + (nI 1))).toNatClampNeg))], (uI d 116 ((x6 - (nI 1))).toNatClampNeg (vp_nar .boolean (nI 0))), e)) else none)) else none) else (bif ((a_inb ((x6 + (-(nI 1))) - (nI 1)) 330) && (a_inb (x6 + (-(nI 1))) 330)) then ((FX11_joined d e (d 111 ((x4 + ((nI 2) * x7))).toNatClampNeg) (d 116 (((x6 + (-(nI 1))) - (nI 1))).toNatClampNeg) (d 116 ((x6 + (-(nI 1)))).toNatClampNeg)).bind fun q32 => (bif ((a_inb ((x6 + (-(nI 1))) - (nI 1)) 330)) then (some (38, [some (.ref 108), some (.int x1), some (.int x2), some (.int x3), some (.int x4), some (.int x5), some (.int (x6 + (-(nI 1)))), some (.int (x7 + (nI 1))), some (.int (d 111 ((x4 + ((nI 2) * x7))).toNatClampNeg)), some (.int (d 111 (((x4 + ((nI 2) * x7)) + (nI 1))).toNatClampNeg))], (uI q32.2.1 116 (((x6 + (-(nI 1))) - (nI 1))).toNatClampNeg (vp_nar .boolean q32.1)), q32.2.2)) else none)) else none)) else (bif ((a_inb (x5 + (-(nI 2))) 330) && (a_inb ((x5 + (-(nI 2))) + (nI 1)) 330)) then ((FX11_isAsked d e (d 111 ((x4 + ((nI 2) * x7))).toNatClampNeg) (e 115 ((x5 + (-(nI 2)))).toNatClampNeg) (e 115 (((x5 + (-(nI 2))) + (nI 1))).toNatClampNeg)).bind fun q35 => (bif ((a_inb x6 330)) then (some (38, [some (.ref 108), some (.int x1), some (.int x2), some (.int x3), some (.int x4), some (.int (x5 + (-(nI 2)))), some (.int (x6 + (nI 1))), some (.int (x7 + (nI 1))), some (.int (d 111 ((x4 + ((nI 2) * x7))).toNatClampNeg)), some (.int (d 111 (((x4 + ((nI 2) * x7)) + (nI 1))).toNatClampNeg))], (uI q35.2.1 116 (x6).toNatClampNeg (vp_nar .boolean q35.1)), q35.2.2)) else none)) else none)) else (if (d 111 ((x4 + ((nI 2) * x7))).toNatClampNeg) = (nI 4) then (bif ((a_inb ((x5 + (-(nI 1))) - (nI 1)) 330) && (a_inb (x5 + (-(nI 1))) 330)) then ((FX11_turnOf d e (e 115 (((x5 + (-(nI 1))) - (nI 1))).toNatClampNeg) (e 115 ((x5 + (-(nI 1)))).toNatClampNeg)).bind fun q39 => (bif ((a_inb ((x5 + (-(nI 1))) - (nI 1)) 330)) then (some (38, [some (.ref 108), some (.int x1), some (.int x2), some (.int x3), some (.int x4), some (.int (x5 + (-(nI 1)))), some (.int x6), some (.int (x7 + (nI 1))), some (.int (d 111 ((x4 + ((nI 2) * x7))).toNatClampNeg)), some (.int (d 111 (((x4 + ((nI 2) * x7)) + (nI 1))).toNatClampNeg))], q39.2.1, (uJ q39.2.2 115 (((x5 + (-(nI 1))) - (nI 1))).toNatClampNeg q39.1))) else none)) else none) else (bif ((a_inb ((x5 + (-(nI 1))) - (nI 1)) 330) && (a_inb (x5 + (-(nI 1))) 330)) then ((FX11_two d e (d 111 ((x4 + ((nI 2) * x7))).toNatClampNeg) (e 115 (((x5 + (-(nI 1))) - (nI 1))).toNatClampNeg) (e 115 ((x5 + (-(nI 1)))).toNatClampNeg)).bind fun q42 => (bif ((a_inb ((x5 + (-(nI 1))) - (nI 1)) 330)) then (some (38, [some (.ref 108), some (.int x1), some (.int x2), some (.int x3), some (.int x4), some (.int (x5 + (-(nI 1)))), some (.int x6), some (.int (x7 + (nI 1))), some (.int (d 111 ((x4 + ((nI 2) * x7))).toNatClampNeg)), some (.int (d 111 (((x4 + ((nI 2) * x7)) + (nI 1))).toNatClampNeg))], q42.2.1, (uJ q42.2.2 115 (((x5 + (-(nI 1))) - (nI 1))).toNatClampNeg q42.1))) else none)) else none)))))) else (if (d 111 ((x4 + ((nI 2) * x7))).toNatClampNeg) = 0 then (bif ((a_inb x5 330)) then (some (38, [some (.ref 108), some (.int x1), some (.int x2), some (.int x3), some (.int x4), some (.int (x5 + (nI 1))), some (.int x6), some (.int (x7 + (nI 1))), some (.int (d 111 ((x4 + ((nI 2) * x7))).toNatClampNeg)), some (.int (d 111 (((x4 + ((nI 2) * x7)) + (nI 1))).toNatClampNeg))], d, (uJ e 115 (x5).toNatClampNeg (Int32.toInt64 (d 111 (((x4 + ((nI 2) * x7)) + (nI 1))).toNatClampNeg))))) else none) else (bif ((a_inb (d 111 (((x4 + ((nI 2) * x7)) + (nI 1))).toNatClampNeg) 8)) then (bif ((a_inb x5 330)) then (some (38, [some (.ref 108), some (.int x1), some (.int x2), some (.int x3), some (.int x4), some (.int (x5 + (nI 1))), some (.int x6), some (.int (x7 + (nI 1))), some (.int (d 111 ((x4 + ((nI 2) * x7))).toNatClampNeg)), some (.int (d 111 (((x4 + ((nI 2) * x7)) + (nI 1))).toNatClampNeg))], d, (uJ e 115 (x5).toNatClampNeg (Int32.toInt64 (d 114 ((d 111 (((x4 + ((nI 2) * x7)) + (nI 1))).toNatClampNeg)).toNatClampNeg))))) else none) else none))) else none)) else none)
theorem tX11_summedUp_38 {Γ : aG × Launch} {d dF : aI} {e eF : aJ} {x1 : Int32} {x2 : Int32} {x3 : Int32} {x4 : Int32} {x5 : Int32} {x6 : Int32} {x7 : Int32} {v8 : Option Value} {v9 : Option Value} {r : Option Value} {p : Nat × aL × aI × aJ} (h : sX11_summedUp_38 d e x1 x2 x3 x4 x5 x6 x7 v8 v9 = some p) (kc : Nat.beq p.1 100000 = false → Rn Γ (2) mX11_summedUp p.1 p.2.1 [] p.2.2.1 p.2.2.2 r dF eF) (kr : p.1 = 100000 → r = a_rt p.2.1 ∧ dF = p.2.2.1 ∧ eF = p.2.2.2) : Rn Γ (2) mX11_summedUp 38 [some (.ref 108), some (.int x1), some (.int x2), some (.int x3), some (.int x4), some (.int x5), some (.int x6), some (.int x7), v8, v9] [] d e r dF eF := by
  unfold sX11_summedUp_38 at h
  obtain ⟨g1, h⟩ := a_cond h
  refine a_ite h (fun c2 h => ?_) (fun c2 h => ?_)
  · refine bX11_summedUp_38 (a_inb_vp g1) (fun _ => ?_) (fun z => absurd c2 z)
    obtain ⟨g3, h⟩ := a_cond h
    cases h
    obtain ⟨k1, k2, k3⟩ := kr rfl
    exact bX11_summedUp_406 (a_inb_vp g3) k1 k2 k3
  · refine bX11_summedUp_38 (a_inb_vp g1) (fun z => absurd z c2) (fun _ => ?_)
    obtain ⟨g4, h⟩ := a_cond h
    obtain ⟨g4x1, g4_1⟩ := a_and g4
    have g4_0 := g4x1
    refine a_ite h (fun c5 h => ?_) (fun c5 h => ?_)
    · refine bX11_summedUp_51 ⟨(a_inb_vp g4_0), (a_inb_vp g4_1)⟩ (fun _ => ?_) (fun z => absurd c5 z)
      refine a_ite h (fun c6 h => ?_) (fun c6 h => ?_)
      · refine bX11_summedUp_119 (fun z => absurd c6 z) (fun _ => ?_)
        obtain ⟨g7, h⟩ := a_cond h
        refine a_ite h (fun c8 h => ?_) (fun c8 h => ?_)
        · refine bX11_summedUp_125 (a_inb_vp g7) (fun z => absurd c8 z) (fun _ => ?_)
          obtain ⟨g9, h⟩ := a_cond h
          obtain ⟨g9x1, g9_1⟩ := a_and g9
          have g9_0 := g9x1
          refine bX11_summedUp_141 ⟨(a_inb_vp g9_0), (a_inb_vp g9_1)⟩ ?_
          refine bX11_summedUp_400 ?_
          cases h
          exact kc rfl
        · refine bX11_summedUp_125 (a_inb_vp g7) (fun _ => ?_) (fun z => absurd z c8)
          refine bX11_summedUp_400 ?_
          cases h
          exact kc rfl
      · refine bX11_summedUp_119 (fun _ => ?_) (fun z => absurd z c6)
        refine a_ite h (fun c10 h => ?_) (fun c10 h => ?_)
        · refine bX11_summedUp_160 (fun _ => ?_) (fun z => absurd c10 z)
          refine a_ite h (fun c11 h => ?_) (fun c11 h => ?_)
          · refine bX11_summedUp_172 (fun z => absurd c11 z) (fun _ => ?_)
            obtain ⟨g12, h⟩ := a_cond h
            refine bX11_summedUp_186 (a_inb_vp g12) ?_
            obtain ⟨g13, h⟩ := a_cond h
            refine bX11_summedUp_212 (a_inb_vp g13) ?_
            refine bX11_summedUp_400 ?_
            cases h
            exact kc rfl
          · refine bX11_summedUp_172 (fun _ => ?_) (fun z => absurd z c11)
            obtain ⟨g14, h⟩ := a_cond h
            obtain ⟨q15, hq15, h⟩ := Option.bind_eq_some_iff.mp h
            refine bX11_summedUp_199 (a_inb_vp g14) (evX11_chillOf hq15) (by omega) ?_
            obtain ⟨g16, h⟩ := a_cond h
            refine bX11_summedUp_212 (a_inb_vp g16) ?_
            refine bX11_summedUp_400 ?_
            cases h
            exact kc rfl
        · refine bX11_summedUp_160 (fun z => absurd z c10) (fun _ => ?_)
          refine a_ite h (fun c17 h => ?_) (fun c17 h => ?_)
          · refine bX11_summedUp_166 (fun z => absurd c17 z) (fun _ => ?_)
            refine a_ite h (fun c18 h => ?_) (fun c18 h => ?_)
            · refine bX11_summedUp_172 (fun z => absurd c18 z) (fun _ => ?_)
              obtain ⟨g19, h⟩ := a_cond h
              refine bX11_summedUp_186 (a_inb_vp g19) ?_
              obtain ⟨g20, h⟩ := a_cond h
              refine bX11_summedUp_212 (a_inb_vp g20) ?_
              refine bX11_summedUp_400 ?_
              cases h
              exact kc rfl
            · refine bX11_summedUp_172 (fun _ => ?_) (fun z => absurd z c18)
              obtain ⟨g21, h⟩ := a_cond h
              obtain ⟨q22, hq22, h⟩ := Option.bind_eq_some_iff.mp h
              refine bX11_summedUp_199 (a_inb_vp g21) (evX11_chillOf hq22) (by omega) ?_
              obtain ⟨g23, h⟩ := a_cond h
              refine bX11_summedUp_212 (a_inb_vp g23) ?_
              refine bX11_summedUp_400 ?_
              cases h
              exact kc rfl
          · refine bX11_summedUp_166 (fun _ => ?_) (fun z => absurd z c17)
            refine a_ite h (fun c24 h => ?_) (fun c24 h => ?_)
            · refine bX11_summedUp_216 (fun _ => ?_) (fun z => absurd c24 z)
              refine a_ite h (fun c25 h => ?_) (fun c25 h => ?_)
              · refine bX11_summedUp_287 (fun _ => ?_) (fun z => absurd c25 z)
                refine a_ite h (fun c26 h => ?_) (fun c26 h => ?_)
                · refine bX11_summedUp_331 (fun z => absurd c26 z) (fun _ => ?_)
                  obtain ⟨g27, h⟩ := a_cond h
                  refine a_ite h (fun c28 h => ?_) (fun c28 h => ?_)
                  · refine bX11_summedUp_338 (a_inb_vp g27) (fun z => absurd c28 z) (fun _ => ?_)
                    refine bX11_summedUp_358 ?_
                    obtain ⟨g29, h⟩ := a_cond h
                    refine bX11_summedUp_363 (a_inb_vp g29) ?_
                    refine bX11_summedUp_400 ?_
                    cases h
                    exact kc rfl
                  · refine bX11_summedUp_338 (a_inb_vp g27) (fun _ => ?_) (fun z => absurd z c28)
                    refine bX11_summedUp_362 ?_
                    obtain ⟨g30, h⟩ := a_cond h
                    refine bX11_summedUp_363 (a_inb_vp g30) ?_
                    refine bX11_summedUp_400 ?_
                    cases h
                    exact kc rfl
                · refine bX11_summedUp_331 (fun _ => ?_) (fun z => absurd z c26)
                  obtain ⟨g31, h⟩ := a_cond h
                  obtain ⟨g31x1, g31_1⟩ := a_and g31
                  have g31_0 := g31x1
                  obtain ⟨q32, hq32, h⟩ := Option.bind_eq_some_iff.mp h
                  refine bX11_summedUp_367 ⟨(a_inb_vp g31_0), (a_inb_vp g31_1)⟩ (evX11_joined hq32) (by omega) ?_
                  obtain ⟨g33, h⟩ := a_cond h
                  refine bX11_summedUp_399 (a_inb_vp g33) ?_
                  refine bX11_summedUp_400 ?_
                  cases h
                  exact kc rfl
              · refine bX11_summedUp_287 (fun z => absurd z c25) (fun _ => ?_)
                obtain ⟨g34, h⟩ := a_cond h
                obtain ⟨g34x1, g34_1⟩ := a_and g34
                have g34_0 := g34x1
                obtain ⟨q35, hq35, h⟩ := Option.bind_eq_some_iff.mp h
                refine bX11_summedUp_294 ⟨(a_inb_vp g34_0), (a_inb_vp g34_1)⟩ (evX11_isAsked hq35) (by omega) ?_
                obtain ⟨g36, h⟩ := a_cond h
                refine bX11_summedUp_324 (a_inb_vp g36) ?_
                refine bX11_summedUp_400 ?_
                cases h
                exact kc rfl
            · refine bX11_summedUp_216 (fun z => absurd z c24) (fun _ => ?_)
              refine a_ite h (fun c37 h => ?_) (fun c37 h => ?_)
              · refine bX11_summedUp_223 (fun z => absurd c37 z) (fun _ => ?_)
                obtain ⟨g38, h⟩ := a_cond h
                obtain ⟨g38x1, g38_1⟩ := a_and g38
                have g38_0 := g38x1
                obtain ⟨q39, hq39, h⟩ := Option.bind_eq_some_iff.mp h
                refine bX11_summedUp_240 ⟨(a_inb_vp g38_0), (a_inb_vp g38_1)⟩ (evX11_turnOf hq39) (by omega) ?_
                refine bX11_summedUp_259 ?_
                obtain ⟨g40, h⟩ := a_cond h
                refine bX11_summedUp_283 (a_inb_vp g40) ?_
                refine bX11_summedUp_400 ?_
                cases h
                exact kc rfl
              · refine bX11_summedUp_223 (fun _ => ?_) (fun z => absurd z c37)
                obtain ⟨g41, h⟩ := a_cond h
                obtain ⟨g41x1, g41_1⟩ := a_and g41
                have g41_0 := g41x1
                obtain ⟨q42, hq42, h⟩ := Option.bind_eq_some_iff.mp h
                refine bX11_summedUp_262 ⟨(a_inb_vp g41_0), (a_inb_vp g41_1)⟩ (evX11_two hq42) (by omega) ?_
                obtain ⟨g43, h⟩ := a_cond h
                refine bX11_summedUp_283 (a_inb_vp g43) ?_
                refine bX11_summedUp_400 ?_
                cases h
                exact kc rfl
    · refine bX11_summedUp_51 ⟨(a_inb_vp g4_0), (a_inb_vp g4_1)⟩ (fun z => absurd z c5) (fun _ => ?_)
      refine a_ite h (fun c44 h => ?_) (fun c44 h => ?_)
      · refine bX11_summedUp_87 (fun z => absurd c44 z) (fun _ => ?_)
        refine bX11_summedUp_98 ?_
        obtain ⟨g45, h⟩ := a_cond h
        refine bX11_summedUp_112 (a_inb_vp g45) ?_
        refine bX11_summedUp_400 ?_
        cases h
        exact kc rfl
      · refine bX11_summedUp_87 (fun _ => ?_) (fun z => absurd z c44)
        obtain ⟨g46, h⟩ := a_cond h
        refine bX11_summedUp_104 (a_inb_vp g46) ?_
        obtain ⟨g47, h⟩ := a_cond h
        refine bX11_summedUp_112 (a_inb_vp g47) ?_
        refine bX11_summedUp_400 ?_
        cases h
        exact kc rfl

noncomputable def stX11_summedUp (p : Nat × aL × aI × aJ) : Option (Nat × aL × aI × aJ) := match p with
  | (0, [some (.ref 108), some (.int x1), some (.int x2), none, none, none, none, none, none, none], d, e) => sX11_summedUp_0 d e x1 x2
  | (38, [some (.ref 108), some (.int x1), some (.int x2), some (.int x3), some (.int x4), some (.int x5), some (.int x6), some (.int x7), v8, v9], d, e) => sX11_summedUp_38 d e x1 x2 x3 x4 x5 x6 x7 v8 v9
  | _ => none
theorem uX11_summedUp {Γ : aG × Launch} {p p2 : Nat × aL × aI × aJ} {r : Option Value} {dF : aI} {eF : aJ} (h : stX11_summedUp p = some p2) (kc : Nat.beq p2.1 100000 = false → Rn Γ (2) mX11_summedUp p2.1 p2.2.1 [] p2.2.2.1 p2.2.2.2 r dF eF) (kr : p2.1 = 100000 → r = a_rt p2.2.1 ∧ dF = p2.2.2.1 ∧ eF = p2.2.2.2) : Rn Γ (2) mX11_summedUp p.1 p.2.1 [] p.2.2.1 p.2.2.2 r dF eF := by
  unfold stX11_summedUp at h
  split at h
  · exact tX11_summedUp_0 h kc kr
  · exact tX11_summedUp_38 h kc kr
  · cases h
noncomputable def FX11_summedUp (d : aI) (e : aJ) (x1 : Int32) (x2 : Int32) : Option (Int64 × aI × aJ) := (a_run (stX11_summedUp) (0, [some (.ref 108), some (.int x1), some (.int x2), none, none, none, none, none, none, none], d, e)).bind a_xJ
theorem evX11_summedUp {Γ : aG × Launch} {d : aI} {e : aJ} {x1 : Int32} {x2 : Int32} {q : Int64 × aI × aJ} (h : FX11_summedUp d e x1 x2 = some q) : Ev Γ (2) mX11_summedUp [.ref 108, .int x1, .int x2] d e (some (.long q.1)) q.2.1 q.2.2 := by
  refine Ev.of (by decide) rfl (Nat.le_of_ble_eq_true rfl) (fun z => by cases z) ?_
  show Rn Γ (2) mX11_summedUp 0 [some (.ref 108), some (.int x1), some (.int x2), none, none, none, none, none, none, none] [] d e _ _ _
  obtain ⟨q1, h1, h2⟩ := Option.bind_eq_some_iff.mp h
  obtain ⟨e1, e2, e3⟩ := a_xJ_rt h2
  exact Rn.cast (a_run_ok (uX11_summedUp) rfl h1) e1.symm e2.symm e3.symm
noncomputable def sX11_says_0 (d : aI) (e : aJ) (x1 : Int32) (x2 : Int32) (x3 : Int32) (x4 : Int32) : Option (Nat × aL × aI × aJ) := (some (3, [some (.ref 108), some (.int x1), some (.int x2), some (.int x3), some (.int x4), some (.int (nI 0))], d, e))
theorem tX11_says_0 {Γ : aG × Launch} {d dF : aI} {e eF : aJ} {x1 : Int32} {x2 : Int32} {x3 : Int32} {x4 : Int32} {r : Option Value} {p : Nat × aL × aI × aJ} (h : sX11_says_0 d e x1 x2 x3 x4 = some p) (kc : Nat.beq p.1 100000 = false → Rn Γ (3) mX11_says p.1 p.2.1 [] p.2.2.1 p.2.2.2 r dF eF) (kr : p.1 = 100000 → r = a_rt p.2.1 ∧ dF = p.2.2.1 ∧ eF = p.2.2.2) : Rn Γ (3) mX11_says 0 [some (.ref 108), some (.int x1), some (.int x2), some (.int x3), some (.int x4), none] [] d e r dF eF := by
  unfold sX11_says_0 at h
  refine bX11_says_0 ?_
  cases h
  exact kc rfl

noncomputable def sX11_says_3 (d : aI) (e : aJ) (x1 : Int32) (x2 : Int32) (x3 : Int32) (x4 : Int32) (x5 : Int32) : Option (Nat × aL × aI × aJ) := (if x1 < 0 then (some (100000, [some (.int x3)], d, e)) else (bif ((a_inb ((nI 681) * x1) 2724)) then (if (d 111 (((nI 681) * x1)).toNatClampNeg) ≤ x5 then (some (100000, [some (.int x3)], d, e)) else (bif ((a_inb ((((nI 681) * x1) + (nI 1)) + ((nI 3) * x5)) 2724)) then (if (d 111 (((((nI 681) * x1) + (nI 1)) + ((nI 3) * x5))).toNatClampNeg) = x2 then ((FX11_summedUp d e x1 x5).bind fun q6 => ((FX11_held q6.2.1 q6.2.2 q6.1 x4 (nI 99)).bind fun q7 => (some (100000, [some (.int q7.1)], q7.2.1, q7.2.2)))) else (some (3, [some (.ref 108), some (.int x1), some (.int x2), some (.int x3), some (.int x4), some (.int (x5 + (nI 1)))], d, e))) else none)) else none))
theorem tX11_says_3 {Γ : aG × Launch} {d dF : aI} {e eF : aJ} {x1 : Int32} {x2 : Int32} {x3 : Int32} {x4 : Int32} {x5 : Int32} {r : Option Value} {p : Nat × aL × aI × aJ} (h : sX11_says_3 d e x1 x2 x3 x4 x5 = some p) (kc : Nat.beq p.1 100000 = false → Rn Γ (3) mX11_says p.1 p.2.1 [] p.2.2.1 p.2.2.2 r dF eF) (kr : p.1 = 100000 → r = a_rt p.2.1 ∧ dF = p.2.2.1 ∧ eF = p.2.2.2) : Rn Γ (3) mX11_says 3 [some (.ref 108), some (.int x1), some (.int x2), some (.int x3), some (.int x4), some (.int x5)] [] d e r dF eF := by
  unfold sX11_says_3 at h
  refine a_ite h (fun c1 h => ?_) (fun c1 h => ?_)
  · refine bX11_says_3 (fun _ => ?_) (fun z => absurd c1 z)
    cases h
    obtain ⟨k1, k2, k3⟩ := kr rfl
    exact bX11_says_64 k1 k2 k3
  · refine bX11_says_3 (fun z => absurd z c1) (fun _ => ?_)
    obtain ⟨g2, h⟩ := a_cond h
    refine a_ite h (fun c3 h => ?_) (fun c3 h => ?_)
    · refine bX11_says_7 (a_inb_vp g2) (fun _ => ?_) (fun z => absurd c3 z)
      cases h
      obtain ⟨k1, k2, k3⟩ := kr rfl
      exact bX11_says_64 k1 k2 k3
    · refine bX11_says_7 (a_inb_vp g2) (fun z => absurd z c3) (fun _ => ?_)
      obtain ⟨g4, h⟩ := a_cond h
      refine a_ite h (fun c5 h => ?_) (fun c5 h => ?_)
      · refine bX11_says_22 (a_inb_vp g4) (fun z => absurd c5 z) (fun _ => ?_)
        obtain ⟨q6, hq6, h⟩ := Option.bind_eq_some_iff.mp h
        refine bX11_says_43 (evX11_summedUp hq6) (by omega) ?_
        obtain ⟨q7, hq7, h⟩ := Option.bind_eq_some_iff.mp h
        refine bX11_says_50 (evX11_held hq7) (by omega) ?_
        cases h
        obtain ⟨k1, k2, k3⟩ := kr rfl
        exact bX11_says_57 k1 k2 k3
      · refine bX11_says_22 (a_inb_vp g4) (fun _ => ?_) (fun z => absurd z c5)
        refine bX11_says_58 ?_
        cases h
        exact kc rfl

noncomputable def stX11_says (p : Nat × aL × aI × aJ) : Option (Nat × aL × aI × aJ) := match p with
  | (0, [some (.ref 108), some (.int x1), some (.int x2), some (.int x3), some (.int x4), none], d, e) => sX11_says_0 d e x1 x2 x3 x4
  | (3, [some (.ref 108), some (.int x1), some (.int x2), some (.int x3), some (.int x4), some (.int x5)], d, e) => sX11_says_3 d e x1 x2 x3 x4 x5
  | _ => none
theorem uX11_says {Γ : aG × Launch} {p p2 : Nat × aL × aI × aJ} {r : Option Value} {dF : aI} {eF : aJ} (h : stX11_says p = some p2) (kc : Nat.beq p2.1 100000 = false → Rn Γ (3) mX11_says p2.1 p2.2.1 [] p2.2.2.1 p2.2.2.2 r dF eF) (kr : p2.1 = 100000 → r = a_rt p2.2.1 ∧ dF = p2.2.2.1 ∧ eF = p2.2.2.2) : Rn Γ (3) mX11_says p.1 p.2.1 [] p.2.2.1 p.2.2.2 r dF eF := by
  unfold stX11_says at h
  split at h
  · exact tX11_says_0 h kc kr
  · exact tX11_says_3 h kc kr
  · cases h
noncomputable def FX11_says (d : aI) (e : aJ) (x1 : Int32) (x2 : Int32) (x3 : Int32) (x4 : Int32) : Option (Int32 × aI × aJ) := (a_run (stX11_says) (0, [some (.ref 108), some (.int x1), some (.int x2), some (.int x3), some (.int x4), none], d, e)).bind a_xI
theorem evX11_says {Γ : aG × Launch} {d : aI} {e : aJ} {x1 : Int32} {x2 : Int32} {x3 : Int32} {x4 : Int32} {q : Int32 × aI × aJ} (h : FX11_says d e x1 x2 x3 x4 = some q) : Ev Γ (3) mX11_says [.ref 108, .int x1, .int x2, .int x3, .int x4] d e (some (.int q.1)) q.2.1 q.2.2 := by
  refine Ev.of (by decide) rfl (Nat.le_of_ble_eq_true rfl) (fun z => by cases z) ?_
  show Rn Γ (3) mX11_says 0 [some (.ref 108), some (.int x1), some (.int x2), some (.int x3), some (.int x4), none] [] d e _ _ _
  obtain ⟨q1, h1, h2⟩ := Option.bind_eq_some_iff.mp h
  obtain ⟨e1, e2, e3⟩ := a_xI_rt h2
  exact Rn.cast (a_run_ok (uX11_says) rfl h1) e1.symm e2.symm e3.symm
noncomputable def FX11_name (d : aI) (e : aJ) (x1 : Int32) : Option (Unit × aI × aJ) := (bif ((a_inb (nI 9) 1961) && (a_inb (nI 0) 8) && (a_inb (nI 1) 8) && (a_inb ((nI 54) + x1) 1961) && (a_inb (nI 2) 8)) then ((FX11_get (uI (uI (uI d 114 0 (d 109 9)) 114 1 x1) 114 2 (d 109 (((nI 54) + x1)).toNatClampNeg)) e x1 (nI 2)).bind fun q2 => (bif ((a_inb (nI 3) 8)) then ((FX11_placeOf (uI q2.2.1 114 3 q2.1) q2.2.2 x1).bind fun q4 => (bif ((a_inb (nI 4) 8)) then ((FX11_isWithout (uI q4.2.1 114 4 q4.1) q4.2.2 x1).bind fun q6 => (if q6.1 = 0 then (bif ((a_inb (nI 7) 8)) then (some ((), (uI q6.2.1 114 7 (nI 1)), q6.2.2)) else none) else (bif ((a_inb (nI 7) 8)) then (some ((), (uI q6.2.1 114 7 (nI 0)), q6.2.2)) else none))) else none)) else none)) else none)
theorem evX11_name {Γ : aG × Launch} {d : aI} {e : aJ} {x1 : Int32} {q : Unit × aI × aJ} (h : FX11_name d e x1 = some q) : Ev Γ (3) mX11_name [.ref 108, .int x1] d e none q.2.1 q.2.2 := by
  refine Ev.of (by decide) rfl (Nat.le_of_ble_eq_true rfl) (fun z => by cases z) ?_
  show Rn Γ (3) mX11_name 0 [some (.ref 108), some (.int x1)] [] d e _ _ _
  unfold FX11_name at h
  obtain ⟨g1, h⟩ := a_cond h
  obtain ⟨g1x4, g1_4⟩ := a_and g1
  obtain ⟨g1x3, g1_3⟩ := a_and g1x4
  obtain ⟨g1x2, g1_2⟩ := a_and g1x3
  obtain ⟨g1x1, g1_1⟩ := a_and g1x2
  have g1_0 := g1x1
  obtain ⟨q2, hq2, h⟩ := Option.bind_eq_some_iff.mp h
  refine bX11_name_0 ⟨(a_inb_vp g1_0), (a_inb_vp g1_1), (a_inb_vp g1_2), (a_inb_vp g1_3), (a_inb_vp g1_4)⟩ (evX11_get hq2) (by omega) ?_
  obtain ⟨g3, h⟩ := a_cond h
  obtain ⟨q4, hq4, h⟩ := Option.bind_eq_some_iff.mp h
  refine bX11_name_46 (a_inb_vp g3) (evX11_placeOf hq4) (by omega) ?_
  obtain ⟨g5, h⟩ := a_cond h
  obtain ⟨q6, hq6, h⟩ := Option.bind_eq_some_iff.mp h
  refine bX11_name_57 (a_inb_vp g5) (evX11_isWithout hq6) (by omega) ?_
  refine a_ite h (fun c7 h => ?_) (fun c7 h => ?_)
  · refine bX11_name_69 (fun _ => ?_) (fun z => absurd c7 z)
    refine bX11_name_76 ?_
    obtain ⟨g8, h⟩ := a_cond h
    cases h
    exact bX11_name_77 (a_inb_vp g8)
  · refine bX11_name_69 (fun z => absurd z c7) (fun _ => ?_)
    refine bX11_name_72 ?_
    obtain ⟨g9, h⟩ := a_cond h
    cases h
    exact bX11_name_77 (a_inb_vp g9)

noncomputable def FX11_takesOf (d : aI) (e : aJ) (x1 : Int32) (x2 : Int32) (x3 : Int32) : Option (Int32 × aI × aJ) := ((FX11_name d e x2).bind fun q1 => ((FX11_getOf q1.2.1 q1.2.2 x3 (nI 0)).bind fun q2 => (bif ((a_inb (nI 5) 8)) then ((FX11_getOf (uI q2.2.1 114 5 q2.1) q2.2.2 x3 (nI 1)).bind fun q4 => (bif ((a_inb (nI 6) 8) && (a_inb ((nI 54) + x2) 1961)) then ((FX11_says (uI q4.2.1 114 6 q4.1) q4.2.2 x1 (nI 0) (q4.2.1 109 (((nI 54) + x2)).toNatClampNeg) (nI 0)).bind fun q6 => (some (q6.1, q6.2.1, q6.2.2))) else none)) else none)))
theorem evX11_takesOf {Γ : aG × Launch} {d : aI} {e : aJ} {x1 : Int32} {x2 : Int32} {x3 : Int32} {q : Int32 × aI × aJ} (h : FX11_takesOf d e x1 x2 x3 = some q) : Ev Γ (4) mX11_takesOf [.ref 108, .int x1, .int x2, .int x3] d e (some (.int q.1)) q.2.1 q.2.2 := by
  refine Ev.of (by decide) rfl (Nat.le_of_ble_eq_true rfl) (fun z => by cases z) ?_
  show Rn Γ (4) mX11_takesOf 0 [some (.ref 108), some (.int x1), some (.int x2), some (.int x3)] [] d e _ _ _
  unfold FX11_takesOf at h
  obtain ⟨q1, hq1, h⟩ := Option.bind_eq_some_iff.mp h
  refine bX11_takesOf_0 (evX11_name hq1) (by omega) ?_
  obtain ⟨q2, hq2, h⟩ := Option.bind_eq_some_iff.mp h
  refine bX11_takesOf_5 (evX11_getOf hq2) (by omega) ?_
  obtain ⟨g3, h⟩ := a_cond h
  obtain ⟨q4, hq4, h⟩ := Option.bind_eq_some_iff.mp h
  refine bX11_takesOf_16 (a_inb_vp g3) (evX11_getOf hq4) (by omega) ?_
  obtain ⟨g5, h⟩ := a_cond h
  obtain ⟨g5x1, g5_1⟩ := a_and g5
  have g5_0 := g5x1
  obtain ⟨q6, hq6, h⟩ := Option.bind_eq_some_iff.mp h
  refine bX11_takesOf_29 ⟨(a_inb_vp g5_0), (a_inb_vp g5_1)⟩ (evX11_says hq6) (by omega) ?_
  cases h
  exact bX11_takesOf_46

noncomputable def FX11_goesOf (d : aI) (e : aJ) (x1 : Int32) : Option (Int32 × aI × aJ) := ((FX11_name d e x1).bind fun q1 => (bif ((a_inb (nI 3) 1961)) then ((FX11_says q1.2.1 q1.2.2 (q1.2.1 109 3) (nI 1) (nI 0) (-(nI 99))).bind fun q3 => (some (q3.1, q3.2.1, q3.2.2))) else none))
theorem evX11_goesOf {Γ : aG × Launch} {d : aI} {e : aJ} {x1 : Int32} {q : Int32 × aI × aJ} (h : FX11_goesOf d e x1 = some q) : Ev Γ (4) mX11_goesOf [.ref 108, .int x1] d e (some (.int q.1)) q.2.1 q.2.2 := by
  refine Ev.of (by decide) rfl (Nat.le_of_ble_eq_true rfl) (fun z => by cases z) ?_
  show Rn Γ (4) mX11_goesOf 0 [some (.ref 108), some (.int x1)] [] d e _ _ _
  unfold FX11_goesOf at h
  obtain ⟨q1, hq1, h⟩ := Option.bind_eq_some_iff.mp h
  refine bX11_goesOf_0 (evX11_name hq1) (by omega) ?_
  obtain ⟨g2, h⟩ := a_cond h
  obtain ⟨q3, hq3, h⟩ := Option.bind_eq_some_iff.mp h
  refine bX11_goesOf_5 (a_inb_vp g2) (evX11_says hq3) (by omega) ?_
  cases h
  exact bX11_goesOf_19

noncomputable def sX11_write_0 (d : aI) (e : aJ) (x1 : Int32) (x2 : Int32) (x3 : Int32) : Option (Nat × aL × aI × aJ) := (if (d 108 23) = 0 then (some (100000, [], d, e)) else (bif ((a_inb (nI 11) 1961)) then (if (d 109 11) = (nI 25) then (some (23, [some (.ref 108), some (.int x1), some (.int x2), some (.int x3), some (.int (nI 1))], d, e)) else (bif ((a_inb (nI 11) 1961) && (a_inb (nI 9) 1961) && (a_inb ((nI 1936) + (d 109 11)) 1961) && (a_inb (nI 11) 1961) && (a_inb (nI 11) 1961)) then (some (100000, [], (uI (uI d 109 (((nI 1936) + (d 109 11))).toNatClampNeg (((((((d 109 9) * (nI 6)) + x1) * (nI 6)) + x2) * (nI 3)) + x3)) 109 11 (((uI d 109 (((nI 1936) + (d 109 11))).toNatClampNeg (((((((d 109 9) * (nI 6)) + x1) * (nI 6)) + x2) * (nI 3)) + x3)) 109 11) + (nI 1))), e)) else none)) else none))
theorem tX11_write_0 {Γ : aG × Launch} {d dF : aI} {e eF : aJ} {x1 : Int32} {x2 : Int32} {x3 : Int32} {r : Option Value} {p : Nat × aL × aI × aJ} (h : sX11_write_0 d e x1 x2 x3 = some p) (kc : Nat.beq p.1 100000 = false → Rn Γ (0) mX11_write p.1 p.2.1 [] p.2.2.1 p.2.2.2 r dF eF) (kr : p.1 = 100000 → r = a_rt p.2.1 ∧ dF = p.2.2.1 ∧ eF = p.2.2.2) : Rn Γ (0) mX11_write 0 [some (.ref 108), some (.int x1), some (.int x2), some (.int x3), none] [] d e r dF eF := by
  unfold sX11_write_0 at h
  refine a_ite h (fun c1 h => ?_) (fun c1 h => ?_)
  · refine bX11_write_0 (fun z => absurd c1 z) (fun _ => ?_)
    cases h
    obtain ⟨k1, k2, k3⟩ := kr rfl
    exact bX11_write_7 k1 k2 k3
  · refine bX11_write_0 (fun _ => ?_) (fun z => absurd z c1)
    obtain ⟨g2, h⟩ := a_cond h
    refine a_ite h (fun c3 h => ?_) (fun c3 h => ?_)
    · refine bX11_write_8 (a_inb_vp g2) (fun z => absurd c3 z) (fun _ => ?_)
      refine bX11_write_20 ?_
      cases h
      exact kc rfl
    · refine bX11_write_8 (a_inb_vp g2) (fun _ => ?_) (fun z => absurd z c3)
      obtain ⟨g4, h⟩ := a_cond h
      obtain ⟨g4x4, g4_4⟩ := a_and g4
      obtain ⟨g4x3, g4_3⟩ := a_and g4x4
      obtain ⟨g4x2, g4_2⟩ := a_and g4x3
      obtain ⟨g4x1, g4_1⟩ := a_and g4x2
      have g4_0 := g4x1
      cases h
      obtain ⟨k1, k2, k3⟩ := kr rfl
      exact bX11_write_71 ⟨(a_inb_vp g4_0), (a_inb_vp g4_1), (a_inb_vp g4_2), (a_inb_vp g4_3), (a_inb_vp g4_4)⟩ k1 k2 k3

noncomputable def sX11_write_23 (d : aI) (e : aJ) (x1 : Int32) (x2 : Int32) (x3 : Int32) (x4 : Int32) : Option (Nat × aL × aI × aJ) := (if (nI 25) ≤ x4 then (bif ((a_inb (nI 11) 1961) && (a_inb (nI 11) 1961)) then (bif ((a_inb (nI 11) 1961) && (a_inb (nI 9) 1961) && (a_inb ((nI 1936) + ((uI d 109 11 ((d 109 11) - (nI 1))) 109 11)) 1961) && (a_inb (nI 11) 1961) && (a_inb (nI 11) 1961)) then (some (100000, [], (uI (uI (uI d 109 11 ((d 109 11) - (nI 1))) 109 (((nI 1936) + ((uI d 109 11 ((d 109 11) - (nI 1))) 109 11))).toNatClampNeg ((((((((uI d 109 11 ((d 109 11) - (nI 1))) 109 9) * (nI 6)) + x1) * (nI 6)) + x2) * (nI 3)) + x3)) 109 11 (((uI (uI d 109 11 ((d 109 11) - (nI 1))) 109 (((nI 1936) + ((uI d 109 11 ((d 109 11) - (nI 1))) 109 11))).toNatClampNeg ((((((((uI d 109 11 ((d 109 11) - (nI 1))) 109 9) * (nI 6)) + x1) * (nI 6)) + x2) * (nI 3)) + x3)) 109 11) + (nI 1))), e)) else none) else none) else (bif ((a_inb ((nI 1936) + x4) 1961) && (a_inb (((nI 1936) + x4) - (nI 1)) 1961)) then (some (23, [some (.ref 108), some (.int x1), some (.int x2), some (.int x3), some (.int (x4 + (nI 1)))], (uI d 109 ((((nI 1936) + x4) - (nI 1))).toNatClampNeg (d 109 (((nI 1936) + x4)).toNatClampNeg)), e)) else none))
theorem tX11_write_23 {Γ : aG × Launch} {d dF : aI} {e eF : aJ} {x1 : Int32} {x2 : Int32} {x3 : Int32} {x4 : Int32} {r : Option Value} {p : Nat × aL × aI × aJ} (h : sX11_write_23 d e x1 x2 x3 x4 = some p) (kc : Nat.beq p.1 100000 = false → Rn Γ (0) mX11_write p.1 p.2.1 [] p.2.2.1 p.2.2.2 r dF eF) (kr : p.1 = 100000 → r = a_rt p.2.1 ∧ dF = p.2.2.1 ∧ eF = p.2.2.2) : Rn Γ (0) mX11_write 23 [some (.ref 108), some (.int x1), some (.int x2), some (.int x3), some (.int x4)] [] d e r dF eF := by
  unfold sX11_write_23 at h
  refine a_ite h (fun c1 h => ?_) (fun c1 h => ?_)
  · refine bX11_write_23 (fun _ => ?_) (fun z => absurd c1 z)
    obtain ⟨g2, h⟩ := a_cond h
    obtain ⟨g2x1, g2_1⟩ := a_and g2
    have g2_0 := g2x1
    refine bX11_write_60 ⟨(a_inb_vp g2_0), (a_inb_vp g2_1)⟩ ?_
    obtain ⟨g3, h⟩ := a_cond h
    obtain ⟨g3x4, g3_4⟩ := a_and g3
    obtain ⟨g3x3, g3_3⟩ := a_and g3x4
    obtain ⟨g3x2, g3_2⟩ := a_and g3x3
    obtain ⟨g3x1, g3_1⟩ := a_and g3x2
    have g3_0 := g3x1
    cases h
    obtain ⟨k1, k2, k3⟩ := kr rfl
    exact bX11_write_71 ⟨(a_inb_vp g3_0), (a_inb_vp g3_1), (a_inb_vp g3_2), (a_inb_vp g3_3), (a_inb_vp g3_4)⟩ k1 k2 k3
  · refine bX11_write_23 (fun z => absurd z c1) (fun _ => ?_)
    obtain ⟨g4, h⟩ := a_cond h
    obtain ⟨g4x1, g4_1⟩ := a_and g4
    have g4_0 := g4x1
    refine bX11_write_30 ⟨(a_inb_vp g4_0), (a_inb_vp g4_1)⟩ ?_
    cases h
    exact kc rfl

noncomputable def stX11_write (p : Nat × aL × aI × aJ) : Option (Nat × aL × aI × aJ) := match p with
  | (0, [some (.ref 108), some (.int x1), some (.int x2), some (.int x3), none], d, e) => sX11_write_0 d e x1 x2 x3
  | (23, [some (.ref 108), some (.int x1), some (.int x2), some (.int x3), some (.int x4)], d, e) => sX11_write_23 d e x1 x2 x3 x4
  | _ => none
theorem uX11_write {Γ : aG × Launch} {p p2 : Nat × aL × aI × aJ} {r : Option Value} {dF : aI} {eF : aJ} (h : stX11_write p = some p2) (kc : Nat.beq p2.1 100000 = false → Rn Γ (0) mX11_write p2.1 p2.2.1 [] p2.2.2.1 p2.2.2.2 r dF eF) (kr : p2.1 = 100000 → r = a_rt p2.2.1 ∧ dF = p2.2.2.1 ∧ eF = p2.2.2.2) : Rn Γ (0) mX11_write p.1 p.2.1 [] p.2.2.1 p.2.2.2 r dF eF := by
  unfold stX11_write at h
  split at h
  · exact tX11_write_0 h kc kr
  · exact tX11_write_23 h kc kr
  · cases h
noncomputable def FX11_write (d : aI) (e : aJ) (x1 : Int32) (x2 : Int32) (x3 : Int32) : Option (Unit × aI × aJ) := (a_run (stX11_write) (0, [some (.ref 108), some (.int x1), some (.int x2), some (.int x3), none], d, e)).bind a_xV
theorem evX11_write {Γ : aG × Launch} {d : aI} {e : aJ} {x1 : Int32} {x2 : Int32} {x3 : Int32} {q : Unit × aI × aJ} (h : FX11_write d e x1 x2 x3 = some q) : Ev Γ (0) mX11_write [.ref 108, .int x1, .int x2, .int x3] d e none q.2.1 q.2.2 := by
  refine Ev.of (by decide) rfl (Nat.le_of_ble_eq_true rfl) (fun z => by cases z) ?_
  show Rn Γ (0) mX11_write 0 [some (.ref 108), some (.int x1), some (.int x2), some (.int x3), none] [] d e _ _ _
  obtain ⟨q1, h1, h2⟩ := Option.bind_eq_some_iff.mp h
  obtain ⟨e1, e2, e3⟩ := a_xV_rt h2
  exact Rn.cast (a_run_ok (uX11_write) rfl h1) e1.symm e2.symm e3.symm
noncomputable def FX11_anew (d : aI) (e : aJ)  : Option (Unit × aI × aJ) := (bif ((a_inb (nI 10) 1961) && (decide (¬ (lN 30931) = 0)) && (a_inb (nI 10) 1961)) then (some ((), (uI d 109 10 (Int64.toInt32 (a_jrm (((Int32.toInt64 (d 109 10)) * (lN 647)) + (lN 509)) (lN 30931)))), e)) else none)
theorem evX11_anew {Γ : aG × Launch} {d : aI} {e : aJ}  {q : Unit × aI × aJ} (h : FX11_anew d e  = some q) : Ev Γ (0) mX11_anew [.ref 108] d e none q.2.1 q.2.2 := by
  refine Ev.of (by decide) rfl (Nat.le_of_ble_eq_true rfl) (fun z => by cases z) ?_
  show Rn Γ (0) mX11_anew 0 [some (.ref 108)] [] d e _ _ _
  unfold FX11_anew at h
  obtain ⟨g1, h⟩ := a_cond h
  obtain ⟨g1x2, g1_2⟩ := a_and g1
  obtain ⟨g1x1, g1_1⟩ := a_and g1x2
  have g1_0 := g1x1
  cases h
  exact bX11_anew_0 ⟨(a_inb_vp g1_0), (of_decide_eq_true g1_1), (a_inb_vp g1_2)⟩

noncomputable def FX11_canLet (d : aI) (e : aJ) (x1 : Int32) (x2 : Int32) : Option (Int32 × aI × aJ) := ((FX11_isCat d e x1).bind fun q1 => (if q1.1 = 0 then (some ((nI 0), q1.2.1, q1.2.2)) else ((FX11_isHouse q1.2.1 q1.2.2 x2).bind fun q3 => (if q3.1 = 0 then (some ((nI 0), q3.2.1, q3.2.2)) else ((FX11_isWithout q3.2.1 q3.2.2 x1).bind fun q5 => (if q5.1 = 0 then (some ((nI 0), q5.2.1, q5.2.2)) else ((FX11_catIn q5.2.1 q5.2.2 x2).bind fun q7 => (if q7.1 = (-(nI 1)) then ((FX11_get q7.2.1 q7.2.2 x1 (nI 0)).bind fun q9 => (bif ((a_inb ((nI 42) + x2) 1961)) then (if q9.1 = (q9.2.1 109 (((nI 42) + x2)).toNatClampNeg) then (some ((nI 1), q9.2.1, q9.2.2)) else (some ((nI 0), q9.2.1, q9.2.2))) else none)) else (some ((nI 0), q7.2.1, q7.2.2))))))))))
theorem evX11_canLet {Γ : aG × Launch} {d : aI} {e : aJ} {x1 : Int32} {x2 : Int32} {q : Int32 × aI × aJ} (h : FX11_canLet d e x1 x2 = some q) : Ev Γ (2) mX11_canLet [.ref 108, .int x1, .int x2] d e (some (.int q.1)) q.2.1 q.2.2 := by
  refine Ev.of (by decide) rfl (Nat.le_of_ble_eq_true rfl) (fun z => by cases z) ?_
  show Rn Γ (2) mX11_canLet 0 [some (.ref 108), some (.int x1), some (.int x2)] [] d e _ _ _
  unfold FX11_canLet at h
  obtain ⟨q1, hq1, h⟩ := Option.bind_eq_some_iff.mp h
  refine bX11_canLet_0 (evX11_isCat hq1) (by omega) ?_
  refine a_ite h (fun c2 h => ?_) (fun c2 h => ?_)
  · refine bX11_canLet_5 (fun _ => ?_) (fun z => absurd c2 z)
    refine bX11_canLet_55 ?_
    cases h
    exact bX11_canLet_56 (a_nz (Or.inl rfl))
  · refine bX11_canLet_5 (fun z => absurd z c2) (fun _ => ?_)
    obtain ⟨q3, hq3, h⟩ := Option.bind_eq_some_iff.mp h
    refine bX11_canLet_8 (evX11_isHouse hq3) (by omega) ?_
    refine a_ite h (fun c4 h => ?_) (fun c4 h => ?_)
    · refine bX11_canLet_13 (fun _ => ?_) (fun z => absurd c4 z)
      refine bX11_canLet_55 ?_
      cases h
      exact bX11_canLet_56 (a_nz (Or.inl rfl))
    · refine bX11_canLet_13 (fun z => absurd z c4) (fun _ => ?_)
      obtain ⟨q5, hq5, h⟩ := Option.bind_eq_some_iff.mp h
      refine bX11_canLet_16 (evX11_isWithout hq5) (by omega) ?_
      refine a_ite h (fun c6 h => ?_) (fun c6 h => ?_)
      · refine bX11_canLet_21 (fun _ => ?_) (fun z => absurd c6 z)
        refine bX11_canLet_55 ?_
        cases h
        exact bX11_canLet_56 (a_nz (Or.inl rfl))
      · refine bX11_canLet_21 (fun z => absurd z c6) (fun _ => ?_)
        obtain ⟨q7, hq7, h⟩ := Option.bind_eq_some_iff.mp h
        refine bX11_canLet_24 (evX11_catIn hq7) (by omega) ?_
        refine a_ite h (fun c8 h => ?_) (fun c8 h => ?_)
        · refine bX11_canLet_29 (fun z => absurd c8 z) (fun _ => ?_)
          obtain ⟨q9, hq9, h⟩ := Option.bind_eq_some_iff.mp h
          refine bX11_canLet_33 (evX11_get hq9) (by omega) ?_
          obtain ⟨g10, h⟩ := a_cond h
          refine a_ite h (fun c11 h => ?_) (fun c11 h => ?_)
          · refine bX11_canLet_39 (a_inb_vp g10) (fun z => absurd c11 z) (fun _ => ?_)
            refine bX11_canLet_51 ?_
            cases h
            exact bX11_canLet_56 (a_nz (Or.inr rfl))
          · refine bX11_canLet_39 (a_inb_vp g10) (fun _ => ?_) (fun z => absurd z c11)
            refine bX11_canLet_55 ?_
            cases h
            exact bX11_canLet_56 (a_nz (Or.inl rfl))
        · refine bX11_canLet_29 (fun _ => ?_) (fun z => absurd z c8)
          refine bX11_canLet_55 ?_
          cases h
          exact bX11_canLet_56 (a_nz (Or.inl rfl))

noncomputable def FX11_letNow (d : aI) (e : aJ) (x1 : Int32) (x2 : Int32) : Option (Unit × aI × aJ) := ((FX11_lay d e x1 (nI 1) x2).bind fun q1 => ((FX11_getOf q1.2.1 q1.2.2 x2 (nI 1)).bind fun q2 => ((FX11_held q2.2.1 q2.2.2 (Int32.toInt64 (q2.1 + (nI 1))) (nI 0) (nI 999)).bind fun q3 => ((FX11_layOf q3.2.1 q3.2.2 x2 (nI 1) q3.1).bind fun q4 => ((FX11_write q4.2.1 q4.2.2 x1 x2 (nI 0)).bind fun q5 => (some ((), q5.2.1, q5.2.2)))))))
theorem evX11_letNow {Γ : aG × Launch} {d : aI} {e : aJ} {x1 : Int32} {x2 : Int32} {q : Unit × aI × aJ} (h : FX11_letNow d e x1 x2 = some q) : Ev Γ (1) mX11_letNow [.ref 108, .int x1, .int x2] d e none q.2.1 q.2.2 := by
  refine Ev.of (by decide) rfl (Nat.le_of_ble_eq_true rfl) (fun z => by cases z) ?_
  show Rn Γ (1) mX11_letNow 0 [some (.ref 108), some (.int x1), some (.int x2)] [] d e _ _ _
  unfold FX11_letNow at h
  obtain ⟨q1, hq1, h⟩ := Option.bind_eq_some_iff.mp h
  refine bX11_letNow_0 (evX11_lay hq1) (by omega) ?_
  obtain ⟨q2, hq2, h⟩ := Option.bind_eq_some_iff.mp h
  refine bX11_letNow_7 (evX11_getOf hq2) (by omega) ?_
  obtain ⟨q3, hq3, h⟩ := Option.bind_eq_some_iff.mp h
  refine bX11_letNow_16 (evX11_held hq3) (by omega) ?_
  obtain ⟨q4, hq4, h⟩ := Option.bind_eq_some_iff.mp h
  refine bX11_letNow_26 (evX11_layOf hq4) (by omega) ?_
  obtain ⟨q5, hq5, h⟩ := Option.bind_eq_some_iff.mp h
  refine bX11_letNow_29 (evX11_write hq5) (by omega) ?_
  cases h
  exact bX11_letNow_36

noncomputable def FX11_outNow (d : aI) (e : aJ) (x1 : Int32) (x2 : Int32) : Option (Unit × aI × aJ) := ((FX11_get d e x1 (nI 1)).bind fun q1 => (bif ((a_inb ((nI 42) + q1.1) 1961)) then ((FX11_lay q1.2.1 q1.2.2 x1 (nI 0) (q1.2.1 109 (((nI 42) + q1.1)).toNatClampNeg)).bind fun q3 => ((FX11_lay q3.2.1 q3.2.2 x1 (nI 1) (-(nI 1))).bind fun q4 => ((FX11_write q4.2.1 q4.2.2 x1 q1.1 x2).bind fun q5 => (some ((), q5.2.1, q5.2.2))))) else none))
theorem evX11_outNow {Γ : aG × Launch} {d : aI} {e : aJ} {x1 : Int32} {x2 : Int32} {q : Unit × aI × aJ} (h : FX11_outNow d e x1 x2 = some q) : Ev Γ (1) mX11_outNow [.ref 108, .int x1, .int x2] d e none q.2.1 q.2.2 := by
  refine Ev.of (by decide) rfl (Nat.le_of_ble_eq_true rfl) (fun z => by cases z) ?_
  show Rn Γ (1) mX11_outNow 0 [some (.ref 108), some (.int x1), some (.int x2), none] [] d e _ _ _
  unfold FX11_outNow at h
  obtain ⟨q1, hq1, h⟩ := Option.bind_eq_some_iff.mp h
  refine bX11_outNow_0 (evX11_get hq1) (by omega) ?_
  obtain ⟨g2, h⟩ := a_cond h
  obtain ⟨q3, hq3, h⟩ := Option.bind_eq_some_iff.mp h
  refine bX11_outNow_6 (a_inb_vp g2) (evX11_lay hq3) (by omega) ?_
  obtain ⟨q4, hq4, h⟩ := Option.bind_eq_some_iff.mp h
  refine bX11_outNow_22 (evX11_lay hq4) (by omega) ?_
  obtain ⟨q5, hq5, h⟩ := Option.bind_eq_some_iff.mp h
  refine bX11_outNow_29 (evX11_write hq5) (by omega) ?_
  cases h
  exact bX11_outNow_36

noncomputable def FX11_canGo (d : aI) (e : aJ) (x1 : Int32) : Option (Int32 × aI × aJ) := ((FX11_isCat d e x1).bind fun q1 => (if q1.1 = 0 then (some ((nI 0), q1.2.1, q1.2.2)) else ((FX11_isWithout q1.2.1 q1.2.2 x1).bind fun q3 => (if q3.1 = 0 then (some ((nI 0), q3.2.1, q3.2.2)) else (some ((nI 1), q3.2.1, q3.2.2))))))
theorem evX11_canGo {Γ : aG × Launch} {d : aI} {e : aJ} {x1 : Int32} {q : Int32 × aI × aJ} (h : FX11_canGo d e x1 = some q) : Ev Γ (2) mX11_canGo [.ref 108, .int x1] d e (some (.int q.1)) q.2.1 q.2.2 := by
  refine Ev.of (by decide) rfl (Nat.le_of_ble_eq_true rfl) (fun z => by cases z) ?_
  show Rn Γ (2) mX11_canGo 0 [some (.ref 108), some (.int x1)] [] d e _ _ _
  unfold FX11_canGo at h
  obtain ⟨q1, hq1, h⟩ := Option.bind_eq_some_iff.mp h
  refine bX11_canGo_0 (evX11_isCat hq1) (by omega) ?_
  refine a_ite h (fun c2 h => ?_) (fun c2 h => ?_)
  · refine bX11_canGo_5 (fun _ => ?_) (fun z => absurd c2 z)
    refine bX11_canGo_20 ?_
    cases h
    exact bX11_canGo_21 (a_nz (Or.inl rfl))
  · refine bX11_canGo_5 (fun z => absurd z c2) (fun _ => ?_)
    obtain ⟨q3, hq3, h⟩ := Option.bind_eq_some_iff.mp h
    refine bX11_canGo_8 (evX11_isWithout hq3) (by omega) ?_
    refine a_ite h (fun c4 h => ?_) (fun c4 h => ?_)
    · refine bX11_canGo_13 (fun _ => ?_) (fun z => absurd c4 z)
      refine bX11_canGo_20 ?_
      cases h
      exact bX11_canGo_21 (a_nz (Or.inl rfl))
    · refine bX11_canGo_13 (fun z => absurd z c4) (fun _ => ?_)
      refine bX11_canGo_16 ?_
      cases h
      exact bX11_canGo_21 (a_nz (Or.inr rfl))

noncomputable def FX11_goNow (d : aI) (e : aJ) (x1 : Int32) (x2 : Int32) : Option (Unit × aI × aJ) := ((FX11_get d e x1 (nI 0)).bind fun q1 => (if x2 = 0 then (bif ((decide (¬ (nI 10) = 0))) then ((FX11_lay q1.2.1 q1.2.2 x1 (nI 0) (a_irm (q1.1 + (nI 9)) (nI 10))).bind fun q4 => (some ((), q4.2.1, q4.2.2))) else none) else (bif ((decide (¬ (nI 10) = 0))) then ((FX11_lay q1.2.1 q1.2.2 x1 (nI 0) (a_irm (q1.1 + (nI 1)) (nI 10))).bind fun q6 => (some ((), q6.2.1, q6.2.2))) else none)))
theorem evX11_goNow {Γ : aG × Launch} {d : aI} {e : aJ} {x1 : Int32} {x2 : Int32} {q : Unit × aI × aJ} (h : FX11_goNow d e x1 x2 = some q) : Ev Γ (1) mX11_goNow [.ref 108, .int x1, .int x2] d e none q.2.1 q.2.2 := by
  refine Ev.of (by decide) rfl (Nat.le_of_ble_eq_true rfl) (fun z => by cases z) ?_
  show Rn Γ (1) mX11_goNow 0 [some (.ref 108), some (.int x1), some (.int x2)] [] d e _ _ _
  unfold FX11_goNow at h
  obtain ⟨q1, hq1, h⟩ := Option.bind_eq_some_iff.mp h
  refine bX11_goNow_0 (evX11_get hq1) (by omega) ?_
  refine a_ite h (fun c2 h => ?_) (fun c2 h => ?_)
  · refine bX11_goNow_9 (fun _ => ?_) (fun z => absurd c2 z)
    refine bX11_goNow_17 ?_
    obtain ⟨g3, h⟩ := a_cond h
    obtain ⟨q4, hq4, h⟩ := Option.bind_eq_some_iff.mp h
    refine bX11_goNow_19 (of_decide_eq_true g3) (evX11_lay hq4) (by omega) ?_
    cases h
    exact bX11_goNow_26
  · refine bX11_goNow_9 (fun z => absurd z c2) (fun _ => ?_)
    refine bX11_goNow_13 ?_
    obtain ⟨g5, h⟩ := a_cond h
    obtain ⟨q6, hq6, h⟩ := Option.bind_eq_some_iff.mp h
    refine bX11_goNow_19 (of_decide_eq_true g5) (evX11_lay hq6) (by omega) ?_
    cases h
    exact bX11_goNow_26

noncomputable def FX11_takeNow (d : aI) (e : aJ) (x1 : Int32) : Option (Unit × aI × aJ) := ((FX11_get d e x1 (nI 1)).bind fun q1 => (bif ((a_inb (nI 3) 1961)) then ((FX11_takesOf q1.2.1 q1.2.2 (q1.2.1 109 3) x1 q1.1).bind fun q3 => ((FX11_getOf q3.2.1 q3.2.2 q1.1 (nI 0)).bind fun q4 => (if q4.1 ≤ q3.1 then ((FX11_getOf q4.2.1 q4.2.2 q1.1 (nI 0)).bind fun q6 => ((FX11_getOf q6.2.1 q6.2.2 q1.1 (nI 0)).bind fun q7 => ((FX11_layOf q7.2.1 q7.2.2 q1.1 (nI 0) (q7.1 - q6.1)).bind fun q8 => ((FX11_get q8.2.1 q8.2.2 x1 (nI 2)).bind fun q9 => ((FX11_held q9.2.1 q9.2.2 (Int32.toInt64 (q9.1 + q6.1)) (nI 0) (nI 9999)).bind fun q10 => ((FX11_lay q10.2.1 q10.2.2 x1 (nI 2) q10.1).bind fun q11 => ((FX11_goesOf (uI q11.2.1 108 24 ((q11.2.1 108 24) + q6.1)) q11.2.2 x1).bind fun q12 => (if q12.1 ≤ 0 then (some ((), q12.2.1, q12.2.2)) else ((FX11_outNow q12.2.1 q12.2.2 x1 (nI 2)).bind fun q14 => (some ((), q14.2.1, q14.2.2))))))))))) else ((FX11_getOf q4.2.1 q4.2.2 q1.1 (nI 0)).bind fun q15 => ((FX11_layOf q15.2.1 q15.2.2 q1.1 (nI 0) (q15.1 - q3.1)).bind fun q16 => ((FX11_get q16.2.1 q16.2.2 x1 (nI 2)).bind fun q17 => ((FX11_held q17.2.1 q17.2.2 (Int32.toInt64 (q17.1 + q3.1)) (nI 0) (nI 9999)).bind fun q18 => ((FX11_lay q18.2.1 q18.2.2 x1 (nI 2) q18.1).bind fun q19 => ((FX11_goesOf (uI q19.2.1 108 24 ((q19.2.1 108 24) + q3.1)) q19.2.2 x1).bind fun q20 => (if q20.1 ≤ 0 then (some ((), q20.2.1, q20.2.2)) else ((FX11_outNow q20.2.1 q20.2.2 x1 (nI 2)).bind fun q22 => (some ((), q22.2.1, q22.2.2))))))))))))) else none))
theorem evX11_takeNow {Γ : aG × Launch} {d : aI} {e : aJ} {x1 : Int32} {q : Unit × aI × aJ} (h : FX11_takeNow d e x1 = some q) : Ev Γ (5) mX11_takeNow [.ref 108, .int x1] d e none q.2.1 q.2.2 := by
  refine Ev.of (by decide) rfl (Nat.le_of_ble_eq_true rfl) (fun z => by cases z) ?_
  show Rn Γ (5) mX11_takeNow 0 [some (.ref 108), some (.int x1), none, none, none] [] d e _ _ _
  unfold FX11_takeNow at h
  obtain ⟨q1, hq1, h⟩ := Option.bind_eq_some_iff.mp h
  refine bX11_takeNow_0 (evX11_get hq1) (by omega) ?_
  obtain ⟨g2, h⟩ := a_cond h
  obtain ⟨q3, hq3, h⟩ := Option.bind_eq_some_iff.mp h
  refine bX11_takeNow_6 (a_inb_vp g2) (evX11_takesOf hq3) (by omega) ?_
  obtain ⟨q4, hq4, h⟩ := Option.bind_eq_some_iff.mp h
  refine bX11_takeNow_19 (evX11_getOf hq4) (by omega) ?_
  refine a_ite h (fun c5 h => ?_) (fun c5 h => ?_)
  · refine bX11_takeNow_27 (fun _ => ?_) (fun z => absurd c5 z)
    obtain ⟨q6, hq6, h⟩ := Option.bind_eq_some_iff.mp h
    refine bX11_takeNow_34 (evX11_getOf hq6) (by omega) ?_
    obtain ⟨q7, hq7, h⟩ := Option.bind_eq_some_iff.mp h
    refine bX11_takeNow_40 (evX11_getOf hq7) (by omega) ?_
    obtain ⟨q8, hq8, h⟩ := Option.bind_eq_some_iff.mp h
    refine bX11_takeNow_51 (evX11_layOf hq8) (by omega) ?_
    obtain ⟨q9, hq9, h⟩ := Option.bind_eq_some_iff.mp h
    refine bX11_takeNow_57 (evX11_get hq9) (by omega) ?_
    obtain ⟨q10, hq10, h⟩ := Option.bind_eq_some_iff.mp h
    refine bX11_takeNow_66 (evX11_held hq10) (by omega) ?_
    obtain ⟨q11, hq11, h⟩ := Option.bind_eq_some_iff.mp h
    refine bX11_takeNow_77 (evX11_lay hq11) (by omega) ?_
    obtain ⟨q12, hq12, h⟩ := Option.bind_eq_some_iff.mp h
    refine bX11_takeNow_80 (evX11_goesOf hq12) (by omega) ?_
    refine a_ite h (fun c13 h => ?_) (fun c13 h => ?_)
    · refine bX11_takeNow_96 (fun _ => ?_) (fun z => absurd c13 z)
      cases h
      exact bX11_takeNow_105
    · refine bX11_takeNow_96 (fun z => absurd z c13) (fun _ => ?_)
      obtain ⟨q14, hq14, h⟩ := Option.bind_eq_some_iff.mp h
      refine bX11_takeNow_99 (evX11_outNow hq14) (by omega) ?_
      cases h
      exact bX11_takeNow_105
  · refine bX11_takeNow_27 (fun z => absurd z c5) (fun _ => ?_)
    refine bX11_takeNow_30 ?_
    obtain ⟨q15, hq15, h⟩ := Option.bind_eq_some_iff.mp h
    refine bX11_takeNow_40 (evX11_getOf hq15) (by omega) ?_
    obtain ⟨q16, hq16, h⟩ := Option.bind_eq_some_iff.mp h
    refine bX11_takeNow_51 (evX11_layOf hq16) (by omega) ?_
    obtain ⟨q17, hq17, h⟩ := Option.bind_eq_some_iff.mp h
    refine bX11_takeNow_57 (evX11_get hq17) (by omega) ?_
    obtain ⟨q18, hq18, h⟩ := Option.bind_eq_some_iff.mp h
    refine bX11_takeNow_66 (evX11_held hq18) (by omega) ?_
    obtain ⟨q19, hq19, h⟩ := Option.bind_eq_some_iff.mp h
    refine bX11_takeNow_77 (evX11_lay hq19) (by omega) ?_
    obtain ⟨q20, hq20, h⟩ := Option.bind_eq_some_iff.mp h
    refine bX11_takeNow_80 (evX11_goesOf hq20) (by omega) ?_
    refine a_ite h (fun c21 h => ?_) (fun c21 h => ?_)
    · refine bX11_takeNow_96 (fun _ => ?_) (fun z => absurd c21 z)
      cases h
      exact bX11_takeNow_105
    · refine bX11_takeNow_96 (fun z => absurd z c21) (fun _ => ?_)
      obtain ⟨q22, hq22, h⟩ := Option.bind_eq_some_iff.mp h
      refine bX11_takeNow_99 (evX11_outNow hq22) (by omega) ?_
      cases h
      exact bX11_takeNow_105

noncomputable def sX11_keep_0 (d : aI) (e : aJ)  : Option (Nat × aL × aI × aJ) := (bif ((a_inb (nI 4) 1961)) then (if (d 109 4) = (nI 30) then (some (13, [some (.ref 108), some (.int (nI 0)), none], d, e)) else (bif ((a_inb (nI 4) 1961) && (a_inb (nI 0) 1961) && (a_inb ((nI 136) + ((nI 60) * (d 109 4))) 1961) && (a_inb (nI 1) 1961) && (a_inb (((nI 136) + ((nI 60) * (d 109 4))) + (nI 1)) 1961)) then (some (98, [some (.ref 108), some (.int ((nI 136) + ((nI 60) * (d 109 4)))), some (.int (nI 0))], (uI (uI d 109 (((nI 136) + ((nI 60) * (d 109 4)))).toNatClampNeg (d 109 0)) 109 ((((nI 136) + ((nI 60) * (d 109 4))) + (nI 1))).toNatClampNeg ((uI d 109 (((nI 136) + ((nI 60) * (d 109 4)))).toNatClampNeg (d 109 0)) 109 1)), e)) else none)) else none)
theorem tX11_keep_0 {Γ : aG × Launch} {d dF : aI} {e eF : aJ}  {r : Option Value} {p : Nat × aL × aI × aJ} (h : sX11_keep_0 d e  = some p) (kc : Nat.beq p.1 100000 = false → Rn Γ (0) mX11_keep p.1 p.2.1 [] p.2.2.1 p.2.2.2 r dF eF) (kr : p.1 = 100000 → r = a_rt p.2.1 ∧ dF = p.2.2.1 ∧ eF = p.2.2.2) : Rn Γ (0) mX11_keep 0 [some (.ref 108), none, none] [] d e r dF eF := by
  unfold sX11_keep_0 at h
  obtain ⟨g1, h⟩ := a_cond h
  refine a_ite h (fun c2 h => ?_) (fun c2 h => ?_)
  · refine bX11_keep_0 (a_inb_vp g1) (fun z => absurd c2 z) (fun _ => ?_)
    refine bX11_keep_11 ?_
    cases h
    exact kc rfl
  · refine bX11_keep_0 (a_inb_vp g1) (fun _ => ?_) (fun z => absurd z c2)
    obtain ⟨g3, h⟩ := a_cond h
    obtain ⟨g3x4, g3_4⟩ := a_and g3
    obtain ⟨g3x3, g3_3⟩ := a_and g3x4
    obtain ⟨g3x2, g3_2⟩ := a_and g3x3
    obtain ⟨g3x1, g3_1⟩ := a_and g3x2
    have g3_0 := g3x1
    refine bX11_keep_56 ⟨(a_inb_vp g3_0), (a_inb_vp g3_1), (a_inb_vp g3_2), (a_inb_vp g3_3), (a_inb_vp g3_4)⟩ ?_
    cases h
    exact kc rfl

noncomputable def sX11_keep_13 (d : aI) (e : aJ) (x1 : Int32) (v2 : Option Value) : Option (Nat × aL × aI × aJ) := (if (nI 1740) ≤ x1 then (bif ((a_inb (nI 4) 1961) && (a_inb (nI 4) 1961)) then (bif ((a_inb (nI 4) 1961) && (a_inb (nI 0) 1961) && (a_inb ((nI 136) + ((nI 60) * ((uI d 109 4 ((d 109 4) - (nI 1))) 109 4))) 1961) && (a_inb (nI 1) 1961) && (a_inb (((nI 136) + ((nI 60) * ((uI d 109 4 ((d 109 4) - (nI 1))) 109 4))) + (nI 1)) 1961)) then (some (98, [some (.ref 108), some (.int ((nI 136) + ((nI 60) * ((uI d 109 4 ((d 109 4) - (nI 1))) 109 4)))), some (.int (nI 0))], (uI (uI (uI d 109 4 ((d 109 4) - (nI 1))) 109 (((nI 136) + ((nI 60) * ((uI d 109 4 ((d 109 4) - (nI 1))) 109 4)))).toNatClampNeg ((uI d 109 4 ((d 109 4) - (nI 1))) 109 0)) 109 ((((nI 136) + ((nI 60) * ((uI d 109 4 ((d 109 4) - (nI 1))) 109 4))) + (nI 1))).toNatClampNeg ((uI (uI d 109 4 ((d 109 4) - (nI 1))) 109 (((nI 136) + ((nI 60) * ((uI d 109 4 ((d 109 4) - (nI 1))) 109 4)))).toNatClampNeg ((uI d 109 4 ((d 109 4) - (nI 1))) 109 0)) 109 1)), e)) else none) else none) else (bif ((a_inb ((nI 196) + x1) 1961) && (a_inb ((nI 136) + x1) 1961)) then (some (13, [some (.ref 108), some (.int (x1 + (nI 1))), v2], (uI d 109 (((nI 136) + x1)).toNatClampNeg (d 109 (((nI 196) + x1)).toNatClampNeg)), e)) else none))
theorem tX11_keep_13 {Γ : aG × Launch} {d dF : aI} {e eF : aJ} {x1 : Int32} {v2 : Option Value} {r : Option Value} {p : Nat × aL × aI × aJ} (h : sX11_keep_13 d e x1 v2 = some p) (kc : Nat.beq p.1 100000 = false → Rn Γ (0) mX11_keep p.1 p.2.1 [] p.2.2.1 p.2.2.2 r dF eF) (kr : p.1 = 100000 → r = a_rt p.2.1 ∧ dF = p.2.2.1 ∧ eF = p.2.2.2) : Rn Γ (0) mX11_keep 13 [some (.ref 108), some (.int x1), v2] [] d e r dF eF := by
  unfold sX11_keep_13 at h
  refine a_ite h (fun c1 h => ?_) (fun c1 h => ?_)
  · refine bX11_keep_13 (fun _ => ?_) (fun z => absurd c1 z)
    obtain ⟨g2, h⟩ := a_cond h
    obtain ⟨g2x1, g2_1⟩ := a_and g2
    have g2_0 := g2x1
    refine bX11_keep_46 ⟨(a_inb_vp g2_0), (a_inb_vp g2_1)⟩ ?_
    obtain ⟨g3, h⟩ := a_cond h
    obtain ⟨g3x4, g3_4⟩ := a_and g3
    obtain ⟨g3x3, g3_3⟩ := a_and g3x4
    obtain ⟨g3x2, g3_2⟩ := a_and g3x3
    obtain ⟨g3x1, g3_1⟩ := a_and g3x2
    have g3_0 := g3x1
    refine bX11_keep_56 ⟨(a_inb_vp g3_0), (a_inb_vp g3_1), (a_inb_vp g3_2), (a_inb_vp g3_3), (a_inb_vp g3_4)⟩ ?_
    cases h
    exact kc rfl
  · refine bX11_keep_13 (fun z => absurd z c1) (fun _ => ?_)
    obtain ⟨g4, h⟩ := a_cond h
    obtain ⟨g4x1, g4_1⟩ := a_and g4
    have g4_0 := g4x1
    refine bX11_keep_20 ⟨(a_inb_vp g4_0), (a_inb_vp g4_1)⟩ ?_
    cases h
    exact kc rfl

noncomputable def sX11_keep_98 (d : aI) (e : aJ) (x1 : Int32) (x2 : Int32) : Option (Nat × aL × aI × aJ) := (if (nI 33) ≤ x2 then (some (131, [some (.ref 108), some (.int x1), some (.int (nI 0))], d, e)) else (bif ((a_inb ((nI 9) + x2) 1961) && (a_inb ((x1 + (nI 2)) + x2) 1961)) then (some (98, [some (.ref 108), some (.int x1), some (.int (x2 + (nI 1)))], (uI d 109 (((x1 + (nI 2)) + x2)).toNatClampNeg (d 109 (((nI 9) + x2)).toNatClampNeg)), e)) else none))
theorem tX11_keep_98 {Γ : aG × Launch} {d dF : aI} {e eF : aJ} {x1 : Int32} {x2 : Int32} {r : Option Value} {p : Nat × aL × aI × aJ} (h : sX11_keep_98 d e x1 x2 = some p) (kc : Nat.beq p.1 100000 = false → Rn Γ (0) mX11_keep p.1 p.2.1 [] p.2.2.1 p.2.2.2 r dF eF) (kr : p.1 = 100000 → r = a_rt p.2.1 ∧ dF = p.2.2.1 ∧ eF = p.2.2.2) : Rn Γ (0) mX11_keep 98 [some (.ref 108), some (.int x1), some (.int x2)] [] d e r dF eF := by
  unfold sX11_keep_98 at h
  refine a_ite h (fun c1 h => ?_) (fun c1 h => ?_)
  · refine bX11_keep_98 (fun _ => ?_) (fun z => absurd c1 z)
    refine bX11_keep_129 ?_
    cases h
    exact kc rfl
  · refine bX11_keep_98 (fun z => absurd z c1) (fun _ => ?_)
    obtain ⟨g2, h⟩ := a_cond h
    obtain ⟨g2x1, g2_1⟩ := a_and g2
    have g2_0 := g2x1
    refine bX11_keep_104 ⟨(a_inb_vp g2_0), (a_inb_vp g2_1)⟩ ?_
    cases h
    exact kc rfl

noncomputable def sX11_keep_131 (d : aI) (e : aJ) (x1 : Int32) (x2 : Int32) : Option (Nat × aL × aI × aJ) := (if (nI 25) ≤ x2 then (bif ((a_inb (nI 4) 1961) && (a_inb (nI 4) 1961)) then (some (100000, [], (uI d 109 4 ((d 109 4) + (nI 1))), e)) else none) else (bif ((a_inb ((nI 1936) + x2) 1961) && (a_inb (((x1 + (nI 2)) + (nI 33)) + x2) 1961)) then (some (131, [some (.ref 108), some (.int x1), some (.int (x2 + (nI 1)))], (uI d 109 ((((x1 + (nI 2)) + (nI 33)) + x2)).toNatClampNeg (d 109 (((nI 1936) + x2)).toNatClampNeg)), e)) else none))
theorem tX11_keep_131 {Γ : aG × Launch} {d dF : aI} {e eF : aJ} {x1 : Int32} {x2 : Int32} {r : Option Value} {p : Nat × aL × aI × aJ} (h : sX11_keep_131 d e x1 x2 = some p) (kc : Nat.beq p.1 100000 = false → Rn Γ (0) mX11_keep p.1 p.2.1 [] p.2.2.1 p.2.2.2 r dF eF) (kr : p.1 = 100000 → r = a_rt p.2.1 ∧ dF = p.2.2.1 ∧ eF = p.2.2.2) : Rn Γ (0) mX11_keep 131 [some (.ref 108), some (.int x1), some (.int x2)] [] d e r dF eF := by
  unfold sX11_keep_131 at h
  refine a_ite h (fun c1 h => ?_) (fun c1 h => ?_)
  · refine bX11_keep_131 (fun _ => ?_) (fun z => absurd c1 z)
    obtain ⟨g2, h⟩ := a_cond h
    obtain ⟨g2x1, g2_1⟩ := a_and g2
    have g2_0 := g2x1
    cases h
    obtain ⟨k1, k2, k3⟩ := kr rfl
    exact bX11_keep_166 ⟨(a_inb_vp g2_0), (a_inb_vp g2_1)⟩ k1 k2 k3
  · refine bX11_keep_131 (fun z => absurd z c1) (fun _ => ?_)
    obtain ⟨g3, h⟩ := a_cond h
    obtain ⟨g3x1, g3_1⟩ := a_and g3
    have g3_0 := g3x1
    refine bX11_keep_137 ⟨(a_inb_vp g3_0), (a_inb_vp g3_1)⟩ ?_
    cases h
    exact kc rfl

noncomputable def stX11_keep (p : Nat × aL × aI × aJ) : Option (Nat × aL × aI × aJ) := match p with
  | (0, [some (.ref 108), none, none], d, e) => sX11_keep_0 d e 
  | (13, [some (.ref 108), some (.int x1), v2], d, e) => sX11_keep_13 d e x1 v2
  | (98, [some (.ref 108), some (.int x1), some (.int x2)], d, e) => sX11_keep_98 d e x1 x2
  | (131, [some (.ref 108), some (.int x1), some (.int x2)], d, e) => sX11_keep_131 d e x1 x2
  | _ => none
theorem uX11_keep {Γ : aG × Launch} {p p2 : Nat × aL × aI × aJ} {r : Option Value} {dF : aI} {eF : aJ} (h : stX11_keep p = some p2) (kc : Nat.beq p2.1 100000 = false → Rn Γ (0) mX11_keep p2.1 p2.2.1 [] p2.2.2.1 p2.2.2.2 r dF eF) (kr : p2.1 = 100000 → r = a_rt p2.2.1 ∧ dF = p2.2.2.1 ∧ eF = p2.2.2.2) : Rn Γ (0) mX11_keep p.1 p.2.1 [] p.2.2.1 p.2.2.2 r dF eF := by
  unfold stX11_keep at h
  split at h
  · exact tX11_keep_0 h kc kr
  · exact tX11_keep_13 h kc kr
  · exact tX11_keep_98 h kc kr
  · exact tX11_keep_131 h kc kr
  · cases h
noncomputable def FX11_keep (d : aI) (e : aJ)  : Option (Unit × aI × aJ) := (a_run (stX11_keep) (0, [some (.ref 108), none, none], d, e)).bind a_xV
theorem evX11_keep {Γ : aG × Launch} {d : aI} {e : aJ}  {q : Unit × aI × aJ} (h : FX11_keep d e  = some q) : Ev Γ (0) mX11_keep [.ref 108] d e none q.2.1 q.2.2 := by
  refine Ev.of (by decide) rfl (Nat.le_of_ble_eq_true rfl) (fun z => by cases z) ?_
  show Rn Γ (0) mX11_keep 0 [some (.ref 108), none, none] [] d e _ _ _
  obtain ⟨q1, h1, h2⟩ := Option.bind_eq_some_iff.mp h
  obtain ⟨e1, e2, e3⟩ := a_xV_rt h2
  exact Rn.cast (a_run_ok (uX11_keep) rfl h1) e1.symm e2.symm e3.symm
noncomputable def sX11_undo_0 (d : aI) (e : aJ)  : Option (Nat × aL × aI × aJ) := (bif ((a_inb (nI 4) 1961)) then (if (d 109 4) = 0 then (some (100000, [some (.int (-(nI 1)))], d, e)) else (bif ((a_inb (nI 4) 1961) && (a_inb (nI 4) 1961) && (a_inb (nI 4) 1961)) then (some (37, [some (.ref 108), some (.int ((nI 136) + ((nI 60) * ((d 109 4) - (nI 1))))), some (.int (nI 0))], (uI d 109 4 ((d 109 4) - (nI 1))), e)) else none)) else none)
theorem tX11_undo_0 {Γ : aG × Launch} {d dF : aI} {e eF : aJ}  {r : Option Value} {p : Nat × aL × aI × aJ} (h : sX11_undo_0 d e  = some p) (kc : Nat.beq p.1 100000 = false → Rn Γ (2) mX11_undo p.1 p.2.1 [] p.2.2.1 p.2.2.2 r dF eF) (kr : p.1 = 100000 → r = a_rt p.2.1 ∧ dF = p.2.2.1 ∧ eF = p.2.2.2) : Rn Γ (2) mX11_undo 0 [some (.ref 108), none, none] [] d e r dF eF := by
  unfold sX11_undo_0 at h
  obtain ⟨g1, h⟩ := a_cond h
  refine a_ite h (fun c2 h => ?_) (fun c2 h => ?_)
  · refine bX11_undo_0 (a_inb_vp g1) (fun z => absurd c2 z) (fun _ => ?_)
    cases h
    obtain ⟨k1, k2, k3⟩ := kr rfl
    exact bX11_undo_9 k1 k2 k3
  · refine bX11_undo_0 (a_inb_vp g1) (fun _ => ?_) (fun z => absurd z c2)
    obtain ⟨g3, h⟩ := a_cond h
    obtain ⟨g3x2, g3_2⟩ := a_and g3
    obtain ⟨g3x1, g3_1⟩ := a_and g3x2
    have g3_0 := g3x1
    refine bX11_undo_11 ⟨(a_inb_vp g3_0), (a_inb_vp g3_1), (a_inb_vp g3_2)⟩ ?_
    cases h
    exact kc rfl

noncomputable def sX11_undo_37 (d : aI) (e : aJ) (x1 : Int32) (x2 : Int32) : Option (Nat × aL × aI × aJ) := (if (nI 33) ≤ x2 then (bif ((a_inb x1 1961)) then (some (75, [some (.ref 108), some (.int x1), some (.int (d 109 (x1).toNatClampNeg))], d, e)) else none) else (bif ((a_inb ((x1 + (nI 2)) + x2) 1961) && (a_inb ((nI 9) + x2) 1961)) then (some (37, [some (.ref 108), some (.int x1), some (.int (x2 + (nI 1)))], (uI d 109 (((nI 9) + x2)).toNatClampNeg (d 109 (((x1 + (nI 2)) + x2)).toNatClampNeg)), e)) else none))
theorem tX11_undo_37 {Γ : aG × Launch} {d dF : aI} {e eF : aJ} {x1 : Int32} {x2 : Int32} {r : Option Value} {p : Nat × aL × aI × aJ} (h : sX11_undo_37 d e x1 x2 = some p) (kc : Nat.beq p.1 100000 = false → Rn Γ (2) mX11_undo p.1 p.2.1 [] p.2.2.1 p.2.2.2 r dF eF) (kr : p.1 = 100000 → r = a_rt p.2.1 ∧ dF = p.2.2.1 ∧ eF = p.2.2.2) : Rn Γ (2) mX11_undo 37 [some (.ref 108), some (.int x1), some (.int x2)] [] d e r dF eF := by
  unfold sX11_undo_37 at h
  refine a_ite h (fun c1 h => ?_) (fun c1 h => ?_)
  · refine bX11_undo_37 (fun _ => ?_) (fun z => absurd c1 z)
    obtain ⟨g2, h⟩ := a_cond h
    refine bX11_undo_68 (a_inb_vp g2) ?_
    cases h
    exact kc rfl
  · refine bX11_undo_37 (fun z => absurd z c1) (fun _ => ?_)
    obtain ⟨g3, h⟩ := a_cond h
    obtain ⟨g3x1, g3_1⟩ := a_and g3
    have g3_0 := g3x1
    refine bX11_undo_43 ⟨(a_inb_vp g3_0), (a_inb_vp g3_1)⟩ ?_
    cases h
    exact kc rfl

noncomputable def sX11_undo_75 (d : aI) (e : aJ) (x1 : Int32) (x2 : Int32) : Option (Nat × aL × aI × aJ) := (bif ((a_inb (nI 0) 1961)) then (if (d 109 0) ≤ x2 then (bif ((a_inb (x1 + (nI 1)) 1961)) then (some (105, [some (.ref 108), some (.int x1), some (.int (d 109 ((x1 + (nI 1))).toNatClampNeg))], d, e)) else none) else ((FX11_beginHouse d e x2).bind fun q4 => (some (75, [some (.ref 108), some (.int x1), some (.int (x2 + (nI 1)))], q4.2.1, q4.2.2)))) else none)
theorem tX11_undo_75 {Γ : aG × Launch} {d dF : aI} {e eF : aJ} {x1 : Int32} {x2 : Int32} {r : Option Value} {p : Nat × aL × aI × aJ} (h : sX11_undo_75 d e x1 x2 = some p) (kc : Nat.beq p.1 100000 = false → Rn Γ (2) mX11_undo p.1 p.2.1 [] p.2.2.1 p.2.2.2 r dF eF) (kr : p.1 = 100000 → r = a_rt p.2.1 ∧ dF = p.2.2.1 ∧ eF = p.2.2.2) : Rn Γ (2) mX11_undo 75 [some (.ref 108), some (.int x1), some (.int x2)] [] d e r dF eF := by
  unfold sX11_undo_75 at h
  obtain ⟨g1, h⟩ := a_cond h
  refine a_ite h (fun c2 h => ?_) (fun c2 h => ?_)
  · refine bX11_undo_75 (a_inb_vp g1) (fun _ => ?_) (fun z => absurd c2 z)
    obtain ⟨g3, h⟩ := a_cond h
    refine bX11_undo_96 (a_inb_vp g3) ?_
    cases h
    exact kc rfl
  · refine bX11_undo_75 (a_inb_vp g1) (fun z => absurd z c2) (fun _ => ?_)
    obtain ⟨q4, hq4, h⟩ := Option.bind_eq_some_iff.mp h
    refine bX11_undo_85 (evX11_beginHouse hq4) (by omega) ?_
    refine bX11_undo_90 ?_
    cases h
    exact kc rfl

noncomputable def sX11_undo_105 (d : aI) (e : aJ) (x1 : Int32) (x2 : Int32) : Option (Nat × aL × aI × aJ) := (bif ((a_inb (nI 1) 1961)) then (if (d 109 1) ≤ x2 then (some (128, [some (.ref 108), some (.int x1), some (.int (nI 0))], d, e)) else ((FX11_beginCat d e x2).bind fun q3 => (some (105, [some (.ref 108), some (.int x1), some (.int (x2 + (nI 1)))], q3.2.1, q3.2.2)))) else none)
theorem tX11_undo_105 {Γ : aG × Launch} {d dF : aI} {e eF : aJ} {x1 : Int32} {x2 : Int32} {r : Option Value} {p : Nat × aL × aI × aJ} (h : sX11_undo_105 d e x1 x2 = some p) (kc : Nat.beq p.1 100000 = false → Rn Γ (2) mX11_undo p.1 p.2.1 [] p.2.2.1 p.2.2.2 r dF eF) (kr : p.1 = 100000 → r = a_rt p.2.1 ∧ dF = p.2.2.1 ∧ eF = p.2.2.2) : Rn Γ (2) mX11_undo 105 [some (.ref 108), some (.int x1), some (.int x2)] [] d e r dF eF := by
  unfold sX11_undo_105 at h
  obtain ⟨g1, h⟩ := a_cond h
  refine a_ite h (fun c2 h => ?_) (fun c2 h => ?_)
  · refine bX11_undo_105 (a_inb_vp g1) (fun _ => ?_) (fun z => absurd c2 z)
    refine bX11_undo_126 ?_
    cases h
    exact kc rfl
  · refine bX11_undo_105 (a_inb_vp g1) (fun z => absurd z c2) (fun _ => ?_)
    obtain ⟨q3, hq3, h⟩ := Option.bind_eq_some_iff.mp h
    refine bX11_undo_115 (evX11_beginCat hq3) (by omega) ?_
    refine bX11_undo_120 ?_
    cases h
    exact kc rfl

noncomputable def sX11_undo_128 (d : aI) (e : aJ) (x1 : Int32) (x2 : Int32) : Option (Nat × aL × aI × aJ) := (if (nI 25) ≤ x2 then (bif ((a_inb (nI 4) 1961)) then (some (100000, [some (.int (d 109 4))], d, e)) else none) else (bif ((a_inb (((x1 + (nI 2)) + (nI 33)) + x2) 1961) && (a_inb ((nI 1936) + x2) 1961)) then (some (128, [some (.ref 108), some (.int x1), some (.int (x2 + (nI 1)))], (uI d 109 (((nI 1936) + x2)).toNatClampNeg (d 109 ((((x1 + (nI 2)) + (nI 33)) + x2)).toNatClampNeg)), e)) else none))
theorem tX11_undo_128 {Γ : aG × Launch} {d dF : aI} {e eF : aJ} {x1 : Int32} {x2 : Int32} {r : Option Value} {p : Nat × aL × aI × aJ} (h : sX11_undo_128 d e x1 x2 = some p) (kc : Nat.beq p.1 100000 = false → Rn Γ (2) mX11_undo p.1 p.2.1 [] p.2.2.1 p.2.2.2 r dF eF) (kr : p.1 = 100000 → r = a_rt p.2.1 ∧ dF = p.2.2.1 ∧ eF = p.2.2.2) : Rn Γ (2) mX11_undo 128 [some (.ref 108), some (.int x1), some (.int x2)] [] d e r dF eF := by
  unfold sX11_undo_128 at h
  refine a_ite h (fun c1 h => ?_) (fun c1 h => ?_)
  · refine bX11_undo_128 (fun _ => ?_) (fun z => absurd c1 z)
    obtain ⟨g2, h⟩ := a_cond h
    cases h
    obtain ⟨k1, k2, k3⟩ := kr rfl
    exact bX11_undo_163 (a_inb_vp g2) k1 k2 k3
  · refine bX11_undo_128 (fun z => absurd z c1) (fun _ => ?_)
    obtain ⟨g3, h⟩ := a_cond h
    obtain ⟨g3x1, g3_1⟩ := a_and g3
    have g3_0 := g3x1
    refine bX11_undo_134 ⟨(a_inb_vp g3_0), (a_inb_vp g3_1)⟩ ?_
    cases h
    exact kc rfl

noncomputable def stX11_undo (p : Nat × aL × aI × aJ) : Option (Nat × aL × aI × aJ) := match p with
  | (0, [some (.ref 108), none, none], d, e) => sX11_undo_0 d e 
  | (37, [some (.ref 108), some (.int x1), some (.int x2)], d, e) => sX11_undo_37 d e x1 x2
  | (75, [some (.ref 108), some (.int x1), some (.int x2)], d, e) => sX11_undo_75 d e x1 x2
  | (105, [some (.ref 108), some (.int x1), some (.int x2)], d, e) => sX11_undo_105 d e x1 x2
  | (128, [some (.ref 108), some (.int x1), some (.int x2)], d, e) => sX11_undo_128 d e x1 x2
  | _ => none
theorem uX11_undo {Γ : aG × Launch} {p p2 : Nat × aL × aI × aJ} {r : Option Value} {dF : aI} {eF : aJ} (h : stX11_undo p = some p2) (kc : Nat.beq p2.1 100000 = false → Rn Γ (2) mX11_undo p2.1 p2.2.1 [] p2.2.2.1 p2.2.2.2 r dF eF) (kr : p2.1 = 100000 → r = a_rt p2.2.1 ∧ dF = p2.2.2.1 ∧ eF = p2.2.2.2) : Rn Γ (2) mX11_undo p.1 p.2.1 [] p.2.2.1 p.2.2.2 r dF eF := by
  unfold stX11_undo at h
  split at h
  · exact tX11_undo_0 h kc kr
  · exact tX11_undo_37 h kc kr
  · exact tX11_undo_75 h kc kr
  · exact tX11_undo_105 h kc kr
  · exact tX11_undo_128 h kc kr
  · cases h
noncomputable def FX11_undo (d : aI) (e : aJ)  : Option (Int32 × aI × aJ) := (a_run (stX11_undo) (0, [some (.ref 108), none, none], d, e)).bind a_xI
theorem evX11_undo {Γ : aG × Launch} {d : aI} {e : aJ}  {q : Int32 × aI × aJ} (h : FX11_undo d e  = some q) : Ev Γ (2) mX11_undo [.ref 108] d e (some (.int q.1)) q.2.1 q.2.2 := by
  refine Ev.of (by decide) rfl (Nat.le_of_ble_eq_true rfl) (fun z => by cases z) ?_
  show Rn Γ (2) mX11_undo 0 [some (.ref 108), none, none] [] d e _ _ _
  obtain ⟨q1, h1, h2⟩ := Option.bind_eq_some_iff.mp h
  obtain ⟨e1, e2, e3⟩ := a_xI_rt h2
  exact Rn.cast (a_run_ok (uX11_undo) rfl h1) e1.symm e2.symm e3.symm
