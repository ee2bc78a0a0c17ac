/-! ===== functions out of the methods ===== -/
noncomputable def sX11_years_0 (d : aI) (e : aJ) (x1 : Int32) (x2 : Int32) : Option (Nat × aL × aI × aJ) := ((FX11_isIn d e x1 (nI 0) (nI 9999)).bind fun q1 => (if q1.1 = 0 then (some (100000, [some (.int (-(nI 1)))], q1.2.1, q1.2.2)) else ((FX11_isIn q1.2.1 q1.2.2 x2 (nI 1) (nI 40)).bind fun q3 => (if q3.1 = 0 then (some (100000, [some (.int (-(nI 1)))], q3.2.1, q3.2.2)) else ((FX11_keep q3.2.1 q3.2.2).bind fun q5 => (bif ((a_inb (nI 10) 1961)) then (some (43, [some (.ref 108), some (.int x1), some (.int x2), some (.int (nI 0)), none], (uI q5.2.1 109 10 ((x1 * (nI 2)) + (nI 397))), q5.2.2)) else none))))))
theorem tX11_years_0 {Γ : aG × Launch} {d dF : aI} {e eF : aJ} {x1 : Int32} {x2 : Int32} {r : Option Value} {p : Nat × aL × aI × aJ} (h : sX11_years_0 d e x1 x2 = some p) (kc : Nat.beq p.1 100000 = false → Rn Γ (8) mX11_years p.1 p.2.1 [] p.2.2.1 p.2.2.2 r dF eF) (kr : p.1 = 100000 → r = a_rt p.2.1 ∧ dF = p.2.2.1 ∧ eF = p.2.2.2) : Rn Γ (8) mX11_years 0 [some (.ref 108), some (.int x1), some (.int x2), none, none] [] d e r dF eF := by
  unfold sX11_years_0 at h
  obtain ⟨q1, hq1, h⟩ := Option.bind_eq_some_iff.mp h
  refine bX11_years_0 (evX11_isIn hq1) (by omega) ?_
  refine a_ite h (fun c2 h => ?_) (fun c2 h => ?_)
  · refine bX11_years_8 (fun _ => ?_) (fun z => absurd c2 z)
    cases h
    obtain ⟨k1, k2, k3⟩ := kr rfl
    exact bX11_years_21 k1 k2 k3
  · refine bX11_years_8 (fun z => absurd z c2) (fun _ => ?_)
    obtain ⟨q3, hq3, h⟩ := Option.bind_eq_some_iff.mp h
    refine bX11_years_11 (evX11_isIn hq3) (by omega) ?_
    refine a_ite h (fun c4 h => ?_) (fun c4 h => ?_)
    · refine bX11_years_18 (fun z => absurd c4 z) (fun _ => ?_)
      cases h
      obtain ⟨k1, k2, k3⟩ := kr rfl
      exact bX11_years_21 k1 k2 k3
    · refine bX11_years_18 (fun _ => ?_) (fun z => absurd z c4)
      obtain ⟨q5, hq5, h⟩ := Option.bind_eq_some_iff.mp h
      refine bX11_years_23 (evX11_keep hq5) (by omega) ?_
      obtain ⟨g6, h⟩ := a_cond h
      refine bX11_years_27 (a_inb_vp g6) ?_
      cases h
      exact kc rfl

noncomputable def sX11_years_43 (d : aI) (e : aJ) (x1 : Int32) (x2 : Int32) (x3 : Int32) (v4 : Option Value) : Option (Nat × aL × aI × aJ) := (if x2 ≤ x3 then (bif ((a_inb (nI 9) 1961)) then (some (100000, [some (.int (d 109 9))], d, e)) else none) else (bif ((a_inb (nI 10) 1961)) then ((FX11_anew d e).bind fun q4 => ((FX11_happens q4.2.1 q4.2.2 (d 109 10)).bind fun q5 => (some (43, [some (.ref 108), some (.int x1), some (.int x2), some (.int (x3 + (nI 1))), some (.int (d 109 10))], q5.2.1, q5.2.2)))) else none))
theorem tX11_years_43 {Γ : aG × Launch} {d dF : aI} {e eF : aJ} {x1 : Int32} {x2 : Int32} {x3 : Int32} {v4 : Option Value} {r : Option Value} {p : Nat × aL × aI × aJ} (h : sX11_years_43 d e x1 x2 x3 v4 = some p) (kc : Nat.beq p.1 100000 = false → Rn Γ (8) mX11_years p.1 p.2.1 [] p.2.2.1 p.2.2.2 r dF eF) (kr : p.1 = 100000 → r = a_rt p.2.1 ∧ dF = p.2.2.1 ∧ eF = p.2.2.2) : Rn Γ (8) mX11_years 43 [some (.ref 108), some (.int x1), some (.int x2), some (.int x3), v4] [] d e r dF eF := by
  unfold sX11_years_43 at h
  refine a_ite h (fun c1 h => ?_) (fun c1 h => ?_)
  · refine bX11_years_43 (fun _ => ?_) (fun z => absurd c1 z)
    obtain ⟨g2, h⟩ := a_cond h
    cases h
    obtain ⟨k1, k2, k3⟩ := kr rfl
    exact bX11_years_73 (a_inb_vp g2) k1 k2 k3
  · refine bX11_years_43 (fun z => absurd z c1) (fun _ => ?_)
    obtain ⟨g3, h⟩ := a_cond h
    obtain ⟨q4, hq4, h⟩ := Option.bind_eq_some_iff.mp h
    refine bX11_years_48 (a_inb_vp g3) (evX11_anew hq4) (by omega) ?_
    obtain ⟨q5, hq5, h⟩ := Option.bind_eq_some_iff.mp h
    refine bX11_years_61 (evX11_happens hq5) (by omega) ?_
    refine bX11_years_67 ?_
    cases h
    exact kc rfl

noncomputable def stX11_years (p : Nat × aL × aI × aJ) : Option (Nat × aL × aI × aJ) := match p with
  | (0, [some (.ref 108), some (.int x1), some (.int x2), none, none], d, e) => sX11_years_0 d e x1 x2
  | (43, [some (.ref 108), some (.int x1), some (.int x2), some (.int x3), v4], d, e) => sX11_years_43 d e x1 x2 x3 v4
  | _ => none
theorem uX11_years {Γ : aG × Launch} {p p2 : Nat × aL × aI × aJ} {r : Option Value} {dF : aI} {eF : aJ} (h : stX11_years p = some p2) (kc : Nat.beq p2.1 100000 = false → Rn Γ (8) mX11_years p2.1 p2.2.1 [] p2.2.2.1 p2.2.2.2 r dF eF) (kr : p2.1 = 100000 → r = a_rt p2.2.1 ∧ dF = p2.2.2.1 ∧ eF = p2.2.2.2) : Rn Γ (8) mX11_years p.1 p.2.1 [] p.2.2.1 p.2.2.2 r dF eF := by
  unfold stX11_years at h
  split at h
  · exact tX11_years_0 h kc kr
  · exact tX11_years_43 h kc kr
  · cases h
noncomputable def FX11_years (d : aI) (e : aJ) (x1 : Int32) (x2 : Int32) : Option (Int32 × aI × aJ) := (a_run (stX11_years) (0, [some (.ref 108), some (.int x1), some (.int x2), none, none], d, e)).bind a_xI
theorem evX11_years {Γ : aG × Launch} {d : aI} {e : aJ} {x1 : Int32} {x2 : Int32} {q : Int32 × aI × aJ} (h : FX11_years d e x1 x2 = some q) : Ev Γ (8) mX11_years [.ref 108, .int x1, .int x2] d e (some (.int q.1)) q.2.1 q.2.2 := by
  refine Ev.of (by decide) rfl (Nat.le_of_ble_eq_true rfl) (fun z => by cases z) ?_
  show Rn Γ (8) mX11_years 0 [some (.ref 108), some (.int x1), some (.int x2), none, none] [] d e _ _ _
  obtain ⟨q1, h1, h2⟩ := Option.bind_eq_some_iff.mp h
  obtain ⟨e1, e2, e3⟩ := a_xI_rt h2
  exact Rn.cast (a_run_ok (uX11_years) rfl h1) e1.symm e2.symm e3.symm
noncomputable def sX11_foretold_0 (d : aI) (e : aJ) (x1 : Int32) (x2 : Int32) (x3 : Int32) : Option (Nat × aL × aI × aJ) := ((FX11_isIn d e x1 (nI 1) (nI 60)).bind fun q1 => (if q1.1 = 0 then (some (100000, [some (.int (-(nI 1)))], q1.2.1, q1.2.2)) else ((FX11_isIn q1.2.1 q1.2.2 x2 (nI 0) (nI 1)).bind fun q3 => (if q3.1 = 0 then (some (100000, [some (.int (-(nI 1)))], q3.2.1, q3.2.2)) else (if x2 = 0 then ((FX11_isCat q3.2.1 q3.2.2 x3).bind fun q6 => (if q6.1 = 0 then (some (100000, [some (.int (-(nI 1)))], q6.2.1, q6.2.2)) else (some (48, [some (.ref 108), some (.int x1), some (.int x2), some (.int x3), some (.int (nI 9)), none], q6.2.1, q6.2.2)))) else ((FX11_isHouse q3.2.1 q3.2.2 x3).bind fun q8 => (if q8.1 = 0 then (some (100000, [some (.int (-(nI 1)))], q8.2.1, q8.2.2)) else (some (48, [some (.ref 108), some (.int x1), some (.int x2), some (.int x3), some (.int (nI 9)), none], q8.2.1, q8.2.2)))))))))
theorem tX11_foretold_0 {Γ : aG × Launch} {d dF : aI} {e eF : aJ} {x1 : Int32} {x2 : Int32} {x3 : Int32} {r : Option Value} {p : Nat × aL × aI × aJ} (h : sX11_foretold_0 d e x1 x2 x3 = some p) (kc : Nat.beq p.1 100000 = false → Rn Γ (7) mX11_foretold p.1 p.2.1 [] p.2.2.1 p.2.2.2 r dF eF) (kr : p.1 = 100000 → r = a_rt p.2.1 ∧ dF = p.2.2.1 ∧ eF = p.2.2.2) : Rn Γ (7) mX11_foretold 0 [some (.ref 108), some (.int x1), some (.int x2), some (.int x3), none, none] [] d e r dF eF := by
  unfold sX11_foretold_0 at h
  obtain ⟨q1, hq1, h⟩ := Option.bind_eq_some_iff.mp h
  refine bX11_foretold_0 (evX11_isIn hq1) (by omega) ?_
  refine a_ite h (fun c2 h => ?_) (fun c2 h => ?_)
  · refine bX11_foretold_7 (fun _ => ?_) (fun z => absurd c2 z)
    cases h
    obtain ⟨k1, k2, k3⟩ := kr rfl
    exact bX11_foretold_42 k1 k2 k3
  · refine bX11_foretold_7 (fun z => absurd z c2) (fun _ => ?_)
    obtain ⟨q3, hq3, h⟩ := Option.bind_eq_some_iff.mp h
    refine bX11_foretold_10 (evX11_isIn hq3) (by omega) ?_
    refine a_ite h (fun c4 h => ?_) (fun c4 h => ?_)
    · refine bX11_foretold_16 (fun _ => ?_) (fun z => absurd c4 z)
      cases h
      obtain ⟨k1, k2, k3⟩ := kr rfl
      exact bX11_foretold_42 k1 k2 k3
    · refine bX11_foretold_16 (fun z => absurd z c4) (fun _ => ?_)
      refine a_ite h (fun c5 h => ?_) (fun c5 h => ?_)
      · refine bX11_foretold_19 (fun z => absurd c5 z) (fun _ => ?_)
        obtain ⟨q6, hq6, h⟩ := Option.bind_eq_some_iff.mp h
        refine bX11_foretold_23 (evX11_isCat hq6) (by omega) ?_
        refine a_ite h (fun c7 h => ?_) (fun c7 h => ?_)
        · refine bX11_foretold_28 (fun _ => ?_) (fun z => absurd c7 z)
          cases h
          obtain ⟨k1, k2, k3⟩ := kr rfl
          exact bX11_foretold_42 k1 k2 k3
        · refine bX11_foretold_28 (fun z => absurd z c7) (fun _ => ?_)
          refine bX11_foretold_31 ?_
          refine bX11_foretold_44 ?_
          cases h
          exact kc rfl
      · refine bX11_foretold_19 (fun _ => ?_) (fun z => absurd z c5)
        obtain ⟨q8, hq8, h⟩ := Option.bind_eq_some_iff.mp h
        refine bX11_foretold_34 (evX11_isHouse hq8) (by omega) ?_
        refine a_ite h (fun c9 h => ?_) (fun c9 h => ?_)
        · refine bX11_foretold_39 (fun z => absurd c9 z) (fun _ => ?_)
          cases h
          obtain ⟨k1, k2, k3⟩ := kr rfl
          exact bX11_foretold_42 k1 k2 k3
        · refine bX11_foretold_39 (fun _ => ?_) (fun z => absurd z c9)
          refine bX11_foretold_44 ?_
          cases h
          exact kc rfl

noncomputable def sX11_foretold_48 (d : aI) (e : aJ) (x1 : Int32) (x2 : Int32) (x3 : Int32) (x4 : Int32) (v5 : Option Value) : Option (Nat × aL × aI × aJ) := (if (nI 42) ≤ x4 then (bif ((decide ((nI 0) = 0 ∨ (nI 0) = 1))) then (some (83, [some (.ref 108), some (.int x1), some (.int x2), some (.int x3), some (.int (nI 0)), v5], (uI d 108 23 (nI 0)), e)) else none) else (bif ((a_inb x4 1961) && (a_inb x4 42)) then (some (48, [some (.ref 108), some (.int x1), some (.int x2), some (.int x3), some (.int (x4 + (nI 1))), v5], (uI d 117 (x4).toNatClampNeg (d 109 (x4).toNatClampNeg)), e)) else none))
theorem tX11_foretold_48 {Γ : aG × Launch} {d dF : aI} {e eF : aJ} {x1 : Int32} {x2 : Int32} {x3 : Int32} {x4 : Int32} {v5 : Option Value} {r : Option Value} {p : Nat × aL × aI × aJ} (h : sX11_foretold_48 d e x1 x2 x3 x4 v5 = some p) (kc : Nat.beq p.1 100000 = false → Rn Γ (7) mX11_foretold p.1 p.2.1 [] p.2.2.1 p.2.2.2 r dF eF) (kr : p.1 = 100000 → r = a_rt p.2.1 ∧ dF = p.2.2.1 ∧ eF = p.2.2.2) : Rn Γ (7) mX11_foretold 48 [some (.ref 108), some (.int x1), some (.int x2), some (.int x3), some (.int x4), v5] [] d e r dF eF := by
  unfold sX11_foretold_48 at h
  refine a_ite h (fun c1 h => ?_) (fun c1 h => ?_)
  · refine bX11_foretold_48 (fun _ => ?_) (fun z => absurd c1 z)
    obtain ⟨g2, h⟩ := a_cond h
    refine bX11_foretold_75 (of_decide_eq_true g2) ?_
    cases h
    exact kc rfl
  · refine bX11_foretold_48 (fun z => absurd z c1) (fun _ => ?_)
    obtain ⟨g3, h⟩ := a_cond h
    obtain ⟨g3x1, g3_1⟩ := a_and g3
    have g3_0 := g3x1
    refine bX11_foretold_55 ⟨(a_inb_vp g3_0), (a_inb_vp g3_1)⟩ ?_
    cases h
    exact kc rfl

noncomputable def sX11_foretold_83 (d : aI) (e : aJ) (x1 : Int32) (x2 : Int32) (x3 : Int32) (x4 : Int32) (v5 : Option Value) : Option (Nat × aL × aI × aJ) := (if x1 ≤ x4 then (if x2 = 0 then ((FX11_placeOf d e x3).bind fun q3 => (some (136, [some (.ref 108), some (.int x1), some (.int x2), some (.int x3), some (.int q3.1), some (.int (nI 9))], q3.2.1, q3.2.2))) else ((FX11_getOf d e x3 (nI 0)).bind fun q4 => (some (136, [some (.ref 108), some (.int x1), some (.int x2), some (.int x3), some (.int q4.1), some (.int (nI 9))], q4.2.1, q4.2.2)))) else (bif ((a_inb (nI 9) 1961)) then (if (nI 9999) ≤ (d 109 9) then (some (83, [some (.ref 108), some (.int x1), some (.int x2), some (.int x3), some (.int (x4 + (nI 1))), v5], d, e)) else ((FX11_pass d e).bind fun q7 => (some (83, [some (.ref 108), some (.int x1), some (.int x2), some (.int x3), some (.int (x4 + (nI 1))), v5], q7.2.1, q7.2.2)))) else none))
theorem tX11_foretold_83 {Γ : aG × Launch} {d dF : aI} {e eF : aJ} {x1 : Int32} {x2 : Int32} {x3 : Int32} {x4 : Int32} {v5 : Option Value} {r : Option Value} {p : Nat × aL × aI × aJ} (h : sX11_foretold_83 d e x1 x2 x3 x4 v5 = some p) (kc : Nat.beq p.1 100000 = false → Rn Γ (7) mX11_foretold p.1 p.2.1 [] p.2.2.1 p.2.2.2 r dF eF) (kr : p.1 = 100000 → r = a_rt p.2.1 ∧ dF = p.2.2.1 ∧ eF = p.2.2.2) : Rn Γ (7) mX11_foretold 83 [some (.ref 108), some (.int x1), some (.int x2), some (.int x3), some (.int x4), v5] [] d e r dF eF := by
  unfold sX11_foretold_83 at h
  refine a_ite h (fun c1 h => ?_) (fun c1 h => ?_)
  · refine bX11_foretold_83 (fun _ => ?_) (fun z => absurd c1 z)
    refine a_ite h (fun c2 h => ?_) (fun c2 h => ?_)
    · refine bX11_foretold_112 (fun z => absurd c2 z) (fun _ => ?_)
      obtain ⟨q3, hq3, h⟩ := Option.bind_eq_some_iff.mp h
      refine bX11_foretold_116 (evX11_placeOf hq3) (by omega) ?_
      refine bX11_foretold_121 ?_
      refine bX11_foretold_130 ?_
      cases h
      exact kc rfl
    · refine bX11_foretold_112 (fun _ => ?_) (fun z => absurd z c2)
      obtain ⟨q4, hq4, h⟩ := Option.bind_eq_some_iff.mp h
      refine bX11_foretold_124 (evX11_getOf hq4) (by omega) ?_
      refine bX11_foretold_130 ?_
      cases h
      exact kc rfl
  · refine bX11_foretold_83 (fun z => absurd z c1) (fun _ => ?_)
    obtain ⟨g5, h⟩ := a_cond h
    refine a_ite h (fun c6 h => ?_) (fun c6 h => ?_)
    · refine bX11_foretold_89 (a_inb_vp g5) (fun _ => ?_) (fun z => absurd c6 z)
      refine bX11_foretold_106 ?_
      cases h
      exact kc rfl
    · refine bX11_foretold_89 (a_inb_vp g5) (fun z => absurd z c6) (fun _ => ?_)
      obtain ⟨q7, hq7, h⟩ := Option.bind_eq_some_iff.mp h
      refine bX11_foretold_102 (evX11_pass hq7) (by omega) ?_
      refine bX11_foretold_106 ?_
      cases h
      exact kc rfl

noncomputable def sX11_foretold_136 (d : aI) (e : aJ) (x1 : Int32) (x2 : Int32) (x3 : Int32) (x4 : Int32) (x5 : Int32) : Option (Nat × aL × aI × aJ) := (if (nI 42) ≤ x5 then (bif ((decide ((nI 1) = 0 ∨ (nI 1) = 1))) then (some (100000, [some (.int x4)], (uI d 108 23 (nI 1)), e)) else none) else (bif ((a_inb x5 42) && (a_inb x5 1961)) then (some (136, [some (.ref 108), some (.int x1), some (.int x2), some (.int x3), some (.int x4), some (.int (x5 + (nI 1)))], (uI d 109 (x5).toNatClampNeg (d 117 (x5).toNatClampNeg)), e)) else none))
theorem tX11_foretold_136 {Γ : aG × Launch} {d dF : aI} {e eF : aJ} {x1 : Int32} {x2 : Int32} {x3 : Int32} {x4 : Int32} {x5 : Int32} {r : Option Value} {p : Nat × aL × aI × aJ} (h : sX11_foretold_136 d e x1 x2 x3 x4 x5 = some p) (kc : Nat.beq p.1 100000 = false → Rn Γ (7) mX11_foretold p.1 p.2.1 [] p.2.2.1 p.2.2.2 r dF eF) (kr : p.1 = 100000 → r = a_rt p.2.1 ∧ dF = p.2.2.1 ∧ eF = p.2.2.2) : Rn Γ (7) mX11_foretold 136 [some (.ref 108), some (.int x1), some (.int x2), some (.int x3), some (.int x4), some (.int x5)] [] d e r dF eF := by
  unfold sX11_foretold_136 at h
  refine a_ite h (fun c1 h => ?_) (fun c1 h => ?_)
  · refine bX11_foretold_136 (fun _ => ?_) (fun z => absurd c1 z)
    obtain ⟨g2, h⟩ := a_cond h
    cases h
    obtain ⟨k1, k2, k3⟩ := kr rfl
    exact bX11_foretold_163 (of_decide_eq_true g2) k1 k2 k3
  · refine bX11_foretold_136 (fun z => absurd z c1) (fun _ => ?_)
    obtain ⟨g3, h⟩ := a_cond h
    obtain ⟨g3x1, g3_1⟩ := a_and g3
    have g3_0 := g3x1
    refine bX11_foretold_143 ⟨(a_inb_vp g3_0), (a_inb_vp g3_1)⟩ ?_
    cases h
    exact kc rfl

noncomputable def stX11_foretold (p : Nat × aL × aI × aJ) : Option (Nat × aL × aI × aJ) := match p with
  | (0, [some (.ref 108), some (.int x1), some (.int x2), some (.int x3), none, none], d, e) => sX11_foretold_0 d e x1 x2 x3
  | (48, [some (.ref 108), some (.int x1), some (.int x2), some (.int x3), some (.int x4), v5], d, e) => sX11_foretold_48 d e x1 x2 x3 x4 v5
  | (83, [some (.ref 108), some (.int x1), some (.int x2), some (.int x3), some (.int x4), v5], d, e) => sX11_foretold_83 d e x1 x2 x3 x4 v5
  | (136, [some (.ref 108), some (.int x1), some (.int x2), some (.int x3), some (.int x4), some (.int x5)], d, e) => sX11_foretold_136 d e x1 x2 x3 x4 x5
  | _ => none
theorem uX11_foretold {Γ : aG × Launch} {p p2 : Nat × aL × aI × aJ} {r : Option Value} {dF : aI} {eF : aJ} (h : stX11_foretold p = some p2) (kc : Nat.beq p2.1 100000 = false → Rn Γ (7) mX11_foretold p2.1 p2.2.1 [] p2.2.2.1 p2.2.2.2 r dF eF) (kr : p2.1 = 100000 → r = a_rt p2.2.1 ∧ dF = p2.2.2.1 ∧ eF = p2.2.2.2) : Rn Γ (7) mX11_foretold p.1 p.2.1 [] p.2.2.1 p.2.2.2 r dF eF := by
  unfold stX11_foretold at h
  split at h
  · exact tX11_foretold_0 h kc kr
  · exact tX11_foretold_48 h kc kr
  · exact tX11_foretold_83 h kc kr
  · exact tX11_foretold_136 h kc kr
  · cases h
noncomputable def FX11_foretold (d : aI) (e : aJ) (x1 : Int32) (x2 : Int32) (x3 : Int32) : Option (Int32 × aI × aJ) := (a_run (stX11_foretold) (0, [some (.ref 108), some (.int x1), some (.int x2), some (.int x3), none, none], d, e)).bind a_xI
theorem evX11_foretold {Γ : aG × Launch} {d : aI} {e : aJ} {x1 : Int32} {x2 : Int32} {x3 : Int32} {q : Int32 × aI × aJ} (h : FX11_foretold d e x1 x2 x3 = some q) : Ev Γ (7) mX11_foretold [.ref 108, .int x1, .int x2, .int x3] d e (some (.int q.1)) q.2.1 q.2.2 := by
  refine Ev.of (by decide) rfl (Nat.le_of_ble_eq_true rfl) (fun z => by cases z) ?_
  show Rn Γ (7) mX11_foretold 0 [some (.ref 108), some (.int x1), some (.int x2), some (.int x3), none, none] [] d e _ _ _
  obtain ⟨q1, h1, h2⟩ := Option.bind_eq_some_iff.mp h
  obtain ⟨e1, e2, e3⟩ := a_xI_rt h2
  exact Rn.cast (a_run_ok (uX11_foretold) rfl h1) e1.symm e2.symm e3.symm
noncomputable def FX0_join (d : aI) (e : aJ)  : Option (Unit × aI × aJ) := ((FX0_extend 7 (uI d 103 2 (nI 0)) e (nI 0) (nI 0)).bind fun q1 => (some ((), q1.2.1, q1.2.2)))
theorem evX0_join {Γ : aG × Launch} {d : aI} {e : aJ}  {q : Unit × aI × aJ} (h : FX0_join d e  = some q) : Ev Γ (8) mX0_join [.ref 103, .ref 21] d e none q.2.1 q.2.2 := by
  refine Ev.of (by decide) rfl (Nat.le_of_ble_eq_true rfl) (fun z => by cases z) ?_
  show Rn Γ (8) mX0_join 0 [some (.ref 103), some (.ref 21)] [] d e _ _ _
  unfold FX0_join at h
  obtain ⟨q1, hq1, h⟩ := Option.bind_eq_some_iff.mp h
  refine bX0_join_0 (evX0_extend 7 hq1) (by omega) ?_
  cases h
  exact bX0_join_12

noncomputable def sX1_run_0 (d : aI) (e : aJ) (o1 : Nat) (x2 : Int32) (x3 : Int32) (x5 : Int32) (x6 : Int32) : Option (Nat × aL × aI × aJ) := (bif (decide (o1 = 62 ∨ o1 = 67 ∨ o1 = 72 ∨ o1 = 77 ∨ o1 = 82)) then (some (23, [some (.ref 93), some (.ref o1), some (.int x2), some (.int x3), some (.ref 2), some (.int x5), some (.int x6), some (.int (a_min x3 (nI 300))), some (.int (a_max x2 (nI 0))), some (.int (nI 0)), none, none], (uI d 93 1 (nI 0)), e)) else none)
theorem tX1_run_0 {Γ : aG × Launch} {d dF : aI} {e eF : aJ} {o1 : Nat} {x2 : Int32} {x3 : Int32} {x5 : Int32} {x6 : Int32} {r : Option Value} {p : Nat × aL × aI × aJ} (h : sX1_run_0 d e o1 x2 x3 x5 x6 = some p) (kc : Nat.beq p.1 100000 = false → Rn Γ (2) mX1_run p.1 p.2.1 [] p.2.2.1 p.2.2.2 r dF eF) (kr : p.1 = 100000 → r = a_rt p.2.1 ∧ dF = p.2.2.1 ∧ eF = p.2.2.2) : Rn Γ (2) mX1_run 0 [some (.ref 93), some (.ref o1), some (.int x2), some (.int x3), some (.ref 2), some (.int x5), some (.int x6), none, none, none, none, none] [] d e r dF eF := by
  unfold sX1_run_0 at h
  obtain ⟨ho1x, h⟩ := a_cond h
  have ho1 := of_decide_eq_true ho1x
  refine bX1_run_0 ho1 ?_
  cases h
  exact kc rfl

noncomputable def sX1_run_23 (d : aI) (e : aJ) (o1 : Nat) (x2 : Int32) (x3 : Int32) (x5 : Int32) (x6 : Int32) (x7 : Int32) (x8 : Int32) (x9 : Int32) (v10 : Option Value) (v11 : Option Value) : Option (Nat × aL × aI × aJ) := (bif (decide (o1 = 62 ∨ o1 = 67 ∨ o1 = 72 ∨ o1 = 77 ∨ o1 = 82)) then (if (nI 300) ≤ x9 then ((FX1_pop d e).bind fun q2 => (some (100000, [some (.int q2.1)], q2.2.1, q2.2.2))) else (if x7 ≤ x8 then ((FX1_pop d e).bind fun q4 => (some (100000, [some (.int q4.1)], q4.2.1, q4.2.2))) else (bif ((a_inb x8 300)) then (if 0 ≤ (d o1 (x8).toNatClampNeg) then (if (d o1 (x8).toNatClampNeg) = (nI 314) then (if (d o1 (x8).toNatClampNeg) = (nI 316) then (if (nI 1) = 0 then (some (23, [some (.ref 93), some (.ref o1), some (.int x2), some (.int x3), some (.ref 2), some (.int x5), some (.int x6), some (.int x7), some (.int ((x8 + (nI 1)) + (nI 1))), some (.int (x9 + (nI 1))), some (.int (d o1 (x8).toNatClampNeg)), some (.int (nI 1))], d, e)) else (if x7 ≤ (x8 + (nI 1)) then (some (23, [some (.ref 93), some (.ref o1), some (.int x2), some (.int x3), some (.ref 2), some (.int x5), some (.int x6), some (.int x7), some (.int ((x8 + (nI 1)) + (nI 1))), some (.int (x9 + (nI 1))), some (.int (d o1 (x8).toNatClampNeg)), some (.int (nI 1))], d, e)) else (bif ((a_inb (x8 + (nI 1)) 300)) then (some (23, [some (.ref 93), some (.ref o1), some (.int x2), some (.int x3), some (.ref 2), some (.int x5), some (.int x6), some (.int x7), some (.int (a_max (x8 + (nI 1)) (d o1 ((x8 + (nI 1))).toNatClampNeg))), some (.int (x9 + (nI 1))), some (.int (d o1 (x8).toNatClampNeg)), some (.int (nI 1))], d, e)) else none))) else ((FX1_pop d e).bind fun q12 => (if q12.1 = 0 then (if (nI 1) = 0 then (some (23, [some (.ref 93), some (.ref o1), some (.int x2), some (.int x3), some (.ref 2), some (.int x5), some (.int x6), some (.int x7), some (.int ((x8 + (nI 1)) + (nI 1))), some (.int (x9 + (nI 1))), some (.int (d o1 (x8).toNatClampNeg)), some (.int (nI 1))], q12.2.1, q12.2.2)) else (if x7 ≤ (x8 + (nI 1)) then (some (23, [some (.ref 93), some (.ref o1), some (.int x2), some (.int x3), some (.ref 2), some (.int x5), some (.int x6), some (.int x7), some (.int ((x8 + (nI 1)) + (nI 1))), some (.int (x9 + (nI 1))), some (.int (d o1 (x8).toNatClampNeg)), some (.int (nI 1))], q12.2.1, q12.2.2)) else (bif ((a_inb (x8 + (nI 1)) 300)) then (some (23, [some (.ref 93), some (.ref o1), some (.int x2), some (.int x3), some (.ref 2), some (.int x5), some (.int x6), some (.int x7), some (.int (a_max (x8 + (nI 1)) (q12.2.1 o1 ((x8 + (nI 1))).toNatClampNeg))), some (.int (x9 + (nI 1))), some (.int (d o1 (x8).toNatClampNeg)), some (.int (nI 1))], q12.2.1, q12.2.2)) else none))) else (if (nI 0) = 0 then (some (23, [some (.ref 93), some (.ref o1), some (.int x2), some (.int x3), some (.ref 2), some (.int x5), some (.int x6), some (.int x7), some (.int ((x8 + (nI 1)) + (nI 1))), some (.int (x9 + (nI 1))), some (.int (d o1 (x8).toNatClampNeg)), some (.int (nI 0))], q12.2.1, q12.2.2)) else (if x7 ≤ (x8 + (nI 1)) then (some (23, [some (.ref 93), some (.ref o1), some (.int x2), some (.int x3), some (.ref 2), some (.int x5), some (.int x6), some (.int x7), some (.int ((x8 + (nI 1)) + (nI 1))), some (.int (x9 + (nI 1))), some (.int (d o1 (x8).toNatClampNeg)), some (.int (nI 0))], q12.2.1, q12.2.2)) else (bif ((a_inb (x8 + (nI 1)) 300)) then (some (23, [some (.ref 93), some (.ref o1), some (.int x2), some (.int x3), some (.ref 2), some (.int x5), some (.int x6), some (.int x7), some (.int (a_max (x8 + (nI 1)) (q12.2.1 o1 ((x8 + (nI 1))).toNatClampNeg))), some (.int (x9 + (nI 1))), some (.int (d o1 (x8).toNatClampNeg)), some (.int (nI 0))], q12.2.1, q12.2.2)) else none)))))) else (if (d o1 (x8).toNatClampNeg) = (nI 316) then (if (d o1 (x8).toNatClampNeg) = (nI 316) then (if (nI 1) = 0 then (some (23, [some (.ref 93), some (.ref o1), some (.int x2), some (.int x3), some (.ref 2), some (.int x5), some (.int x6), some (.int x7), some (.int ((x8 + (nI 1)) + (nI 1))), some (.int (x9 + (nI 1))), some (.int (d o1 (x8).toNatClampNeg)), some (.int (nI 1))], d, e)) else (if x7 ≤ (x8 + (nI 1)) then (some (23, [some (.ref 93), some (.ref o1), some (.int x2), some (.int x3), some (.ref 2), some (.int x5), some (.int x6), some (.int x7), some (.int ((x8 + (nI 1)) + (nI 1))), some (.int (x9 + (nI 1))), some (.int (d o1 (x8).toNatClampNeg)), some (.int (nI 1))], d, e)) else (bif ((a_inb (x8 + (nI 1)) 300)) then (some (23, [some (.ref 93), some (.ref o1), some (.int x2), some (.int x3), some (.ref 2), some (.int x5), some (.int x6), some (.int x7), some (.int (a_max (x8 + (nI 1)) (d o1 ((x8 + (nI 1))).toNatClampNeg))), some (.int (x9 + (nI 1))), some (.int (d o1 (x8).toNatClampNeg)), some (.int (nI 1))], d, e)) else none))) else ((FX1_pop d e).bind fun q25 => (if q25.1 = 0 then (if (nI 1) = 0 then (some (23, [some (.ref 93), some (.ref o1), some (.int x2), some (.int x3), some (.ref 2), some (.int x5), some (.int x6), some (.int x7), some (.int ((x8 + (nI 1)) + (nI 1))), some (.int (x9 + (nI 1))), some (.int (d o1 (x8).toNatClampNeg)), some (.int (nI 1))], q25.2.1, q25.2.2)) else (if x7 ≤ (x8 + (nI 1)) then (some (23, [some (.ref 93), some (.ref o1), some (.int x2), some (.int x3), some (.ref 2), some (.int x5), some (.int x6), some (.int x7), some (.int ((x8 + (nI 1)) + (nI 1))), some (.int (x9 + (nI 1))), some (.int (d o1 (x8).toNatClampNeg)), some (.int (nI 1))], q25.2.1, q25.2.2)) else (bif ((a_inb (x8 + (nI 1)) 300)) then (some (23, [some (.ref 93), some (.ref o1), some (.int x2), some (.int x3), some (.ref 2), some (.int x5), some (.int x6), some (.int x7), some (.int (a_max (x8 + (nI 1)) (q25.2.1 o1 ((x8 + (nI 1))).toNatClampNeg))), some (.int (x9 + (nI 1))), some (.int (d o1 (x8).toNatClampNeg)), some (.int (nI 1))], q25.2.1, q25.2.2)) else none))) else (if (nI 0) = 0 then (some (23, [some (.ref 93), some (.ref o1), some (.int x2), some (.int x3), some (.ref 2), some (.int x5), some (.int x6), some (.int x7), some (.int ((x8 + (nI 1)) + (nI 1))), some (.int (x9 + (nI 1))), some (.int (d o1 (x8).toNatClampNeg)), some (.int (nI 0))], q25.2.1, q25.2.2)) else (if x7 ≤ (x8 + (nI 1)) then (some (23, [some (.ref 93), some (.ref o1), some (.int x2), some (.int x3), some (.ref 2), some (.int x5), some (.int x6), some (.int x7), some (.int ((x8 + (nI 1)) + (nI 1))), some (.int (x9 + (nI 1))), some (.int (d o1 (x8).toNatClampNeg)), some (.int (nI 0))], q25.2.1, q25.2.2)) else (bif ((a_inb (x8 + (nI 1)) 300)) then (some (23, [some (.ref 93), some (.ref o1), some (.int x2), some (.int x3), some (.ref 2), some (.int x5), some (.int x6), some (.int x7), some (.int (a_max (x8 + (nI 1)) (q25.2.1 o1 ((x8 + (nI 1))).toNatClampNeg))), some (.int (x9 + (nI 1))), some (.int (d o1 (x8).toNatClampNeg)), some (.int (nI 0))], q25.2.1, q25.2.2)) else none)))))) else ((FX1_isName d e (d o1 (x8).toNatClampNeg)).bind fun q33 => (if q33.1 = 0 then (if (d o1 (x8).toNatClampNeg) = (nI 5) then ((FX1_pop q33.2.1 q33.2.2).bind fun q36 => ((FX1_ofOne q36.2.1 q36.2.2 (d o1 (x8).toNatClampNeg) q36.1).bind fun q37 => ((FX1_push q37.2.1 q37.2.2 q37.1).bind fun q38 => (some (23, [some (.ref 93), some (.ref o1), some (.int x2), some (.int x3), some (.ref 2), some (.int x5), some (.int x6), some (.int x7), some (.int (x8 + (nI 1))), some (.int (x9 + (nI 1))), some (.int (d o1 (x8).toNatClampNeg)), v11], q38.2.1, q38.2.2))))) else (if (d o1 (x8).toNatClampNeg) = (nI 320) then ((FX1_pop q33.2.1 q33.2.2).bind fun q40 => ((FX1_ofOne q40.2.1 q40.2.2 (d o1 (x8).toNatClampNeg) q40.1).bind fun q41 => ((FX1_push q41.2.1 q41.2.2 q41.1).bind fun q42 => (some (23, [some (.ref 93), some (.ref o1), some (.int x2), some (.int x3), some (.ref 2), some (.int x5), some (.int x6), some (.int x7), some (.int (x8 + (nI 1))), some (.int (x9 + (nI 1))), some (.int (d o1 (x8).toNatClampNeg)), v11], q42.2.1, q42.2.2))))) else (if (d o1 (x8).toNatClampNeg) = (nI 313) then ((FX1_pop q33.2.1 q33.2.2).bind fun q44 => ((FX1_ofOne q44.2.1 q44.2.2 (d o1 (x8).toNatClampNeg) q44.1).bind fun q45 => ((FX1_push q45.2.1 q45.2.2 q45.1).bind fun q46 => (some (23, [some (.ref 93), some (.ref o1), some (.int x2), some (.int x3), some (.ref 2), some (.int x5), some (.int x6), some (.int x7), some (.int (x8 + (nI 1))), some (.int (x9 + (nI 1))), some (.int (d o1 (x8).toNatClampNeg)), v11], q46.2.1, q46.2.2))))) else ((FX1_pop q33.2.1 q33.2.2).bind fun q47 => ((FX1_pop q47.2.1 q47.2.2).bind fun q48 => ((FX1_ofTwo q48.2.1 q48.2.2 (d o1 (x8).toNatClampNeg) (Int32.toInt64 q48.1) (Int32.toInt64 q47.1)).bind fun q49 => ((FX1_limited q49.2.1 q49.2.2 q49.1).bind fun q50 => ((FX1_push q50.2.1 q50.2.2 q50.1).bind fun q51 => (some (23, [some (.ref 93), some (.ref o1), some (.int x2), some (.int x3), some (.ref 2), some (.int x5), some (.int x6), some (.int x7), some (.int (x8 + (nI 1))), some (.int (x9 + (nI 1))), some (.int (d o1 (x8).toNatClampNeg)), some (.int q47.1)], q51.2.1, q51.2.2)))))))))) else ((FX1_named q33.2.1 q33.2.2 (d o1 (x8).toNatClampNeg) x5 x6).bind fun q52 => ((FX1_push q52.2.1 q52.2.2 q52.1).bind fun q53 => (some (23, [some (.ref 93), some (.ref o1), some (.int x2), some (.int x3), some (.ref 2), some (.int x5), some (.int x6), some (.int x7), some (.int (x8 + (nI 1))), some (.int (x9 + (nI 1))), some (.int (d o1 (x8).toNatClampNeg)), v11], q53.2.1, q53.2.2)))))))) else ((FX1_push d e ((-(nI 1)) - (d o1 (x8).toNatClampNeg))).bind fun q54 => (some (23, [some (.ref 93), some (.ref o1), some (.int x2), some (.int x3), some (.ref 2), some (.int x5), some (.int x6), some (.int x7), some (.int (x8 + (nI 1))), some (.int (x9 + (nI 1))), some (.int (d o1 (x8).toNatClampNeg)), v11], q54.2.1, q54.2.2)))) else none))) else none)
theorem tX1_run_23 {Γ : aG × Launch} {d dF : aI} {e eF : aJ} {o1 : Nat} {x2 : Int32} {x3 : Int32} {x5 : Int32} {x6 : Int32} {x7 : Int32} {x8 : Int32} {x9 : Int32} {v10 : Option Value} {v11 : Option Value} {r : Option Value} {p : Nat × aL × aI × aJ} (h : sX1_run_23 d e o1 x2 x3 x5 x6 x7 x8 x9 v10 v11 = some p) (kc : Nat.beq p.1 100000 = false → Rn Γ (2) mX1_run p.1 p.2.1 [] p.2.2.1 p.2.2.2 r dF eF) (kr : p.1 = 100000 → r = a_rt p.2.1 ∧ dF = p.2.2.1 ∧ eF = p.2.2.2) : Rn Γ (2) mX1_run 23 [some (.ref 93), some (.ref o1), some (.int x2), some (.int x3), some (.ref 2), some (.int x5), some (.int x6), some (.int x7), some (.int x8), some (.int x9), v10, v11] [] d e r dF eF := by
  unfold sX1_run_23 at h
  obtain ⟨ho1x, h⟩ := a_cond h
  have ho1 := of_decide_eq_true ho1x
  refine a_ite h (fun c1 h => ?_) (fun c1 h => ?_)
  · refine bX1_run_23 (fun _ => ?_) (fun z => absurd c1 z)
    obtain ⟨q2, hq2, h⟩ := Option.bind_eq_some_iff.mp h
    refine bX1_run_232 (evX1_pop hq2) (by omega) ?_
    cases h
    obtain ⟨k1, k2, k3⟩ := kr rfl
    exact bX1_run_236 k1 k2 k3
  · refine bX1_run_23 (fun z => absurd z c1) (fun _ => ?_)
    refine a_ite h (fun c3 h => ?_) (fun c3 h => ?_)
    · refine bX1_run_31 (fun _ => ?_) (fun z => absurd c3 z)
      obtain ⟨q4, hq4, h⟩ := Option.bind_eq_some_iff.mp h
      refine bX1_run_232 (evX1_pop hq4) (by omega) ?_
      cases h
      obtain ⟨k1, k2, k3⟩ := kr rfl
      exact bX1_run_236 k1 k2 k3
    · refine bX1_run_31 (fun z => absurd z c3) (fun _ => ?_)
      obtain ⟨g5, h⟩ := a_cond h
      refine a_ite h (fun c6 h => ?_) (fun c6 h => ?_)
      · refine bX1_run_38 ho1 (a_inb_vp g5) (fun _ => ?_) (fun z => absurd c6 z)
        refine a_ite h (fun c7 h => ?_) (fun c7 h => ?_)
        · refine bX1_run_63 (fun _ => ?_) (fun z => absurd c7 z)
          refine a_ite h (fun c8 h => ?_) (fun c8 h => ?_)
          · refine bX1_run_79 (fun _ => ?_) (fun z => absurd c8 z)
            refine bX1_run_94 ?_
            refine a_ite h (fun c9 h => ?_) (fun c9 h => ?_)
            · refine bX1_run_99 (fun _ => ?_) (fun z => absurd c9 z)
              refine bX1_run_125 ?_
              refine bX1_run_129 ?_
              refine bX1_run_226 ?_
              cases h
              exact kc rfl
            · refine bX1_run_99 (fun z => absurd z c9) (fun _ => ?_)
              refine a_ite h (fun c10 h => ?_) (fun c10 h => ?_)
              · refine bX1_run_106 (fun _ => ?_) (fun z => absurd c10 z)
                refine bX1_run_125 ?_
                refine bX1_run_129 ?_
                refine bX1_run_226 ?_
                cases h
                exact kc rfl
              · refine bX1_run_106 (fun z => absurd z c10) (fun _ => ?_)
                obtain ⟨g11, h⟩ := a_cond h
                refine bX1_run_113 ho1 (a_inb_vp g11) ?_
                refine bX1_run_129 ?_
                refine bX1_run_226 ?_
                cases h
                exact kc rfl
          · refine bX1_run_79 (fun z => absurd z c8) (fun _ => ?_)
            obtain ⟨q12, hq12, h⟩ := Option.bind_eq_some_iff.mp h
            refine bX1_run_87 (evX1_pop hq12) (by omega) ?_
            refine a_ite h (fun c13 h => ?_) (fun c13 h => ?_)
            · refine bX1_run_91 (fun z => absurd c13 z) (fun _ => ?_)
              refine bX1_run_94 ?_
              refine a_ite h (fun c14 h => ?_) (fun c14 h => ?_)
              · refine bX1_run_99 (fun _ => ?_) (fun z => absurd c14 z)
                refine bX1_run_125 ?_
                refine bX1_run_129 ?_
                refine bX1_run_226 ?_
                cases h
                exact kc rfl
              · refine bX1_run_99 (fun z => absurd z c14) (fun _ => ?_)
                refine a_ite h (fun c15 h => ?_) (fun c15 h => ?_)
                · refine bX1_run_106 (fun _ => ?_) (fun z => absurd c15 z)
                  refine bX1_run_125 ?_
                  refine bX1_run_129 ?_
                  refine bX1_run_226 ?_
                  cases h
                  exact kc rfl
                · refine bX1_run_106 (fun z => absurd z c15) (fun _ => ?_)
                  obtain ⟨g16, h⟩ := a_cond h
                  refine bX1_run_113 ho1 (a_inb_vp g16) ?_
                  refine bX1_run_129 ?_
                  refine bX1_run_226 ?_
                  cases h
                  exact kc rfl
            · refine bX1_run_91 (fun _ => ?_) (fun z => absurd z c13)
              refine bX1_run_98 ?_
              refine a_ite h (fun c17 h => ?_) (fun c17 h => ?_)
              · refine bX1_run_99 (fun _ => ?_) (fun z => absurd c17 z)
                refine bX1_run_125 ?_
                refine bX1_run_129 ?_
                refine bX1_run_226 ?_
                cases h
                exact kc rfl
              · refine bX1_run_99 (fun z => absurd z c17) (fun _ => ?_)
                refine a_ite h (fun c18 h => ?_) (fun c18 h => ?_)
                · refine bX1_run_106 (fun _ => ?_) (fun z => absurd c18 z)
                  refine bX1_run_125 ?_
                  refine bX1_run_129 ?_
                  refine bX1_run_226 ?_
                  cases h
                  exact kc rfl
                · refine bX1_run_106 (fun z => absurd z c18) (fun _ => ?_)
                  obtain ⟨g19, h⟩ := a_cond h
                  refine bX1_run_113 ho1 (a_inb_vp g19) ?_
                  refine bX1_run_129 ?_
                  refine bX1_run_226 ?_
                  cases h
                  exact kc rfl
        · refine bX1_run_63 (fun z => absurd z c7) (fun _ => ?_)
          refine a_ite h (fun c20 h => ?_) (fun c20 h => ?_)
          · refine bX1_run_71 (fun z => absurd c20 z) (fun _ => ?_)
            refine a_ite h (fun c21 h => ?_) (fun c21 h => ?_)
            · refine bX1_run_79 (fun _ => ?_) (fun z => absurd c21 z)
              refine bX1_run_94 ?_
              refine a_ite h (fun c22 h => ?_) (fun c22 h => ?_)
              · refine bX1_run_99 (fun _ => ?_) (fun z => absurd c22 z)
                refine bX1_run_125 ?_
                refine bX1_run_129 ?_
                refine bX1_run_226 ?_
                cases h
                exact kc rfl
              · refine bX1_run_99 (fun z => absurd z c22) (fun _ => ?_)
                refine a_ite h (fun c23 h => ?_) (fun c23 h => ?_)
                · refine bX1_run_106 (fun _ => ?_) (fun z => absurd c23 z)
                  refine bX1_run_125 ?_
                  refine bX1_run_129 ?_
                  refine bX1_run_226 ?_
                  cases h
                  exact kc rfl
                · refine bX1_run_106 (fun z => absurd z c23) (fun _ => ?_)
                  obtain ⟨g24, h⟩ := a_cond h
                  refine bX1_run_113 ho1 (a_inb_vp g24) ?_
                  refine bX1_run_129 ?_
                  refine bX1_run_226 ?_
                  cases h
                  exact kc rfl
            · refine bX1_run_79 (fun z => absurd z c21) (fun _ => ?_)
              obtain ⟨q25, hq25, h⟩ := Option.bind_eq_some_iff.mp h
              refine bX1_run_87 (evX1_pop hq25) (by omega) ?_
              refine a_ite h (fun c26 h => ?_) (fun c26 h => ?_)
              · refine bX1_run_91 (fun z => absurd c26 z) (fun _ => ?_)
                refine bX1_run_94 ?_
                refine a_ite h (fun c27 h => ?_) (fun c27 h => ?_)
                · refine bX1_run_99 (fun _ => ?_) (fun z => absurd c27 z)
                  refine bX1_run_125 ?_
                  refine bX1_run_129 ?_
                  refine bX1_run_226 ?_
                  cases h
                  exact kc rfl
                · refine bX1_run_99 (fun z => absurd z c27) (fun _ => ?_)
                  refine a_ite h (fun c28 h => ?_) (fun c28 h => ?_)
                  · refine bX1_run_106 (fun _ => ?_) (fun z => absurd c28 z)
                    refine bX1_run_125 ?_
                    refine bX1_run_129 ?_
                    refine bX1_run_226 ?_
                    cases h
                    exact kc rfl
                  · refine bX1_run_106 (fun z => absurd z c28) (fun _ => ?_)
                    obtain ⟨g29, h⟩ := a_cond h
                    refine bX1_run_113 ho1 (a_inb_vp g29) ?_
                    refine bX1_run_129 ?_
                    refine bX1_run_226 ?_
                    cases h
                    exact kc rfl
              · refine bX1_run_91 (fun _ => ?_) (fun z => absurd z c26)
                refine bX1_run_98 ?_
                refine a_ite h (fun c30 h => ?_) (fun c30 h => ?_)
                · refine bX1_run_99 (fun _ => ?_) (fun z => absurd c30 z)
                  refine bX1_run_125 ?_
                  refine bX1_run_129 ?_
                  refine bX1_run_226 ?_
                  cases h
                  exact kc rfl
                · refine bX1_run_99 (fun z => absurd z c30) (fun _ => ?_)
                  refine a_ite h (fun c31 h => ?_) (fun c31 h => ?_)
                  · refine bX1_run_106 (fun _ => ?_) (fun z => absurd c31 z)
                    refine bX1_run_125 ?_
                    refine bX1_run_129 ?_
                    refine bX1_run_226 ?_
                    cases h
                    exact kc rfl
                  · refine bX1_run_106 (fun z => absurd z c31) (fun _ => ?_)
                    obtain ⟨g32, h⟩ := a_cond h
                    refine bX1_run_113 ho1 (a_inb_vp g32) ?_
                    refine bX1_run_129 ?_
                    refine bX1_run_226 ?_
                    cases h
                    exact kc rfl
          · refine bX1_run_71 (fun _ => ?_) (fun z => absurd z c20)
            obtain ⟨q33, hq33, h⟩ := Option.bind_eq_some_iff.mp h
            refine bX1_run_134 (evX1_isName hq33) (by omega) ?_
            refine a_ite h (fun c34 h => ?_) (fun c34 h => ?_)
            · refine bX1_run_139 (fun _ => ?_) (fun z => absurd c34 z)
              refine a_ite h (fun c35 h => ?_) (fun c35 h => ?_)
              · refine bX1_run_160 (fun _ => ?_) (fun z => absurd c35 z)
                obtain ⟨q36, hq36, h⟩ := Option.bind_eq_some_iff.mp h
                refine bX1_run_182 (evX1_pop hq36) (by omega) ?_
                obtain ⟨q37, hq37, h⟩ := Option.bind_eq_some_iff.mp h
                refine bX1_run_189 (evX1_ofOne hq37) (by omega) ?_
                obtain ⟨q38, hq38, h⟩ := Option.bind_eq_some_iff.mp h
                refine bX1_run_194 (evX1_push hq38) (by omega) ?_
                refine bX1_run_197 ?_
                refine bX1_run_226 ?_
                cases h
                exact kc rfl
              · refine bX1_run_160 (fun z => absurd z c35) (fun _ => ?_)
                refine a_ite h (fun c39 h => ?_) (fun c39 h => ?_)
                · refine bX1_run_166 (fun _ => ?_) (fun z => absurd c39 z)
                  obtain ⟨q40, hq40, h⟩ := Option.bind_eq_some_iff.mp h
                  refine bX1_run_182 (evX1_pop hq40) (by omega) ?_
                  obtain ⟨q41, hq41, h⟩ := Option.bind_eq_some_iff.mp h
                  refine bX1_run_189 (evX1_ofOne hq41) (by omega) ?_
                  obtain ⟨q42, hq42, h⟩ := Option.bind_eq_some_iff.mp h
                  refine bX1_run_194 (evX1_push hq42) (by omega) ?_
                  refine bX1_run_197 ?_
                  refine bX1_run_226 ?_
                  cases h
                  exact kc rfl
                · refine bX1_run_166 (fun z => absurd z c39) (fun _ => ?_)
                  refine a_ite h (fun c43 h => ?_) (fun c43 h => ?_)
                  · refine bX1_run_174 (fun z => absurd c43 z) (fun _ => ?_)
                    obtain ⟨q44, hq44, h⟩ := Option.bind_eq_some_iff.mp h
                    refine bX1_run_182 (evX1_pop hq44) (by omega) ?_
                    obtain ⟨q45, hq45, h⟩ := Option.bind_eq_some_iff.mp h
                    refine bX1_run_189 (evX1_ofOne hq45) (by omega) ?_
                    obtain ⟨q46, hq46, h⟩ := Option.bind_eq_some_iff.mp h
                    refine bX1_run_194 (evX1_push hq46) (by omega) ?_
                    refine bX1_run_197 ?_
                    refine bX1_run_226 ?_
                    cases h
                    exact kc rfl
                  · refine bX1_run_174 (fun _ => ?_) (fun z => absurd z c43)
                    obtain ⟨q47, hq47, h⟩ := Option.bind_eq_some_iff.mp h
                    refine bX1_run_200 (evX1_pop hq47) (by omega) ?_
                    obtain ⟨q48, hq48, h⟩ := Option.bind_eq_some_iff.mp h
                    refine bX1_run_204 (evX1_pop hq48) (by omega) ?_
                    obtain ⟨q49, hq49, h⟩ := Option.bind_eq_some_iff.mp h
                    refine bX1_run_213 (evX1_ofTwo hq49) (by omega) ?_
                    obtain ⟨q50, hq50, h⟩ := Option.bind_eq_some_iff.mp h
                    refine bX1_run_220 (evX1_limited hq50) (by omega) ?_
                    obtain ⟨q51, hq51, h⟩ := Option.bind_eq_some_iff.mp h
                    refine bX1_run_223 (evX1_push hq51) (by omega) ?_
                    refine bX1_run_226 ?_
                    cases h
                    exact kc rfl
            · refine bX1_run_139 (fun z => absurd z c34) (fun _ => ?_)
              obtain ⟨q52, hq52, h⟩ := Option.bind_eq_some_iff.mp h
              refine bX1_run_142 (evX1_named hq52) (by omega) ?_
              obtain ⟨q53, hq53, h⟩ := Option.bind_eq_some_iff.mp h
              refine bX1_run_154 (evX1_push hq53) (by omega) ?_
              refine bX1_run_157 ?_
              refine bX1_run_226 ?_
              cases h
              exact kc rfl
      · refine bX1_run_38 ho1 (a_inb_vp g5) (fun z => absurd z c6) (fun _ => ?_)
        obtain ⟨q54, hq54, h⟩ := Option.bind_eq_some_iff.mp h
        refine bX1_run_52 (evX1_push hq54) (by omega) ?_
        refine bX1_run_60 ?_
        refine bX1_run_226 ?_
        cases h
        exact kc rfl

noncomputable def stX1_run (p : Nat × aL × aI × aJ) : Option (Nat × aL × aI × aJ) := match p with
  | (0, [some (.ref 93), some (.ref o1), some (.int x2), some (.int x3), some (.ref 2), some (.int x5), some (.int x6), none, none, none, none, none], d, e) => sX1_run_0 d e o1 x2 x3 x5 x6
  | (23, [some (.ref 93), some (.ref o1), some (.int x2), some (.int x3), some (.ref 2), some (.int x5), some (.int x6), some (.int x7), some (.int x8), some (.int x9), v10, v11], d, e) => sX1_run_23 d e o1 x2 x3 x5 x6 x7 x8 x9 v10 v11
  | _ => none
theorem uX1_run {Γ : aG × Launch} {p p2 : Nat × aL × aI × aJ} {r : Option Value} {dF : aI} {eF : aJ} (h : stX1_run p = some p2) (kc : Nat.beq p2.1 100000 = false → Rn Γ (2) mX1_run p2.1 p2.2.1 [] p2.2.2.1 p2.2.2.2 r dF eF) (kr : p2.1 = 100000 → r = a_rt p2.2.1 ∧ dF = p2.2.2.1 ∧ eF = p2.2.2.2) : Rn Γ (2) mX1_run p.1 p.2.1 [] p.2.2.1 p.2.2.2 r dF eF := by
  unfold stX1_run at h
  split at h
  · exact tX1_run_0 h kc kr
  · exact tX1_run_23 h kc kr
  · cases h
noncomputable def FX1_run (d : aI) (e : aJ) (o1 : Nat) (x2 : Int32) (x3 : Int32) (x5 : Int32) (x6 : Int32) : Option (Int32 × aI × aJ) := (a_run (stX1_run) (0, [some (.ref 93), some (.ref o1), some (.int x2), some (.int x3), some (.ref 2), some (.int x5), some (.int x6), none, none, none, none, none], d, e)).bind a_xI
theorem evX1_run {Γ : aG × Launch} {d : aI} {e : aJ} {o1 : Nat} {x2 : Int32} {x3 : Int32} {x5 : Int32} {x6 : Int32} {q : Int32 × aI × aJ} (h : FX1_run d e o1 x2 x3 x5 x6 = some q) : Ev Γ (2) mX1_run [.ref 93, .ref o1, .int x2, .int x3, .ref 2, .int x5, .int x6] d e (some (.int q.1)) q.2.1 q.2.2 := by
  refine Ev.of (by decide) rfl (Nat.le_of_ble_eq_true rfl) (fun z => by cases z) ?_
  show Rn Γ (2) mX1_run 0 [some (.ref 93), some (.ref o1), some (.int x2), some (.int x3), some (.ref 2), some (.int x5), some (.int x6), none, none, none, none, none] [] d e _ _ _
  obtain ⟨q1, h1, h2⟩ := Option.bind_eq_some_iff.mp h
  obtain ⟨e1, e2, e3⟩ := a_xI_rt h2
  exact Rn.cast (a_run_ok (uX1_run) rfl h1) e1.symm e2.symm e3.symm
noncomputable def sX4_least_0 (d : aI) (e : aJ) (x2 : Int32) (x3 : Int32) : Option (Nat × aL × aI × aJ) := ((FJbit d e x3).bind fun q1 => (if x2 < q1.1 then (some (100000, [some (.int (nI 1000))], q1.2.1, q1.2.2)) else (if (q1.2.1 95 6) ≤ ((q1.1 + (q1.2.1 95 4)) - x2) then ((FX4_cell q1.2.1 q1.2.2 (x2 + (nI 1)) x3).bind fun q4 => (bif ((a_inb q4.1 448)) then (some (49, [some (.ref 95), some (.ref 2), some (.int x2), some (.int x3), some (.int q1.1), some (.int (q4.2.1 96 (q4.1).toNatClampNeg)), some (.int (nI 0))], q4.2.1, q4.2.2)) else none)) else (some (100000, [some (.int (nI 1000))], q1.2.1, q1.2.2)))))
theorem tX4_least_0 {Γ : aG × Launch} {d dF : aI} {e eF : aJ} {x2 : Int32} {x3 : Int32} {r : Option Value} {p : Nat × aL × aI × aJ} (h : sX4_least_0 d e x2 x3 = some p) (kc : Nat.beq p.1 100000 = false → Rn Γ (3) mX4_least p.1 p.2.1 [] p.2.2.1 p.2.2.2 r dF eF) (kr : p.1 = 100000 → r = a_rt p.2.1 ∧ dF = p.2.2.1 ∧ eF = p.2.2.2) : Rn Γ (3) mX4_least 0 [some (.ref 95), some (.ref 2), some (.int x2), some (.int x3), none, none, none] [] d e r dF eF := by
  unfold sX4_least_0 at h
  refine bX4_least_0 ?_
  obtain ⟨q1, hq1, h⟩ := Option.bind_eq_some_iff.mp h
  refine jX4_least_1 (evJbit hq1) (by omega) ?_
  refine a_ite h (fun c2 h => ?_) (fun c2 h => ?_)
  · refine bX4_least_4 (fun _ => ?_) (fun z => absurd c2 z)
    cases h
    obtain ⟨k1, k2, k3⟩ := kr rfl
    exact bX4_least_28 k1 k2 k3
  · refine bX4_least_4 (fun z => absurd z c2) (fun _ => ?_)
    refine a_ite h (fun c3 h => ?_) (fun c3 h => ?_)
    · refine bX4_least_12 (fun _ => ?_) (fun z => absurd c3 z)
      obtain ⟨q4, hq4, h⟩ := Option.bind_eq_some_iff.mp h
      refine bX4_least_32 (evX4_cell hq4) (by omega) ?_
      obtain ⟨g5, h⟩ := a_cond h
      refine bX4_least_43 (a_inb_vp g5) ?_
      cases h
      exact kc rfl
    · refine bX4_least_12 (fun z => absurd z c3) (fun _ => ?_)
      cases h
      obtain ⟨k1, k2, k3⟩ := kr rfl
      exact bX4_least_28 k1 k2 k3

noncomputable def sX4_least_49 (d : aI) (e : aJ) (x2 : Int32) (x3 : Int32) (x4 : Int32) (x5 : Int32) (x6 : Int32) : Option (Nat × aL × aI × aJ) := (if (d 95 3) ≤ x6 then (some (100000, [some (.int x5)], d, e)) else ((FX10_hasBit d e x3 x6).bind fun q2 => (if q2.1 = 0 then ((FX4_paired q2.2.1 q2.2.2 x2 x3 x6).bind fun q4 => (some (49, [some (.ref 95), some (.ref 2), some (.int x2), some (.int x3), some (.int x4), some (.int (a_min x5 q4.1)), some (.int (x6 + (nI 1)))], q4.2.1, q4.2.2))) else (some (49, [some (.ref 95), some (.ref 2), some (.int x2), some (.int x3), some (.int x4), some (.int x5), some (.int (x6 + (nI 1)))], q2.2.1, q2.2.2)))))
theorem tX4_least_49 {Γ : aG × Launch} {d dF : aI} {e eF : aJ} {x2 : Int32} {x3 : Int32} {x4 : Int32} {x5 : Int32} {x6 : Int32} {r : Option Value} {p : Nat × aL × aI × aJ} (h : sX4_least_49 d e x2 x3 x4 x5 x6 = some p) (kc : Nat.beq p.1 100000 = false → Rn Γ (3) mX4_least p.1 p.2.1 [] p.2.2.1 p.2.2.2 r dF eF) (kr : p.1 = 100000 → r = a_rt p.2.1 ∧ dF = p.2.2.1 ∧ eF = p.2.2.2) : Rn Γ (3) mX4_least 49 [some (.ref 95), some (.ref 2), some (.int x2), some (.int x3), some (.int x4), some (.int x5), some (.int x6)] [] d e r dF eF := by
  unfold sX4_least_49 at h
  refine a_ite h (fun c1 h => ?_) (fun c1 h => ?_)
  · refine bX4_least_49 (fun _ => ?_) (fun z => absurd c1 z)
    cases h
    obtain ⟨k1, k2, k3⟩ := kr rfl
    exact bX4_least_89 k1 k2 k3
  · refine bX4_least_49 (fun z => absurd z c1) (fun _ => ?_)
    obtain ⟨q2, hq2, h⟩ := Option.bind_eq_some_iff.mp h
    refine bX4_least_58 (evX10_hasBit hq2) (by omega) ?_
    refine a_ite h (fun c3 h => ?_) (fun c3 h => ?_)
    · refine bX4_least_64 (fun z => absurd c3 z) (fun _ => ?_)
      obtain ⟨q4, hq4, h⟩ := Option.bind_eq_some_iff.mp h
      refine bX4_least_67 (evX4_paired hq4) (by omega) ?_
      refine bX4_least_78 ?_
      refine bX4_least_83 ?_
      cases h
      exact kc rfl
    · refine bX4_least_64 (fun _ => ?_) (fun z => absurd z c3)
      refine bX4_least_83 ?_
      cases h
      exact kc rfl

noncomputable def stX4_least (p : Nat × aL × aI × aJ) : Option (Nat × aL × aI × aJ) := match p with
  | (0, [some (.ref 95), some (.ref 2), some (.int x2), some (.int x3), none, none, none], d, e) => sX4_least_0 d e x2 x3
  | (49, [some (.ref 95), some (.ref 2), some (.int x2), some (.int x3), some (.int x4), some (.int x5), some (.int x6)], d, e) => sX4_least_49 d e x2 x3 x4 x5 x6
  | _ => none
theorem uX4_least {Γ : aG × Launch} {p p2 : Nat × aL × aI × aJ} {r : Option Value} {dF : aI} {eF : aJ} (h : stX4_least p = some p2) (kc : Nat.beq p2.1 100000 = false → Rn Γ (3) mX4_least p2.1 p2.2.1 [] p2.2.2.1 p2.2.2.2 r dF eF) (kr : p2.1 = 100000 → r = a_rt p2.2.1 ∧ dF = p2.2.2.1 ∧ eF = p2.2.2.2) : Rn Γ (3) mX4_least p.1 p.2.1 [] p.2.2.1 p.2.2.2 r dF eF := by
  unfold stX4_least at h
  split at h
  · exact tX4_least_0 h kc kr
  · exact tX4_least_49 h kc kr
  · cases h
noncomputable def FX4_least (d : aI) (e : aJ) (x2 : Int32) (x3 : Int32) : Option (Int32 × aI × aJ) := (a_run (stX4_least) (0, [some (.ref 95), some (.ref 2), some (.int x2), some (.int x3), none, none, none], d, e)).bind a_xI
theorem evX4_least {Γ : aG × Launch} {d : aI} {e : aJ} {x2 : Int32} {x3 : Int32} {q : Int32 × aI × aJ} (h : FX4_least d e x2 x3 = some q) : Ev Γ (3) mX4_least [.ref 95, .ref 2, .int x2, .int x3] d e (some (.int q.1)) q.2.1 q.2.2 := by
  refine Ev.of (by decide) rfl (Nat.le_of_ble_eq_true rfl) (fun z => by cases z) ?_
  show Rn Γ (3) mX4_least 0 [some (.ref 95), some (.ref 2), some (.int x2), some (.int x3), none, none, none] [] d e _ _ _
  obtain ⟨q1, h1, h2⟩ := Option.bind_eq_some_iff.mp h
  obtain ⟨e1, e2, e3⟩ := a_xI_rt h2
  exact Rn.cast (a_run_ok (uX4_least) rfl h1) e1.symm e2.symm e3.symm
noncomputable def sX4_partner_0 (d : aI) (e : aJ) (x2 : Int32) : Option (Nat × aL × aI × aJ) := (some (5, [some (.ref 95), some (.ref 2), some (.int x2), some (.int (nI 0)), some (.int (nI 0)), none], d, e))
theorem tX4_partner_0 {Γ : aG × Launch} {d dF : aI} {e eF : aJ} {x2 : Int32} {r : Option Value} {p : Nat × aL × aI × aJ} (h : sX4_partner_0 d e x2 = some p) (kc : Nat.beq p.1 100000 = false → Rn Γ (4) mX4_partner p.1 p.2.1 [] p.2.2.1 p.2.2.2 r dF eF) (kr : p.1 = 100000 → r = a_rt p.2.1 ∧ dF = p.2.2.1 ∧ eF = p.2.2.2) : Rn Γ (4) mX4_partner 0 [some (.ref 95), some (.ref 2), some (.int x2), none, none, none] [] d e r dF eF := by
  unfold sX4_partner_0 at h
  refine bX4_partner_0 ?_
  cases h
  exact kc rfl

noncomputable def sX4_partner_5 (d : aI) (e : aJ) (x2 : Int32) (x3 : Int32) (x4 : Int32) (v5 : Option Value) : Option (Nat × aL × aI × aJ) := (if (d 95 4) ≤ x4 then (some (100000, [some (.int (-(nI 1)))], d, e)) else ((FX4_chosen d e x4 x3).bind fun q2 => (bif ((a_inb x4 6)) then (if (q2.2.1 98 (x4).toNatClampNeg) = x2 then (if q2.1 = (-(nI 1)) then (some (100000, [some (.int (-(nI 1)))], q2.2.1, q2.2.2)) else (bif ((a_inb q2.1 6)) then (some (100000, [some (.int (q2.2.1 97 (q2.1).toNatClampNeg))], q2.2.1, q2.2.2)) else none)) else (if q2.1 = (-(nI 1)) then (some (5, [some (.ref 95), some (.ref 2), some (.int x2), some (.int (x3 ||| (nI 0))), some (.int (x4 + (nI 1))), some (.int q2.1)], q2.2.1, q2.2.2)) else (some (5, [some (.ref 95), some (.ref 2), some (.int x2), some (.int (x3 ||| (a_shl (nI 1) q2.1))), some (.int (x4 + (nI 1))), some (.int q2.1)], q2.2.1, q2.2.2)))) else none)))
theorem tX4_partner_5 {Γ : aG × Launch} {d dF : aI} {e eF : aJ} {x2 : Int32} {x3 : Int32} {x4 : Int32} {v5 : Option Value} {r : Option Value} {p : Nat × aL × aI × aJ} (h : sX4_partner_5 d e x2 x3 x4 v5 = some p) (kc : Nat.beq p.1 100000 = false → Rn Γ (4) mX4_partner p.1 p.2.1 [] p.2.2.1 p.2.2.2 r dF eF) (kr : p.1 = 100000 → r = a_rt p.2.1 ∧ dF = p.2.2.1 ∧ eF = p.2.2.2) : Rn Γ (4) mX4_partner 5 [some (.ref 95), some (.ref 2), some (.int x2), some (.int x3), some (.int x4), v5] [] d e r dF eF := by
  unfold sX4_partner_5 at h
  refine a_ite h (fun c1 h => ?_) (fun c1 h => ?_)
  · refine bX4_partner_5 (fun _ => ?_) (fun z => absurd c1 z)
    cases h
    obtain ⟨k1, k2, k3⟩ := kr rfl
    exact bX4_partner_76 k1 k2 k3
  · refine bX4_partner_5 (fun z => absurd z c1) (fun _ => ?_)
    obtain ⟨q2, hq2, h⟩ := Option.bind_eq_some_iff.mp h
    refine bX4_partner_14 (evX4_chosen hq2) (by omega) ?_
    obtain ⟨g3, h⟩ := a_cond h
    refine a_ite h (fun c4 h => ?_) (fun c4 h => ?_)
    · refine bX4_partner_22 (a_inb_vp g3) (fun z => absurd c4 z) (fun _ => ?_)
      refine a_ite h (fun c5 h => ?_) (fun c5 h => ?_)
      · refine bX4_partner_35 (fun z => absurd c5 z) (fun _ => ?_)
        refine bX4_partner_41 ?_
        cases h
        obtain ⟨k1, k2, k3⟩ := kr rfl
        exact bX4_partner_52 k1 k2 k3
      · refine bX4_partner_35 (fun _ => ?_) (fun z => absurd z c5)
        obtain ⟨g6, h⟩ := a_cond h
        refine bX4_partner_45 (a_inb_vp g6) ?_
        cases h
        obtain ⟨k1, k2, k3⟩ := kr rfl
        exact bX4_partner_52 k1 k2 k3
    · refine bX4_partner_22 (a_inb_vp g3) (fun _ => ?_) (fun z => absurd z c4)
      refine a_ite h (fun c7 h => ?_) (fun c7 h => ?_)
      · refine bX4_partner_53 (fun z => absurd c7 z) (fun _ => ?_)
        refine bX4_partner_60 ?_
        refine bX4_partner_68 ?_
        cases h
        exact kc rfl
      · refine bX4_partner_53 (fun _ => ?_) (fun z => absurd z c7)
        refine bX4_partner_64 ?_
        refine bX4_partner_68 ?_
        cases h
        exact kc rfl

noncomputable def stX4_partner (p : Nat × aL × aI × aJ) : Option (Nat × aL × aI × aJ) := match p with
  | (0, [some (.ref 95), some (.ref 2), some (.int x2), none, none, none], d, e) => sX4_partner_0 d e x2
  | (5, [some (.ref 95), some (.ref 2), some (.int x2), some (.int x3), some (.int x4), v5], d, e) => sX4_partner_5 d e x2 x3 x4 v5
  | _ => none
theorem uX4_partner {Γ : aG × Launch} {p p2 : Nat × aL × aI × aJ} {r : Option Value} {dF : aI} {eF : aJ} (h : stX4_partner p = some p2) (kc : Nat.beq p2.1 100000 = false → Rn Γ (4) mX4_partner p2.1 p2.2.1 [] p2.2.2.1 p2.2.2.2 r dF eF) (kr : p2.1 = 100000 → r = a_rt p2.2.1 ∧ dF = p2.2.2.1 ∧ eF = p2.2.2.2) : Rn Γ (4) mX4_partner p.1 p.2.1 [] p.2.2.1 p.2.2.2 r dF eF := by
  unfold stX4_partner at h
  split at h
  · exact tX4_partner_0 h kc kr
  · exact tX4_partner_5 h kc kr
  · cases h
noncomputable def FX4_partner (d : aI) (e : aJ) (x2 : Int32) : Option (Int32 × aI × aJ) := (a_run (stX4_partner) (0, [some (.ref 95), some (.ref 2), some (.int x2), none, none, none], d, e)).bind a_xI
theorem evX4_partner {Γ : aG × Launch} {d : aI} {e : aJ} {x2 : Int32} {q : Int32 × aI × aJ} (h : FX4_partner d e x2 = some q) : Ev Γ (4) mX4_partner [.ref 95, .ref 2, .int x2] d e (some (.int q.1)) q.2.1 q.2.2 := by
  refine Ev.of (by decide) rfl (Nat.le_of_ble_eq_true rfl) (fun z => by cases z) ?_
  show Rn Γ (4) mX4_partner 0 [some (.ref 95), some (.ref 2), some (.int x2), none, none, none] [] d e _ _ _
  obtain ⟨q1, h1, h2⟩ := Option.bind_eq_some_iff.mp h
  obtain ⟨e1, e2, e3⟩ := a_xI_rt h2
  exact Rn.cast (a_run_ok (uX4_partner) rfl h1) e1.symm e2.symm e3.symm
noncomputable def FX5_scanToken (d : aI) (e : aJ) (x1 : Int32) : Option (Int32 × aI × aJ) := (bif ((a_inb x1 300) && (a_inb (d 83 8) 301) && (a_inb (d 83 8) 301)) then ((FX5_isLetter (uI (uI d 86 ((d 83 8)).toNatClampNeg x1) 87 ((d 83 8)).toNatClampNeg (nI 0)) e (d 84 (x1).toNatClampNeg)).bind fun q2 => (if q2.1 = 0 then ((FX5_isDigit q2.2.1 q2.2.2 (d 84 (x1).toNatClampNeg)).bind fun q4 => (if q4.1 = 0 then (if (d 84 (x1).toNatClampNeg) = (nI 60) then (if (q4.2.1 83 2) ≤ (x1 + (nI 1)) then ((FSidx q4.2.1 q4.2.2 (a_i2c (d 84 (x1).toNatClampNeg))).bind fun q8 => (if q8.1 < 0 then (bif ((a_inb (q4.2.1 83 8) 301)) then (some ((x1 + (nI 1)), (uI (uI q8.2.1 85 ((q4.2.1 83 8)).toNatClampNeg (nI 2)) 83 8 (((uI q8.2.1 85 ((q4.2.1 83 8)).toNatClampNeg (nI 2)) 83 8) + (nI 1))), q8.2.2)) else none) else (bif ((a_inb (q4.2.1 83 8) 301)) then (some ((x1 + (nI 1)), (uI (uI q8.2.1 85 ((q4.2.1 83 8)).toNatClampNeg (d 84 (x1).toNatClampNeg)) 83 8 (((uI q8.2.1 85 ((q4.2.1 83 8)).toNatClampNeg (d 84 (x1).toNatClampNeg)) 83 8) + (nI 1))), q8.2.2)) else none))) else (bif ((a_inb (x1 + (nI 1)) 300)) then (if (q4.2.1 84 ((x1 + (nI 1))).toNatClampNeg) = (nI 61) then (if (d 84 (x1).toNatClampNeg) = (nI 60) then (bif ((a_inb (q4.2.1 83 8) 301)) then (some (((x1 + (nI 1)) + (nI 1)), (uI (uI q4.2.1 85 ((q4.2.1 83 8)).toNatClampNeg (nI 3)) 83 8 (((uI q4.2.1 85 ((q4.2.1 83 8)).toNatClampNeg (nI 3)) 83 8) + (nI 1))), q4.2.2)) else none) else (bif ((a_inb (q4.2.1 83 8) 301)) then (some (((x1 + (nI 1)) + (nI 1)), (uI (uI q4.2.1 85 ((q4.2.1 83 8)).toNatClampNeg (nI 4)) 83 8 (((uI q4.2.1 85 ((q4.2.1 83 8)).toNatClampNeg (nI 4)) 83 8) + (nI 1))), q4.2.2)) else none)) else ((FSidx q4.2.1 q4.2.2 (a_i2c (d 84 (x1).toNatClampNeg))).bind fun q17 => (if q17.1 < 0 then (bif ((a_inb (q4.2.1 83 8) 301)) then (some ((x1 + (nI 1)), (uI (uI q17.2.1 85 ((q4.2.1 83 8)).toNatClampNeg (nI 2)) 83 8 (((uI q17.2.1 85 ((q4.2.1 83 8)).toNatClampNeg (nI 2)) 83 8) + (nI 1))), q17.2.2)) else none) else (bif ((a_inb (q4.2.1 83 8) 301)) then (some ((x1 + (nI 1)), (uI (uI q17.2.1 85 ((q4.2.1 83 8)).toNatClampNeg (d 84 (x1).toNatClampNeg)) 83 8 (((uI q17.2.1 85 ((q4.2.1 83 8)).toNatClampNeg (d 84 (x1).toNatClampNeg)) 83 8) + (nI 1))), q17.2.2)) else none)))) else none)) else (if (d 84 (x1).toNatClampNeg) = (nI 62) then (if (q4.2.1 83 2) ≤ (x1 + (nI 1)) then ((FSidx q4.2.1 q4.2.2 (a_i2c (d 84 (x1).toNatClampNeg))).bind fun q23 => (if q23.1 < 0 then (bif ((a_inb (q4.2.1 83 8) 301)) then (some ((x1 + (nI 1)), (uI (uI q23.2.1 85 ((q4.2.1 83 8)).toNatClampNeg (nI 2)) 83 8 (((uI q23.2.1 85 ((q4.2.1 83 8)).toNatClampNeg (nI 2)) 83 8) + (nI 1))), q23.2.2)) else none) else (bif ((a_inb (q4.2.1 83 8) 301)) then (some ((x1 + (nI 1)), (uI (uI q23.2.1 85 ((q4.2.1 83 8)).toNatClampNeg (d 84 (x1).toNatClampNeg)) 83 8 (((uI q23.2.1 85 ((q4.2.1 83 8)).toNatClampNeg (d 84 (x1).toNatClampNeg)) 83 8) + (nI 1))), q23.2.2)) else none))) else (bif ((a_inb (x1 + (nI 1)) 300)) then (if (q4.2.1 84 ((x1 + (nI 1))).toNatClampNeg) = (nI 61) then (if (d 84 (x1).toNatClampNeg) = (nI 60) then (bif ((a_inb (q4.2.1 83 8) 301)) then (some (((x1 + (nI 1)) + (nI 1)), (uI (uI q4.2.1 85 ((q4.2.1 83 8)).toNatClampNeg (nI 3)) 83 8 (((uI q4.2.1 85 ((q4.2.1 83 8)).toNatClampNeg (nI 3)) 83 8) + (nI 1))), q4.2.2)) else none) else (bif ((a_inb (q4.2.1 83 8) 301)) then (some (((x1 + (nI 1)) + (nI 1)), (uI (uI q4.2.1 85 ((q4.2.1 83 8)).toNatClampNeg (nI 4)) 83 8 (((uI q4.2.1 85 ((q4.2.1 83 8)).toNatClampNeg (nI 4)) 83 8) + (nI 1))), q4.2.2)) else none)) else ((FSidx q4.2.1 q4.2.2 (a_i2c (d 84 (x1).toNatClampNeg))).bind fun q32 => (if q32.1 < 0 then (bif ((a_inb (q4.2.1 83 8) 301)) then (some ((x1 + (nI 1)), (uI (uI q32.2.1 85 ((q4.2.1 83 8)).toNatClampNeg (nI 2)) 83 8 (((uI q32.2.1 85 ((q4.2.1 83 8)).toNatClampNeg (nI 2)) 83 8) + (nI 1))), q32.2.2)) else none) else (bif ((a_inb (q4.2.1 83 8) 301)) then (some ((x1 + (nI 1)), (uI (uI q32.2.1 85 ((q4.2.1 83 8)).toNatClampNeg (d 84 (x1).toNatClampNeg)) 83 8 (((uI q32.2.1 85 ((q4.2.1 83 8)).toNatClampNeg (d 84 (x1).toNatClampNeg)) 83 8) + (nI 1))), q32.2.2)) else none)))) else none)) else ((FSidx q4.2.1 q4.2.2 (a_i2c (d 84 (x1).toNatClampNeg))).bind fun q36 => (if q36.1 < 0 then (bif ((a_inb (q4.2.1 83 8) 301)) then (some ((x1 + (nI 1)), (uI (uI q36.2.1 85 ((q4.2.1 83 8)).toNatClampNeg (nI 2)) 83 8 (((uI q36.2.1 85 ((q4.2.1 83 8)).toNatClampNeg (nI 2)) 83 8) + (nI 1))), q36.2.2)) else none) else (bif ((a_inb (q4.2.1 83 8) 301)) then (some ((x1 + (nI 1)), (uI (uI q36.2.1 85 ((q4.2.1 83 8)).toNatClampNeg (d 84 (x1).toNatClampNeg)) 83 8 (((uI q36.2.1 85 ((q4.2.1 83 8)).toNatClampNeg (d 84 (x1).toNatClampNeg)) 83 8) + (nI 1))), q36.2.2)) else none))))) else ((FX5_scanNumber q4.2.1 q4.2.2 x1).bind fun q40 => (some (q40.1, (uI q40.2.1 83 8 ((q40.2.1 83 8) + (nI 1))), q40.2.2))))) else ((FX5_scanWord q2.2.1 q2.2.2 x1).bind fun q41 => (some (q41.1, (uI q41.2.1 83 8 ((q41.2.1 83 8) + (nI 1))), q41.2.2))))) else none)
theorem evX5_scanToken {Γ : aG × Launch} {d : aI} {e : aJ} {x1 : Int32} {q : Int32 × aI × aJ} (h : FX5_scanToken d e x1 = some q) : Ev Γ (8) mX5_scanToken [.ref 83, .int x1] d e (some (.int q.1)) q.2.1 q.2.2 := by
  refine Ev.of (by decide) rfl (Nat.le_of_ble_eq_true rfl) (fun z => by cases z) ?_
  show Rn Γ (8) mX5_scanToken 0 [some (.ref 83), some (.int x1), none, none] [] d e _ _ _
  unfold FX5_scanToken at h
  obtain ⟨g1, h⟩ := a_cond h
  obtain ⟨g1x2, g1_2⟩ := a_and g1
  obtain ⟨g1x1, g1_1⟩ := a_and g1x2
  have g1_0 := g1x1
  obtain ⟨q2, hq2, h⟩ := Option.bind_eq_some_iff.mp h
  refine bX5_scanToken_0 ⟨(a_inb_vp g1_0), (a_inb_vp g1_1), (a_inb_vp g1_2)⟩ (evX5_isLetter hq2) (by omega) ?_
  refine a_ite h (fun c3 h => ?_) (fun c3 h => ?_)
  · refine bX5_scanToken_35 (fun _ => ?_) (fun z => absurd c3 z)
    obtain ⟨q4, hq4, h⟩ := Option.bind_eq_some_iff.mp h
    refine bX5_scanToken_47 (evX5_isDigit hq4) (by omega) ?_
    refine a_ite h (fun c5 h => ?_) (fun c5 h => ?_)
    · refine bX5_scanToken_51 (fun _ => ?_) (fun z => absurd c5 z)
      refine a_ite h (fun c6 h => ?_) (fun c6 h => ?_)
      · refine bX5_scanToken_63 (fun _ => ?_) (fun z => absurd c6 z)
        refine a_ite h (fun c7 h => ?_) (fun c7 h => ?_)
        · refine bX5_scanToken_75 (fun _ => ?_) (fun z => absurd c7 z)
          refine bX5_scanToken_120 ?_
          obtain ⟨q8, hq8, h⟩ := Option.bind_eq_some_iff.mp h
          refine jX5_scanToken_132 (evSidx hq8) (by omega) ?_
          refine a_ite h (fun c9 h => ?_) (fun c9 h => ?_)
          · refine bX5_scanToken_135 (fun _ => ?_) (fun z => absurd c9 z)
            refine bX5_scanToken_142 ?_
            obtain ⟨g10, h⟩ := a_cond h
            refine bX5_scanToken_143 (a_inb_vp g10) ?_
            cases h
            exact bX5_scanToken_144
          · refine bX5_scanToken_135 (fun z => absurd z c9) (fun _ => ?_)
            refine bX5_scanToken_138 ?_
            obtain ⟨g11, h⟩ := a_cond h
            refine bX5_scanToken_143 (a_inb_vp g11) ?_
            cases h
            exact bX5_scanToken_144
        · refine bX5_scanToken_75 (fun z => absurd z c7) (fun _ => ?_)
          obtain ⟨g12, h⟩ := a_cond h
          refine a_ite h (fun c13 h => ?_) (fun c13 h => ?_)
          · refine bX5_scanToken_83 (a_inb_vp g12) (fun z => absurd c13 z) (fun _ => ?_)
            refine a_ite h (fun c14 h => ?_) (fun c14 h => ?_)
            · refine bX5_scanToken_94 (fun z => absurd c14 z) (fun _ => ?_)
              refine bX5_scanToken_108 ?_
              obtain ⟨g15, h⟩ := a_cond h
              refine bX5_scanToken_113 (a_inb_vp g15) ?_
              cases h
              exact bX5_scanToken_144
            · refine bX5_scanToken_94 (fun _ => ?_) (fun z => absurd z c14)
              refine bX5_scanToken_112 ?_
              obtain ⟨g16, h⟩ := a_cond h
              refine bX5_scanToken_113 (a_inb_vp g16) ?_
              cases h
              exact bX5_scanToken_144
          · refine bX5_scanToken_83 (a_inb_vp g12) (fun _ => ?_) (fun z => absurd z c13)
            refine bX5_scanToken_120 ?_
            obtain ⟨q17, hq17, h⟩ := Option.bind_eq_some_iff.mp h
            refine jX5_scanToken_132 (evSidx hq17) (by omega) ?_
            refine a_ite h (fun c18 h => ?_) (fun c18 h => ?_)
            · refine bX5_scanToken_135 (fun _ => ?_) (fun z => absurd c18 z)
              refine bX5_scanToken_142 ?_
              obtain ⟨g19, h⟩ := a_cond h
              refine bX5_scanToken_143 (a_inb_vp g19) ?_
              cases h
              exact bX5_scanToken_144
            · refine bX5_scanToken_135 (fun z => absurd z c18) (fun _ => ?_)
              refine bX5_scanToken_138 ?_
              obtain ⟨g20, h⟩ := a_cond h
              refine bX5_scanToken_143 (a_inb_vp g20) ?_
              cases h
              exact bX5_scanToken_144
      · refine bX5_scanToken_63 (fun z => absurd z c6) (fun _ => ?_)
        refine a_ite h (fun c21 h => ?_) (fun c21 h => ?_)
        · refine bX5_scanToken_69 (fun z => absurd c21 z) (fun _ => ?_)
          refine a_ite h (fun c22 h => ?_) (fun c22 h => ?_)
          · refine bX5_scanToken_75 (fun _ => ?_) (fun z => absurd c22 z)
            refine bX5_scanToken_120 ?_
            obtain ⟨q23, hq23, h⟩ := Option.bind_eq_some_iff.mp h
            refine jX5_scanToken_132 (evSidx hq23) (by omega) ?_
            refine a_ite h (fun c24 h => ?_) (fun c24 h => ?_)
            · refine bX5_scanToken_135 (fun _ => ?_) (fun z => absurd c24 z)
              refine bX5_scanToken_142 ?_
              obtain ⟨g25, h⟩ := a_cond h
              refine bX5_scanToken_143 (a_inb_vp g25) ?_
              cases h
              exact bX5_scanToken_144
            · refine bX5_scanToken_135 (fun z => absurd z c24) (fun _ => ?_)
              refine bX5_scanToken_138 ?_
              obtain ⟨g26, h⟩ := a_cond h
              refine bX5_scanToken_143 (a_inb_vp g26) ?_
              cases h
              exact bX5_scanToken_144
          · refine bX5_scanToken_75 (fun z => absurd z c22) (fun _ => ?_)
            obtain ⟨g27, h⟩ := a_cond h
            refine a_ite h (fun c28 h => ?_) (fun c28 h => ?_)
            · refine bX5_scanToken_83 (a_inb_vp g27) (fun z => absurd c28 z) (fun _ => ?_)
              refine a_ite h (fun c29 h => ?_) (fun c29 h => ?_)
              · refine bX5_scanToken_94 (fun z => absurd c29 z) (fun _ => ?_)
                refine bX5_scanToken_108 ?_
                obtain ⟨g30, h⟩ := a_cond h
                refine bX5_scanToken_113 (a_inb_vp g30) ?_
                cases h
                exact bX5_scanToken_144
              · refine bX5_scanToken_94 (fun _ => ?_) (fun z => absurd z c29)
                refine bX5_scanToken_112 ?_
                obtain ⟨g31, h⟩ := a_cond h
                refine bX5_scanToken_113 (a_inb_vp g31) ?_
                cases h
                exact bX5_scanToken_144
            · refine bX5_scanToken_83 (a_inb_vp g27) (fun _ => ?_) (fun z => absurd z c28)
              refine bX5_scanToken_120 ?_
              obtain ⟨q32, hq32, h⟩ := Option.bind_eq_some_iff.mp h
              refine jX5_scanToken_132 (evSidx hq32) (by omega) ?_
              refine a_ite h (fun c33 h => ?_) (fun c33 h => ?_)
              · refine bX5_scanToken_135 (fun _ => ?_) (fun z => absurd c33 z)
                refine bX5_scanToken_142 ?_
                obtain ⟨g34, h⟩ := a_cond h
                refine bX5_scanToken_143 (a_inb_vp g34) ?_
                cases h
                exact bX5_scanToken_144
              · refine bX5_scanToken_135 (fun z => absurd z c33) (fun _ => ?_)
                refine bX5_scanToken_138 ?_
                obtain ⟨g35, h⟩ := a_cond h
                refine bX5_scanToken_143 (a_inb_vp g35) ?_
                cases h
                exact bX5_scanToken_144
        · refine bX5_scanToken_69 (fun _ => ?_) (fun z => absurd z c21)
          refine bX5_scanToken_120 ?_
          obtain ⟨q36, hq36, h⟩ := Option.bind_eq_some_iff.mp h
          refine jX5_scanToken_132 (evSidx hq36) (by omega) ?_
          refine a_ite h (fun c37 h => ?_) (fun c37 h => ?_)
          · refine bX5_scanToken_135 (fun _ => ?_) (fun z => absurd c37 z)
            refine bX5_scanToken_142 ?_
            obtain ⟨g38, h⟩ := a_cond h
            refine bX5_scanToken_143 (a_inb_vp g38) ?_
            cases h
            exact bX5_scanToken_144
          · refine bX5_scanToken_135 (fun z => absurd z c37) (fun _ => ?_)
            refine bX5_scanToken_138 ?_
            obtain ⟨g39, h⟩ := a_cond h
            refine bX5_scanToken_143 (a_inb_vp g39) ?_
            cases h
            exact bX5_scanToken_144
    · refine bX5_scanToken_51 (fun z => absurd z c5) (fun _ => ?_)
      obtain ⟨q40, hq40, h⟩ := Option.bind_eq_some_iff.mp h
      refine bX5_scanToken_54 (evX5_scanNumber hq40) (by omega) ?_
      refine bX5_scanToken_59 ?_
      cases h
      exact bX5_scanToken_144
  · refine bX5_scanToken_35 (fun z => absurd z c3) (fun _ => ?_)
    obtain ⟨q41, hq41, h⟩ := Option.bind_eq_some_iff.mp h
    refine bX5_scanToken_38 (evX5_scanWord hq41) (by omega) ?_
    refine bX5_scanToken_43 ?_
    cases h
    exact bX5_scanToken_144

noncomputable def FX5_one (Fo : aI → aJ → Int32 → Option (Unit × aI × aJ)) (d : aI) (e : aJ) (x1 : Int32) : Option (Unit × aI × aJ) := (if (d 83 3) = 0 then (if (d 83 10) = (nI 1) then ((FX5_number d e (nI 0) (nI 9999)).bind fun q3 => ((FX7_put q3.2.1 q3.2.2 ((-(nI 1)) - q3.1)).bind fun q4 => (some ((), q4.2.1, q4.2.2)))) else (if (d 83 10) = (nI 40) then (if x1 < (nI 8) then ((Fo d e (x1 + (nI 1))).bind fun q7 => (some ((), q7.2.1, q7.2.2))) else ((FX5_blame d e (nI 3)).bind fun q8 => (some ((), q8.2.1, q8.2.2)))) else (if (d 83 10) = (nI 45) then (if x1 < (nI 8) then ((Fo d e (x1 + (nI 1))).bind fun q11 => (some ((), q11.2.1, q11.2.2))) else ((FX5_blame d e (nI 3)).bind fun q12 => (some ((), q12.2.1, q12.2.2)))) else (if (d 83 10) = (nI 312) then (if x1 < (nI 8) then ((Fo d e (x1 + (nI 1))).bind fun q15 => (some ((), q15.2.1, q15.2.2))) else ((FX5_blame d e (nI 3)).bind fun q16 => (some ((), q16.2.1, q16.2.2)))) else (if (d 83 10) = (nI 313) then (if x1 < (nI 8) then ((Fo d e (x1 + (nI 1))).bind fun q19 => (some ((), q19.2.1, q19.2.2))) else ((FX5_blame d e (nI 3)).bind fun q20 => (some ((), q20.2.1, q20.2.2)))) else (if (d 83 10) = (nI 314) then (if x1 < (nI 8) then ((Fo d e (x1 + (nI 1))).bind fun q23 => (some ((), q23.2.1, q23.2.2))) else ((FX5_blame d e (nI 3)).bind fun q24 => (some ((), q24.2.1, q24.2.2)))) else ((FX5_name d e).bind fun q25 => (some ((), q25.2.1, q25.2.2))))))))) else (some ((), d, e)))
theorem evX5_one {Γ : aG × Launch} {Fo : aI → aJ → Int32 → Option (Unit × aI × aJ)} {dc : Nat} (hFo : ∀ {d : aI} {e : aJ} {z0 : Int32} {q : Unit × aI × aJ}, Fo d e z0 = some q → Ev Γ dc mX5_opened [.ref 83, .int z0] d e none q.2.1 q.2.2) {d : aI} {e : aJ} {x1 : Int32} {q : Unit × aI × aJ} (h : FX5_one Fo d e x1 = some q) : Ev Γ (dc + 3) mX5_one [.ref 83, .int x1] d e none q.2.1 q.2.2 := by
  refine Ev.of (by decide) rfl (Nat.le_of_ble_eq_true rfl) (fun z => by cases z) ?_
  show Rn Γ (dc + 3) mX5_one 0 [some (.ref 83), some (.int x1)] [] d e _ _ _
  unfold FX5_one at h
  refine a_ite h (fun c1 h => ?_) (fun c1 h => ?_)
  · refine bX5_one_0 (fun _ => ?_) (fun z => absurd c1 z)
    refine a_ite h (fun c2 h => ?_) (fun c2 h => ?_)
    · refine bX5_one_8 (fun n0 _ _ _ _ _ => absurd c2 n0) (fun _ => ?_) (fun z => absurd (c2.symm.trans z) (by decide)) (fun z => absurd (c2.symm.trans z) (by decide)) (fun z => absurd (c2.symm.trans z) (by decide)) (fun z => absurd (c2.symm.trans z) (by decide)) (fun z => absurd (c2.symm.trans z) (by decide))
      obtain ⟨q3, hq3, h⟩ := Option.bind_eq_some_iff.mp h
      refine bX5_one_72 (evX5_number hq3) (by omega) ?_
      obtain ⟨q4, hq4, h⟩ := Option.bind_eq_some_iff.mp h
      refine bX5_one_85 (evX7_put hq4) (by omega) ?_
      refine bX5_one_89 ?_
      cases h
      exact bX5_one_121
    · skip
      refine a_ite h (fun c5 h => ?_) (fun c5 h => ?_)
      · refine bX5_one_8 (fun _ n1 _ _ _ _ => absurd c5 n1) (fun z => absurd z c2) (fun _ => ?_) (fun z => absurd (c5.symm.trans z) (by decide)) (fun z => absurd (c5.symm.trans z) (by decide)) (fun z => absurd (c5.symm.trans z) (by decide)) (fun z => absurd (c5.symm.trans z) (by decide))
        refine a_ite h (fun c6 h => ?_) (fun c6 h => ?_)
        · refine bX5_one_93 (fun _ => ?_) (fun z => absurd c6 z)
          obtain ⟨q7, hq7, h⟩ := Option.bind_eq_some_iff.mp h
          refine bX5_one_107 (hFo hq7) (by omega) ?_
          refine bX5_one_114 ?_
          cases h
          exact bX5_one_121
        · refine bX5_one_93 (fun z => absurd z c6) (fun _ => ?_)
          obtain ⟨q8, hq8, h⟩ := Option.bind_eq_some_iff.mp h
          refine bX5_one_99 (evX5_blame hq8) (by omega) ?_
          refine bX5_one_104 ?_
          cases h
          exact bX5_one_121
      · skip
        refine a_ite h (fun c9 h => ?_) (fun c9 h => ?_)
        · refine bX5_one_8 (fun _ _ n2 _ _ _ => absurd c9 n2) (fun z => absurd z c2) (fun z => absurd z c5) (fun _ => ?_) (fun z => absurd (c9.symm.trans z) (by decide)) (fun z => absurd (c9.symm.trans z) (by decide)) (fun z => absurd (c9.symm.trans z) (by decide))
          refine a_ite h (fun c10 h => ?_) (fun c10 h => ?_)
          · refine bX5_one_93 (fun _ => ?_) (fun z => absurd c10 z)
            obtain ⟨q11, hq11, h⟩ := Option.bind_eq_some_iff.mp h
            refine bX5_one_107 (hFo hq11) (by omega) ?_
            refine bX5_one_114 ?_
            cases h
            exact bX5_one_121
          · refine bX5_one_93 (fun z => absurd z c10) (fun _ => ?_)
            obtain ⟨q12, hq12, h⟩ := Option.bind_eq_some_iff.mp h
            refine bX5_one_99 (evX5_blame hq12) (by omega) ?_
            refine bX5_one_104 ?_
            cases h
            exact bX5_one_121
        · skip
          refine a_ite h (fun c13 h => ?_) (fun c13 h => ?_)
          · refine bX5_one_8 (fun _ _ _ n3 _ _ => absurd c13 n3) (fun z => absurd z c2) (fun z => absurd z c5) (fun z => absurd z c9) (fun _ => ?_) (fun z => absurd (c13.symm.trans z) (by decide)) (fun z => absurd (c13.symm.trans z) (by decide))
            refine a_ite h (fun c14 h => ?_) (fun c14 h => ?_)
            · refine bX5_one_93 (fun _ => ?_) (fun z => absurd c14 z)
              obtain ⟨q15, hq15, h⟩ := Option.bind_eq_some_iff.mp h
              refine bX5_one_107 (hFo hq15) (by omega) ?_
              refine bX5_one_114 ?_
              cases h
              exact bX5_one_121
            · refine bX5_one_93 (fun z => absurd z c14) (fun _ => ?_)
              obtain ⟨q16, hq16, h⟩ := Option.bind_eq_some_iff.mp h
              refine bX5_one_99 (evX5_blame hq16) (by omega) ?_
              refine bX5_one_104 ?_
              cases h
              exact bX5_one_121
          · skip
            refine a_ite h (fun c17 h => ?_) (fun c17 h => ?_)
            · refine bX5_one_8 (fun _ _ _ _ n4 _ => absurd c17 n4) (fun z => absurd z c2) (fun z => absurd z c5) (fun z => absurd z c9) (fun z => absurd z c13) (fun _ => ?_) (fun z => absurd (c17.symm.trans z) (by decide))
              refine a_ite h (fun c18 h => ?_) (fun c18 h => ?_)
              · refine bX5_one_93 (fun _ => ?_) (fun z => absurd c18 z)
                obtain ⟨q19, hq19, h⟩ := Option.bind_eq_some_iff.mp h
                refine bX5_one_107 (hFo hq19) (by omega) ?_
                refine bX5_one_114 ?_
                cases h
                exact bX5_one_121
              · refine bX5_one_93 (fun z => absurd z c18) (fun _ => ?_)
                obtain ⟨q20, hq20, h⟩ := Option.bind_eq_some_iff.mp h
                refine bX5_one_99 (evX5_blame hq20) (by omega) ?_
                refine bX5_one_104 ?_
                cases h
                exact bX5_one_121
            · skip
              refine a_ite h (fun c21 h => ?_) (fun c21 h => ?_)
              · refine bX5_one_8 (fun _ _ _ _ _ n5 => absurd c21 n5) (fun z => absurd z c2) (fun z => absurd z c5) (fun z => absurd z c9) (fun z => absurd z c13) (fun z => absurd z c17) (fun _ => ?_)
                refine a_ite h (fun c22 h => ?_) (fun c22 h => ?_)
                · refine bX5_one_93 (fun _ => ?_) (fun z => absurd c22 z)
                  obtain ⟨q23, hq23, h⟩ := Option.bind_eq_some_iff.mp h
                  refine bX5_one_107 (hFo hq23) (by omega) ?_
                  refine bX5_one_114 ?_
                  cases h
                  exact bX5_one_121
                · refine bX5_one_93 (fun z => absurd z c22) (fun _ => ?_)
                  obtain ⟨q24, hq24, h⟩ := Option.bind_eq_some_iff.mp h
                  refine bX5_one_99 (evX5_blame hq24) (by omega) ?_
                  refine bX5_one_104 ?_
                  cases h
                  exact bX5_one_121
              · skip
                refine bX5_one_8 (fun _ _ _ _ _ _ => ?_) (fun z => absurd z c2) (fun z => absurd z c5) (fun z => absurd z c9) (fun z => absurd z c13) (fun z => absurd z c17) (fun z => absurd z c21)
                obtain ⟨q25, hq25, h⟩ := Option.bind_eq_some_iff.mp h
                refine bX5_one_117 (evX5_name hq25) (by omega) ?_
                cases h
                exact bX5_one_121
  · refine bX5_one_0 (fun z => absurd z c1) (fun _ => ?_)
    cases h
    exact bX5_one_7

noncomputable def sX8_friendsOf_0 (d : aI) (e : aJ) (x1 : Int32) : Option (Nat × aL × aI × aJ) := (some (4, [some (.ref 13), some (.int x1), some (.int (nI 0)), some (.int (nI 0))], d, e))
theorem tX8_friendsOf_0 {Γ : aG × Launch} {d dF : aI} {e eF : aJ} {x1 : Int32} {r : Option Value} {p : Nat × aL × aI × aJ} (h : sX8_friendsOf_0 d e x1 = some p) (kc : Nat.beq p.1 100000 = false → Rn Γ (2) mX8_friendsOf p.1 p.2.1 [] p.2.2.1 p.2.2.2 r dF eF) (kr : p.1 = 100000 → r = a_rt p.2.1 ∧ dF = p.2.2.1 ∧ eF = p.2.2.2) : Rn Γ (2) mX8_friendsOf 0 [some (.ref 13), some (.int x1), none, none] [] d e r dF eF := by
  unfold sX8_friendsOf_0 at h
  refine bX8_friendsOf_0 ?_
  cases h
  exact kc rfl

noncomputable def sX8_friendsOf_4 (d : aI) (e : aJ) (x1 : Int32) (x2 : Int32) (x3 : Int32) : Option (Nat × aL × aI × aJ) := (if (d 13 4) ≤ x3 then (some (100000, [some (.int x2)], d, e)) else ((FX10_canBeOne d e x1 x3).bind fun q2 => (if q2.1 = 0 then (some (4, [some (.ref 13), some (.int x1), some (.int (x2 ||| (nI 0))), some (.int (x3 + (nI 1)))], q2.2.1, q2.2.2)) else (some (4, [some (.ref 13), some (.int x1), some (.int (x2 ||| (a_shl (nI 1) x3))), some (.int (x3 + (nI 1)))], q2.2.1, q2.2.2)))))
theorem tX8_friendsOf_4 {Γ : aG × Launch} {d dF : aI} {e eF : aJ} {x1 : Int32} {x2 : Int32} {x3 : Int32} {r : Option Value} {p : Nat × aL × aI × aJ} (h : sX8_friendsOf_4 d e x1 x2 x3 = some p) (kc : Nat.beq p.1 100000 = false → Rn Γ (2) mX8_friendsOf p.1 p.2.1 [] p.2.2.1 p.2.2.2 r dF eF) (kr : p.1 = 100000 → r = a_rt p.2.1 ∧ dF = p.2.2.1 ∧ eF = p.2.2.2) : Rn Γ (2) mX8_friendsOf 4 [some (.ref 13), some (.int x1), some (.int x2), some (.int x3)] [] d e r dF eF := by
  unfold sX8_friendsOf_4 at h
  refine a_ite h (fun c1 h => ?_) (fun c1 h => ?_)
  · refine bX8_friendsOf_4 (fun _ => ?_) (fun z => absurd c1 z)
    cases h
    obtain ⟨k1, k2, k3⟩ := kr rfl
    exact bX8_friendsOf_37 k1 k2 k3
  · refine bX8_friendsOf_4 (fun z => absurd z c1) (fun _ => ?_)
    obtain ⟨q2, hq2, h⟩ := Option.bind_eq_some_iff.mp h
    refine bX8_friendsOf_12 (evX10_canBeOne hq2) (by omega) ?_
    refine a_ite h (fun c3 h => ?_) (fun c3 h => ?_)
    · refine bX8_friendsOf_19 (fun _ => ?_) (fun z => absurd c3 z)
      refine bX8_friendsOf_28 ?_
      refine bX8_friendsOf_29 ?_
      cases h
      exact kc rfl
    · refine bX8_friendsOf_19 (fun z => absurd z c3) (fun _ => ?_)
      refine bX8_friendsOf_22 ?_
      refine bX8_friendsOf_29 ?_
      cases h
      exact kc rfl

noncomputable def stX8_friendsOf (p : Nat × aL × aI × aJ) : Option (Nat × aL × aI × aJ) := match p with
  | (0, [some (.ref 13), some (.int x1), none, none], d, e) => sX8_friendsOf_0 d e x1
  | (4, [some (.ref 13), some (.int x1), some (.int x2), some (.int x3)], d, e) => sX8_friendsOf_4 d e x1 x2 x3
  | _ => none
theorem uX8_friendsOf {Γ : aG × Launch} {p p2 : Nat × aL × aI × aJ} {r : Option Value} {dF : aI} {eF : aJ} (h : stX8_friendsOf p = some p2) (kc : Nat.beq p2.1 100000 = false → Rn Γ (2) mX8_friendsOf p2.1 p2.2.1 [] p2.2.2.1 p2.2.2.2 r dF eF) (kr : p2.1 = 100000 → r = a_rt p2.2.1 ∧ dF = p2.2.2.1 ∧ eF = p2.2.2.2) : Rn Γ (2) mX8_friendsOf p.1 p.2.1 [] p.2.2.1 p.2.2.2 r dF eF := by
  unfold stX8_friendsOf at h
  split at h
  · exact tX8_friendsOf_0 h kc kr
  · exact tX8_friendsOf_4 h kc kr
  · cases h
noncomputable def FX8_friendsOf (d : aI) (e : aJ) (x1 : Int32) : Option (Int32 × aI × aJ) := (a_run (stX8_friendsOf) (0, [some (.ref 13), some (.int x1), none, none], d, e)).bind a_xI
theorem evX8_friendsOf {Γ : aG × Launch} {d : aI} {e : aJ} {x1 : Int32} {q : Int32 × aI × aJ} (h : FX8_friendsOf d e x1 = some q) : Ev Γ (2) mX8_friendsOf [.ref 13, .int x1] d e (some (.int q.1)) q.2.1 q.2.2 := by
  refine Ev.of (by decide) rfl (Nat.le_of_ble_eq_true rfl) (fun z => by cases z) ?_
  show Rn Γ (2) mX8_friendsOf 0 [some (.ref 13), some (.int x1), none, none] [] d e _ _ _
  obtain ⟨q1, h1, h2⟩ := Option.bind_eq_some_iff.mp h
  obtain ⟨e1, e2, e3⟩ := a_xI_rt h2
  exact Rn.cast (a_run_ok (uX8_friendsOf) rfl h1) e1.symm e2.symm e3.symm
noncomputable def FX10_let (d : aI) (e : aJ) (x1 : Int32) (x2 : Int32) : Option (Int32 × aI × aJ) := ((FX10_enter d e x1 x2 (nI 1)).bind fun q1 => (bif (decide (q1.1 = 0 ∨ q1.1 = 1)) then (some (q1.1, q1.2.1, q1.2.2)) else none))
theorem evX10_let {Γ : aG × Launch} {d : aI} {e : aJ} {x1 : Int32} {x2 : Int32} {q : Int32 × aI × aJ} (h : FX10_let d e x1 x2 = some q) : Ev Γ (4) mX10_let [.ref 0, .int x1, .int x2] d e (some (.int q.1)) q.2.1 q.2.2 := by
  refine Ev.of (by decide) rfl (Nat.le_of_ble_eq_true rfl) (fun z => by cases z) ?_
  show Rn Γ (4) mX10_let 0 [some (.ref 0), some (.int x1), some (.int x2)] [] d e _ _ _
  unfold FX10_let at h
  obtain ⟨q1, hq1, h⟩ := Option.bind_eq_some_iff.mp h
  refine bX10_let_0 (evX10_enter hq1) (by omega) ?_
  obtain ⟨z2, h⟩ := a_cond h
  cases h
  exact bX10_let_7 (a_nz (of_decide_eq_true z2))

noncomputable def FX10_out (d : aI) (e : aJ) (x1 : Int32) : Option (Int32 × aI × aJ) := ((FX10_leave d e x1 (nI 1)).bind fun q1 => (some (q1.1, q1.2.1, q1.2.2)))
theorem evX10_out {Γ : aG × Launch} {d : aI} {e : aJ} {x1 : Int32} {q : Int32 × aI × aJ} (h : FX10_out d e x1 = some q) : Ev Γ (4) mX10_out [.ref 0, .int x1] d e (some (.int q.1)) q.2.1 q.2.2 := by
  refine Ev.of (by decide) rfl (Nat.le_of_ble_eq_true rfl) (fun z => by cases z) ?_
  show Rn Γ (4) mX10_out 0 [some (.ref 0), some (.int x1)] [] d e _ _ _
  unfold FX10_out at h
  obtain ⟨q1, hq1, h⟩ := Option.bind_eq_some_iff.mp h
  refine bX10_out_0 (evX10_leave hq1) (by omega) ?_
  cases h
  exact bX10_out_6

noncomputable def FX10_go (d : aI) (e : aJ) (x1 : Int32) (x2 : Int32) : Option (Int32 × aI × aJ) := ((FX10_walk d e x1 x2 (nI 1)).bind fun q1 => (bif (decide (q1.1 = 0 ∨ q1.1 = 1)) then (some (q1.1, q1.2.1, q1.2.2)) else none))
theorem evX10_go {Γ : aG × Launch} {d : aI} {e : aJ} {x1 : Int32} {x2 : Int32} {q : Int32 × aI × aJ} (h : FX10_go d e x1 x2 = some q) : Ev Γ (4) mX10_go [.ref 0, .int x1, .int x2] d e (some (.int q.1)) q.2.1 q.2.2 := by
  refine Ev.of (by decide) rfl (Nat.le_of_ble_eq_true rfl) (fun z => by cases z) ?_
  show Rn Γ (4) mX10_go 0 [some (.ref 0), some (.int x1), some (.int x2)] [] d e _ _ _
  unfold FX10_go at h
  obtain ⟨q1, hq1, h⟩ := Option.bind_eq_some_iff.mp h
  refine bX10_go_0 (evX10_walk hq1) (by omega) ?_
  obtain ⟨z2, h⟩ := a_cond h
  cases h
  exact bX10_go_7 (a_nz (of_decide_eq_true z2))

noncomputable def FX10_same (d : aI) (e : aJ) (x1 : Int32) (x2 : Int32) : Option (Int32 × aI × aJ) := ((FX3_has d e 13 x1).bind fun q1 => (if q1.1 = 0 then (some ((nI 0), q1.2.1, q1.2.2)) else ((FX3_has q1.2.1 q1.2.2 13 x2).bind fun q3 => (if q3.1 = 0 then (some ((nI 0), q3.2.1, q3.2.2)) else ((FX10_canBeOne q3.2.1 q3.2.2 x1 x2).bind fun q5 => (if q5.1 = 0 then (some ((nI 0), q5.2.1, q5.2.2)) else (some ((nI 1), q5.2.1, q5.2.2))))))))
theorem evX10_same {Γ : aG × Launch} {d : aI} {e : aJ} {x1 : Int32} {x2 : Int32} {q : Int32 × aI × aJ} (h : FX10_same d e x1 x2 = some q) : Ev Γ (2) mX10_same [.ref 0, .int x1, .int x2] d e (some (.int q.1)) q.2.1 q.2.2 := by
  refine Ev.of (by decide) rfl (Nat.le_of_ble_eq_true rfl) (fun z => by cases z) ?_
  show Rn Γ (2) mX10_same 0 [some (.ref 0), some (.int x1), some (.int x2)] [] d e _ _ _
  unfold FX10_same at h
  obtain ⟨q1, hq1, h⟩ := Option.bind_eq_some_iff.mp h
  refine bX10_same_0 (evX3_has hq1) (by omega) ?_
  refine a_ite h (fun c2 h => ?_) (fun c2 h => ?_)
  · refine bX10_same_11 (fun _ => ?_) (fun z => absurd c2 z)
    refine bX10_same_47 ?_
    cases h
    exact bX10_same_48 (a_nz (Or.inl rfl))
  · refine bX10_same_11 (fun z => absurd z c2) (fun _ => ?_)
    obtain ⟨q3, hq3, h⟩ := Option.bind_eq_some_iff.mp h
    refine bX10_same_14 (evX3_has hq3) (by omega) ?_
    refine a_ite h (fun c4 h => ?_) (fun c4 h => ?_)
    · refine bX10_same_25 (fun _ => ?_) (fun z => absurd c4 z)
      refine bX10_same_47 ?_
      cases h
      exact bX10_same_48 (a_nz (Or.inl rfl))
    · refine bX10_same_25 (fun z => absurd z c4) (fun _ => ?_)
      obtain ⟨q5, hq5, h⟩ := Option.bind_eq_some_iff.mp h
      refine bX10_same_28 (evX10_canBeOne hq5) (by omega) ?_
      refine a_ite h (fun c6 h => ?_) (fun c6 h => ?_)
      · refine bX10_same_40 (fun _ => ?_) (fun z => absurd c6 z)
        refine bX10_same_47 ?_
        cases h
        exact bX10_same_48 (a_nz (Or.inl rfl))
      · refine bX10_same_40 (fun z => absurd z c6) (fun _ => ?_)
        refine bX10_same_43 ?_
        cases h
        exact bX10_same_48 (a_nz (Or.inr rfl))

noncomputable def FX10_joins (d : aI) (e : aJ) (x1 : Int32) : Option (Int32 × aI × aJ) := ((FX0_join d e).bind fun q1 => (if x1 = (-(nI 1)) then (some ((q1.2.1 103 2), q1.2.1, q1.2.2)) else ((FX3_has q1.2.1 q1.2.2 21 x1).bind fun q3 => (if q3.1 = 0 then (some ((-(nI 2)), q3.2.1, q3.2.2)) else (if (q3.2.1 103 2) ≤ 0 then (some ((-(nI 2)), q3.2.1, q3.2.2)) else (bif ((a_inb x1 5)) then (some ((q3.2.1 104 (x1).toNatClampNeg), q3.2.1, q3.2.2)) else none))))))
theorem evX10_joins {Γ : aG × Launch} {d : aI} {e : aJ} {x1 : Int32} {q : Int32 × aI × aJ} (h : FX10_joins d e x1 = some q) : Ev Γ (9) mX10_joins [.ref 0, .int x1] d e (some (.int q.1)) q.2.1 q.2.2 := by
  refine Ev.of (by decide) rfl (Nat.le_of_ble_eq_true rfl) (fun z => by cases z) ?_
  show Rn Γ (9) mX10_joins 0 [some (.ref 0), some (.int x1)] [] d e _ _ _
  unfold FX10_joins at h
  obtain ⟨q1, hq1, h⟩ := Option.bind_eq_some_iff.mp h
  refine bX10_joins_0 (evX0_join hq1) (by omega) ?_
  refine a_ite h (fun c2 h => ?_) (fun c2 h => ?_)
  · refine bX10_joins_14 (fun z => absurd c2 z) (fun _ => ?_)
    cases h
    exact bX10_joins_19
  · refine bX10_joins_14 (fun _ => ?_) (fun z => absurd z c2)
    obtain ⟨q3, hq3, h⟩ := Option.bind_eq_some_iff.mp h
    refine bX10_joins_27 (evX3_has hq3) (by omega) ?_
    refine a_ite h (fun c4 h => ?_) (fun c4 h => ?_)
    · refine bX10_joins_38 (fun _ => ?_) (fun z => absurd c4 z)
      refine bX10_joins_63 ?_
      cases h
      exact bX10_joins_65
    · refine bX10_joins_38 (fun z => absurd z c4) (fun _ => ?_)
      refine a_ite h (fun c5 h => ?_) (fun c5 h => ?_)
      · refine bX10_joins_41 (fun _ => ?_) (fun z => absurd c5 z)
        refine bX10_joins_63 ?_
        cases h
        exact bX10_joins_65
      · refine bX10_joins_41 (fun z => absurd z c5) (fun _ => ?_)
        obtain ⟨g6, h⟩ := a_cond h
        refine bX10_joins_51 (a_inb_vp g6) ?_
        cases h
        exact bX10_joins_65

noncomputable def FX10_dream (d : aI) (e : aJ)  : Option (Int64 × aI × aJ) := ((FX0_join d e).bind fun q1 => (if (q1.2.1 103 2) = 0 then (some ((-(lN 1)), q1.2.1, q1.2.2)) else ((FX0_whole q1.2.1 q1.2.2).bind fun q3 => (some (q3.1, q3.2.1, q3.2.2)))))
theorem evX10_dream {Γ : aG × Launch} {d : aI} {e : aJ}  {q : Int64 × aI × aJ} (h : FX10_dream d e  = some q) : Ev Γ (9) mX10_dream [.ref 0] d e (some (.long q.1)) q.2.1 q.2.2 := by
  refine Ev.of (by decide) rfl (Nat.le_of_ble_eq_true rfl) (fun z => by cases z) ?_
  show Rn Γ (9) mX10_dream 0 [some (.ref 0)] [] d e _ _ _
  unfold FX10_dream at h
  obtain ⟨q1, hq1, h⟩ := Option.bind_eq_some_iff.mp h
  refine bX10_dream_0 (evX0_join hq1) (by omega) ?_
  refine a_ite h (fun c2 h => ?_) (fun c2 h => ?_)
  · refine bX10_dream_14 (fun z => absurd c2 z) (fun _ => ?_)
    refine bX10_dream_24 ?_
    cases h
    exact bX10_dream_44
  · refine bX10_dream_14 (fun _ => ?_) (fun z => absurd z c2)
    obtain ⟨q3, hq3, h⟩ := Option.bind_eq_some_iff.mp h
    refine bX10_dream_30 (evX0_whole hq3) (by omega) ?_
    cases h
    exact bX10_dream_44

noncomputable def FX1_taking (d : aI) (e : aJ) (o1 : Nat) (x3 : Int32) (x4 : Int32) : Option (Int32 × aI × aJ) := (bif (decide (o1 = 58 ∨ o1 = 63 ∨ o1 = 68 ∨ o1 = 73 ∨ o1 = 78)) then ((FX2_isCat d e x3).bind fun q1 => (if q1.1 = 0 then (some ((nI 0), q1.2.1, q1.2.2)) else ((FX2_isHouse q1.2.1 q1.2.2 x4).bind fun q3 => (if q3.1 = 0 then (some ((nI 0), q3.2.1, q3.2.2)) else ((FX7_hasTakes q3.2.1 q3.2.2 o1).bind fun q5 => (if q5.1 = 0 then (bif ((a_inb x3 6)) then (some ((q5.2.1 6 (x3).toNatClampNeg), q5.2.1, q5.2.2)) else none) else ((FX1_run q5.2.1 q5.2.2 (o1 + 4) (q5.2.1 o1 6) (q5.2.1 o1 7) x3 x4).bind fun q8 => (some ((a_max (nI 0) (a_min (nI 99) q8.1)), q8.2.1, q8.2.2))))))))) else none)
theorem evX1_taking {Γ : aG × Launch} {d : aI} {e : aJ} {o1 : Nat} {x3 : Int32} {x4 : Int32} {q : Int32 × aI × aJ} (h : FX1_taking d e o1 x3 x4 = some q) : Ev Γ (3) mX1_taking [.ref 93, .ref o1, .ref 2, .int x3, .int x4] d e (some (.int q.1)) q.2.1 q.2.2 := by
  refine Ev.of (by decide) rfl (Nat.le_of_ble_eq_true rfl) (fun z => by cases z) ?_
  show Rn Γ (3) mX1_taking 0 [some (.ref 93), some (.ref o1), some (.ref 2), some (.int x3), some (.int x4), none] [] d e _ _ _
  unfold FX1_taking at h
  obtain ⟨ho1x, h⟩ := a_cond h
  have ho1 := of_decide_eq_true ho1x
  obtain ⟨q1, hq1, h⟩ := Option.bind_eq_some_iff.mp h
  refine bX1_taking_0 (evX2_isCat hq1) (by omega) ?_
  refine a_ite h (fun c2 h => ?_) (fun c2 h => ?_)
  · refine bX1_taking_5 (fun _ => ?_) (fun z => absurd c2 z)
    cases h
    exact bX1_taking_17
  · refine bX1_taking_5 (fun z => absurd z c2) (fun _ => ?_)
    obtain ⟨q3, hq3, h⟩ := Option.bind_eq_some_iff.mp h
    refine bX1_taking_8 (evX2_isHouse hq3) (by omega) ?_
    refine a_ite h (fun c4 h => ?_) (fun c4 h => ?_)
    · refine bX1_taking_14 (fun z => absurd c4 z) (fun _ => ?_)
      cases h
      exact bX1_taking_17
    · refine bX1_taking_14 (fun _ => ?_) (fun z => absurd z c4)
      obtain ⟨q5, hq5, h⟩ := Option.bind_eq_some_iff.mp h
      refine bX1_taking_19 ho1 (evX7_hasTakes hq5) (by omega) ?_
      refine a_ite h (fun c6 h => ?_) (fun c6 h => ?_)
      · refine bX1_taking_23 (fun z => absurd c6 z) (fun _ => ?_)
        obtain ⟨g7, h⟩ := a_cond h
        cases h
        exact bX1_taking_26 (a_inb_vp g7)
      · refine bX1_taking_23 (fun _ => ?_) (fun z => absurd z c6)
        obtain ⟨q8, hq8, h⟩ := Option.bind_eq_some_iff.mp h
        refine bX1_taking_33 ho1 (evX1_run hq8) (by omega) ?_
        cases h
        exact bX1_taking_53

noncomputable def FX1_going (d : aI) (e : aJ) (o1 : Nat) (x3 : Int32) : Option (Int32 × aI × aJ) := (bif (decide (o1 = 58 ∨ o1 = 63 ∨ o1 = 68 ∨ o1 = 73 ∨ o1 = 78)) then ((FX2_isCat d e x3).bind fun q1 => (if q1.1 = 0 then (some ((nI 0), q1.2.1, q1.2.2)) else ((FX7_hasGoes q1.2.1 q1.2.2 o1).bind fun q3 => (if q3.1 = 0 then (some ((nI 0), q3.2.1, q3.2.2)) else (bif ((a_inb x3 6)) then ((FX1_run q3.2.1 q3.2.2 (o1 + 4) (q3.2.1 o1 8) (q3.2.1 o1 9) x3 (q3.2.1 8 (x3).toNatClampNeg)).bind fun q6 => (some ((a_max (-(nI 99)) (a_min (nI 99) q6.1)), q6.2.1, q6.2.2))) else none))))) else none)
theorem evX1_going {Γ : aG × Launch} {d : aI} {e : aJ} {o1 : Nat} {x3 : Int32} {q : Int32 × aI × aJ} (h : FX1_going d e o1 x3 = some q) : Ev Γ (3) mX1_going [.ref 93, .ref o1, .ref 2, .int x3] d e (some (.int q.1)) q.2.1 q.2.2 := by
  refine Ev.of (by decide) rfl (Nat.le_of_ble_eq_true rfl) (fun z => by cases z) ?_
  show Rn Γ (3) mX1_going 0 [some (.ref 93), some (.ref o1), some (.ref 2), some (.int x3), none] [] d e _ _ _
  unfold FX1_going at h
  obtain ⟨ho1x, h⟩ := a_cond h
  have ho1 := of_decide_eq_true ho1x
  obtain ⟨q1, hq1, h⟩ := Option.bind_eq_some_iff.mp h
  refine bX1_going_0 (evX2_isCat hq1) (by omega) ?_
  refine a_ite h (fun c2 h => ?_) (fun c2 h => ?_)
  · refine bX1_going_5 (fun _ => ?_) (fun z => absurd c2 z)
    cases h
    exact bX1_going_15
  · refine bX1_going_5 (fun z => absurd z c2) (fun _ => ?_)
    obtain ⟨q3, hq3, h⟩ := Option.bind_eq_some_iff.mp h
    refine bX1_going_8 ho1 (evX7_hasGoes hq3) (by omega) ?_
    refine a_ite h (fun c4 h => ?_) (fun c4 h => ?_)
    · refine bX1_going_12 (fun z => absurd c4 z) (fun _ => ?_)
      cases h
      exact bX1_going_15
    · refine bX1_going_12 (fun _ => ?_) (fun z => absurd z c4)
      obtain ⟨g5, h⟩ := a_cond h
      obtain ⟨q6, hq6, h⟩ := Option.bind_eq_some_iff.mp h
      refine bX1_going_17 ho1 (a_inb_vp g5) (evX1_run hq6) (by omega) ?_
      cases h
      exact bX1_going_41

noncomputable def sX4_settle_0 (d : aI) (e : aJ) (x2 : Int32) : Option (Nat × aL × aI × aJ) := ((FX4_gather d e).bind fun q1 => (bif ((decide (x2 = 0 ∨ x2 = 1))) then (some (27, [some (.ref 95), some (.ref 2), some (.int x2), some (.int (nI 0)), none], (uI (uI q1.2.1 95 5 x2) 95 6 (a_min (q1.2.1 95 3) (q1.2.1 95 4))), q1.2.2)) else none))
theorem tX4_settle_0 {Γ : aG × Launch} {d dF : aI} {e eF : aJ} {x2 : Int32} {r : Option Value} {p : Nat × aL × aI × aJ} (h : sX4_settle_0 d e x2 = some p) (kc : Nat.beq p.1 100000 = false → Rn Γ (4) mX4_settle p.1 p.2.1 [] p.2.2.1 p.2.2.2 r dF eF) (kr : p.1 = 100000 → r = a_rt p.2.1 ∧ dF = p.2.2.1 ∧ eF = p.2.2.2) : Rn Γ (4) mX4_settle 0 [some (.ref 95), some (.ref 2), some (.int x2), none, none] [] d e r dF eF := by
  unfold sX4_settle_0 at h
  obtain ⟨q1, hq1, h⟩ := Option.bind_eq_some_iff.mp h
  refine bX4_settle_0 (evX4_gather hq1) (by omega) ?_
  obtain ⟨g2, h⟩ := a_cond h
  refine bX4_settle_5 (of_decide_eq_true g2) ?_
  cases h
  exact kc rfl

noncomputable def sX4_settle_27 (d : aI) (e : aJ) (x2 : Int32) (x3 : Int32) (v4 : Option Value) : Option (Nat × aL × aI × aJ) := (if (a_shl (nI 1) (d 95 3)) ≤ x3 then (some (81, [some (.ref 95), some (.ref 2), some (.int x2), some (.int ((d 95 4) - (nI 1))), v4], d, e)) else ((FX4_cell d e (d 95 4) x3).bind fun q2 => ((FJbit q2.2.1 q2.2.2 x3).bind fun q3 => (if q3.1 = (q3.2.1 95 6) then (bif ((a_inb q2.1 448)) then (some (27, [some (.ref 95), some (.ref 2), some (.int x2), some (.int (x3 + (nI 1))), v4], (uI q3.2.1 96 (q2.1).toNatClampNeg (nI 0)), q3.2.2)) else none) else (bif ((a_inb q2.1 448)) then (some (27, [some (.ref 95), some (.ref 2), some (.int x2), some (.int (x3 + (nI 1))), v4], (uI q3.2.1 96 (q2.1).toNatClampNeg (nI 1000)), q3.2.2)) else none)))))
theorem tX4_settle_27 {Γ : aG × Launch} {d dF : aI} {e eF : aJ} {x2 : Int32} {x3 : Int32} {v4 : Option Value} {r : Option Value} {p : Nat × aL × aI × aJ} (h : sX4_settle_27 d e x2 x3 v4 = some p) (kc : Nat.beq p.1 100000 = false → Rn Γ (4) mX4_settle p.1 p.2.1 [] p.2.2.1 p.2.2.2 r dF eF) (kr : p.1 = 100000 → r = a_rt p.2.1 ∧ dF = p.2.2.1 ∧ eF = p.2.2.2) : Rn Γ (4) mX4_settle 27 [some (.ref 95), some (.ref 2), some (.int x2), some (.int x3), v4] [] d e r dF eF := by
  unfold sX4_settle_27 at h
  refine a_ite h (fun c1 h => ?_) (fun c1 h => ?_)
  · refine bX4_settle_27 (fun _ => ?_) (fun z => absurd c1 z)
    refine bX4_settle_74 ?_
    cases h
    exact kc rfl
  · refine bX4_settle_27 (fun z => absurd z c1) (fun _ => ?_)
    obtain ⟨q2, hq2, h⟩ := Option.bind_eq_some_iff.mp h
    refine bX4_settle_37 (evX4_cell hq2) (by omega) ?_
    refine bX4_settle_49 ?_
    obtain ⟨q3, hq3, h⟩ := Option.bind_eq_some_iff.mp h
    refine jX4_settle_50 (evJbit hq3) (by omega) ?_
    refine a_ite h (fun c4 h => ?_) (fun c4 h => ?_)
    · refine bX4_settle_53 (fun z => absurd c4 z) (fun _ => ?_)
      refine bX4_settle_60 ?_
      obtain ⟨g5, h⟩ := a_cond h
      refine bX4_settle_67 (a_inb_vp g5) ?_
      cases h
      exact kc rfl
    · refine bX4_settle_53 (fun _ => ?_) (fun z => absurd z c4)
      refine bX4_settle_64 ?_
      obtain ⟨g6, h⟩ := a_cond h
      refine bX4_settle_67 (a_inb_vp g6) ?_
      cases h
      exact kc rfl

noncomputable def sX4_settle_81 (d : aI) (e : aJ) (x2 : Int32) (x3 : Int32) (v4 : Option Value) : Option (Nat × aL × aI × aJ) := (if x3 < 0 then (some (100000, [], d, e)) else (some (88, [some (.ref 95), some (.ref 2), some (.int x2), some (.int x3), some (.int (nI 0))], d, e)))
theorem tX4_settle_81 {Γ : aG × Launch} {d dF : aI} {e eF : aJ} {x2 : Int32} {x3 : Int32} {v4 : Option Value} {r : Option Value} {p : Nat × aL × aI × aJ} (h : sX4_settle_81 d e x2 x3 v4 = some p) (kc : Nat.beq p.1 100000 = false → Rn Γ (4) mX4_settle p.1 p.2.1 [] p.2.2.1 p.2.2.2 r dF eF) (kr : p.1 = 100000 → r = a_rt p.2.1 ∧ dF = p.2.2.1 ∧ eF = p.2.2.2) : Rn Γ (4) mX4_settle 81 [some (.ref 95), some (.ref 2), some (.int x2), some (.int x3), v4] [] d e r dF eF := by
  unfold sX4_settle_81 at h
  refine a_ite h (fun c1 h => ?_) (fun c1 h => ?_)
  · refine bX4_settle_81 (fun _ => ?_) (fun z => absurd c1 z)
    cases h
    obtain ⟨k1, k2, k3⟩ := kr rfl
    exact bX4_settle_130 k1 k2 k3
  · refine bX4_settle_81 (fun z => absurd z c1) (fun _ => ?_)
    refine bX4_settle_85 ?_
    cases h
    exact kc rfl

noncomputable def sX4_settle_88 (d : aI) (e : aJ) (x2 : Int32) (x3 : Int32) (x4 : Int32) : Option (Nat × aL × aI × aJ) := (if (a_shl (nI 1) (d 95 3)) ≤ x4 then (some (81, [some (.ref 95), some (.ref 2), some (.int x2), some (.int (x3 + (-(nI 1)))), some (.int x4)], d, e)) else ((FX4_cell d e x3 x4).bind fun q2 => ((FX4_least q2.2.1 q2.2.2 x3 x4).bind fun q3 => (bif ((a_inb q2.1 448)) then (some (88, [some (.ref 95), some (.ref 2), some (.int x2), some (.int x3), some (.int (x4 + (nI 1)))], (uI q3.2.1 96 (q2.1).toNatClampNeg q3.1), q3.2.2)) else none))))
theorem tX4_settle_88 {Γ : aG × Launch} {d dF : aI} {e eF : aJ} {x2 : Int32} {x3 : Int32} {x4 : Int32} {r : Option Value} {p : Nat × aL × aI × aJ} (h : sX4_settle_88 d e x2 x3 x4 = some p) (kc : Nat.beq p.1 100000 = false → Rn Γ (4) mX4_settle p.1 p.2.1 [] p.2.2.1 p.2.2.2 r dF eF) (kr : p.1 = 100000 → r = a_rt p.2.1 ∧ dF = p.2.2.1 ∧ eF = p.2.2.2) : Rn Γ (4) mX4_settle 88 [some (.ref 95), some (.ref 2), some (.int x2), some (.int x3), some (.int x4)] [] d e r dF eF := by
  unfold sX4_settle_88 at h
  refine a_ite h (fun c1 h => ?_) (fun c1 h => ?_)
  · refine bX4_settle_88 (fun _ => ?_) (fun z => absurd c1 z)
    refine bX4_settle_124 ?_
    cases h
    exact kc rfl
  · refine bX4_settle_88 (fun z => absurd z c1) (fun _ => ?_)
    obtain ⟨q2, hq2, h⟩ := Option.bind_eq_some_iff.mp h
    refine bX4_settle_99 (evX4_cell hq2) (by omega) ?_
    obtain ⟨q3, hq3, h⟩ := Option.bind_eq_some_iff.mp h
    refine bX4_settle_109 (evX4_least hq3) (by omega) ?_
    obtain ⟨g4, h⟩ := a_cond h
    refine bX4_settle_117 (a_inb_vp g4) ?_
    cases h
    exact kc rfl

noncomputable def stX4_settle (p : Nat × aL × aI × aJ) : Option (Nat × aL × aI × aJ) := match p with
  | (0, [some (.ref 95), some (.ref 2), some (.int x2), none, none], d, e) => sX4_settle_0 d e x2
  | (27, [some (.ref 95), some (.ref 2), some (.int x2), some (.int x3), v4], d, e) => sX4_settle_27 d e x2 x3 v4
  | (81, [some (.ref 95), some (.ref 2), some (.int x2), some (.int x3), v4], d, e) => sX4_settle_81 d e x2 x3 v4
  | (88, [some (.ref 95), some (.ref 2), some (.int x2), some (.int x3), some (.int x4)], d, e) => sX4_settle_88 d e x2 x3 x4
  | _ => none
theorem uX4_settle {Γ : aG × Launch} {p p2 : Nat × aL × aI × aJ} {r : Option Value} {dF : aI} {eF : aJ} (h : stX4_settle p = some p2) (kc : Nat.beq p2.1 100000 = false → Rn Γ (4) mX4_settle p2.1 p2.2.1 [] p2.2.2.1 p2.2.2.2 r dF eF) (kr : p2.1 = 100000 → r = a_rt p2.2.1 ∧ dF = p2.2.2.1 ∧ eF = p2.2.2.2) : Rn Γ (4) mX4_settle p.1 p.2.1 [] p.2.2.1 p.2.2.2 r dF eF := by
  unfold stX4_settle at h
  split at h
  · exact tX4_settle_0 h kc kr
  · exact tX4_settle_27 h kc kr
  · exact tX4_settle_81 h kc kr
  · exact tX4_settle_88 h kc kr
  · cases h
noncomputable def FX4_settle (d : aI) (e : aJ) (x2 : Int32) : Option (Unit × aI × aJ) := (a_run (stX4_settle) (0, [some (.ref 95), some (.ref 2), some (.int x2), none, none], d, e)).bind a_xV
theorem evX4_settle {Γ : aG × Launch} {d : aI} {e : aJ} {x2 : Int32} {q : Unit × aI × aJ} (h : FX4_settle d e x2 = some q) : Ev Γ (4) mX4_settle [.ref 95, .ref 2, .int x2] d e none q.2.1 q.2.2 := by
  refine Ev.of (by decide) rfl (Nat.le_of_ble_eq_true rfl) (fun z => by cases z) ?_
  show Rn Γ (4) mX4_settle 0 [some (.ref 95), some (.ref 2), some (.int x2), none, none] [] d e _ _ _
  obtain ⟨q1, h1, h2⟩ := Option.bind_eq_some_iff.mp h
  obtain ⟨e1, e2, e3⟩ := a_xV_rt h2
  exact Rn.cast (a_run_ok (uX4_settle) rfl h1) e1.symm e2.symm e3.symm
noncomputable def sX5_scan_0 (d : aI) (e : aJ)  : Option (Nat × aL × aI × aJ) := (some (9, [some (.ref 83), some (.int (nI 0)), some (.int (nI 0)), none], (uI d 83 8 (nI 0)), e))
theorem tX5_scan_0 {Γ : aG × Launch} {d dF : aI} {e eF : aJ}  {r : Option Value} {p : Nat × aL × aI × aJ} (h : sX5_scan_0 d e  = some p) (kc : Nat.beq p.1 100000 = false → Rn Γ (9) mX5_scan p.1 p.2.1 [] p.2.2.1 p.2.2.2 r dF eF) (kr : p.1 = 100000 → r = a_rt p.2.1 ∧ dF = p.2.2.1 ∧ eF = p.2.2.2) : Rn Γ (9) mX5_scan 0 [some (.ref 83), none, none, none] [] d e r dF eF := by
  unfold sX5_scan_0 at h
  refine bX5_scan_0 ?_
  cases h
  exact kc rfl

noncomputable def sX5_scan_9 (d : aI) (e : aJ) (x1 : Int32) (x2 : Int32) (v3 : Option Value) : Option (Nat × aL × aI × aJ) := (if (nI 300) ≤ x2 then (bif ((a_inb (d 83 8) 301) && (a_inb (d 83 8) 301) && (a_inb (nI 0) 301)) then (some (100000, [], (uI (uI (uI (uI d 85 ((d 83 8)).toNatClampNeg (nI 0)) 86 ((d 83 8)).toNatClampNeg (d 83 2)) 83 9 (nI 0)) 83 10 ((uI d 85 ((d 83 8)).toNatClampNeg (nI 0)) 85 0)), e)) else none) else (if (d 83 2) ≤ x1 then (bif ((a_inb (d 83 8) 301) && (a_inb (d 83 8) 301) && (a_inb (nI 0) 301)) then (some (100000, [], (uI (uI (uI (uI d 85 ((d 83 8)).toNatClampNeg (nI 0)) 86 ((d 83 8)).toNatClampNeg (d 83 2)) 83 9 (nI 0)) 83 10 ((uI d 85 ((d 83 8)).toNatClampNeg (nI 0)) 85 0)), e)) else none) else (bif ((a_inb x1 300)) then (if (d 84 (x1).toNatClampNeg) = (nI 32) then (if (nI 1) = 0 then ((FX5_scanToken d e x1).bind fun q8 => (some (9, [some (.ref 83), some (.int q8.1), some (.int (x2 + (nI 1))), some (.int (nI 1))], q8.2.1, q8.2.2))) else (some (9, [some (.ref 83), some (.int (x1 + (nI 1))), some (.int (x2 + (nI 1))), some (.int (nI 1))], d, e))) else (bif ((a_inb x1 300)) then (if (d 84 (x1).toNatClampNeg) = (nI 10) then (if (nI 1) = 0 then ((FX5_scanToken d e x1).bind fun q12 => (some (9, [some (.ref 83), some (.int q12.1), some (.int (x2 + (nI 1))), some (.int (nI 1))], q12.2.1, q12.2.2))) else (some (9, [some (.ref 83), some (.int (x1 + (nI 1))), some (.int (x2 + (nI 1))), some (.int (nI 1))], d, e))) else (if (nI 0) = 0 then ((FX5_scanToken d e x1).bind fun q14 => (some (9, [some (.ref 83), some (.int q14.1), some (.int (x2 + (nI 1))), some (.int (nI 0))], q14.2.1, q14.2.2))) else (some (9, [some (.ref 83), some (.int (x1 + (nI 1))), some (.int (x2 + (nI 1))), some (.int (nI 0))], d, e)))) else none)) else none)))
theorem tX5_scan_9 {Γ : aG × Launch} {d dF : aI} {e eF : aJ} {x1 : Int32} {x2 : Int32} {v3 : Option Value} {r : Option Value} {p : Nat × aL × aI × aJ} (h : sX5_scan_9 d e x1 x2 v3 = some p) (kc : Nat.beq p.1 100000 = false → Rn Γ (9) mX5_scan p.1 p.2.1 [] p.2.2.1 p.2.2.2 r dF eF) (kr : p.1 = 100000 → r = a_rt p.2.1 ∧ dF = p.2.2.1 ∧ eF = p.2.2.2) : Rn Γ (9) mX5_scan 9 [some (.ref 83), some (.int x1), some (.int x2), v3] [] d e r dF eF := by
  unfold sX5_scan_9 at h
  refine a_ite h (fun c1 h => ?_) (fun c1 h => ?_)
  · refine bX5_scan_9 (fun _ => ?_) (fun z => absurd c1 z)
    obtain ⟨g2, h⟩ := a_cond h
    obtain ⟨g2x2, g2_2⟩ := a_and g2
    obtain ⟨g2x1, g2_1⟩ := a_and g2x2
    have g2_0 := g2x1
    cases h
    obtain ⟨k1, k2, k3⟩ := kr rfl
    exact bX5_scan_74 ⟨(a_inb_vp g2_0), (a_inb_vp g2_1), (a_inb_vp g2_2)⟩ k1 k2 k3
  · refine bX5_scan_9 (fun z => absurd z c1) (fun _ => ?_)
    refine a_ite h (fun c3 h => ?_) (fun c3 h => ?_)
    · refine bX5_scan_16 (fun _ => ?_) (fun z => absurd c3 z)
      obtain ⟨g4, h⟩ := a_cond h
      obtain ⟨g4x2, g4_2⟩ := a_and g4
      obtain ⟨g4x1, g4_1⟩ := a_and g4x2
      have g4_0 := g4x1
      cases h
      obtain ⟨k1, k2, k3⟩ := kr rfl
      exact bX5_scan_74 ⟨(a_inb_vp g4_0), (a_inb_vp g4_1), (a_inb_vp g4_2)⟩ k1 k2 k3
    · refine bX5_scan_16 (fun z => absurd z c3) (fun _ => ?_)
      obtain ⟨g5, h⟩ := a_cond h
      refine a_ite h (fun c6 h => ?_) (fun c6 h => ?_)
      · refine bX5_scan_24 (a_inb_vp g5) (fun _ => ?_) (fun z => absurd c6 z)
        refine bX5_scan_46 ?_
        refine a_ite h (fun c7 h => ?_) (fun c7 h => ?_)
        · refine bX5_scan_51 (fun _ => ?_) (fun z => absurd c7 z)
          obtain ⟨q8, hq8, h⟩ := Option.bind_eq_some_iff.mp h
          refine bX5_scan_62 (evX5_scanToken hq8) (by omega) ?_
          refine bX5_scan_67 ?_
          cases h
          exact kc rfl
        · refine bX5_scan_51 (fun z => absurd z c7) (fun _ => ?_)
          refine bX5_scan_56 ?_
          refine bX5_scan_67 ?_
          cases h
          exact kc rfl
      · refine bX5_scan_24 (a_inb_vp g5) (fun z => absurd z c6) (fun _ => ?_)
        obtain ⟨g9, h⟩ := a_cond h
        refine a_ite h (fun c10 h => ?_) (fun c10 h => ?_)
        · refine bX5_scan_35 (a_inb_vp g9) (fun z => absurd c10 z) (fun _ => ?_)
          refine bX5_scan_46 ?_
          refine a_ite h (fun c11 h => ?_) (fun c11 h => ?_)
          · refine bX5_scan_51 (fun _ => ?_) (fun z => absurd c11 z)
            obtain ⟨q12, hq12, h⟩ := Option.bind_eq_some_iff.mp h
            refine bX5_scan_62 (evX5_scanToken hq12) (by omega) ?_
            refine bX5_scan_67 ?_
            cases h
            exact kc rfl
          · refine bX5_scan_51 (fun z => absurd z c11) (fun _ => ?_)
            refine bX5_scan_56 ?_
            refine bX5_scan_67 ?_
            cases h
            exact kc rfl
        · refine bX5_scan_35 (a_inb_vp g9) (fun _ => ?_) (fun z => absurd z c10)
          refine bX5_scan_50 ?_
          refine a_ite h (fun c13 h => ?_) (fun c13 h => ?_)
          · refine bX5_scan_51 (fun _ => ?_) (fun z => absurd c13 z)
            obtain ⟨q14, hq14, h⟩ := Option.bind_eq_some_iff.mp h
            refine bX5_scan_62 (evX5_scanToken hq14) (by omega) ?_
            refine bX5_scan_67 ?_
            cases h
            exact kc rfl
          · refine bX5_scan_51 (fun z => absurd z c13) (fun _ => ?_)
            refine bX5_scan_56 ?_
            refine bX5_scan_67 ?_
            cases h
            exact kc rfl

noncomputable def stX5_scan (p : Nat × aL × aI × aJ) : Option (Nat × aL × aI × aJ) := match p with
  | (0, [some (.ref 83), none, none, none], d, e) => sX5_scan_0 d e 
  | (9, [some (.ref 83), some (.int x1), some (.int x2), v3], d, e) => sX5_scan_9 d e x1 x2 v3
  | _ => none
theorem uX5_scan {Γ : aG × Launch} {p p2 : Nat × aL × aI × aJ} {r : Option Value} {dF : aI} {eF : aJ} (h : stX5_scan p = some p2) (kc : Nat.beq p2.1 100000 = false → Rn Γ (9) mX5_scan p2.1 p2.2.1 [] p2.2.2.1 p2.2.2.2 r dF eF) (kr : p2.1 = 100000 → r = a_rt p2.2.1 ∧ dF = p2.2.2.1 ∧ eF = p2.2.2.2) : Rn Γ (9) mX5_scan p.1 p.2.1 [] p.2.2.1 p.2.2.2 r dF eF := by
  unfold stX5_scan at h
  split at h
  · exact tX5_scan_0 h kc kr
  · exact tX5_scan_9 h kc kr
  · cases h
noncomputable def FX5_scan (d : aI) (e : aJ)  : Option (Unit × aI × aJ) := (a_run (stX5_scan) (0, [some (.ref 83), none, none, none], d, e)).bind a_xV
theorem evX5_scan {Γ : aG × Launch} {d : aI} {e : aJ}  {q : Unit × aI × aJ} (h : FX5_scan d e  = some q) : Ev Γ (9) mX5_scan [.ref 83] d e none q.2.1 q.2.2 := by
  refine Ev.of (by decide) rfl (Nat.le_of_ble_eq_true rfl) (fun z => by cases z) ?_
  show Rn Γ (9) mX5_scan 0 [some (.ref 83), none, none, none] [] d e _ _ _
  obtain ⟨q1, h1, h2⟩ := Option.bind_eq_some_iff.mp h
  obtain ⟨e1, e2, e3⟩ := a_xV_rt h2
  exact Rn.cast (a_run_ok (uX5_scan) rfl h1) e1.symm e2.symm e3.symm
noncomputable def sX5_product_0 (Fo : aI → aJ → Int32 → Option (Unit × aI × aJ)) (d : aI) (e : aJ) (x1 : Int32) : Option (Nat × aL × aI × aJ) := ((FX5_one Fo d e x1).bind fun q1 => (some (7, [some (.ref 83), some (.int x1), some (.int (nI 0)), none], q1.2.1, q1.2.2)))
theorem tX5_product_0 {Γ : aG × Launch} {Fo : aI → aJ → Int32 → Option (Unit × aI × aJ)} {dc : Nat} (hFo : ∀ {d : aI} {e : aJ} {z0 : Int32} {q : Unit × aI × aJ}, Fo d e z0 = some q → Ev Γ dc mX5_opened [.ref 83, .int z0] d e none q.2.1 q.2.2) {d dF : aI} {e eF : aJ} {x1 : Int32} {r : Option Value} {p : Nat × aL × aI × aJ} (h : sX5_product_0 Fo d e x1 = some p) (kc : Nat.beq p.1 100000 = false → Rn Γ (dc + 4) mX5_product p.1 p.2.1 [] p.2.2.1 p.2.2.2 r dF eF) (kr : p.1 = 100000 → r = a_rt p.2.1 ∧ dF = p.2.2.1 ∧ eF = p.2.2.2) : Rn Γ (dc + 4) mX5_product 0 [some (.ref 83), some (.int x1), none, none] [] d e r dF eF := by
  unfold sX5_product_0 at h
  obtain ⟨q1, hq1, h⟩ := Option.bind_eq_some_iff.mp h
  refine bX5_product_0 (evX5_one hFo hq1) (by omega) ?_
  refine bX5_product_5 ?_
  cases h
  exact kc rfl

noncomputable def sX5_product_7 (Fo : aI → aJ → Int32 → Option (Unit × aI × aJ)) (d : aI) (e : aJ) (x1 : Int32) (x2 : Int32) (v3 : Option Value) : Option (Nat × aL × aI × aJ) := (if (nI 300) ≤ x2 then (some (100000, [], d, e)) else (if (d 83 3) = 0 then (if (d 83 10) = (nI 42) then ((FX5_next d e).bind fun q4 => ((FX5_one Fo q4.2.1 q4.2.2 x1).bind fun q5 => ((FX7_put q5.2.1 q5.2.2 (d 83 10)).bind fun q6 => (some (7, [some (.ref 83), some (.int x1), some (.int (x2 + (nI 1))), some (.int (d 83 10))], q6.2.1, q6.2.2))))) else (if (d 83 10) = (nI 47) then ((FX5_next d e).bind fun q8 => ((FX5_one Fo q8.2.1 q8.2.2 x1).bind fun q9 => ((FX7_put q9.2.1 q9.2.2 (d 83 10)).bind fun q10 => (some (7, [some (.ref 83), some (.int x1), some (.int (x2 + (nI 1))), some (.int (d 83 10))], q10.2.1, q10.2.2))))) else (some (100000, [], d, e)))) else (some (100000, [], d, e))))
theorem tX5_product_7 {Γ : aG × Launch} {Fo : aI → aJ → Int32 → Option (Unit × aI × aJ)} {dc : Nat} (hFo : ∀ {d : aI} {e : aJ} {z0 : Int32} {q : Unit × aI × aJ}, Fo d e z0 = some q → Ev Γ dc mX5_opened [.ref 83, .int z0] d e none q.2.1 q.2.2) {d dF : aI} {e eF : aJ} {x1 : Int32} {x2 : Int32} {v3 : Option Value} {r : Option Value} {p : Nat × aL × aI × aJ} (h : sX5_product_7 Fo d e x1 x2 v3 = some p) (kc : Nat.beq p.1 100000 = false → Rn Γ (dc + 4) mX5_product p.1 p.2.1 [] p.2.2.1 p.2.2.2 r dF eF) (kr : p.1 = 100000 → r = a_rt p.2.1 ∧ dF = p.2.2.1 ∧ eF = p.2.2.2) : Rn Γ (dc + 4) mX5_product 7 [some (.ref 83), some (.int x1), some (.int x2), v3] [] d e r dF eF := by
  unfold sX5_product_7 at h
  refine a_ite h (fun c1 h => ?_) (fun c1 h => ?_)
  · refine bX5_product_7 (fun _ => ?_) (fun z => absurd c1 z)
    cases h
    obtain ⟨k1, k2, k3⟩ := kr rfl
    exact bX5_product_68 k1 k2 k3
  · refine bX5_product_7 (fun z => absurd z c1) (fun _ => ?_)
    refine a_ite h (fun c2 h => ?_) (fun c2 h => ?_)
    · refine bX5_product_14 (fun z => absurd c2 z) (fun _ => ?_)
      refine a_ite h (fun c3 h => ?_) (fun c3 h => ?_)
      · refine bX5_product_21 (fun _ => ?_) (fun z => absurd c3 z)
        obtain ⟨q4, hq4, h⟩ := Option.bind_eq_some_iff.mp h
        refine bX5_product_39 (evX5_next hq4) (by omega) ?_
        obtain ⟨q5, hq5, h⟩ := Option.bind_eq_some_iff.mp h
        refine bX5_product_48 (evX5_one hFo hq5) (by omega) ?_
        obtain ⟨q6, hq6, h⟩ := Option.bind_eq_some_iff.mp h
        refine bX5_product_53 (evX7_put hq6) (by omega) ?_
        refine bX5_product_61 ?_
        cases h
        exact kc rfl
      · refine bX5_product_21 (fun z => absurd z c3) (fun _ => ?_)
        refine a_ite h (fun c7 h => ?_) (fun c7 h => ?_)
        · refine bX5_product_30 (fun z => absurd c7 z) (fun _ => ?_)
          obtain ⟨q8, hq8, h⟩ := Option.bind_eq_some_iff.mp h
          refine bX5_product_39 (evX5_next hq8) (by omega) ?_
          obtain ⟨q9, hq9, h⟩ := Option.bind_eq_some_iff.mp h
          refine bX5_product_48 (evX5_one hFo hq9) (by omega) ?_
          obtain ⟨q10, hq10, h⟩ := Option.bind_eq_some_iff.mp h
          refine bX5_product_53 (evX7_put hq10) (by omega) ?_
          refine bX5_product_61 ?_
          cases h
          exact kc rfl
        · refine bX5_product_30 (fun _ => ?_) (fun z => absurd z c7)
          cases h
          obtain ⟨k1, k2, k3⟩ := kr rfl
          exact bX5_product_68 k1 k2 k3
    · refine bX5_product_14 (fun _ => ?_) (fun z => absurd z c2)
      cases h
      obtain ⟨k1, k2, k3⟩ := kr rfl
      exact bX5_product_68 k1 k2 k3

noncomputable def stX5_product (Fo : aI → aJ → Int32 → Option (Unit × aI × aJ)) (p : Nat × aL × aI × aJ) : Option (Nat × aL × aI × aJ) := match p with
  | (0, [some (.ref 83), some (.int x1), none, none], d, e) => sX5_product_0 Fo d e x1
  | (7, [some (.ref 83), some (.int x1), some (.int x2), v3], d, e) => sX5_product_7 Fo d e x1 x2 v3
  | _ => none
theorem uX5_product {Γ : aG × Launch} {Fo : aI → aJ → Int32 → Option (Unit × aI × aJ)} {dc : Nat} (hFo : ∀ {d : aI} {e : aJ} {z0 : Int32} {q : Unit × aI × aJ}, Fo d e z0 = some q → Ev Γ dc mX5_opened [.ref 83, .int z0] d e none q.2.1 q.2.2) {p p2 : Nat × aL × aI × aJ} {r : Option Value} {dF : aI} {eF : aJ} (h : stX5_product Fo p = some p2) (kc : Nat.beq p2.1 100000 = false → Rn Γ (dc + 4) mX5_product p2.1 p2.2.1 [] p2.2.2.1 p2.2.2.2 r dF eF) (kr : p2.1 = 100000 → r = a_rt p2.2.1 ∧ dF = p2.2.2.1 ∧ eF = p2.2.2.2) : Rn Γ (dc + 4) mX5_product p.1 p.2.1 [] p.2.2.1 p.2.2.2 r dF eF := by
  unfold stX5_product at h
  split at h
  · exact tX5_product_0 hFo h kc kr
  · exact tX5_product_7 hFo h kc kr
  · cases h
noncomputable def FX5_product (Fo : aI → aJ → Int32 → Option (Unit × aI × aJ)) (d : aI) (e : aJ) (x1 : Int32) : Option (Unit × aI × aJ) := (a_run (stX5_product Fo) (0, [some (.ref 83), some (.int x1), none, none], d, e)).bind a_xV
theorem evX5_product {Γ : aG × Launch} {Fo : aI → aJ → Int32 → Option (Unit × aI × aJ)} {dc : Nat} (hFo : ∀ {d : aI} {e : aJ} {z0 : Int32} {q : Unit × aI × aJ}, Fo d e z0 = some q → Ev Γ dc mX5_opened [.ref 83, .int z0] d e none q.2.1 q.2.2) {d : aI} {e : aJ} {x1 : Int32} {q : Unit × aI × aJ} (h : FX5_product Fo d e x1 = some q) : Ev Γ (dc + 4) mX5_product [.ref 83, .int x1] d e none q.2.1 q.2.2 := by
  refine Ev.of (by decide) rfl (Nat.le_of_ble_eq_true rfl) (fun z => by cases z) ?_
  show Rn Γ (dc + 4) mX5_product 0 [some (.ref 83), some (.int x1), none, none] [] d e _ _ _
  obtain ⟨q1, h1, h2⟩ := Option.bind_eq_some_iff.mp h
  obtain ⟨e1, e2, e3⟩ := a_xV_rt h2
  exact Rn.cast (a_run_ok (uX5_product hFo) rfl h1) e1.symm e2.symm e3.symm
noncomputable def sX8_follow_0 (d : aI) (e : aJ)  : Option (Nat × aL × aI × aJ) := (some (7, [some (.ref 99), some (.ref 13), some (.int (d 13 4)), some (.int (nI 0)), none], d, e))
theorem tX8_follow_0 {Γ : aG × Launch} {d dF : aI} {e eF : aJ}  {r : Option Value} {p : Nat × aL × aI × aJ} (h : sX8_follow_0 d e  = some p) (kc : Nat.beq p.1 100000 = false → Rn Γ (13) mX8_follow p.1 p.2.1 [] p.2.2.1 p.2.2.2 r dF eF) (kr : p.1 = 100000 → r = a_rt p.2.1 ∧ dF = p.2.2.1 ∧ eF = p.2.2.2) : Rn Γ (13) mX8_follow 0 [some (.ref 99), some (.ref 13), none, none, none] [] d e r dF eF := by
  unfold sX8_follow_0 at h
  refine bX8_follow_0 ?_
  cases h
  exact kc rfl

noncomputable def sX8_follow_7 (d : aI) (e : aJ) (x2 : Int32) (x3 : Int32) (v4 : Option Value) : Option (Nat × aL × aI × aJ) := (if x2 ≤ x3 then (if x2 = 0 then (some (54, [some (.ref 99), some (.ref 13), some (.int x2), some (.int (nI 1)), some (.int (nI 1))], (uI d 99 3 (nI 0)), e)) else (some (54, [some (.ref 99), some (.ref 13), some (.int x2), some (.int (nI 0)), some (.int (nI 1))], (uI d 99 3 (nI 0)), e))) else (bif ((a_inb x3 10)) then ((FX8_friendsOf (uI d 102 (x3).toNatClampNeg (nI 0)) e x3).bind fun q4 => (bif ((a_inb x3 10)) then (some (7, [some (.ref 99), some (.ref 13), some (.int x2), some (.int (x3 + (nI 1))), v4], (uI q4.2.1 101 (x3).toNatClampNeg q4.1), q4.2.2)) else none)) else none))
theorem tX8_follow_7 {Γ : aG × Launch} {d dF : aI} {e eF : aJ} {x2 : Int32} {x3 : Int32} {v4 : Option Value} {r : Option Value} {p : Nat × aL × aI × aJ} (h : sX8_follow_7 d e x2 x3 v4 = some p) (kc : Nat.beq p.1 100000 = false → Rn Γ (13) mX8_follow p.1 p.2.1 [] p.2.2.1 p.2.2.2 r dF eF) (kr : p.1 = 100000 → r = a_rt p.2.1 ∧ dF = p.2.2.1 ∧ eF = p.2.2.2) : Rn Γ (13) mX8_follow 7 [some (.ref 99), some (.ref 13), some (.int x2), some (.int x3), v4] [] d e r dF eF := by
  unfold sX8_follow_7 at h
  refine a_ite h (fun c1 h => ?_) (fun c1 h => ?_)
  · refine bX8_follow_7 (fun _ => ?_) (fun z => absurd c1 z)
    refine a_ite h (fun c2 h => ?_) (fun c2 h => ?_)
    · refine bX8_follow_36 (fun z => absurd c2 z) (fun _ => ?_)
      refine bX8_follow_45 ?_
      refine bX8_follow_50 ?_
      cases h
      exact kc rfl
    · refine bX8_follow_36 (fun _ => ?_) (fun z => absurd z c2)
      refine bX8_follow_49 ?_
      refine bX8_follow_50 ?_
      cases h
      exact kc rfl
  · refine bX8_follow_7 (fun z => absurd z c1) (fun _ => ?_)
    obtain ⟨g3, h⟩ := a_cond h
    obtain ⟨q4, hq4, h⟩ := Option.bind_eq_some_iff.mp h
    refine bX8_follow_12 (a_inb_vp g3) (evX8_friendsOf hq4) (by omega) ?_
    obtain ⟨g5, h⟩ := a_cond h
    refine bX8_follow_29 (a_inb_vp g5) ?_
    cases h
    exact kc rfl

noncomputable def sX8_follow_54 (d : aI) (e : aJ) (x2 : Int32) (x3 : Int32) (x4 : Int32) : Option (Nat × aL × aI × aJ) := (if x2 < x4 then (some (100000, [], d, e)) else (if x3 = 0 then ((FX8_assign 12 (uI d 99 3 x4) e (nI 0) x2 (nI 0) x4).bind fun q3 => (some (54, [some (.ref 99), some (.ref 13), some (.int x2), some (.int q3.1), some (.int (x4 + (nI 1)))], q3.2.1, q3.2.2))) else (some (100000, [], d, e))))
theorem tX8_follow_54 {Γ : aG × Launch} {d dF : aI} {e eF : aJ} {x2 : Int32} {x3 : Int32} {x4 : Int32} {r : Option Value} {p : Nat × aL × aI × aJ} (h : sX8_follow_54 d e x2 x3 x4 = some p) (kc : Nat.beq p.1 100000 = false → Rn Γ (13) mX8_follow p.1 p.2.1 [] p.2.2.1 p.2.2.2 r dF eF) (kr : p.1 = 100000 → r = a_rt p.2.1 ∧ dF = p.2.2.1 ∧ eF = p.2.2.2) : Rn Γ (13) mX8_follow 54 [some (.ref 99), some (.ref 13), some (.int x2), some (.int x3), some (.int x4)] [] d e r dF eF := by
  unfold sX8_follow_54 at h
  refine a_ite h (fun c1 h => ?_) (fun c1 h => ?_)
  · refine bX8_follow_54 (fun _ => ?_) (fun z => absurd c1 z)
    cases h
    obtain ⟨k1, k2, k3⟩ := kr rfl
    exact bX8_follow_86 k1 k2 k3
  · refine bX8_follow_54 (fun z => absurd z c1) (fun _ => ?_)
    refine a_ite h (fun c2 h => ?_) (fun c2 h => ?_)
    · refine bX8_follow_60 (fun z => absurd c2 z) (fun _ => ?_)
      obtain ⟨q3, hq3, h⟩ := Option.bind_eq_some_iff.mp h
      refine bX8_follow_64 (evX8_assign 12 hq3) (by omega) ?_
      refine bX8_follow_79 ?_
      cases h
      exact kc rfl
    · refine bX8_follow_60 (fun _ => ?_) (fun z => absurd z c2)
      cases h
      obtain ⟨k1, k2, k3⟩ := kr rfl
      exact bX8_follow_86 k1 k2 k3

noncomputable def stX8_follow (p : Nat × aL × aI × aJ) : Option (Nat × aL × aI × aJ) := match p with
  | (0, [some (.ref 99), some (.ref 13), none, none, none], d, e) => sX8_follow_0 d e 
  | (7, [some (.ref 99), some (.ref 13), some (.int x2), some (.int x3), v4], d, e) => sX8_follow_7 d e x2 x3 v4
  | (54, [some (.ref 99), some (.ref 13), some (.int x2), some (.int x3), some (.int x4)], d, e) => sX8_follow_54 d e x2 x3 x4
  | _ => none
theorem uX8_follow {Γ : aG × Launch} {p p2 : Nat × aL × aI × aJ} {r : Option Value} {dF : aI} {eF : aJ} (h : stX8_follow p = some p2) (kc : Nat.beq p2.1 100000 = false → Rn Γ (13) mX8_follow p2.1 p2.2.1 [] p2.2.2.1 p2.2.2.2 r dF eF) (kr : p2.1 = 100000 → r = a_rt p2.2.1 ∧ dF = p2.2.2.1 ∧ eF = p2.2.2.2) : Rn Γ (13) mX8_follow p.1 p.2.1 [] p.2.2.1 p.2.2.2 r dF eF := by
  unfold stX8_follow at h
  split at h
  · exact tX8_follow_0 h kc kr
  · exact tX8_follow_7 h kc kr
  · exact tX8_follow_54 h kc kr
  · cases h
noncomputable def FX8_follow (d : aI) (e : aJ)  : Option (Unit × aI × aJ) := (a_run (stX8_follow) (0, [some (.ref 99), some (.ref 13), none, none, none], d, e)).bind a_xV
theorem evX8_follow {Γ : aG × Launch} {d : aI} {e : aJ}  {q : Unit × aI × aJ} (h : FX8_follow d e  = some q) : Ev Γ (13) mX8_follow [.ref 99, .ref 13] d e none q.2.1 q.2.2 := by
  refine Ev.of (by decide) rfl (Nat.le_of_ble_eq_true rfl) (fun z => by cases z) ?_
  show Rn Γ (13) mX8_follow 0 [some (.ref 99), some (.ref 13), none, none, none] [] d e _ _ _
  obtain ⟨q1, h1, h2⟩ := Option.bind_eq_some_iff.mp h
  obtain ⟨e1, e2, e3⟩ := a_xV_rt h2
  exact Rn.cast (a_run_ok (uX8_follow) rfl h1) e1.symm e2.symm e3.symm
noncomputable def FX10_takes (d : aI) (e : aJ) (x1 : Int32) (x2 : Int32) : Option (Int32 × aI × aJ) := ((FX2_isCat d e x1).bind fun q1 => (if q1.1 = 0 then (some ((-(nI 100)), q1.2.1, q1.2.2)) else ((FX2_isHouse q1.2.1 q1.2.2 x2).bind fun q3 => (if q3.1 = 0 then (some ((-(nI 100)), q3.2.1, q3.2.2)) else ((FX10_rule q3.2.1 q3.2.2).bind fun q5 => ((FX1_taking q5.2.1 q5.2.2 q5.1 x1 x2).bind fun q6 => (some (q6.1, q6.2.1, q6.2.2))))))))
theorem evX10_takes {Γ : aG × Launch} {d : aI} {e : aJ} {x1 : Int32} {x2 : Int32} {q : Int32 × aI × aJ} (h : FX10_takes d e x1 x2 = some q) : Ev Γ (4) mX10_takes [.ref 0, .int x1, .int x2] d e (some (.int q.1)) q.2.1 q.2.2 := by
  refine Ev.of (by decide) rfl (Nat.le_of_ble_eq_true rfl) (fun z => by cases z) ?_
  show Rn Γ (4) mX10_takes 0 [some (.ref 0), some (.int x1), some (.int x2)] [] d e _ _ _
  unfold FX10_takes at h
  obtain ⟨q1, hq1, h⟩ := Option.bind_eq_some_iff.mp h
  refine bX10_takes_0 (evX2_isCat hq1) (by omega) ?_
  refine a_ite h (fun c2 h => ?_) (fun c2 h => ?_)
  · refine bX10_takes_11 (fun _ => ?_) (fun z => absurd c2 z)
    cases h
    exact bX10_takes_28
  · refine bX10_takes_11 (fun z => absurd z c2) (fun _ => ?_)
    obtain ⟨q3, hq3, h⟩ := Option.bind_eq_some_iff.mp h
    refine bX10_takes_14 (evX2_isHouse hq3) (by omega) ?_
    refine a_ite h (fun c4 h => ?_) (fun c4 h => ?_)
    · refine bX10_takes_25 (fun z => absurd c4 z) (fun _ => ?_)
      cases h
      exact bX10_takes_28
    · refine bX10_takes_25 (fun _ => ?_) (fun z => absurd z c4)
      obtain ⟨q5, hq5, h⟩ := Option.bind_eq_some_iff.mp h
      refine bX10_takes_31 (evX10_rule hq5) (by omega) ?_
      obtain ⟨q6, hq6, h⟩ := Option.bind_eq_some_iff.mp h
      refine bX10_takes_39 (evX1_taking hq6) (by omega) ?_
      cases h
      exact bX10_takes_51

noncomputable def FX10_goes (d : aI) (e : aJ) (x1 : Int32) : Option (Int32 × aI × aJ) := ((FX2_isCat d e x1).bind fun q1 => (if q1.1 = 0 then (some ((-(nI 100)), q1.2.1, q1.2.2)) else ((FX10_rule q1.2.1 q1.2.2).bind fun q3 => ((FX1_going q3.2.1 q3.2.2 q3.1 x1).bind fun q4 => (some (q4.1, q4.2.1, q4.2.2))))))
theorem evX10_goes {Γ : aG × Launch} {d : aI} {e : aJ} {x1 : Int32} {q : Int32 × aI × aJ} (h : FX10_goes d e x1 = some q) : Ev Γ (4) mX10_goes [.ref 0, .int x1] d e (some (.int q.1)) q.2.1 q.2.2 := by
  refine Ev.of (by decide) rfl (Nat.le_of_ble_eq_true rfl) (fun z => by cases z) ?_
  show Rn Γ (4) mX10_goes 0 [some (.ref 0), some (.int x1)] [] d e _ _ _
  unfold FX10_goes at h
  obtain ⟨q1, hq1, h⟩ := Option.bind_eq_some_iff.mp h
  refine bX10_goes_0 (evX2_isCat hq1) (by omega) ?_
  refine a_ite h (fun c2 h => ?_) (fun c2 h => ?_)
  · refine bX10_goes_11 (fun z => absurd c2 z) (fun _ => ?_)
    cases h
    exact bX10_goes_14
  · refine bX10_goes_11 (fun _ => ?_) (fun z => absurd z c2)
    obtain ⟨q3, hq3, h⟩ := Option.bind_eq_some_iff.mp h
    refine bX10_goes_17 (evX10_rule hq3) (by omega) ?_
    obtain ⟨q4, hq4, h⟩ := Option.bind_eq_some_iff.mp h
    refine bX10_goes_25 (evX1_going hq4) (by omega) ?_
    cases h
    exact bX10_goes_36

noncomputable def FX10_matched (d : aI) (e : aJ) (x1 : Int32) : Option (Int32 × aI × aJ) := ((FX2_isHouse d e x1).bind fun q1 => (if q1.1 = 0 then (some ((-(nI 1)), q1.2.1, q1.2.2)) else ((FX4_settle q1.2.1 q1.2.2 (nI 0)).bind fun q3 => ((FX4_partner q3.2.1 q3.2.2 x1).bind fun q4 => (some (q4.1, q4.2.1, q4.2.2))))))
theorem evX10_matched {Γ : aG × Launch} {d : aI} {e : aJ} {x1 : Int32} {q : Int32 × aI × aJ} (h : FX10_matched d e x1 = some q) : Ev Γ (5) mX10_matched [.ref 0, .int x1] d e (some (.int q.1)) q.2.1 q.2.2 := by
  refine Ev.of (by decide) rfl (Nat.le_of_ble_eq_true rfl) (fun z => by cases z) ?_
  show Rn Γ (5) mX10_matched 0 [some (.ref 0), some (.int x1)] [] d e _ _ _
  unfold FX10_matched at h
  obtain ⟨q1, hq1, h⟩ := Option.bind_eq_some_iff.mp h
  refine bX10_matched_0 (evX2_isHouse hq1) (by omega) ?_
  refine a_ite h (fun c2 h => ?_) (fun c2 h => ?_)
  · refine bX10_matched_11 (fun z => absurd c2 z) (fun _ => ?_)
    cases h
    exact bX10_matched_14
  · refine bX10_matched_11 (fun _ => ?_) (fun z => absurd z c2)
    obtain ⟨q3, hq3, h⟩ := Option.bind_eq_some_iff.mp h
    refine bX10_matched_16 (evX4_settle hq3) (by omega) ?_
    obtain ⟨q4, hq4, h⟩ := Option.bind_eq_some_iff.mp h
    refine bX10_matched_31 (evX4_partner hq4) (by omega) ?_
    cases h
    exact bX10_matched_46

noncomputable def FX10_fewest (d : aI) (e : aJ)  : Option (Int32 × aI × aJ) := ((FX8_follow d e).bind fun q1 => (some ((q1.2.1 99 3), q1.2.1, q1.2.2)))
theorem evX10_fewest {Γ : aG × Launch} {d : aI} {e : aJ}  {q : Int32 × aI × aJ} (h : FX10_fewest d e  = some q) : Ev Γ (14) mX10_fewest [.ref 0] d e (some (.int q.1)) q.2.1 q.2.2 := by
  refine Ev.of (by decide) rfl (Nat.le_of_ble_eq_true rfl) (fun z => by cases z) ?_
  show Rn Γ (14) mX10_fewest 0 [some (.ref 0)] [] d e _ _ _
  unfold FX10_fewest at h
  obtain ⟨q1, hq1, h⟩ := Option.bind_eq_some_iff.mp h
  refine bX10_fewest_0 (evX8_follow hq1) (by omega) ?_
  cases h
  exact bX10_fewest_14

noncomputable def FX10_track (d : aI) (e : aJ) (x1 : Int32) : Option (Int32 × aI × aJ) := ((FX3_has d e 13 x1).bind fun q1 => (if q1.1 = 0 then (some ((-(nI 1)), q1.2.1, q1.2.2)) else ((FX8_follow q1.2.1 q1.2.2).bind fun q3 => (bif ((a_inb x1 10)) then (some ((q3.2.1 100 (x1).toNatClampNeg), q3.2.1, q3.2.2)) else none))))
theorem evX10_track {Γ : aG × Launch} {d : aI} {e : aJ} {x1 : Int32} {q : Int32 × aI × aJ} (h : FX10_track d e x1 = some q) : Ev Γ (14) mX10_track [.ref 0, .int x1] d e (some (.int q.1)) q.2.1 q.2.2 := by
  refine Ev.of (by decide) rfl (Nat.le_of_ble_eq_true rfl) (fun z => by cases z) ?_
  show Rn Γ (14) mX10_track 0 [some (.ref 0), some (.int x1)] [] d e _ _ _
  unfold FX10_track at h
  obtain ⟨q1, hq1, h⟩ := Option.bind_eq_some_iff.mp h
  refine bX10_track_0 (evX3_has hq1) (by omega) ?_
  refine a_ite h (fun c2 h => ?_) (fun c2 h => ?_)
  · refine bX10_track_11 (fun z => absurd c2 z) (fun _ => ?_)
    cases h
    exact bX10_track_14
  · refine bX10_track_11 (fun _ => ?_) (fun z => absurd z c2)
    obtain ⟨q3, hq3, h⟩ := Option.bind_eq_some_iff.mp h
    refine bX10_track_16 (evX8_follow hq3) (by omega) ?_
    obtain ⟨g4, h⟩ := a_cond h
    cases h
    exact bX10_track_30 (a_inb_vp g4)

noncomputable def sX10_pass_0 (d : aI) (e : aJ) (x1 : Int32) : Option (Nat × aL × aI × aJ) := (if (d 2 11) < (nI 9999) then ((FX10_keepIf d e x1).bind fun q2 => (some (30, [some (.ref 0), some (.int x1), some (.ref 2), some (.int (nI 0)), some (.int (nI 0)), none], q2.2.1, q2.2.2))) else (some (100000, [some (.int (-(nI 1)))], d, e)))
theorem tX10_pass_0 {Γ : aG × Launch} {d dF : aI} {e eF : aJ} {x1 : Int32} {r : Option Value} {p : Nat × aL × aI × aJ} (h : sX10_pass_0 d e x1 = some p) (kc : Nat.beq p.1 100000 = false → Rn Γ (4) mX10_pass p.1 p.2.1 [] p.2.2.1 p.2.2.2 r dF eF) (kr : p.1 = 100000 → r = a_rt p.2.1 ∧ dF = p.2.2.1 ∧ eF = p.2.2.2) : Rn Γ (4) mX10_pass 0 [some (.ref 0), some (.int x1), none, none, none, none] [] d e r dF eF := by
  unfold sX10_pass_0 at h
  refine a_ite h (fun c1 h => ?_) (fun c1 h => ?_)
  · refine bX10_pass_0 (fun _ => ?_) (fun z => absurd c1 z)
    obtain ⟨q2, hq2, h⟩ := Option.bind_eq_some_iff.mp h
    refine bX10_pass_20 (evX10_keepIf hq2) (by omega) ?_
    refine bX10_pass_25 ?_
    cases h
    exact kc rfl
  · refine bX10_pass_0 (fun z => absurd z c1) (fun _ => ?_)
    cases h
    obtain ⟨k1, k2, k3⟩ := kr rfl
    exact bX10_pass_18 k1 k2 k3

noncomputable def sX10_pass_30 (d : aI) (e : aJ) (x1 : Int32) (x3 : Int32) (x4 : Int32) (v5 : Option Value) : Option (Nat × aL × aI × aJ) := (if (d 2 9) ≤ x4 then (some (100000, [some (.int x3)], (uI d 2 11 ((d 2 11) + (nI 1))), e)) else (bif ((a_inb x4 6)) then (if (d 8 (x4).toNatClampNeg) = (-(nI 1)) then ((FX2_wander d e x4).bind fun q4 => (some (30, [some (.ref 0), some (.int x1), some (.ref 2), some (.int x3), some (.int (x4 + (nI 1))), some (.int (d 8 (x4).toNatClampNeg))], q4.2.1, q4.2.2))) else ((FX10_rule d e).bind fun q5 => ((FX1_taking q5.2.1 q5.2.2 q5.1 x4 (d 8 (x4).toNatClampNeg)).bind fun q6 => ((FX2_take q6.2.1 q6.2.2 x4 (d 8 (x4).toNatClampNeg) q6.1).bind fun q7 => ((FX10_rule q7.2.1 q7.2.2).bind fun q8 => ((FX1_going q8.2.1 q8.2.2 q8.1 x4).bind fun q9 => (if q9.1 ≤ 0 then (some (30, [some (.ref 0), some (.int x1), some (.ref 2), some (.int (x3 + q7.1)), some (.int (x4 + (nI 1))), some (.int (d 8 (x4).toNatClampNeg))], q9.2.1, q9.2.2)) else ((FX2_leave q9.2.1 q9.2.2 x4 (d 8 (x4).toNatClampNeg) (nI 2)).bind fun q11 => (some (30, [some (.ref 0), some (.int x1), some (.ref 2), some (.int (x3 + q7.1)), some (.int (x4 + (nI 1))), some (.int (d 8 (x4).toNatClampNeg))], q11.2.1, q11.2.2)))))))))) else none))
theorem tX10_pass_30 {Γ : aG × Launch} {d dF : aI} {e eF : aJ} {x1 : Int32} {x3 : Int32} {x4 : Int32} {v5 : Option Value} {r : Option Value} {p : Nat × aL × aI × aJ} (h : sX10_pass_30 d e x1 x3 x4 v5 = some p) (kc : Nat.beq p.1 100000 = false → Rn Γ (4) mX10_pass p.1 p.2.1 [] p.2.2.1 p.2.2.2 r dF eF) (kr : p.1 = 100000 → r = a_rt p.2.1 ∧ dF = p.2.2.1 ∧ eF = p.2.2.2) : Rn Γ (4) mX10_pass 30 [some (.ref 0), some (.int x1), some (.ref 2), some (.int x3), some (.int x4), v5] [] d e r dF eF := by
  unfold sX10_pass_30 at h
  refine a_ite h (fun c1 h => ?_) (fun c1 h => ?_)
  · refine bX10_pass_30 (fun _ => ?_) (fun z => absurd c1 z)
    cases h
    obtain ⟨k1, k2, k3⟩ := kr rfl
    exact bX10_pass_122 k1 k2 k3
  · refine bX10_pass_30 (fun z => absurd z c1) (fun _ => ?_)
    obtain ⟨g2, h⟩ := a_cond h
    refine a_ite h (fun c3 h => ?_) (fun c3 h => ?_)
    · refine bX10_pass_39 (a_inb_vp g2) (fun z => absurd c3 z) (fun _ => ?_)
      obtain ⟨q4, hq4, h⟩ := Option.bind_eq_some_iff.mp h
      refine bX10_pass_54 (evX2_wander hq4) (by omega) ?_
      refine bX10_pass_60 ?_
      refine bX10_pass_116 ?_
      cases h
      exact kc rfl
    · refine bX10_pass_39 (a_inb_vp g2) (fun _ => ?_) (fun z => absurd z c3)
      obtain ⟨q5, hq5, h⟩ := Option.bind_eq_some_iff.mp h
      refine bX10_pass_63 (evX10_rule hq5) (by omega) ?_
      obtain ⟨q6, hq6, h⟩ := Option.bind_eq_some_iff.mp h
      refine bX10_pass_77 (evX1_taking hq6) (by omega) ?_
      obtain ⟨q7, hq7, h⟩ := Option.bind_eq_some_iff.mp h
      refine bX10_pass_85 (evX2_take hq7) (by omega) ?_
      obtain ⟨q8, hq8, h⟩ := Option.bind_eq_some_iff.mp h
      refine bX10_pass_88 (evX10_rule hq8) (by omega) ?_
      obtain ⟨q9, hq9, h⟩ := Option.bind_eq_some_iff.mp h
      refine bX10_pass_98 (evX1_going hq9) (by omega) ?_
      refine a_ite h (fun c10 h => ?_) (fun c10 h => ?_)
      · refine bX10_pass_104 (fun _ => ?_) (fun z => absurd c10 z)
        refine bX10_pass_116 ?_
        cases h
        exact kc rfl
      · refine bX10_pass_104 (fun z => absurd z c10) (fun _ => ?_)
        obtain ⟨q11, hq11, h⟩ := Option.bind_eq_some_iff.mp h
        refine bX10_pass_107 (evX2_leave hq11) (by omega) ?_
        refine bX10_pass_116 ?_
        cases h
        exact kc rfl

noncomputable def stX10_pass (p : Nat × aL × aI × aJ) : Option (Nat × aL × aI × aJ) := match p with
  | (0, [some (.ref 0), some (.int x1), none, none, none, none], d, e) => sX10_pass_0 d e x1
  | (30, [some (.ref 0), some (.int x1), some (.ref 2), some (.int x3), some (.int x4), v5], d, e) => sX10_pass_30 d e x1 x3 x4 v5
  | _ => none
theorem uX10_pass {Γ : aG × Launch} {p p2 : Nat × aL × aI × aJ} {r : Option Value} {dF : aI} {eF : aJ} (h : stX10_pass p = some p2) (kc : Nat.beq p2.1 100000 = false → Rn Γ (4) mX10_pass p2.1 p2.2.1 [] p2.2.2.1 p2.2.2.2 r dF eF) (kr : p2.1 = 100000 → r = a_rt p2.2.1 ∧ dF = p2.2.2.1 ∧ eF = p2.2.2.2) : Rn Γ (4) mX10_pass p.1 p.2.1 [] p.2.2.1 p.2.2.2 r dF eF := by
  unfold stX10_pass at h
  split at h
  · exact tX10_pass_0 h kc kr
  · exact tX10_pass_30 h kc kr
  · cases h
noncomputable def FX10_pass (d : aI) (e : aJ) (x1 : Int32) : Option (Int32 × aI × aJ) := (a_run (stX10_pass) (0, [some (.ref 0), some (.int x1), none, none, none, none], d, e)).bind a_xI
theorem evX10_pass {Γ : aG × Launch} {d : aI} {e : aJ} {x1 : Int32} {q : Int32 × aI × aJ} (h : FX10_pass d e x1 = some q) : Ev Γ (4) mX10_pass [.ref 0, .int x1] d e (some (.int q.1)) q.2.1 q.2.2 := by
  refine Ev.of (by decide) rfl (Nat.le_of_ble_eq_true rfl) (fun z => by cases z) ?_
  show Rn Γ (4) mX10_pass 0 [some (.ref 0), some (.int x1), none, none, none, none] [] d e _ _ _
  obtain ⟨q1, h1, h2⟩ := Option.bind_eq_some_iff.mp h
  obtain ⟨e1, e2, e3⟩ := a_xI_rt h2
  exact Rn.cast (a_run_ok (uX10_pass) rfl h1) e1.symm e2.symm e3.symm
noncomputable def sX10_allPass_0 (d : aI) (e : aJ) (x1 : Int32) : Option (Nat × aL × aI × aJ) := (some (2, [some (.ref 0), some (.int x1), some (.int (nI 0))], d, e))
theorem tX10_allPass_0 {Γ : aG × Launch} {d dF : aI} {e eF : aJ} {x1 : Int32} {r : Option Value} {p : Nat × aL × aI × aJ} (h : sX10_allPass_0 d e x1 = some p) (kc : Nat.beq p.1 100000 = false → Rn Γ (5) mX10_allPass p.1 p.2.1 [] p.2.2.1 p.2.2.2 r dF eF) (kr : p.1 = 100000 → r = a_rt p.2.1 ∧ dF = p.2.2.1 ∧ eF = p.2.2.2) : Rn Γ (5) mX10_allPass 0 [some (.ref 0), some (.int x1), none] [] d e r dF eF := by
  unfold sX10_allPass_0 at h
  refine bX10_allPass_0 ?_
  cases h
  exact kc rfl

noncomputable def sX10_allPass_2 (d : aI) (e : aJ) (x1 : Int32) (x2 : Int32) : Option (Nat × aL × aI × aJ) := (if x1 ≤ x2 then (some (100000, [some (.int (nI 1))], d, e)) else ((FX10_pass d e (nI 1)).bind fun q2 => (if q2.1 = (-(nI 1)) then (some (100000, [some (.int (nI 0))], q2.2.1, q2.2.2)) else (some (2, [some (.ref 0), some (.int x1), some (.int (x2 + (nI 1)))], q2.2.1, q2.2.2)))))
theorem tX10_allPass_2 {Γ : aG × Launch} {d dF : aI} {e eF : aJ} {x1 : Int32} {x2 : Int32} {r : Option Value} {p : Nat × aL × aI × aJ} (h : sX10_allPass_2 d e x1 x2 = some p) (kc : Nat.beq p.1 100000 = false → Rn Γ (5) mX10_allPass p.1 p.2.1 [] p.2.2.1 p.2.2.2 r dF eF) (kr : p.1 = 100000 → r = a_rt p.2.1 ∧ dF = p.2.2.1 ∧ eF = p.2.2.2) : Rn Γ (5) mX10_allPass 2 [some (.ref 0), some (.int x1), some (.int x2)] [] d e r dF eF := by
  unfold sX10_allPass_2 at h
  refine a_ite h (fun c1 h => ?_) (fun c1 h => ?_)
  · refine bX10_allPass_2 (fun _ => ?_) (fun z => absurd c1 z)
    cases h
    obtain ⟨k1, k2, k3⟩ := kr rfl
    exact bX10_allPass_24 k1 k2 k3
  · refine bX10_allPass_2 (fun z => absurd z c1) (fun _ => ?_)
    obtain ⟨q2, hq2, h⟩ := Option.bind_eq_some_iff.mp h
    refine bX10_allPass_7 (evX10_pass hq2) (by omega) ?_
    refine a_ite h (fun c3 h => ?_) (fun c3 h => ?_)
    · refine bX10_allPass_12 (fun z => absurd c3 z) (fun _ => ?_)
      cases h
      obtain ⟨k1, k2, k3⟩ := kr rfl
      exact bX10_allPass_16 k1 k2 k3
    · refine bX10_allPass_12 (fun _ => ?_) (fun z => absurd z c3)
      refine bX10_allPass_18 ?_
      cases h
      exact kc rfl

noncomputable def stX10_allPass (p : Nat × aL × aI × aJ) : Option (Nat × aL × aI × aJ) := match p with
  | (0, [some (.ref 0), some (.int x1), none], d, e) => sX10_allPass_0 d e x1
  | (2, [some (.ref 0), some (.int x1), some (.int x2)], d, e) => sX10_allPass_2 d e x1 x2
  | _ => none
theorem uX10_allPass {Γ : aG × Launch} {p p2 : Nat × aL × aI × aJ} {r : Option Value} {dF : aI} {eF : aJ} (h : stX10_allPass p = some p2) (kc : Nat.beq p2.1 100000 = false → Rn Γ (5) mX10_allPass p2.1 p2.2.1 [] p2.2.2.1 p2.2.2.2 r dF eF) (kr : p2.1 = 100000 → r = a_rt p2.2.1 ∧ dF = p2.2.2.1 ∧ eF = p2.2.2.2) : Rn Γ (5) mX10_allPass p.1 p.2.1 [] p.2.2.1 p.2.2.2 r dF eF := by
  unfold stX10_allPass at h
  split at h
  · exact tX10_allPass_0 h kc kr
  · exact tX10_allPass_2 h kc kr
  · cases h
noncomputable def FX10_allPass (d : aI) (e : aJ) (x1 : Int32) : Option (Int32 × aI × aJ) := (a_run (stX10_allPass) (0, [some (.ref 0), some (.int x1), none], d, e)).bind a_xI
theorem evX10_allPass {Γ : aG × Launch} {d : aI} {e : aJ} {x1 : Int32} {q : Int32 × aI × aJ} (h : FX10_allPass d e x1 = some q) : Ev Γ (5) mX10_allPass [.ref 0, .int x1] d e (some (.int q.1)) q.2.1 q.2.2 := by
  refine Ev.of (by decide) rfl (Nat.le_of_ble_eq_true rfl) (fun z => by cases z) ?_
  show Rn Γ (5) mX10_allPass 0 [some (.ref 0), some (.int x1), none] [] d e _ _ _
  obtain ⟨q1, h1, h2⟩ := Option.bind_eq_some_iff.mp h
  obtain ⟨e1, e2, e3⟩ := a_xI_rt h2
  exact Rn.cast (a_run_ok (uX10_allPass) rfl h1) e1.symm e2.symm e3.symm
noncomputable def FX10_drawn (d : aI) (e : aJ) (x1 : Int32) : Option (Unit × aI × aJ) := (if (d 2 9) ≤ 0 then (if (d 2 8) ≤ 0 then (bif ((decide (¬ (nI 6) = 0))) then (if (a_irm x1 (nI 6)) = (nI 0) then ((FX10_enter d e (-(nI 1)) (-(nI 1)) (nI 0)).bind fun q5 => (some ((), q5.2.1, q5.2.2))) else (if (a_irm x1 (nI 6)) = (nI 1) then ((FX10_enter d e (-(nI 1)) (-(nI 1)) (nI 0)).bind fun q7 => (some ((), q7.2.1, q7.2.2))) else (if (a_irm x1 (nI 6)) = (nI 2) then ((FX10_leave d e (-(nI 1)) (nI 0)).bind fun q9 => (some ((), q9.2.1, q9.2.2))) else (if (a_irm x1 (nI 6)) = (nI 3) then (bif ((decide (¬ (nI 6) = 0)) && (decide (¬ (nI 2) = 0))) then (if (a_irm (x1 / (nI 6)) (nI 2)) = 0 then ((FX10_walk d e (-(nI 1)) (nI 1) (nI 0)).bind fun q13 => (some ((), q13.2.1, q13.2.2))) else ((FX10_walk d e (-(nI 1)) (nI 0) (nI 0)).bind fun q14 => (some ((), q14.2.1, q14.2.2)))) else none) else ((FX10_pass d e (nI 0)).bind fun q15 => (some ((), q15.2.1, q15.2.2))))))) else none) else (bif ((decide (¬ (d 2 8) = 0))) then (bif ((decide (¬ (nI 6) = 0))) then (if (a_irm x1 (nI 6)) = (nI 0) then ((FX10_enter d e (-(nI 1)) (a_irm x1 (d 2 8)) (nI 0)).bind fun q19 => (some ((), q19.2.1, q19.2.2))) else (if (a_irm x1 (nI 6)) = (nI 1) then ((FX10_enter d e (-(nI 1)) (a_irm x1 (d 2 8)) (nI 0)).bind fun q21 => (some ((), q21.2.1, q21.2.2))) else (if (a_irm x1 (nI 6)) = (nI 2) then ((FX10_leave d e (a_irm x1 (d 2 8)) (nI 0)).bind fun q23 => (some ((), q23.2.1, q23.2.2))) else (if (a_irm x1 (nI 6)) = (nI 3) then (bif ((decide (¬ (nI 6) = 0)) && (decide (¬ (nI 2) = 0))) then (if (a_irm (x1 / (nI 6)) (nI 2)) = 0 then ((FX10_walk d e (-(nI 1)) (nI 1) (nI 0)).bind fun q27 => (some ((), q27.2.1, q27.2.2))) else ((FX10_walk d e (-(nI 1)) (nI 0) (nI 0)).bind fun q28 => (some ((), q28.2.1, q28.2.2)))) else none) else ((FX10_pass d e (nI 0)).bind fun q29 => (some ((), q29.2.1, q29.2.2))))))) else none) else none)) else (bif ((decide (¬ (nI 6) = 0)) && (decide (¬ (d 2 9) = 0))) then (if (d 2 8) ≤ 0 then (bif ((decide (¬ (nI 6) = 0))) then (if (a_irm x1 (nI 6)) = (nI 0) then ((FX10_enter d e (a_irm (x1 / (nI 6)) (d 2 9)) (-(nI 1)) (nI 0)).bind fun q34 => (some ((), q34.2.1, q34.2.2))) else (if (a_irm x1 (nI 6)) = (nI 1) then ((FX10_enter d e (a_irm (x1 / (nI 6)) (d 2 9)) (-(nI 1)) (nI 0)).bind fun q36 => (some ((), q36.2.1, q36.2.2))) else (if (a_irm x1 (nI 6)) = (nI 2) then ((FX10_leave d e (-(nI 1)) (nI 0)).bind fun q38 => (some ((), q38.2.1, q38.2.2))) else (if (a_irm x1 (nI 6)) = (nI 3) then (bif ((decide (¬ (nI 6) = 0)) && (decide (¬ (nI 2) = 0))) then (if (a_irm (x1 / (nI 6)) (nI 2)) = 0 then ((FX10_walk d e (a_irm (x1 / (nI 6)) (d 2 9)) (nI 1) (nI 0)).bind fun q42 => (some ((), q42.2.1, q42.2.2))) else ((FX10_walk d e (a_irm (x1 / (nI 6)) (d 2 9)) (nI 0) (nI 0)).bind fun q43 => (some ((), q43.2.1, q43.2.2)))) else none) else ((FX10_pass d e (nI 0)).bind fun q44 => (some ((), q44.2.1, q44.2.2))))))) else none) else (bif ((decide (¬ (d 2 8) = 0))) then (bif ((decide (¬ (nI 6) = 0))) then (if (a_irm x1 (nI 6)) = (nI 0) then ((FX10_enter d e (a_irm (x1 / (nI 6)) (d 2 9)) (a_irm x1 (d 2 8)) (nI 0)).bind fun q48 => (some ((), q48.2.1, q48.2.2))) else (if (a_irm x1 (nI 6)) = (nI 1) then ((FX10_enter d e (a_irm (x1 / (nI 6)) (d 2 9)) (a_irm x1 (d 2 8)) (nI 0)).bind fun q50 => (some ((), q50.2.1, q50.2.2))) else (if (a_irm x1 (nI 6)) = (nI 2) then ((FX10_leave d e (a_irm x1 (d 2 8)) (nI 0)).bind fun q52 => (some ((), q52.2.1, q52.2.2))) else (if (a_irm x1 (nI 6)) = (nI 3) then (bif ((decide (¬ (nI 6) = 0)) && (decide (¬ (nI 2) = 0))) then (if (a_irm (x1 / (nI 6)) (nI 2)) = 0 then ((FX10_walk d e (a_irm (x1 / (nI 6)) (d 2 9)) (nI 1) (nI 0)).bind fun q56 => (some ((), q56.2.1, q56.2.2))) else ((FX10_walk d e (a_irm (x1 / (nI 6)) (d 2 9)) (nI 0) (nI 0)).bind fun q57 => (some ((), q57.2.1, q57.2.2)))) else none) else ((FX10_pass d e (nI 0)).bind fun q58 => (some ((), q58.2.1, q58.2.2))))))) else none) else none)) else none))
theorem evX10_drawn {Γ : aG × Launch} {d : aI} {e : aJ} {x1 : Int32} {q : Unit × aI × aJ} (h : FX10_drawn d e x1 = some q) : Ev Γ (5) mX10_drawn [.ref 0, .int x1] d e none q.2.1 q.2.2 := by
  refine Ev.of (by decide) rfl (Nat.le_of_ble_eq_true rfl) (fun z => by cases z) ?_
  show Rn Γ (5) mX10_drawn 0 [some (.ref 0), some (.int x1), none, none] [] d e _ _ _
  unfold FX10_drawn at h
  refine a_ite h (fun c1 h => ?_) (fun c1 h => ?_)
  · refine bX10_drawn_0 (fun _ => ?_) (fun z => absurd c1 z)
    refine bX10_drawn_31 ?_
    refine a_ite h (fun c2 h => ?_) (fun c2 h => ?_)
    · refine bX10_drawn_32 (fun _ => ?_) (fun z => absurd c2 z)
      refine bX10_drawn_61 ?_
      obtain ⟨g3, h⟩ := a_cond h
      refine a_ite h (fun c4 h => ?_) (fun c4 h => ?_)
      · refine bX10_drawn_62 (of_decide_eq_true g3) (fun n0 _ _ _ => absurd c4 n0) (fun _ => ?_) (fun z => absurd (c4.symm.trans z) (by decide)) (fun z => absurd (c4.symm.trans z) (by decide)) (fun z => absurd (c4.symm.trans z) (by decide))
        obtain ⟨q5, hq5, h⟩ := Option.bind_eq_some_iff.mp h
        refine bX10_drawn_96 (evX10_enter hq5) (by omega) ?_
        refine bX10_drawn_103 ?_
        cases h
        exact bX10_drawn_147
      · skip
        refine a_ite h (fun c6 h => ?_) (fun c6 h => ?_)
        · refine bX10_drawn_62 (of_decide_eq_true g3) (fun _ n1 _ _ => absurd c6 n1) (fun z => absurd z c4) (fun _ => ?_) (fun z => absurd (c6.symm.trans z) (by decide)) (fun z => absurd (c6.symm.trans z) (by decide))
          obtain ⟨q7, hq7, h⟩ := Option.bind_eq_some_iff.mp h
          refine bX10_drawn_96 (evX10_enter hq7) (by omega) ?_
          refine bX10_drawn_103 ?_
          cases h
          exact bX10_drawn_147
        · skip
          refine a_ite h (fun c8 h => ?_) (fun c8 h => ?_)
          · refine bX10_drawn_62 (of_decide_eq_true g3) (fun _ _ n2 _ => absurd c8 n2) (fun z => absurd z c4) (fun z => absurd z c6) (fun _ => ?_) (fun z => absurd (c8.symm.trans z) (by decide))
            obtain ⟨q9, hq9, h⟩ := Option.bind_eq_some_iff.mp h
            refine bX10_drawn_107 (evX10_leave hq9) (by omega) ?_
            refine bX10_drawn_113 ?_
            cases h
            exact bX10_drawn_147
          · skip
            refine a_ite h (fun c10 h => ?_) (fun c10 h => ?_)
            · refine bX10_drawn_62 (of_decide_eq_true g3) (fun _ _ _ n3 => absurd c10 n3) (fun z => absurd z c4) (fun z => absurd z c6) (fun z => absurd z c8) (fun _ => ?_)
              obtain ⟨g11, h⟩ := a_cond h
              obtain ⟨g11x1, g11_1⟩ := a_and g11
              have g11_0 := g11x1
              refine a_ite h (fun c12 h => ?_) (fun c12 h => ?_)
              · refine bX10_drawn_117 ⟨(of_decide_eq_true g11_0), (of_decide_eq_true g11_1)⟩ (fun z => absurd c12 z) (fun _ => ?_)
                refine bX10_drawn_128 ?_
                obtain ⟨q13, hq13, h⟩ := Option.bind_eq_some_iff.mp h
                refine bX10_drawn_133 (evX10_walk hq13) (by omega) ?_
                refine bX10_drawn_137 ?_
                cases h
                exact bX10_drawn_147
              · refine bX10_drawn_117 ⟨(of_decide_eq_true g11_0), (of_decide_eq_true g11_1)⟩ (fun _ => ?_) (fun z => absurd z c12)
                refine bX10_drawn_132 ?_
                obtain ⟨q14, hq14, h⟩ := Option.bind_eq_some_iff.mp h
                refine bX10_drawn_133 (evX10_walk hq14) (by omega) ?_
                refine bX10_drawn_137 ?_
                cases h
                exact bX10_drawn_147
            · skip
              refine bX10_drawn_62 (of_decide_eq_true g3) (fun _ _ _ _ => ?_) (fun z => absurd z c4) (fun z => absurd z c6) (fun z => absurd z c8) (fun z => absurd z c10)
              obtain ⟨q15, hq15, h⟩ := Option.bind_eq_some_iff.mp h
              refine bX10_drawn_141 (evX10_pass hq15) (by omega) ?_
              refine bX10_drawn_146 ?_
              cases h
              exact bX10_drawn_147
    · refine bX10_drawn_32 (fun z => absurd z c2) (fun _ => ?_)
      obtain ⟨g16, h⟩ := a_cond h
      refine bX10_drawn_46 (of_decide_eq_true g16) ?_
      obtain ⟨g17, h⟩ := a_cond h
      refine a_ite h (fun c18 h => ?_) (fun c18 h => ?_)
      · refine bX10_drawn_62 (of_decide_eq_true g17) (fun n0 _ _ _ => absurd c18 n0) (fun _ => ?_) (fun z => absurd (c18.symm.trans z) (by decide)) (fun z => absurd (c18.symm.trans z) (by decide)) (fun z => absurd (c18.symm.trans z) (by decide))
        obtain ⟨q19, hq19, h⟩ := Option.bind_eq_some_iff.mp h
        refine bX10_drawn_96 (evX10_enter hq19) (by omega) ?_
        refine bX10_drawn_103 ?_
        cases h
        exact bX10_drawn_147
      · skip
        refine a_ite h (fun c20 h => ?_) (fun c20 h => ?_)
        · refine bX10_drawn_62 (of_decide_eq_true g17) (fun _ n1 _ _ => absurd c20 n1) (fun z => absurd z c18) (fun _ => ?_) (fun z => absurd (c20.symm.trans z) (by decide)) (fun z => absurd (c20.symm.trans z) (by decide))
          obtain ⟨q21, hq21, h⟩ := Option.bind_eq_some_iff.mp h
          refine bX10_drawn_96 (evX10_enter hq21) (by omega) ?_
          refine bX10_drawn_103 ?_
          cases h
          exact bX10_drawn_147
        · skip
          refine a_ite h (fun c22 h => ?_) (fun c22 h => ?_)
          · refine bX10_drawn_62 (of_decide_eq_true g17) (fun _ _ n2 _ => absurd c22 n2) (fun z => absurd z c18) (fun z => absurd z c20) (fun _ => ?_) (fun z => absurd (c22.symm.trans z) (by decide))
            obtain ⟨q23, hq23, h⟩ := Option.bind_eq_some_iff.mp h
            refine bX10_drawn_107 (evX10_leave hq23) (by omega) ?_
            refine bX10_drawn_113 ?_
            cases h
            exact bX10_drawn_147
          · skip
            refine a_ite h (fun c24 h => ?_) (fun c24 h => ?_)
            · refine bX10_drawn_62 (of_decide_eq_true g17) (fun _ _ _ n3 => absurd c24 n3) (fun z => absurd z c18) (fun z => absurd z c20) (fun z => absurd z c22) (fun _ => ?_)
              obtain ⟨g25, h⟩ := a_cond h
              obtain ⟨g25x1, g25_1⟩ := a_and g25
              have g25_0 := g25x1
              refine a_ite h (fun c26 h => ?_) (fun c26 h => ?_)
              · refine bX10_drawn_117 ⟨(of_decide_eq_true g25_0), (of_decide_eq_true g25_1)⟩ (fun z => absurd c26 z) (fun _ => ?_)
                refine bX10_drawn_128 ?_
                obtain ⟨q27, hq27, h⟩ := Option.bind_eq_some_iff.mp h
                refine bX10_drawn_133 (evX10_walk hq27) (by omega) ?_
                refine bX10_drawn_137 ?_
                cases h
                exact bX10_drawn_147
              · refine bX10_drawn_117 ⟨(of_decide_eq_true g25_0), (of_decide_eq_true g25_1)⟩ (fun _ => ?_) (fun z => absurd z c26)
                refine bX10_drawn_132 ?_
                obtain ⟨q28, hq28, h⟩ := Option.bind_eq_some_iff.mp h
                refine bX10_drawn_133 (evX10_walk hq28) (by omega) ?_
                refine bX10_drawn_137 ?_
                cases h
                exact bX10_drawn_147
            · skip
              refine bX10_drawn_62 (of_decide_eq_true g17) (fun _ _ _ _ => ?_) (fun z => absurd z c18) (fun z => absurd z c20) (fun z => absurd z c22) (fun z => absurd z c24)
              obtain ⟨q29, hq29, h⟩ := Option.bind_eq_some_iff.mp h
              refine bX10_drawn_141 (evX10_pass hq29) (by omega) ?_
              refine bX10_drawn_146 ?_
              cases h
              exact bX10_drawn_147
  · refine bX10_drawn_0 (fun z => absurd z c1) (fun _ => ?_)
    obtain ⟨g30, h⟩ := a_cond h
    obtain ⟨g30x1, g30_1⟩ := a_and g30
    have g30_0 := g30x1
    refine bX10_drawn_13 ⟨(of_decide_eq_true g30_0), (of_decide_eq_true g30_1)⟩ ?_
    refine a_ite h (fun c31 h => ?_) (fun c31 h => ?_)
    · refine bX10_drawn_32 (fun _ => ?_) (fun z => absurd c31 z)
      refine bX10_drawn_61 ?_
      obtain ⟨g32, h⟩ := a_cond h
      refine a_ite h (fun c33 h => ?_) (fun c33 h => ?_)
      · refine bX10_drawn_62 (of_decide_eq_true g32) (fun n0 _ _ _ => absurd c33 n0) (fun _ => ?_) (fun z => absurd (c33.symm.trans z) (by decide)) (fun z => absurd (c33.symm.trans z) (by decide)) (fun z => absurd (c33.symm.trans z) (by decide))
        obtain ⟨q34, hq34, h⟩ := Option.bind_eq_some_iff.mp h
        refine bX10_drawn_96 (evX10_enter hq34) (by omega) ?_
        refine bX10_drawn_103 ?_
        cases h
        exact bX10_drawn_147
      · skip
        refine a_ite h (fun c35 h => ?_) (fun c35 h => ?_)
        · refine bX10_drawn_62 (of_decide_eq_true g32) (fun _ n1 _ _ => absurd c35 n1) (fun z => absurd z c33) (fun _ => ?_) (fun z => absurd (c35.symm.trans z) (by decide)) (fun z => absurd (c35.symm.trans z) (by decide))
          obtain ⟨q36, hq36, h⟩ := Option.bind_eq_some_iff.mp h
          refine bX10_drawn_96 (evX10_enter hq36) (by omega) ?_
          refine bX10_drawn_103 ?_
          cases h
          exact bX10_drawn_147
        · skip
          refine a_ite h (fun c37 h => ?_) (fun c37 h => ?_)
          · refine bX10_drawn_62 (of_decide_eq_true g32) (fun _ _ n2 _ => absurd c37 n2) (fun z => absurd z c33) (fun z => absurd z c35) (fun _ => ?_) (fun z => absurd (c37.symm.trans z) (by decide))
            obtain ⟨q38, hq38, h⟩ := Option.bind_eq_some_iff.mp h
            refine bX10_drawn_107 (evX10_leave hq38) (by omega) ?_
            refine bX10_drawn_113 ?_
            cases h
            exact bX10_drawn_147
          · skip
            refine a_ite h (fun c39 h => ?_) (fun c39 h => ?_)
            · refine bX10_drawn_62 (of_decide_eq_true g32) (fun _ _ _ n3 => absurd c39 n3) (fun z => absurd z c33) (fun z => absurd z c35) (fun z => absurd z c37) (fun _ => ?_)
              obtain ⟨g40, h⟩ := a_cond h
              obtain ⟨g40x1, g40_1⟩ := a_and g40
              have g40_0 := g40x1
              refine a_ite h (fun c41 h => ?_) (fun c41 h => ?_)
              · refine bX10_drawn_117 ⟨(of_decide_eq_true g40_0), (of_decide_eq_true g40_1)⟩ (fun z => absurd c41 z) (fun _ => ?_)
                refine bX10_drawn_128 ?_
                obtain ⟨q42, hq42, h⟩ := Option.bind_eq_some_iff.mp h
                refine bX10_drawn_133 (evX10_walk hq42) (by omega) ?_
                refine bX10_drawn_137 ?_
                cases h
                exact bX10_drawn_147
              · refine bX10_drawn_117 ⟨(of_decide_eq_true g40_0), (of_decide_eq_true g40_1)⟩ (fun _ => ?_) (fun z => absurd z c41)
                refine bX10_drawn_132 ?_
                obtain ⟨q43, hq43, h⟩ := Option.bind_eq_some_iff.mp h
                refine bX10_drawn_133 (evX10_walk hq43) (by omega) ?_
                refine bX10_drawn_137 ?_
                cases h
                exact bX10_drawn_147
            · skip
              refine bX10_drawn_62 (of_decide_eq_true g32) (fun _ _ _ _ => ?_) (fun z => absurd z c33) (fun z => absurd z c35) (fun z => absurd z c37) (fun z => absurd z c39)
              obtain ⟨q44, hq44, h⟩ := Option.bind_eq_some_iff.mp h
              refine bX10_drawn_141 (evX10_pass hq44) (by omega) ?_
              refine bX10_drawn_146 ?_
              cases h
              exact bX10_drawn_147
    · refine bX10_drawn_32 (fun z => absurd z c31) (fun _ => ?_)
      obtain ⟨g45, h⟩ := a_cond h
      refine bX10_drawn_46 (of_decide_eq_true g45) ?_
      obtain ⟨g46, h⟩ := a_cond h
      refine a_ite h (fun c47 h => ?_) (fun c47 h => ?_)
      · refine bX10_drawn_62 (of_decide_eq_true g46) (fun n0 _ _ _ => absurd c47 n0) (fun _ => ?_) (fun z => absurd (c47.symm.trans z) (by decide)) (fun z => absurd (c47.symm.trans z) (by decide)) (fun z => absurd (c47.symm.trans z) (by decide))
        obtain ⟨q48, hq48, h⟩ := Option.bind_eq_some_iff.mp h
        refine bX10_drawn_96 (evX10_enter hq48) (by omega) ?_
        refine bX10_drawn_103 ?_
        cases h
        exact bX10_drawn_147
      · skip
        refine a_ite h (fun c49 h => ?_) (fun c49 h => ?_)
        · refine bX10_drawn_62 (of_decide_eq_true g46) (fun _ n1 _ _ => absurd c49 n1) (fun z => absurd z c47) (fun _ => ?_) (fun z => absurd (c49.symm.trans z) (by decide)) (fun z => absurd (c49.symm.trans z) (by decide))
          obtain ⟨q50, hq50, h⟩ := Option.bind_eq_some_iff.mp h
          refine bX10_drawn_96 (evX10_enter hq50) (by omega) ?_
          refine bX10_drawn_103 ?_
          cases h
          exact bX10_drawn_147
        · skip
          refine a_ite h (fun c51 h => ?_) (fun c51 h => ?_)
          · refine bX10_drawn_62 (of_decide_eq_true g46) (fun _ _ n2 _ => absurd c51 n2) (fun z => absurd z c47) (fun z => absurd z c49) (fun _ => ?_) (fun z => absurd (c51.symm.trans z) (by decide))
            obtain ⟨q52, hq52, h⟩ := Option.bind_eq_some_iff.mp h
            refine bX10_drawn_107 (evX10_leave hq52) (by omega) ?_
            refine bX10_drawn_113 ?_
            cases h
            exact bX10_drawn_147
          · skip
            refine a_ite h (fun c53 h => ?_) (fun c53 h => ?_)
            · refine bX10_drawn_62 (of_decide_eq_true g46) (fun _ _ _ n3 => absurd c53 n3) (fun z => absurd z c47) (fun z => absurd z c49) (fun z => absurd z c51) (fun _ => ?_)
              obtain ⟨g54, h⟩ := a_cond h
              obtain ⟨g54x1, g54_1⟩ := a_and g54
              have g54_0 := g54x1
              refine a_ite h (fun c55 h => ?_) (fun c55 h => ?_)
              · refine bX10_drawn_117 ⟨(of_decide_eq_true g54_0), (of_decide_eq_true g54_1)⟩ (fun z => absurd c55 z) (fun _ => ?_)
                refine bX10_drawn_128 ?_
                obtain ⟨q56, hq56, h⟩ := Option.bind_eq_some_iff.mp h
                refine bX10_drawn_133 (evX10_walk hq56) (by omega) ?_
                refine bX10_drawn_137 ?_
                cases h
                exact bX10_drawn_147
              · refine bX10_drawn_117 ⟨(of_decide_eq_true g54_0), (of_decide_eq_true g54_1)⟩ (fun _ => ?_) (fun z => absurd z c55)
                refine bX10_drawn_132 ?_
                obtain ⟨q57, hq57, h⟩ := Option.bind_eq_some_iff.mp h
                refine bX10_drawn_133 (evX10_walk hq57) (by omega) ?_
                refine bX10_drawn_137 ?_
                cases h
                exact bX10_drawn_147
            · skip
              refine bX10_drawn_62 (of_decide_eq_true g46) (fun _ _ _ _ => ?_) (fun z => absurd z c47) (fun z => absurd z c49) (fun z => absurd z c51) (fun z => absurd z c53)
              obtain ⟨q58, hq58, h⟩ := Option.bind_eq_some_iff.mp h
              refine bX10_drawn_141 (evX10_pass hq58) (by omega) ?_
              refine bX10_drawn_146 ?_
              cases h
              exact bX10_drawn_147

noncomputable def FX10_bestPairs (d : aI) (e : aJ) (x1 : Int32) (x2 : Int32) : Option (Int32 × aI × aJ) := ((FX10_within d e x1 (nI 0) (nI 1)).bind fun q1 => (if q1.1 = 0 then (some ((-(nI 1)), q1.2.1, q1.2.2)) else ((FX4_settle q1.2.1 q1.2.2 x2).bind fun q3 => (if x1 = 0 then (some ((q3.2.1 95 6), q3.2.1, q3.2.2)) else ((FX4_leastSteps q3.2.1 q3.2.2).bind fun q5 => (some (q5.1, q5.2.1, q5.2.2)))))))
theorem evX10_bestPairs {Γ : aG × Launch} {d : aI} {e : aJ} {x1 : Int32} {x2 : Int32} {q : Int32 × aI × aJ} (h : FX10_bestPairs d e x1 x2 = some q) : Ev Γ (5) mX10_bestPairs [.ref 0, .int x1, .int x2] d e (some (.int q.1)) q.2.1 q.2.2 := by
  refine Ev.of (by decide) rfl (Nat.le_of_ble_eq_true rfl) (fun z => by cases z) ?_
  show Rn Γ (5) mX10_bestPairs 0 [some (.ref 0), some (.int x1), some (.int x2)] [] d e _ _ _
  unfold FX10_bestPairs at h
  obtain ⟨q1, hq1, h⟩ := Option.bind_eq_some_iff.mp h
  refine bX10_bestPairs_0 (evX10_within hq1) (by omega) ?_
  refine a_ite h (fun c2 h => ?_) (fun c2 h => ?_)
  · refine bX10_bestPairs_6 (fun z => absurd c2 z) (fun _ => ?_)
    cases h
    exact bX10_bestPairs_9
  · refine bX10_bestPairs_6 (fun _ => ?_) (fun z => absurd z c2)
    obtain ⟨q3, hq3, h⟩ := Option.bind_eq_some_iff.mp h
    refine bX10_bestPairs_11 (evX4_settle hq3) (by omega) ?_
    refine a_ite h (fun c4 h => ?_) (fun c4 h => ?_)
    · refine bX10_bestPairs_26 (fun z => absurd c4 z) (fun _ => ?_)
      refine bX10_bestPairs_30 ?_
      cases h
      exact bX10_bestPairs_47
    · refine bX10_bestPairs_26 (fun _ => ?_) (fun z => absurd z c4)
      obtain ⟨q5, hq5, h⟩ := Option.bind_eq_some_iff.mp h
      refine bX10_bestPairs_40 (evX4_leastSteps hq5) (by omega) ?_
      cases h
      exact bX10_bestPairs_47

noncomputable def sX10_fitsClues_0 (d : aI) (e : aJ) (x1 : Int32) : Option (Nat × aL × aI × aJ) := (some (10, [some (.ref 0), some (.int x1), some (.ref 17), some (.int (nI 0))], d, e))
theorem tX10_fitsClues_0 {Γ : aG × Launch} {d dF : aI} {e eF : aJ} {x1 : Int32} {r : Option Value} {p : Nat × aL × aI × aJ} (h : sX10_fitsClues_0 d e x1 = some p) (kc : Nat.beq p.1 100000 = false → Rn Γ (5) mX10_fitsClues p.1 p.2.1 [] p.2.2.1 p.2.2.2 r dF eF) (kr : p.1 = 100000 → r = a_rt p.2.1 ∧ dF = p.2.2.1 ∧ eF = p.2.2.2) : Rn Γ (5) mX10_fitsClues 0 [some (.ref 0), some (.int x1), none, none] [] d e r dF eF := by
  unfold sX10_fitsClues_0 at h
  refine bX10_fitsClues_0 ?_
  cases h
  exact kc rfl

noncomputable def sX10_fitsClues_10 (d : aI) (e : aJ) (x1 : Int32) (x3 : Int32) : Option (Nat × aL × aI × aJ) := (if (d 17 4) ≤ x3 then (some (100000, [some (.int (nI 1))], d, e)) else (bif ((a_inb x3 8)) then ((FX10_takes d e x1 (d 18 (x3).toNatClampNeg)).bind fun q3 => (bif ((a_inb x3 8)) then (if q3.1 = (q3.2.1 19 (x3).toNatClampNeg) then (some (10, [some (.ref 0), some (.int x1), some (.ref 17), some (.int (x3 + (nI 1)))], q3.2.1, q3.2.2)) else (some (100000, [some (.int (nI 0))], q3.2.1, q3.2.2))) else none)) else none))
theorem tX10_fitsClues_10 {Γ : aG × Launch} {d dF : aI} {e eF : aJ} {x1 : Int32} {x3 : Int32} {r : Option Value} {p : Nat × aL × aI × aJ} (h : sX10_fitsClues_10 d e x1 x3 = some p) (kc : Nat.beq p.1 100000 = false → Rn Γ (5) mX10_fitsClues p.1 p.2.1 [] p.2.2.1 p.2.2.2 r dF eF) (kr : p.1 = 100000 → r = a_rt p.2.1 ∧ dF = p.2.2.1 ∧ eF = p.2.2.2) : Rn Γ (5) mX10_fitsClues 10 [some (.ref 0), some (.int x1), some (.ref 17), some (.int x3)] [] d e r dF eF := by
  unfold sX10_fitsClues_10 at h
  refine a_ite h (fun c1 h => ?_) (fun c1 h => ?_)
  · refine bX10_fitsClues_10 (fun _ => ?_) (fun z => absurd c1 z)
    cases h
    obtain ⟨k1, k2, k3⟩ := kr rfl
    exact bX10_fitsClues_46 k1 k2 k3
  · refine bX10_fitsClues_10 (fun z => absurd z c1) (fun _ => ?_)
    obtain ⟨g2, h⟩ := a_cond h
    obtain ⟨q3, hq3, h⟩ := Option.bind_eq_some_iff.mp h
    refine bX10_fitsClues_18 (a_inb_vp g2) (evX10_takes hq3) (by omega) ?_
    obtain ⟨g4, h⟩ := a_cond h
    refine a_ite h (fun c5 h => ?_) (fun c5 h => ?_)
    · refine bX10_fitsClues_29 (a_inb_vp g4) (fun _ => ?_) (fun z => absurd c5 z)
      refine bX10_fitsClues_40 ?_
      cases h
      exact kc rfl
    · refine bX10_fitsClues_29 (a_inb_vp g4) (fun z => absurd z c5) (fun _ => ?_)
      cases h
      obtain ⟨k1, k2, k3⟩ := kr rfl
      exact bX10_fitsClues_38 k1 k2 k3

noncomputable def stX10_fitsClues (p : Nat × aL × aI × aJ) : Option (Nat × aL × aI × aJ) := match p with
  | (0, [some (.ref 0), some (.int x1), none, none], d, e) => sX10_fitsClues_0 d e x1
  | (10, [some (.ref 0), some (.int x1), some (.ref 17), some (.int x3)], d, e) => sX10_fitsClues_10 d e x1 x3
  | _ => none
theorem uX10_fitsClues {Γ : aG × Launch} {p p2 : Nat × aL × aI × aJ} {r : Option Value} {dF : aI} {eF : aJ} (h : stX10_fitsClues p = some p2) (kc : Nat.beq p2.1 100000 = false → Rn Γ (5) mX10_fitsClues p2.1 p2.2.1 [] p2.2.2.1 p2.2.2.2 r dF eF) (kr : p2.1 = 100000 → r = a_rt p2.2.1 ∧ dF = p2.2.2.1 ∧ eF = p2.2.2.2) : Rn Γ (5) mX10_fitsClues p.1 p.2.1 [] p.2.2.1 p.2.2.2 r dF eF := by
  unfold stX10_fitsClues at h
  split at h
  · exact tX10_fitsClues_0 h kc kr
  · exact tX10_fitsClues_10 h kc kr
  · cases h
noncomputable def FX10_fitsClues (d : aI) (e : aJ) (x1 : Int32) : Option (Int32 × aI × aJ) := (a_run (stX10_fitsClues) (0, [some (.ref 0), some (.int x1), none, none], d, e)).bind a_xI
theorem evX10_fitsClues {Γ : aG × Launch} {d : aI} {e : aJ} {x1 : Int32} {q : Int32 × aI × aJ} (h : FX10_fitsClues d e x1 = some q) : Ev Γ (5) mX10_fitsClues [.ref 0, .int x1] d e (some (.int q.1)) q.2.1 q.2.2 := by
  refine Ev.of (by decide) rfl (Nat.le_of_ble_eq_true rfl) (fun z => by cases z) ?_
  show Rn Γ (5) mX10_fitsClues 0 [some (.ref 0), some (.int x1), none, none] [] d e _ _ _
  obtain ⟨q1, h1, h2⟩ := Option.bind_eq_some_iff.mp h
  obtain ⟨e1, e2, e3⟩ := a_xI_rt h2
  exact Rn.cast (a_run_ok (uX10_fitsClues) rfl h1) e1.symm e2.symm e3.symm
noncomputable def sX10_mostAlike_0 (d : aI) (e : aJ) (x1 : Int32) (x2 : Int32) : Option (Nat × aL × aI × aJ) := (some (5, [some (.ref 0), some (.int x1), some (.int x2), some (.int (nI 0)), some (.int (nI 0)), none, none], d, e))
theorem tX10_mostAlike_0 {Γ : aG × Launch} {d dF : aI} {e eF : aJ} {x1 : Int32} {x2 : Int32} {r : Option Value} {p : Nat × aL × aI × aJ} (h : sX10_mostAlike_0 d e x1 x2 = some p) (kc : Nat.beq p.1 100000 = false → Rn Γ (5) mX10_mostAlike p.1 p.2.1 [] p.2.2.1 p.2.2.2 r dF eF) (kr : p.1 = 100000 → r = a_rt p.2.1 ∧ dF = p.2.2.1 ∧ eF = p.2.2.2) : Rn Γ (5) mX10_mostAlike 0 [some (.ref 0), some (.int x1), some (.int x2), none, none, none, none] [] d e r dF eF := by
  unfold sX10_mostAlike_0 at h
  refine bX10_mostAlike_0 ?_
  cases h
  exact kc rfl

noncomputable def sX10_mostAlike_5 (d : aI) (e : aJ) (x1 : Int32) (x2 : Int32) (x3 : Int32) (x4 : Int32) (v5 : Option Value) (v6 : Option Value) : Option (Nat × aL × aI × aJ) := (if (d 2 9) ≤ x4 then (some (100000, [some (.int x3)], d, e)) else ((FX10_hasBit d e x1 x4).bind fun q2 => (if q2.1 = 0 then (bif ((a_inb x4 6)) then (some (53, [some (.ref 0), some (.int x1), some (.int x2), some (.int x3), some (.int x4), some (.int (nI 0)), some (.int (nI 0))], (uI q2.2.1 106 (x4).toNatClampNeg (-(nI 1))), q2.2.2)) else none) else ((FX10_takes q2.2.1 q2.2.2 x4 x2).bind fun q5 => (bif ((a_inb x4 6)) then (some (53, [some (.ref 0), some (.int x1), some (.int x2), some (.int x3), some (.int x4), some (.int (nI 0)), some (.int (nI 0))], (uI q5.2.1 106 (x4).toNatClampNeg q5.1), q5.2.2)) else none)))))
theorem tX10_mostAlike_5 {Γ : aG × Launch} {d dF : aI} {e eF : aJ} {x1 : Int32} {x2 : Int32} {x3 : Int32} {x4 : Int32} {v5 : Option Value} {v6 : Option Value} {r : Option Value} {p : Nat × aL × aI × aJ} (h : sX10_mostAlike_5 d e x1 x2 x3 x4 v5 v6 = some p) (kc : Nat.beq p.1 100000 = false → Rn Γ (5) mX10_mostAlike p.1 p.2.1 [] p.2.2.1 p.2.2.2 r dF eF) (kr : p.1 = 100000 → r = a_rt p.2.1 ∧ dF = p.2.2.1 ∧ eF = p.2.2.2) : Rn Γ (5) mX10_mostAlike 5 [some (.ref 0), some (.int x1), some (.int x2), some (.int x3), some (.int x4), v5, v6] [] d e r dF eF := by
  unfold sX10_mostAlike_5 at h
  refine a_ite h (fun c1 h => ?_) (fun c1 h => ?_)
  · refine bX10_mostAlike_5 (fun _ => ?_) (fun z => absurd c1 z)
    cases h
    obtain ⟨k1, k2, k3⟩ := kr rfl
    exact bX10_mostAlike_117 k1 k2 k3
  · refine bX10_mostAlike_5 (fun z => absurd z c1) (fun _ => ?_)
    obtain ⟨q2, hq2, h⟩ := Option.bind_eq_some_iff.mp h
    refine bX10_mostAlike_20 (evX10_hasBit hq2) (by omega) ?_
    refine a_ite h (fun c3 h => ?_) (fun c3 h => ?_)
    · refine bX10_mostAlike_32 (fun _ => ?_) (fun z => absurd c3 z)
      refine bX10_mostAlike_45 ?_
      obtain ⟨g4, h⟩ := a_cond h
      refine bX10_mostAlike_46 (a_inb_vp g4) ?_
      cases h
      exact kc rfl
    · refine bX10_mostAlike_32 (fun z => absurd z c3) (fun _ => ?_)
      obtain ⟨q5, hq5, h⟩ := Option.bind_eq_some_iff.mp h
      refine bX10_mostAlike_35 (evX10_takes hq5) (by omega) ?_
      refine bX10_mostAlike_42 ?_
      obtain ⟨g6, h⟩ := a_cond h
      refine bX10_mostAlike_46 (a_inb_vp g6) ?_
      cases h
      exact kc rfl

noncomputable def sX10_mostAlike_53 (d : aI) (e : aJ) (x1 : Int32) (x2 : Int32) (x3 : Int32) (x4 : Int32) (x5 : Int32) (x6 : Int32) : Option (Nat × aL × aI × aJ) := (if x4 < x6 then (some (5, [some (.ref 0), some (.int x1), some (.int x2), some (.int (a_max x3 x5)), some (.int (x4 + (nI 1))), some (.int x5), some (.int x6)], d, e)) else (bif ((a_inb x4 6)) then (if (d 106 (x4).toNatClampNeg) = (-(nI 1)) then (some (53, [some (.ref 0), some (.int x1), some (.int x2), some (.int x3), some (.int x4), some (.int (x5 + (nI 0))), some (.int (x6 + (nI 1)))], d, e)) else (bif ((a_inb x6 6) && (a_inb x4 6)) then (if (d 106 (x6).toNatClampNeg) = (d 106 (x4).toNatClampNeg) then (some (53, [some (.ref 0), some (.int x1), some (.int x2), some (.int x3), some (.int x4), some (.int (x5 + (nI 1))), some (.int (x6 + (nI 1)))], d, e)) else (some (53, [some (.ref 0), some (.int x1), some (.int x2), some (.int x3), some (.int x4), some (.int (x5 + (nI 0))), some (.int (x6 + (nI 1)))], d, e))) else none)) else none))
theorem tX10_mostAlike_53 {Γ : aG × Launch} {d dF : aI} {e eF : aJ} {x1 : Int32} {x2 : Int32} {x3 : Int32} {x4 : Int32} {x5 : Int32} {x6 : Int32} {r : Option Value} {p : Nat × aL × aI × aJ} (h : sX10_mostAlike_53 d e x1 x2 x3 x4 x5 x6 = some p) (kc : Nat.beq p.1 100000 = false → Rn Γ (5) mX10_mostAlike p.1 p.2.1 [] p.2.2.1 p.2.2.2 r dF eF) (kr : p.1 = 100000 → r = a_rt p.2.1 ∧ dF = p.2.2.1 ∧ eF = p.2.2.2) : Rn Γ (5) mX10_mostAlike 53 [some (.ref 0), some (.int x1), some (.int x2), some (.int x3), some (.int x4), some (.int x5), some (.int x6)] [] d e r dF eF := by
  unfold sX10_mostAlike_53 at h
  refine a_ite h (fun c1 h => ?_) (fun c1 h => ?_)
  · refine bX10_mostAlike_53 (fun _ => ?_) (fun z => absurd c1 z)
    refine bX10_mostAlike_104 ?_
    cases h
    exact kc rfl
  · refine bX10_mostAlike_53 (fun z => absurd z c1) (fun _ => ?_)
    obtain ⟨g2, h⟩ := a_cond h
    refine a_ite h (fun c3 h => ?_) (fun c3 h => ?_)
    · refine bX10_mostAlike_60 (a_inb_vp g2) (fun _ => ?_) (fun z => absurd c3 z)
      refine bX10_mostAlike_94 ?_
      refine bX10_mostAlike_95 ?_
      cases h
      exact kc rfl
    · refine bX10_mostAlike_60 (a_inb_vp g2) (fun z => absurd z c3) (fun _ => ?_)
      obtain ⟨g4, h⟩ := a_cond h
      obtain ⟨g4x1, g4_1⟩ := a_and g4
      have g4_0 := g4x1
      refine a_ite h (fun c5 h => ?_) (fun c5 h => ?_)
      · refine bX10_mostAlike_73 ⟨(a_inb_vp g4_0), (a_inb_vp g4_1)⟩ (fun z => absurd c5 z) (fun _ => ?_)
        refine bX10_mostAlike_90 ?_
        refine bX10_mostAlike_95 ?_
        cases h
        exact kc rfl
      · refine bX10_mostAlike_73 ⟨(a_inb_vp g4_0), (a_inb_vp g4_1)⟩ (fun _ => ?_) (fun z => absurd z c5)
        refine bX10_mostAlike_94 ?_
        refine bX10_mostAlike_95 ?_
        cases h
        exact kc rfl

noncomputable def stX10_mostAlike (p : Nat × aL × aI × aJ) : Option (Nat × aL × aI × aJ) := match p with
  | (0, [some (.ref 0), some (.int x1), some (.int x2), none, none, none, none], d, e) => sX10_mostAlike_0 d e x1 x2
  | (5, [some (.ref 0), some (.int x1), some (.int x2), some (.int x3), some (.int x4), v5, v6], d, e) => sX10_mostAlike_5 d e x1 x2 x3 x4 v5 v6
  | (53, [some (.ref 0), some (.int x1), some (.int x2), some (.int x3), some (.int x4), some (.int x5), some (.int x6)], d, e) => sX10_mostAlike_53 d e x1 x2 x3 x4 x5 x6
  | _ => none
theorem uX10_mostAlike {Γ : aG × Launch} {p p2 : Nat × aL × aI × aJ} {r : Option Value} {dF : aI} {eF : aJ} (h : stX10_mostAlike p = some p2) (kc : Nat.beq p2.1 100000 = false → Rn Γ (5) mX10_mostAlike p2.1 p2.2.1 [] p2.2.2.1 p2.2.2.2 r dF eF) (kr : p2.1 = 100000 → r = a_rt p2.2.1 ∧ dF = p2.2.2.1 ∧ eF = p2.2.2.2) : Rn Γ (5) mX10_mostAlike p.1 p.2.1 [] p.2.2.1 p.2.2.2 r dF eF := by
  unfold stX10_mostAlike at h
  split at h
  · exact tX10_mostAlike_0 h kc kr
  · exact tX10_mostAlike_5 h kc kr
  · exact tX10_mostAlike_53 h kc kr
  · cases h
noncomputable def FX10_mostAlike (d : aI) (e : aJ) (x1 : Int32) (x2 : Int32) : Option (Int32 × aI × aJ) := (a_run (stX10_mostAlike) (0, [some (.ref 0), some (.int x1), some (.int x2), none, none, none, none], d, e)).bind a_xI
theorem evX10_mostAlike {Γ : aG × Launch} {d : aI} {e : aJ} {x1 : Int32} {x2 : Int32} {q : Int32 × aI × aJ} (h : FX10_mostAlike d e x1 x2 = some q) : Ev Γ (5) mX10_mostAlike [.ref 0, .int x1, .int x2] d e (some (.int q.1)) q.2.1 q.2.2 := by
  refine Ev.of (by decide) rfl (Nat.le_of_ble_eq_true rfl) (fun z => by cases z) ?_
  show Rn Γ (5) mX10_mostAlike 0 [some (.ref 0), some (.int x1), some (.int x2), none, none, none, none] [] d e _ _ _
  obtain ⟨q1, h1, h2⟩ := Option.bind_eq_some_iff.mp h
  obtain ⟨e1, e2, e3⟩ := a_xI_rt h2
  exact Rn.cast (a_run_ok (uX10_mostAlike) rfl h1) e1.symm e2.symm e3.symm
noncomputable def sX10_fitsClaims_0 (d : aI) (e : aJ) (o1 : Nat) : Option (Nat × aL × aI × aJ) := (bif (decide (o1 = 58 ∨ o1 = 63 ∨ o1 = 68 ∨ o1 = 73)) then (some (10, [some (.ref 0), some (.ref o1), some (.ref 25), some (.int (nI 0))], d, e)) else none)
theorem tX10_fitsClaims_0 {Γ : aG × Launch} {d dF : aI} {e eF : aJ} {o1 : Nat} {r : Option Value} {p : Nat × aL × aI × aJ} (h : sX10_fitsClaims_0 d e o1 = some p) (kc : Nat.beq p.1 100000 = false → Rn Γ (4) mX10_fitsClaims p.1 p.2.1 [] p.2.2.1 p.2.2.2 r dF eF) (kr : p.1 = 100000 → r = a_rt p.2.1 ∧ dF = p.2.2.1 ∧ eF = p.2.2.2) : Rn Γ (4) mX10_fitsClaims 0 [some (.ref 0), some (.ref o1), none, none] [] d e r dF eF := by
  unfold sX10_fitsClaims_0 at h
  obtain ⟨ho1x, h⟩ := a_cond h
  have ho1 := of_decide_eq_true ho1x
  refine bX10_fitsClaims_0 ?_
  cases h
  exact kc rfl

noncomputable def sX10_fitsClaims_10 (d : aI) (e : aJ) (o1 : Nat) (x3 : Int32) : Option (Nat × aL × aI × aJ) := (bif (decide (o1 = 58 ∨ o1 = 63 ∨ o1 = 68 ∨ o1 = 73)) then (if (d 25 4) ≤ x3 then (some (100000, [some (.int (nI 1))], d, e)) else (bif ((a_inb x3 8) && (a_inb x3 8)) then ((FX1_taking d e o1 (d 26 (x3).toNatClampNeg) (d 27 (x3).toNatClampNeg)).bind fun q3 => (bif ((a_inb x3 8)) then (if q3.1 = (q3.2.1 28 (x3).toNatClampNeg) then (some (10, [some (.ref 0), some (.ref o1), some (.ref 25), some (.int (x3 + (nI 1)))], q3.2.1, q3.2.2)) else (some (100000, [some (.int (nI 0))], q3.2.1, q3.2.2))) else none)) else none)) else none)
theorem tX10_fitsClaims_10 {Γ : aG × Launch} {d dF : aI} {e eF : aJ} {o1 : Nat} {x3 : Int32} {r : Option Value} {p : Nat × aL × aI × aJ} (h : sX10_fitsClaims_10 d e o1 x3 = some p) (kc : Nat.beq p.1 100000 = false → Rn Γ (4) mX10_fitsClaims p.1 p.2.1 [] p.2.2.1 p.2.2.2 r dF eF) (kr : p.1 = 100000 → r = a_rt p.2.1 ∧ dF = p.2.2.1 ∧ eF = p.2.2.2) : Rn Γ (4) mX10_fitsClaims 10 [some (.ref 0), some (.ref o1), some (.ref 25), some (.int x3)] [] d e r dF eF := by
  unfold sX10_fitsClaims_10 at h
  obtain ⟨ho1x, h⟩ := a_cond h
  have ho1 := of_decide_eq_true ho1x
  refine a_ite h (fun c1 h => ?_) (fun c1 h => ?_)
  · refine bX10_fitsClaims_10 (fun _ => ?_) (fun z => absurd c1 z)
    cases h
    obtain ⟨k1, k2, k3⟩ := kr rfl
    exact bX10_fitsClaims_62 k1 k2 k3
  · refine bX10_fitsClaims_10 (fun z => absurd z c1) (fun _ => ?_)
    obtain ⟨g2, h⟩ := a_cond h
    obtain ⟨g2x1, g2_1⟩ := a_and g2
    have g2_0 := g2x1
    obtain ⟨q3, hq3, h⟩ := Option.bind_eq_some_iff.mp h
    refine bX10_fitsClaims_18 ⟨(a_inb_vp g2_0), (a_inb_vp g2_1)⟩ (evX1_taking hq3) (by omega) ?_
    obtain ⟨g4, h⟩ := a_cond h
    refine a_ite h (fun c5 h => ?_) (fun c5 h => ?_)
    · refine bX10_fitsClaims_45 (a_inb_vp g4) (fun _ => ?_) (fun z => absurd c5 z)
      refine bX10_fitsClaims_56 ?_
      cases h
      exact kc rfl
    · refine bX10_fitsClaims_45 (a_inb_vp g4) (fun z => absurd z c5) (fun _ => ?_)
      cases h
      obtain ⟨k1, k2, k3⟩ := kr rfl
      exact bX10_fitsClaims_54 k1 k2 k3

noncomputable def stX10_fitsClaims (p : Nat × aL × aI × aJ) : Option (Nat × aL × aI × aJ) := match p with
  | (0, [some (.ref 0), some (.ref o1), none, none], d, e) => sX10_fitsClaims_0 d e o1
  | (10, [some (.ref 0), some (.ref o1), some (.ref 25), some (.int x3)], d, e) => sX10_fitsClaims_10 d e o1 x3
  | _ => none
theorem uX10_fitsClaims {Γ : aG × Launch} {p p2 : Nat × aL × aI × aJ} {r : Option Value} {dF : aI} {eF : aJ} (h : stX10_fitsClaims p = some p2) (kc : Nat.beq p2.1 100000 = false → Rn Γ (4) mX10_fitsClaims p2.1 p2.2.1 [] p2.2.2.1 p2.2.2.2 r dF eF) (kr : p2.1 = 100000 → r = a_rt p2.2.1 ∧ dF = p2.2.2.1 ∧ eF = p2.2.2.2) : Rn Γ (4) mX10_fitsClaims p.1 p.2.1 [] p.2.2.1 p.2.2.2 r dF eF := by
  unfold stX10_fitsClaims at h
  split at h
  · exact tX10_fitsClaims_0 h kc kr
  · exact tX10_fitsClaims_10 h kc kr
  · cases h
noncomputable def FX10_fitsClaims (d : aI) (e : aJ) (o1 : Nat) : Option (Int32 × aI × aJ) := (a_run (stX10_fitsClaims) (0, [some (.ref 0), some (.ref o1), none, none], d, e)).bind a_xI
theorem evX10_fitsClaims {Γ : aG × Launch} {d : aI} {e : aJ} {o1 : Nat} {q : Int32 × aI × aJ} (h : FX10_fitsClaims d e o1 = some q) : Ev Γ (4) mX10_fitsClaims [.ref 0, .ref o1] d e (some (.int q.1)) q.2.1 q.2.2 := by
  refine Ev.of (by decide) rfl (Nat.le_of_ble_eq_true rfl) (fun z => by cases z) ?_
  show Rn Γ (4) mX10_fitsClaims 0 [some (.ref 0), some (.ref o1), none, none] [] d e _ _ _
  obtain ⟨q1, h1, h2⟩ := Option.bind_eq_some_iff.mp h
  obtain ⟨e1, e2, e3⟩ := a_xI_rt h2
  exact Rn.cast (a_run_ok (uX10_fitsClaims) rfl h1) e1.symm e2.symm e3.symm
noncomputable def sX5_sum_0 (Fo : aI → aJ → Int32 → Option (Unit × aI × aJ)) (d : aI) (e : aJ) (x1 : Int32) : Option (Nat × aL × aI × aJ) := ((FX5_product Fo d e x1).bind fun q1 => (some (7, [some (.ref 83), some (.int x1), some (.int (nI 0)), none], q1.2.1, q1.2.2)))
theorem tX5_sum_0 {Γ : aG × Launch} {Fo : aI → aJ → Int32 → Option (Unit × aI × aJ)} {dc : Nat} (hFo : ∀ {d : aI} {e : aJ} {z0 : Int32} {q : Unit × aI × aJ}, Fo d e z0 = some q → Ev Γ dc mX5_opened [.ref 83, .int z0] d e none q.2.1 q.2.2) {d dF : aI} {e eF : aJ} {x1 : Int32} {r : Option Value} {p : Nat × aL × aI × aJ} (h : sX5_sum_0 Fo d e x1 = some p) (kc : Nat.beq p.1 100000 = false → Rn Γ (dc + 5) mX5_sum p.1 p.2.1 [] p.2.2.1 p.2.2.2 r dF eF) (kr : p.1 = 100000 → r = a_rt p.2.1 ∧ dF = p.2.2.1 ∧ eF = p.2.2.2) : Rn Γ (dc + 5) mX5_sum 0 [some (.ref 83), some (.int x1), none, none] [] d e r dF eF := by
  unfold sX5_sum_0 at h
  obtain ⟨q1, hq1, h⟩ := Option.bind_eq_some_iff.mp h
  refine bX5_sum_0 (evX5_product hFo hq1) (by omega) ?_
  refine bX5_sum_5 ?_
  cases h
  exact kc rfl

noncomputable def sX5_sum_7 (Fo : aI → aJ → Int32 → Option (Unit × aI × aJ)) (d : aI) (e : aJ) (x1 : Int32) (x2 : Int32) (v3 : Option Value) : Option (Nat × aL × aI × aJ) := (if (nI 300) ≤ x2 then (some (100000, [], d, e)) else (if (d 83 3) = 0 then (if (d 83 10) = (nI 43) then ((FX5_next d e).bind fun q4 => ((FX5_product Fo q4.2.1 q4.2.2 x1).bind fun q5 => ((FX7_put q5.2.1 q5.2.2 (d 83 10)).bind fun q6 => (some (7, [some (.ref 83), some (.int x1), some (.int (x2 + (nI 1))), some (.int (d 83 10))], q6.2.1, q6.2.2))))) else (if (d 83 10) = (nI 45) then ((FX5_next d e).bind fun q8 => ((FX5_product Fo q8.2.1 q8.2.2 x1).bind fun q9 => ((FX7_put q9.2.1 q9.2.2 (d 83 10)).bind fun q10 => (some (7, [some (.ref 83), some (.int x1), some (.int (x2 + (nI 1))), some (.int (d 83 10))], q10.2.1, q10.2.2))))) else (some (100000, [], d, e)))) else (some (100000, [], d, e))))
theorem tX5_sum_7 {Γ : aG × Launch} {Fo : aI → aJ → Int32 → Option (Unit × aI × aJ)} {dc : Nat} (hFo : ∀ {d : aI} {e : aJ} {z0 : Int32} {q : Unit × aI × aJ}, Fo d e z0 = some q → Ev Γ dc mX5_opened [.ref 83, .int z0] d e none q.2.1 q.2.2) {d dF : aI} {e eF : aJ} {x1 : Int32} {x2 : Int32} {v3 : Option Value} {r : Option Value} {p : Nat × aL × aI × aJ} (h : sX5_sum_7 Fo d e x1 x2 v3 = some p) (kc : Nat.beq p.1 100000 = false → Rn Γ (dc + 5) mX5_sum p.1 p.2.1 [] p.2.2.1 p.2.2.2 r dF eF) (kr : p.1 = 100000 → r = a_rt p.2.1 ∧ dF = p.2.2.1 ∧ eF = p.2.2.2) : Rn Γ (dc + 5) mX5_sum 7 [some (.ref 83), some (.int x1), some (.int x2), v3] [] d e r dF eF := by
  unfold sX5_sum_7 at h
  refine a_ite h (fun c1 h => ?_) (fun c1 h => ?_)
  · refine bX5_sum_7 (fun _ => ?_) (fun z => absurd c1 z)
    cases h
    obtain ⟨k1, k2, k3⟩ := kr rfl
    exact bX5_sum_68 k1 k2 k3
  · refine bX5_sum_7 (fun z => absurd z c1) (fun _ => ?_)
    refine a_ite h (fun c2 h => ?_) (fun c2 h => ?_)
    · refine bX5_sum_14 (fun z => absurd c2 z) (fun _ => ?_)
      refine a_ite h (fun c3 h => ?_) (fun c3 h => ?_)
      · refine bX5_sum_21 (fun _ => ?_) (fun z => absurd c3 z)
        obtain ⟨q4, hq4, h⟩ := Option.bind_eq_some_iff.mp h
        refine bX5_sum_39 (evX5_next hq4) (by omega) ?_
        obtain ⟨q5, hq5, h⟩ := Option.bind_eq_some_iff.mp h
        refine bX5_sum_48 (evX5_product hFo hq5) (by omega) ?_
        obtain ⟨q6, hq6, h⟩ := Option.bind_eq_some_iff.mp h
        refine bX5_sum_53 (evX7_put hq6) (by omega) ?_
        refine bX5_sum_61 ?_
        cases h
        exact kc rfl
      · refine bX5_sum_21 (fun z => absurd z c3) (fun _ => ?_)
        refine a_ite h (fun c7 h => ?_) (fun c7 h => ?_)
        · refine bX5_sum_30 (fun z => absurd c7 z) (fun _ => ?_)
          obtain ⟨q8, hq8, h⟩ := Option.bind_eq_some_iff.mp h
          refine bX5_sum_39 (evX5_next hq8) (by omega) ?_
          obtain ⟨q9, hq9, h⟩ := Option.bind_eq_some_iff.mp h
          refine bX5_sum_48 (evX5_product hFo hq9) (by omega) ?_
          obtain ⟨q10, hq10, h⟩ := Option.bind_eq_some_iff.mp h
          refine bX5_sum_53 (evX7_put hq10) (by omega) ?_
          refine bX5_sum_61 ?_
          cases h
          exact kc rfl
        · refine bX5_sum_30 (fun _ => ?_) (fun z => absurd z c7)
          cases h
          obtain ⟨k1, k2, k3⟩ := kr rfl
          exact bX5_sum_68 k1 k2 k3
    · refine bX5_sum_14 (fun _ => ?_) (fun z => absurd z c2)
      cases h
      obtain ⟨k1, k2, k3⟩ := kr rfl
      exact bX5_sum_68 k1 k2 k3

noncomputable def stX5_sum (Fo : aI → aJ → Int32 → Option (Unit × aI × aJ)) (p : Nat × aL × aI × aJ) : Option (Nat × aL × aI × aJ) := match p with
  | (0, [some (.ref 83), some (.int x1), none, none], d, e) => sX5_sum_0 Fo d e x1
  | (7, [some (.ref 83), some (.int x1), some (.int x2), v3], d, e) => sX5_sum_7 Fo d e x1 x2 v3
  | _ => none
theorem uX5_sum {Γ : aG × Launch} {Fo : aI → aJ → Int32 → Option (Unit × aI × aJ)} {dc : Nat} (hFo : ∀ {d : aI} {e : aJ} {z0 : Int32} {q : Unit × aI × aJ}, Fo d e z0 = some q → Ev Γ dc mX5_opened [.ref 83, .int z0] d e none q.2.1 q.2.2) {p p2 : Nat × aL × aI × aJ} {r : Option Value} {dF : aI} {eF : aJ} (h : stX5_sum Fo p = some p2) (kc : Nat.beq p2.1 100000 = false → Rn Γ (dc + 5) mX5_sum p2.1 p2.2.1 [] p2.2.2.1 p2.2.2.2 r dF eF) (kr : p2.1 = 100000 → r = a_rt p2.2.1 ∧ dF = p2.2.2.1 ∧ eF = p2.2.2.2) : Rn Γ (dc + 5) mX5_sum p.1 p.2.1 [] p.2.2.1 p.2.2.2 r dF eF := by
  unfold stX5_sum at h
  split at h
  · exact tX5_sum_0 hFo h kc kr
  · exact tX5_sum_7 hFo h kc kr
  · cases h
noncomputable def FX5_sum (Fo : aI → aJ → Int32 → Option (Unit × aI × aJ)) (d : aI) (e : aJ) (x1 : Int32) : Option (Unit × aI × aJ) := (a_run (stX5_sum Fo) (0, [some (.ref 83), some (.int x1), none, none], d, e)).bind a_xV
theorem evX5_sum {Γ : aG × Launch} {Fo : aI → aJ → Int32 → Option (Unit × aI × aJ)} {dc : Nat} (hFo : ∀ {d : aI} {e : aJ} {z0 : Int32} {q : Unit × aI × aJ}, Fo d e z0 = some q → Ev Γ dc mX5_opened [.ref 83, .int z0] d e none q.2.1 q.2.2) {d : aI} {e : aJ} {x1 : Int32} {q : Unit × aI × aJ} (h : FX5_sum Fo d e x1 = some q) : Ev Γ (dc + 5) mX5_sum [.ref 83, .int x1] d e none q.2.1 q.2.2 := by
  refine Ev.of (by decide) rfl (Nat.le_of_ble_eq_true rfl) (fun z => by cases z) ?_
  show Rn Γ (dc + 5) mX5_sum 0 [some (.ref 83), some (.int x1), none, none] [] d e _ _ _
  obtain ⟨q1, h1, h2⟩ := Option.bind_eq_some_iff.mp h
  obtain ⟨e1, e2, e3⟩ := a_xV_rt h2
  exact Rn.cast (a_run_ok (uX5_sum hFo) rfl h1) e1.symm e2.symm e3.symm
noncomputable def sX5_ask_0 (Fo : aI → aJ → Int32 → Option (Unit × aI × aJ)) (d : aI) (e : aJ) (x1 : Int32) : Option (Nat × aL × aI × aJ) := (some (2, [some (.ref 83), some (.int x1), some (.int (nI 0)), none, none], d, e))
theorem tX5_ask_0 {Γ : aG × Launch} {Fo : aI → aJ → Int32 → Option (Unit × aI × aJ)} {dc : Nat} (hFo : ∀ {d : aI} {e : aJ} {z0 : Int32} {q : Unit × aI × aJ}, Fo d e z0 = some q → Ev Γ dc mX5_opened [.ref 83, .int z0] d e none q.2.1 q.2.2) {d dF : aI} {e eF : aJ} {x1 : Int32} {r : Option Value} {p : Nat × aL × aI × aJ} (h : sX5_ask_0 Fo d e x1 = some p) (kc : Nat.beq p.1 100000 = false → Rn Γ (dc + 6) mX5_ask p.1 p.2.1 [] p.2.2.1 p.2.2.2 r dF eF) (kr : p.1 = 100000 → r = a_rt p.2.1 ∧ dF = p.2.2.1 ∧ eF = p.2.2.2) : Rn Γ (dc + 6) mX5_ask 0 [some (.ref 83), some (.int x1), none, none, none] [] d e r dF eF := by
  unfold sX5_ask_0 at h
  refine bX5_ask_0 ?_
  cases h
  exact kc rfl

noncomputable def sX5_ask_2 (Fo : aI → aJ → Int32 → Option (Unit × aI × aJ)) (d : aI) (e : aJ) (x1 : Int32) (x2 : Int32) (v3 : Option Value) (v4 : Option Value) : Option (Nat × aL × aI × aJ) := (if (d 83 10) = (nI 320) then (if (nI 8) ≤ (x1 + x2) then (if (d 83 10) = (nI 320) then ((FX5_blame d e (nI 3)).bind fun q4 => (some (100000, [], q4.2.1, q4.2.2))) else ((FX5_sum Fo d e (x1 + x2)).bind fun q5 => ((FX5_isComparison q5.2.1 q5.2.2 (q5.2.1 83 10)).bind fun q6 => (if q6.1 = 0 then ((FX5_blame q6.2.1 q6.2.2 (nI 1)).bind fun q8 => (some (100000, [], q8.2.1, q8.2.2))) else ((FX5_next q6.2.1 q6.2.2).bind fun q9 => ((FX5_sum Fo q9.2.1 q9.2.2 (x1 + x2)).bind fun q10 => ((FX7_put q10.2.1 q10.2.2 (q5.2.1 83 10)).bind fun q11 => (some (94, [some (.ref 83), some (.int x1), some (.int x2), some (.int (q5.2.1 83 10)), some (.int (nI 0))], q11.2.1, q11.2.2))))))))) else ((FX5_next d e).bind fun q12 => (some (2, [some (.ref 83), some (.int x1), some (.int (x2 + (nI 1))), v3, v4], q12.2.1, q12.2.2)))) else (if (d 83 10) = (nI 320) then ((FX5_blame d e (nI 3)).bind fun q14 => (some (100000, [], q14.2.1, q14.2.2))) else ((FX5_sum Fo d e (x1 + x2)).bind fun q15 => ((FX5_isComparison q15.2.1 q15.2.2 (q15.2.1 83 10)).bind fun q16 => (if q16.1 = 0 then ((FX5_blame q16.2.1 q16.2.2 (nI 1)).bind fun q18 => (some (100000, [], q18.2.1, q18.2.2))) else ((FX5_next q16.2.1 q16.2.2).bind fun q19 => ((FX5_sum Fo q19.2.1 q19.2.2 (x1 + x2)).bind fun q20 => ((FX7_put q20.2.1 q20.2.2 (q15.2.1 83 10)).bind fun q21 => (some (94, [some (.ref 83), some (.int x1), some (.int x2), some (.int (q15.2.1 83 10)), some (.int (nI 0))], q21.2.1, q21.2.2))))))))))
theorem tX5_ask_2 {Γ : aG × Launch} {Fo : aI → aJ → Int32 → Option (Unit × aI × aJ)} {dc : Nat} (hFo : ∀ {d : aI} {e : aJ} {z0 : Int32} {q : Unit × aI × aJ}, Fo d e z0 = some q → Ev Γ dc mX5_opened [.ref 83, .int z0] d e none q.2.1 q.2.2) {d dF : aI} {e eF : aJ} {x1 : Int32} {x2 : Int32} {v3 : Option Value} {v4 : Option Value} {r : Option Value} {p : Nat × aL × aI × aJ} (h : sX5_ask_2 Fo d e x1 x2 v3 v4 = some p) (kc : Nat.beq p.1 100000 = false → Rn Γ (dc + 6) mX5_ask p.1 p.2.1 [] p.2.2.1 p.2.2.2 r dF eF) (kr : p.1 = 100000 → r = a_rt p.2.1 ∧ dF = p.2.2.1 ∧ eF = p.2.2.2) : Rn Γ (dc + 6) mX5_ask 2 [some (.ref 83), some (.int x1), some (.int x2), v3, v4] [] d e r dF eF := by
  unfold sX5_ask_2 at h
  refine a_ite h (fun c1 h => ?_) (fun c1 h => ?_)
  · refine bX5_ask_2 (fun z => absurd c1 z) (fun _ => ?_)
    refine a_ite h (fun c2 h => ?_) (fun c2 h => ?_)
    · refine bX5_ask_12 (fun _ => ?_) (fun z => absurd c2 z)
      refine a_ite h (fun c3 h => ?_) (fun c3 h => ?_)
      · refine bX5_ask_30 (fun z => absurd c3 z) (fun _ => ?_)
        obtain ⟨q4, hq4, h⟩ := Option.bind_eq_some_iff.mp h
        refine bX5_ask_40 (evX5_blame hq4) (by omega) ?_
        cases h
        obtain ⟨k1, k2, k3⟩ := kr rfl
        exact bX5_ask_45 k1 k2 k3
      · refine bX5_ask_30 (fun _ => ?_) (fun z => absurd z c3)
        obtain ⟨q5, hq5, h⟩ := Option.bind_eq_some_iff.mp h
        refine bX5_ask_46 (evX5_sum hFo hq5) (by omega) ?_
        obtain ⟨q6, hq6, h⟩ := Option.bind_eq_some_iff.mp h
        refine bX5_ask_53 (evX5_isComparison hq6) (by omega) ?_
        refine a_ite h (fun c7 h => ?_) (fun c7 h => ?_)
        · refine bX5_ask_62 (fun z => absurd c7 z) (fun _ => ?_)
          obtain ⟨q8, hq8, h⟩ := Option.bind_eq_some_iff.mp h
          refine bX5_ask_65 (evX5_blame hq8) (by omega) ?_
          cases h
          obtain ⟨k1, k2, k3⟩ := kr rfl
          exact bX5_ask_70 k1 k2 k3
        · refine bX5_ask_62 (fun _ => ?_) (fun z => absurd z c7)
          obtain ⟨q9, hq9, h⟩ := Option.bind_eq_some_iff.mp h
          refine bX5_ask_71 (evX5_next hq9) (by omega) ?_
          obtain ⟨q10, hq10, h⟩ := Option.bind_eq_some_iff.mp h
          refine bX5_ask_75 (evX5_sum hFo hq10) (by omega) ?_
          obtain ⟨q11, hq11, h⟩ := Option.bind_eq_some_iff.mp h
          refine bX5_ask_82 (evX7_put hq11) (by omega) ?_
          refine bX5_ask_90 ?_
          cases h
          exact kc rfl
    · refine bX5_ask_12 (fun z => absurd z c2) (fun _ => ?_)
      obtain ⟨q12, hq12, h⟩ := Option.bind_eq_some_iff.mp h
      refine bX5_ask_20 (evX5_next hq12) (by omega) ?_
      refine bX5_ask_27 ?_
      cases h
      exact kc rfl
  · refine bX5_ask_2 (fun _ => ?_) (fun z => absurd z c1)
    refine a_ite h (fun c13 h => ?_) (fun c13 h => ?_)
    · refine bX5_ask_30 (fun z => absurd c13 z) (fun _ => ?_)
      obtain ⟨q14, hq14, h⟩ := Option.bind_eq_some_iff.mp h
      refine bX5_ask_40 (evX5_blame hq14) (by omega) ?_
      cases h
      obtain ⟨k1, k2, k3⟩ := kr rfl
      exact bX5_ask_45 k1 k2 k3
    · refine bX5_ask_30 (fun _ => ?_) (fun z => absurd z c13)
      obtain ⟨q15, hq15, h⟩ := Option.bind_eq_some_iff.mp h
      refine bX5_ask_46 (evX5_sum hFo hq15) (by omega) ?_
      obtain ⟨q16, hq16, h⟩ := Option.bind_eq_some_iff.mp h
      refine bX5_ask_53 (evX5_isComparison hq16) (by omega) ?_
      refine a_ite h (fun c17 h => ?_) (fun c17 h => ?_)
      · refine bX5_ask_62 (fun z => absurd c17 z) (fun _ => ?_)
        obtain ⟨q18, hq18, h⟩ := Option.bind_eq_some_iff.mp h
        refine bX5_ask_65 (evX5_blame hq18) (by omega) ?_
        cases h
        obtain ⟨k1, k2, k3⟩ := kr rfl
        exact bX5_ask_70 k1 k2 k3
      · refine bX5_ask_62 (fun _ => ?_) (fun z => absurd z c17)
        obtain ⟨q19, hq19, h⟩ := Option.bind_eq_some_iff.mp h
        refine bX5_ask_71 (evX5_next hq19) (by omega) ?_
        obtain ⟨q20, hq20, h⟩ := Option.bind_eq_some_iff.mp h
        refine bX5_ask_75 (evX5_sum hFo hq20) (by omega) ?_
        obtain ⟨q21, hq21, h⟩ := Option.bind_eq_some_iff.mp h
        refine bX5_ask_82 (evX7_put hq21) (by omega) ?_
        refine bX5_ask_90 ?_
        cases h
        exact kc rfl

noncomputable def sX5_ask_94 (Fo : aI → aJ → Int32 → Option (Unit × aI × aJ)) (d : aI) (e : aJ) (x1 : Int32) (x2 : Int32) (x3 : Int32) (x4 : Int32) : Option (Nat × aL × aI × aJ) := (if x2 ≤ x4 then (some (100000, [], d, e)) else ((FX7_put d e (nI 320)).bind fun q2 => (some (94, [some (.ref 83), some (.int x1), some (.int x2), some (.int x3), some (.int (x4 + (nI 1)))], q2.2.1, q2.2.2))))
theorem tX5_ask_94 {Γ : aG × Launch} {Fo : aI → aJ → Int32 → Option (Unit × aI × aJ)} {dc : Nat} (hFo : ∀ {d : aI} {e : aJ} {z0 : Int32} {q : Unit × aI × aJ}, Fo d e z0 = some q → Ev Γ dc mX5_opened [.ref 83, .int z0] d e none q.2.1 q.2.2) {d dF : aI} {e eF : aJ} {x1 : Int32} {x2 : Int32} {x3 : Int32} {x4 : Int32} {r : Option Value} {p : Nat × aL × aI × aJ} (h : sX5_ask_94 Fo d e x1 x2 x3 x4 = some p) (kc : Nat.beq p.1 100000 = false → Rn Γ (dc + 6) mX5_ask p.1 p.2.1 [] p.2.2.1 p.2.2.2 r dF eF) (kr : p.1 = 100000 → r = a_rt p.2.1 ∧ dF = p.2.2.1 ∧ eF = p.2.2.2) : Rn Γ (dc + 6) mX5_ask 94 [some (.ref 83), some (.int x1), some (.int x2), some (.int x3), some (.int x4)] [] d e r dF eF := by
  unfold sX5_ask_94 at h
  refine a_ite h (fun c1 h => ?_) (fun c1 h => ?_)
  · refine bX5_ask_94 (fun _ => ?_) (fun z => absurd c1 z)
    cases h
    obtain ⟨k1, k2, k3⟩ := kr rfl
    exact bX5_ask_117 k1 k2 k3
  · refine bX5_ask_94 (fun z => absurd z c1) (fun _ => ?_)
    obtain ⟨q2, hq2, h⟩ := Option.bind_eq_some_iff.mp h
    refine bX5_ask_100 (evX7_put hq2) (by omega) ?_
    refine bX5_ask_110 ?_
    cases h
    exact kc rfl

noncomputable def stX5_ask (Fo : aI → aJ → Int32 → Option (Unit × aI × aJ)) (p : Nat × aL × aI × aJ) : Option (Nat × aL × aI × aJ) := match p with
  | (0, [some (.ref 83), some (.int x1), none, none, none], d, e) => sX5_ask_0 Fo d e x1
  | (2, [some (.ref 83), some (.int x1), some (.int x2), v3, v4], d, e) => sX5_ask_2 Fo d e x1 x2 v3 v4
  | (94, [some (.ref 83), some (.int x1), some (.int x2), some (.int x3), some (.int x4)], d, e) => sX5_ask_94 Fo d e x1 x2 x3 x4
  | _ => none
theorem uX5_ask {Γ : aG × Launch} {Fo : aI → aJ → Int32 → Option (Unit × aI × aJ)} {dc : Nat} (hFo : ∀ {d : aI} {e : aJ} {z0 : Int32} {q : Unit × aI × aJ}, Fo d e z0 = some q → Ev Γ dc mX5_opened [.ref 83, .int z0] d e none q.2.1 q.2.2) {p p2 : Nat × aL × aI × aJ} {r : Option Value} {dF : aI} {eF : aJ} (h : stX5_ask Fo p = some p2) (kc : Nat.beq p2.1 100000 = false → Rn Γ (dc + 6) mX5_ask p2.1 p2.2.1 [] p2.2.2.1 p2.2.2.2 r dF eF) (kr : p2.1 = 100000 → r = a_rt p2.2.1 ∧ dF = p2.2.2.1 ∧ eF = p2.2.2.2) : Rn Γ (dc + 6) mX5_ask p.1 p.2.1 [] p.2.2.1 p.2.2.2 r dF eF := by
  unfold stX5_ask at h
  split at h
  · exact tX5_ask_0 hFo h kc kr
  · exact tX5_ask_2 hFo h kc kr
  · exact tX5_ask_94 hFo h kc kr
  · cases h
noncomputable def FX5_ask (Fo : aI → aJ → Int32 → Option (Unit × aI × aJ)) (d : aI) (e : aJ) (x1 : Int32) : Option (Unit × aI × aJ) := (a_run (stX5_ask Fo) (0, [some (.ref 83), some (.int x1), none, none, none], d, e)).bind a_xV
theorem evX5_ask {Γ : aG × Launch} {Fo : aI → aJ → Int32 → Option (Unit × aI × aJ)} {dc : Nat} (hFo : ∀ {d : aI} {e : aJ} {z0 : Int32} {q : Unit × aI × aJ}, Fo d e z0 = some q → Ev Γ dc mX5_opened [.ref 83, .int z0] d e none q.2.1 q.2.2) {d : aI} {e : aJ} {x1 : Int32} {q : Unit × aI × aJ} (h : FX5_ask Fo d e x1 = some q) : Ev Γ (dc + 6) mX5_ask [.ref 83, .int x1] d e none q.2.1 q.2.2 := by
  refine Ev.of (by decide) rfl (Nat.le_of_ble_eq_true rfl) (fun z => by cases z) ?_
  show Rn Γ (dc + 6) mX5_ask 0 [some (.ref 83), some (.int x1), none, none, none] [] d e _ _ _
  obtain ⟨q1, h1, h2⟩ := Option.bind_eq_some_iff.mp h
  obtain ⟨e1, e2, e3⟩ := a_xV_rt h2
  exact Rn.cast (a_run_ok (uX5_ask hFo) rfl h1) e1.symm e2.symm e3.symm
noncomputable def sX10_hour_0 (d : aI) (e : aJ) (x1 : Int32) : Option (Nat × aL × aI × aJ) := ((FX10_within d e x1 (nI 1) (nI 60)).bind fun q1 => (if q1.1 = 0 then (some (100000, [some (.int (-(nI 1)))], q1.2.1, q1.2.2)) else (if ((q1.2.1 2 11) + x1) ≤ (nI 9999) then (some (34, [some (.ref 0), some (.int x1), some (.int (nI 0)), some (.int (nI 0))], q1.2.1, q1.2.2)) else (some (100000, [some (.int (-(nI 1)))], q1.2.1, q1.2.2)))))
theorem tX10_hour_0 {Γ : aG × Launch} {d dF : aI} {e eF : aJ} {x1 : Int32} {r : Option Value} {p : Nat × aL × aI × aJ} (h : sX10_hour_0 d e x1 = some p) (kc : Nat.beq p.1 100000 = false → Rn Γ (5) mX10_hour p.1 p.2.1 [] p.2.2.1 p.2.2.2 r dF eF) (kr : p.1 = 100000 → r = a_rt p.2.1 ∧ dF = p.2.2.1 ∧ eF = p.2.2.2) : Rn Γ (5) mX10_hour 0 [some (.ref 0), some (.int x1), none, none] [] d e r dF eF := by
  unfold sX10_hour_0 at h
  obtain ⟨q1, hq1, h⟩ := Option.bind_eq_some_iff.mp h
  refine bX10_hour_0 (evX10_within hq1) (by omega) ?_
  refine a_ite h (fun c2 h => ?_) (fun c2 h => ?_)
  · refine bX10_hour_7 (fun _ => ?_) (fun z => absurd c2 z)
    cases h
    obtain ⟨k1, k2, k3⟩ := kr rfl
    exact bX10_hour_28 k1 k2 k3
  · refine bX10_hour_7 (fun z => absurd z c2) (fun _ => ?_)
    refine a_ite h (fun c3 h => ?_) (fun c3 h => ?_)
    · refine bX10_hour_10 (fun _ => ?_) (fun z => absurd c3 z)
      refine bX10_hour_30 ?_
      cases h
      exact kc rfl
    · refine bX10_hour_10 (fun z => absurd z c3) (fun _ => ?_)
      cases h
      obtain ⟨k1, k2, k3⟩ := kr rfl
      exact bX10_hour_28 k1 k2 k3

noncomputable def sX10_hour_34 (d : aI) (e : aJ) (x1 : Int32) (x2 : Int32) (x3 : Int32) : Option (Nat × aL × aI × aJ) := (if x1 ≤ x3 then (some (100000, [some (.int x2)], d, e)) else ((FX10_pass d e (nI 1)).bind fun q2 => (some (34, [some (.ref 0), some (.int x1), some (.int (x2 + q2.1)), some (.int (x3 + (nI 1)))], q2.2.1, q2.2.2))))
theorem tX10_hour_34 {Γ : aG × Launch} {d dF : aI} {e eF : aJ} {x1 : Int32} {x2 : Int32} {x3 : Int32} {r : Option Value} {p : Nat × aL × aI × aJ} (h : sX10_hour_34 d e x1 x2 x3 = some p) (kc : Nat.beq p.1 100000 = false → Rn Γ (5) mX10_hour p.1 p.2.1 [] p.2.2.1 p.2.2.2 r dF eF) (kr : p.1 = 100000 → r = a_rt p.2.1 ∧ dF = p.2.2.1 ∧ eF = p.2.2.2) : Rn Γ (5) mX10_hour 34 [some (.ref 0), some (.int x1), some (.int x2), some (.int x3)] [] d e r dF eF := by
  unfold sX10_hour_34 at h
  refine a_ite h (fun c1 h => ?_) (fun c1 h => ?_)
  · refine bX10_hour_34 (fun _ => ?_) (fun z => absurd c1 z)
    cases h
    obtain ⟨k1, k2, k3⟩ := kr rfl
    exact bX10_hour_53 k1 k2 k3
  · refine bX10_hour_34 (fun z => absurd z c1) (fun _ => ?_)
    obtain ⟨q2, hq2, h⟩ := Option.bind_eq_some_iff.mp h
    refine bX10_hour_39 (evX10_pass hq2) (by omega) ?_
    refine bX10_hour_45 ?_
    cases h
    exact kc rfl

noncomputable def stX10_hour (p : Nat × aL × aI × aJ) : Option (Nat × aL × aI × aJ) := match p with
  | (0, [some (.ref 0), some (.int x1), none, none], d, e) => sX10_hour_0 d e x1
  | (34, [some (.ref 0), some (.int x1), some (.int x2), some (.int x3)], d, e) => sX10_hour_34 d e x1 x2 x3
  | _ => none
theorem uX10_hour {Γ : aG × Launch} {p p2 : Nat × aL × aI × aJ} {r : Option Value} {dF : aI} {eF : aJ} (h : stX10_hour p = some p2) (kc : Nat.beq p2.1 100000 = false → Rn Γ (5) mX10_hour p2.1 p2.2.1 [] p2.2.2.1 p2.2.2.2 r dF eF) (kr : p2.1 = 100000 → r = a_rt p2.2.1 ∧ dF = p2.2.2.1 ∧ eF = p2.2.2.2) : Rn Γ (5) mX10_hour p.1 p.2.1 [] p.2.2.1 p.2.2.2 r dF eF := by
  unfold stX10_hour at h
  split at h
  · exact tX10_hour_0 h kc kr
  · exact tX10_hour_34 h kc kr
  · cases h
noncomputable def FX10_hour (d : aI) (e : aJ) (x1 : Int32) : Option (Int32 × aI × aJ) := (a_run (stX10_hour) (0, [some (.ref 0), some (.int x1), none, none], d, e)).bind a_xI
theorem evX10_hour {Γ : aG × Launch} {d : aI} {e : aJ} {x1 : Int32} {q : Int32 × aI × aJ} (h : FX10_hour d e x1 = some q) : Ev Γ (5) mX10_hour [.ref 0, .int x1] d e (some (.int q.1)) q.2.1 q.2.2 := by
  refine Ev.of (by decide) rfl (Nat.le_of_ble_eq_true rfl) (fun z => by cases z) ?_
  show Rn Γ (5) mX10_hour 0 [some (.ref 0), some (.int x1), none, none] [] d e _ _ _
  obtain ⟨q1, h1, h2⟩ := Option.bind_eq_some_iff.mp h
  obtain ⟨e1, e2, e3⟩ := a_xI_rt h2
  exact Rn.cast (a_run_ok (uX10_hour) rfl h1) e1.symm e2.symm e3.symm
noncomputable def sX10_years_0 (d : aI) (e : aJ) (x1 : Int32) (x2 : Int32) : Option (Nat × aL × aI × aJ) := ((FX10_within d e x1 (nI 0) (nI 9999)).bind fun q1 => (if q1.1 = 0 then (some (100000, [some (.int (-(nI 1)))], q1.2.1, q1.2.2)) else ((FX10_within q1.2.1 q1.2.2 x2 (nI 1) (nI 40)).bind fun q3 => (if q3.1 = 0 then (some (100000, [some (.int (-(nI 1)))], q3.2.1, q3.2.2)) else ((FX6_keep q3.2.1 q3.2.2).bind fun q5 => (some (59, [some (.ref 0), some (.int x1), some (.int x2), some (.int (nI 0))], (uI q5.2.1 2 12 ((x1 * (nI 2)) + (nI 397))), q5.2.2)))))))
theorem tX10_years_0 {Γ : aG × Launch} {d dF : aI} {e eF : aJ} {x1 : Int32} {x2 : Int32} {r : Option Value} {p : Nat × aL × aI × aJ} (h : sX10_years_0 d e x1 x2 = some p) (kc : Nat.beq p.1 100000 = false → Rn Γ (6) mX10_years p.1 p.2.1 [] p.2.2.1 p.2.2.2 r dF eF) (kr : p.1 = 100000 → r = a_rt p.2.1 ∧ dF = p.2.2.1 ∧ eF = p.2.2.2) : Rn Γ (6) mX10_years 0 [some (.ref 0), some (.int x1), some (.int x2), none] [] d e r dF eF := by
  unfold sX10_years_0 at h
  obtain ⟨q1, hq1, h⟩ := Option.bind_eq_some_iff.mp h
  refine bX10_years_0 (evX10_within hq1) (by omega) ?_
  refine a_ite h (fun c2 h => ?_) (fun c2 h => ?_)
  · refine bX10_years_8 (fun _ => ?_) (fun z => absurd c2 z)
    cases h
    obtain ⟨k1, k2, k3⟩ := kr rfl
    exact bX10_years_21 k1 k2 k3
  · refine bX10_years_8 (fun z => absurd z c2) (fun _ => ?_)
    obtain ⟨q3, hq3, h⟩ := Option.bind_eq_some_iff.mp h
    refine bX10_years_11 (evX10_within hq3) (by omega) ?_
    refine a_ite h (fun c4 h => ?_) (fun c4 h => ?_)
    · refine bX10_years_18 (fun z => absurd c4 z) (fun _ => ?_)
      cases h
      obtain ⟨k1, k2, k3⟩ := kr rfl
      exact bX10_years_21 k1 k2 k3
    · refine bX10_years_18 (fun _ => ?_) (fun z => absurd z c4)
      obtain ⟨q5, hq5, h⟩ := Option.bind_eq_some_iff.mp h
      refine bX10_years_23 (evX6_keep hq5) (by omega) ?_
      refine bX10_years_40 ?_
      cases h
      exact kc rfl

noncomputable def sX10_years_59 (d : aI) (e : aJ) (x1 : Int32) (x2 : Int32) (x3 : Int32) : Option (Nat × aL × aI × aJ) := (if x2 ≤ x3 then (some (100000, [some (.int (d 2 11))], d, e)) else ((FX2_draw d e).bind fun q2 => ((FX10_drawn q2.2.1 q2.2.2 q2.1).bind fun q3 => (some (59, [some (.ref 0), some (.int x1), some (.int x2), some (.int (x3 + (nI 1)))], q3.2.1, q3.2.2)))))
theorem tX10_years_59 {Γ : aG × Launch} {d dF : aI} {e eF : aJ} {x1 : Int32} {x2 : Int32} {x3 : Int32} {r : Option Value} {p : Nat × aL × aI × aJ} (h : sX10_years_59 d e x1 x2 x3 = some p) (kc : Nat.beq p.1 100000 = false → Rn Γ (6) mX10_years p.1 p.2.1 [] p.2.2.1 p.2.2.2 r dF eF) (kr : p.1 = 100000 → r = a_rt p.2.1 ∧ dF = p.2.2.1 ∧ eF = p.2.2.2) : Rn Γ (6) mX10_years 59 [some (.ref 0), some (.int x1), some (.int x2), some (.int x3)] [] d e r dF eF := by
  unfold sX10_years_59 at h
  refine a_ite h (fun c1 h => ?_) (fun c1 h => ?_)
  · refine bX10_years_59 (fun _ => ?_) (fun z => absurd c1 z)
    cases h
    obtain ⟨k1, k2, k3⟩ := kr rfl
    exact bX10_years_84 k1 k2 k3
  · refine bX10_years_59 (fun z => absurd z c1) (fun _ => ?_)
    obtain ⟨q2, hq2, h⟩ := Option.bind_eq_some_iff.mp h
    refine bX10_years_64 (evX2_draw hq2) (by omega) ?_
    obtain ⟨q3, hq3, h⟩ := Option.bind_eq_some_iff.mp h
    refine bX10_years_75 (evX10_drawn hq3) (by omega) ?_
    refine bX10_years_78 ?_
    cases h
    exact kc rfl

noncomputable def stX10_years (p : Nat × aL × aI × aJ) : Option (Nat × aL × aI × aJ) := match p with
  | (0, [some (.ref 0), some (.int x1), some (.int x2), none], d, e) => sX10_years_0 d e x1 x2
  | (59, [some (.ref 0), some (.int x1), some (.int x2), some (.int x3)], d, e) => sX10_years_59 d e x1 x2 x3
  | _ => none
theorem uX10_years {Γ : aG × Launch} {p p2 : Nat × aL × aI × aJ} {r : Option Value} {dF : aI} {eF : aJ} (h : stX10_years p = some p2) (kc : Nat.beq p2.1 100000 = false → Rn Γ (6) mX10_years p2.1 p2.2.1 [] p2.2.2.1 p2.2.2.2 r dF eF) (kr : p2.1 = 100000 → r = a_rt p2.2.1 ∧ dF = p2.2.2.1 ∧ eF = p2.2.2.2) : Rn Γ (6) mX10_years p.1 p.2.1 [] p.2.2.1 p.2.2.2 r dF eF := by
  unfold stX10_years at h
  split at h
  · exact tX10_years_0 h kc kr
  · exact tX10_years_59 h kc kr
  · cases h
noncomputable def FX10_years (d : aI) (e : aJ) (x1 : Int32) (x2 : Int32) : Option (Int32 × aI × aJ) := (a_run (stX10_years) (0, [some (.ref 0), some (.int x1), some (.int x2), none], d, e)).bind a_xI
theorem evX10_years {Γ : aG × Launch} {d : aI} {e : aJ} {x1 : Int32} {x2 : Int32} {q : Int32 × aI × aJ} (h : FX10_years d e x1 x2 = some q) : Ev Γ (6) mX10_years [.ref 0, .int x1, .int x2] d e (some (.int q.1)) q.2.1 q.2.2 := by
  refine Ev.of (by decide) rfl (Nat.le_of_ble_eq_true rfl) (fun z => by cases z) ?_
  show Rn Γ (6) mX10_years 0 [some (.ref 0), some (.int x1), some (.int x2), none] [] d e _ _ _
  obtain ⟨q1, h1, h2⟩ := Option.bind_eq_some_iff.mp h
  obtain ⟨e1, e2, e3⟩ := a_xI_rt h2
  exact Rn.cast (a_run_ok (uX10_years) rfl h1) e1.symm e2.symm e3.symm
noncomputable def sX10_foretold_0 (d : aI) (e : aJ) (x1 : Int32) (x2 : Int32) (x3 : Int32) : Option (Nat × aL × aI × aJ) := (if x2 = 0 then ((FX2_isCat d e x3).bind fun q2 => (if q2.1 = 0 then (if x2 = (nI 1) then ((FX2_isHouse q2.2.1 q2.2.2 x3).bind fun q5 => (if q5.1 = 0 then ((FX10_within q5.2.1 q5.2.2 x1 (nI 1) (nI 60)).bind fun q7 => (if q7.1 = 0 then (some (100000, [some (.int (-(nI 1)))], q7.2.1, q7.2.2)) else (if (nI 0) = 0 then (some (100000, [some (.int (-(nI 1)))], q7.2.1, q7.2.2)) else ((FX2_write q7.2.1 q7.2.2 107 (nI 0)).bind fun q10 => (some (73, [some (.ref 0), some (.int x1), some (.int x2), some (.int x3), some (.ref 2), some (.int (nI 0)), some (.int (nI 0))], q10.2.1, q10.2.2)))))) else ((FX10_within q5.2.1 q5.2.2 x1 (nI 1) (nI 60)).bind fun q11 => (if q11.1 = 0 then (some (100000, [some (.int (-(nI 1)))], q11.2.1, q11.2.2)) else (if (nI 1) = 0 then (some (100000, [some (.int (-(nI 1)))], q11.2.1, q11.2.2)) else ((FX2_write q11.2.1 q11.2.2 107 (nI 0)).bind fun q14 => (some (73, [some (.ref 0), some (.int x1), some (.int x2), some (.int x3), some (.ref 2), some (.int (nI 1)), some (.int (nI 0))], q14.2.1, q14.2.2)))))))) else ((FX10_within q2.2.1 q2.2.2 x1 (nI 1) (nI 60)).bind fun q15 => (if q15.1 = 0 then (some (100000, [some (.int (-(nI 1)))], q15.2.1, q15.2.2)) else (if (nI 0) = 0 then (some (100000, [some (.int (-(nI 1)))], q15.2.1, q15.2.2)) else ((FX2_write q15.2.1 q15.2.2 107 (nI 0)).bind fun q18 => (some (73, [some (.ref 0), some (.int x1), some (.int x2), some (.int x3), some (.ref 2), some (.int (nI 0)), some (.int (nI 0))], q18.2.1, q18.2.2))))))) else ((FX10_within q2.2.1 q2.2.2 x1 (nI 1) (nI 60)).bind fun q19 => (if q19.1 = 0 then (some (100000, [some (.int (-(nI 1)))], q19.2.1, q19.2.2)) else (if (nI 1) = 0 then (some (100000, [some (.int (-(nI 1)))], q19.2.1, q19.2.2)) else ((FX2_write q19.2.1 q19.2.2 107 (nI 0)).bind fun q22 => (some (73, [some (.ref 0), some (.int x1), some (.int x2), some (.int x3), some (.ref 2), some (.int (nI 1)), some (.int (nI 0))], q22.2.1, q22.2.2)))))))) else (if x2 = (nI 1) then ((FX2_isHouse d e x3).bind fun q24 => (if q24.1 = 0 then ((FX10_within q24.2.1 q24.2.2 x1 (nI 1) (nI 60)).bind fun q26 => (if q26.1 = 0 then (some (100000, [some (.int (-(nI 1)))], q26.2.1, q26.2.2)) else (if (nI 0) = 0 then (some (100000, [some (.int (-(nI 1)))], q26.2.1, q26.2.2)) else ((FX2_write q26.2.1 q26.2.2 107 (nI 0)).bind fun q29 => (some (73, [some (.ref 0), some (.int x1), some (.int x2), some (.int x3), some (.ref 2), some (.int (nI 0)), some (.int (nI 0))], q29.2.1, q29.2.2)))))) else ((FX10_within q24.2.1 q24.2.2 x1 (nI 1) (nI 60)).bind fun q30 => (if q30.1 = 0 then (some (100000, [some (.int (-(nI 1)))], q30.2.1, q30.2.2)) else (if (nI 1) = 0 then (some (100000, [some (.int (-(nI 1)))], q30.2.1, q30.2.2)) else ((FX2_write q30.2.1 q30.2.2 107 (nI 0)).bind fun q33 => (some (73, [some (.ref 0), some (.int x1), some (.int x2), some (.int x3), some (.ref 2), some (.int (nI 1)), some (.int (nI 0))], q33.2.1, q33.2.2)))))))) else ((FX10_within d e x1 (nI 1) (nI 60)).bind fun q34 => (if q34.1 = 0 then (some (100000, [some (.int (-(nI 1)))], q34.2.1, q34.2.2)) else (if (nI 0) = 0 then (some (100000, [some (.int (-(nI 1)))], q34.2.1, q34.2.2)) else ((FX2_write q34.2.1 q34.2.2 107 (nI 0)).bind fun q37 => (some (73, [some (.ref 0), some (.int x1), some (.int x2), some (.int x3), some (.ref 2), some (.int (nI 0)), some (.int (nI 0))], q37.2.1, q37.2.2))))))))
theorem tX10_foretold_0 {Γ : aG × Launch} {d dF : aI} {e eF : aJ} {x1 : Int32} {x2 : Int32} {x3 : Int32} {r : Option Value} {p : Nat × aL × aI × aJ} (h : sX10_foretold_0 d e x1 x2 x3 = some p) (kc : Nat.beq p.1 100000 = false → Rn Γ (5) mX10_foretold p.1 p.2.1 [] p.2.2.1 p.2.2.2 r dF eF) (kr : p.1 = 100000 → r = a_rt p.2.1 ∧ dF = p.2.2.1 ∧ eF = p.2.2.2) : Rn Γ (5) mX10_foretold 0 [some (.ref 0), some (.int x1), some (.int x2), some (.int x3), none, none, none] [] d e r dF eF := by
  unfold sX10_foretold_0 at h
  refine a_ite h (fun c1 h => ?_) (fun c1 h => ?_)
  · refine bX10_foretold_0 (fun z => absurd c1 z) (fun _ => ?_)
    obtain ⟨q2, hq2, h⟩ := Option.bind_eq_some_iff.mp h
    refine bX10_foretold_13 (evX2_isCat hq2) (by omega) ?_
    refine a_ite h (fun c3 h => ?_) (fun c3 h => ?_)
    · refine bX10_foretold_19 (fun z => absurd c3 z) (fun _ => ?_)
      refine a_ite h (fun c4 h => ?_) (fun c4 h => ?_)
      · refine bX10_foretold_22 (fun z => absurd c4 z) (fun _ => ?_)
        obtain ⟨q5, hq5, h⟩ := Option.bind_eq_some_iff.mp h
        refine bX10_foretold_27 (evX2_isHouse hq5) (by omega) ?_
        refine a_ite h (fun c6 h => ?_) (fun c6 h => ?_)
        · refine bX10_foretold_33 (fun _ => ?_) (fun z => absurd c6 z)
          refine bX10_foretold_40 ?_
          obtain ⟨q7, hq7, h⟩ := Option.bind_eq_some_iff.mp h
          refine bX10_foretold_41 (evX10_within hq7) (by omega) ?_
          refine a_ite h (fun c8 h => ?_) (fun c8 h => ?_)
          · refine bX10_foretold_50 (fun _ => ?_) (fun z => absurd c8 z)
            cases h
            obtain ⟨k1, k2, k3⟩ := kr rfl
            exact bX10_foretold_58 k1 k2 k3
          · refine bX10_foretold_50 (fun z => absurd z c8) (fun _ => ?_)
            refine a_ite h (fun c9 h => ?_) (fun c9 h => ?_)
            · refine bX10_foretold_53 (fun z => absurd c9 z) (fun _ => ?_)
              cases h
              obtain ⟨k1, k2, k3⟩ := kr rfl
              exact bX10_foretold_58 k1 k2 k3
            · refine bX10_foretold_53 (fun _ => ?_) (fun z => absurd z c9)
              obtain ⟨q10, hq10, h⟩ := Option.bind_eq_some_iff.mp h
              refine bX10_foretold_60 (evX2_write hq10) (by omega) ?_
              refine bX10_foretold_70 ?_
              cases h
              exact kc rfl
        · refine bX10_foretold_33 (fun z => absurd z c6) (fun _ => ?_)
          refine bX10_foretold_36 ?_
          obtain ⟨q11, hq11, h⟩ := Option.bind_eq_some_iff.mp h
          refine bX10_foretold_41 (evX10_within hq11) (by omega) ?_
          refine a_ite h (fun c12 h => ?_) (fun c12 h => ?_)
          · refine bX10_foretold_50 (fun _ => ?_) (fun z => absurd c12 z)
            cases h
            obtain ⟨k1, k2, k3⟩ := kr rfl
            exact bX10_foretold_58 k1 k2 k3
          · refine bX10_foretold_50 (fun z => absurd z c12) (fun _ => ?_)
            refine a_ite h (fun c13 h => ?_) (fun c13 h => ?_)
            · refine bX10_foretold_53 (fun z => absurd c13 z) (fun _ => ?_)
              cases h
              obtain ⟨k1, k2, k3⟩ := kr rfl
              exact bX10_foretold_58 k1 k2 k3
            · refine bX10_foretold_53 (fun _ => ?_) (fun z => absurd z c13)
              obtain ⟨q14, hq14, h⟩ := Option.bind_eq_some_iff.mp h
              refine bX10_foretold_60 (evX2_write hq14) (by omega) ?_
              refine bX10_foretold_70 ?_
              cases h
              exact kc rfl
      · refine bX10_foretold_22 (fun _ => ?_) (fun z => absurd z c4)
        refine bX10_foretold_40 ?_
        obtain ⟨q15, hq15, h⟩ := Option.bind_eq_some_iff.mp h
        refine bX10_foretold_41 (evX10_within hq15) (by omega) ?_
        refine a_ite h (fun c16 h => ?_) (fun c16 h => ?_)
        · refine bX10_foretold_50 (fun _ => ?_) (fun z => absurd c16 z)
          cases h
          obtain ⟨k1, k2, k3⟩ := kr rfl
          exact bX10_foretold_58 k1 k2 k3
        · refine bX10_foretold_50 (fun z => absurd z c16) (fun _ => ?_)
          refine a_ite h (fun c17 h => ?_) (fun c17 h => ?_)
          · refine bX10_foretold_53 (fun z => absurd c17 z) (fun _ => ?_)
            cases h
            obtain ⟨k1, k2, k3⟩ := kr rfl
            exact bX10_foretold_58 k1 k2 k3
          · refine bX10_foretold_53 (fun _ => ?_) (fun z => absurd z c17)
            obtain ⟨q18, hq18, h⟩ := Option.bind_eq_some_iff.mp h
            refine bX10_foretold_60 (evX2_write hq18) (by omega) ?_
            refine bX10_foretold_70 ?_
            cases h
            exact kc rfl
    · refine bX10_foretold_19 (fun _ => ?_) (fun z => absurd z c3)
      refine bX10_foretold_36 ?_
      obtain ⟨q19, hq19, h⟩ := Option.bind_eq_some_iff.mp h
      refine bX10_foretold_41 (evX10_within hq19) (by omega) ?_
      refine a_ite h (fun c20 h => ?_) (fun c20 h => ?_)
      · refine bX10_foretold_50 (fun _ => ?_) (fun z => absurd c20 z)
        cases h
        obtain ⟨k1, k2, k3⟩ := kr rfl
        exact bX10_foretold_58 k1 k2 k3
      · refine bX10_foretold_50 (fun z => absurd z c20) (fun _ => ?_)
        refine a_ite h (fun c21 h => ?_) (fun c21 h => ?_)
        · refine bX10_foretold_53 (fun z => absurd c21 z) (fun _ => ?_)
          cases h
          obtain ⟨k1, k2, k3⟩ := kr rfl
          exact bX10_foretold_58 k1 k2 k3
        · refine bX10_foretold_53 (fun _ => ?_) (fun z => absurd z c21)
          obtain ⟨q22, hq22, h⟩ := Option.bind_eq_some_iff.mp h
          refine bX10_foretold_60 (evX2_write hq22) (by omega) ?_
          refine bX10_foretold_70 ?_
          cases h
          exact kc rfl
  · refine bX10_foretold_0 (fun _ => ?_) (fun z => absurd z c1)
    refine a_ite h (fun c23 h => ?_) (fun c23 h => ?_)
    · refine bX10_foretold_22 (fun z => absurd c23 z) (fun _ => ?_)
      obtain ⟨q24, hq24, h⟩ := Option.bind_eq_some_iff.mp h
      refine bX10_foretold_27 (evX2_isHouse hq24) (by omega) ?_
      refine a_ite h (fun c25 h => ?_) (fun c25 h => ?_)
      · refine bX10_foretold_33 (fun _ => ?_) (fun z => absurd c25 z)
        refine bX10_foretold_40 ?_
        obtain ⟨q26, hq26, h⟩ := Option.bind_eq_some_iff.mp h
        refine bX10_foretold_41 (evX10_within hq26) (by omega) ?_
        refine a_ite h (fun c27 h => ?_) (fun c27 h => ?_)
        · refine bX10_foretold_50 (fun _ => ?_) (fun z => absurd c27 z)
          cases h
          obtain ⟨k1, k2, k3⟩ := kr rfl
          exact bX10_foretold_58 k1 k2 k3
        · refine bX10_foretold_50 (fun z => absurd z c27) (fun _ => ?_)
          refine a_ite h (fun c28 h => ?_) (fun c28 h => ?_)
          · refine bX10_foretold_53 (fun z => absurd c28 z) (fun _ => ?_)
            cases h
            obtain ⟨k1, k2, k3⟩ := kr rfl
            exact bX10_foretold_58 k1 k2 k3
          · refine bX10_foretold_53 (fun _ => ?_) (fun z => absurd z c28)
            obtain ⟨q29, hq29, h⟩ := Option.bind_eq_some_iff.mp h
            refine bX10_foretold_60 (evX2_write hq29) (by omega) ?_
            refine bX10_foretold_70 ?_
            cases h
            exact kc rfl
      · refine bX10_foretold_33 (fun z => absurd z c25) (fun _ => ?_)
        refine bX10_foretold_36 ?_
        obtain ⟨q30, hq30, h⟩ := Option.bind_eq_some_iff.mp h
        refine bX10_foretold_41 (evX10_within hq30) (by omega) ?_
        refine a_ite h (fun c31 h => ?_) (fun c31 h => ?_)
        · refine bX10_foretold_50 (fun _ => ?_) (fun z => absurd c31 z)
          cases h
          obtain ⟨k1, k2, k3⟩ := kr rfl
          exact bX10_foretold_58 k1 k2 k3
        · refine bX10_foretold_50 (fun z => absurd z c31) (fun _ => ?_)
          refine a_ite h (fun c32 h => ?_) (fun c32 h => ?_)
          · refine bX10_foretold_53 (fun z => absurd c32 z) (fun _ => ?_)
            cases h
            obtain ⟨k1, k2, k3⟩ := kr rfl
            exact bX10_foretold_58 k1 k2 k3
          · refine bX10_foretold_53 (fun _ => ?_) (fun z => absurd z c32)
            obtain ⟨q33, hq33, h⟩ := Option.bind_eq_some_iff.mp h
            refine bX10_foretold_60 (evX2_write hq33) (by omega) ?_
            refine bX10_foretold_70 ?_
            cases h
            exact kc rfl
    · refine bX10_foretold_22 (fun _ => ?_) (fun z => absurd z c23)
      refine bX10_foretold_40 ?_
      obtain ⟨q34, hq34, h⟩ := Option.bind_eq_some_iff.mp h
      refine bX10_foretold_41 (evX10_within hq34) (by omega) ?_
      refine a_ite h (fun c35 h => ?_) (fun c35 h => ?_)
      · refine bX10_foretold_50 (fun _ => ?_) (fun z => absurd c35 z)
        cases h
        obtain ⟨k1, k2, k3⟩ := kr rfl
        exact bX10_foretold_58 k1 k2 k3
      · refine bX10_foretold_50 (fun z => absurd z c35) (fun _ => ?_)
        refine a_ite h (fun c36 h => ?_) (fun c36 h => ?_)
        · refine bX10_foretold_53 (fun z => absurd c36 z) (fun _ => ?_)
          cases h
          obtain ⟨k1, k2, k3⟩ := kr rfl
          exact bX10_foretold_58 k1 k2 k3
        · refine bX10_foretold_53 (fun _ => ?_) (fun z => absurd z c36)
          obtain ⟨q37, hq37, h⟩ := Option.bind_eq_some_iff.mp h
          refine bX10_foretold_60 (evX2_write hq37) (by omega) ?_
          refine bX10_foretold_70 ?_
          cases h
          exact kc rfl

noncomputable def sX10_foretold_73 (d : aI) (e : aJ) (x1 : Int32) (x2 : Int32) (x3 : Int32) (x5 : Int32) (x6 : Int32) : Option (Nat × aL × aI × aJ) := (if x1 ≤ x6 then (if x2 = 0 then (bif ((a_inb x3 6)) then ((FX2_restore d e 107 (nI 0)).bind fun q4 => (some (100000, [some (.int (d 7 (x3).toNatClampNeg))], q4.2.1, q4.2.2))) else none) else (bif ((a_inb x3 6)) then ((FX2_restore d e 107 (nI 0)).bind fun q6 => (some (100000, [some (.int (d 4 (x3).toNatClampNeg))], q6.2.1, q6.2.2))) else none)) else ((FX10_pass d e (nI 0)).bind fun q7 => (some (73, [some (.ref 0), some (.int x1), some (.int x2), some (.int x3), some (.ref 2), some (.int x5), some (.int (x6 + (nI 1)))], q7.2.1, q7.2.2))))
theorem tX10_foretold_73 {Γ : aG × Launch} {d dF : aI} {e eF : aJ} {x1 : Int32} {x2 : Int32} {x3 : Int32} {x5 : Int32} {x6 : Int32} {r : Option Value} {p : Nat × aL × aI × aJ} (h : sX10_foretold_73 d e x1 x2 x3 x5 x6 = some p) (kc : Nat.beq p.1 100000 = false → Rn Γ (5) mX10_foretold p.1 p.2.1 [] p.2.2.1 p.2.2.2 r dF eF) (kr : p.1 = 100000 → r = a_rt p.2.1 ∧ dF = p.2.2.1 ∧ eF = p.2.2.2) : Rn Γ (5) mX10_foretold 73 [some (.ref 0), some (.int x1), some (.int x2), some (.int x3), some (.ref 2), some (.int x5), some (.int x6)] [] d e r dF eF := by
  unfold sX10_foretold_73 at h
  refine a_ite h (fun c1 h => ?_) (fun c1 h => ?_)
  · refine bX10_foretold_73 (fun _ => ?_) (fun z => absurd c1 z)
    refine a_ite h (fun c2 h => ?_) (fun c2 h => ?_)
    · refine bX10_foretold_91 (fun z => absurd c2 z) (fun _ => ?_)
      obtain ⟨g3, h⟩ := a_cond h
      refine bX10_foretold_95 (a_inb_vp g3) ?_
      obtain ⟨q4, hq4, h⟩ := Option.bind_eq_some_iff.mp h
      refine bX10_foretold_112 (evX2_restore hq4) (by omega) ?_
      cases h
      obtain ⟨k1, k2, k3⟩ := kr rfl
      exact bX10_foretold_124 k1 k2 k3
    · refine bX10_foretold_91 (fun _ => ?_) (fun z => absurd z c2)
      obtain ⟨g5, h⟩ := a_cond h
      refine bX10_foretold_105 (a_inb_vp g5) ?_
      obtain ⟨q6, hq6, h⟩ := Option.bind_eq_some_iff.mp h
      refine bX10_foretold_112 (evX2_restore hq6) (by omega) ?_
      cases h
      obtain ⟨k1, k2, k3⟩ := kr rfl
      exact bX10_foretold_124 k1 k2 k3
  · refine bX10_foretold_73 (fun z => absurd z c1) (fun _ => ?_)
    obtain ⟨q7, hq7, h⟩ := Option.bind_eq_some_iff.mp h
    refine bX10_foretold_79 (evX10_pass hq7) (by omega) ?_
    refine bX10_foretold_84 ?_
    cases h
    exact kc rfl

noncomputable def stX10_foretold (p : Nat × aL × aI × aJ) : Option (Nat × aL × aI × aJ) := match p with
  | (0, [some (.ref 0), some (.int x1), some (.int x2), some (.int x3), none, none, none], d, e) => sX10_foretold_0 d e x1 x2 x3
  | (73, [some (.ref 0), some (.int x1), some (.int x2), some (.int x3), some (.ref 2), some (.int x5), some (.int x6)], d, e) => sX10_foretold_73 d e x1 x2 x3 x5 x6
  | _ => none
theorem uX10_foretold {Γ : aG × Launch} {p p2 : Nat × aL × aI × aJ} {r : Option Value} {dF : aI} {eF : aJ} (h : stX10_foretold p = some p2) (kc : Nat.beq p2.1 100000 = false → Rn Γ (5) mX10_foretold p2.1 p2.2.1 [] p2.2.2.1 p2.2.2.2 r dF eF) (kr : p2.1 = 100000 → r = a_rt p2.2.1 ∧ dF = p2.2.2.1 ∧ eF = p2.2.2.2) : Rn Γ (5) mX10_foretold p.1 p.2.1 [] p.2.2.1 p.2.2.2 r dF eF := by
  unfold stX10_foretold at h
  split at h
  · exact tX10_foretold_0 h kc kr
  · exact tX10_foretold_73 h kc kr
  · cases h
noncomputable def FX10_foretold (d : aI) (e : aJ) (x1 : Int32) (x2 : Int32) (x3 : Int32) : Option (Int32 × aI × aJ) := (a_run (stX10_foretold) (0, [some (.ref 0), some (.int x1), some (.int x2), some (.int x3), none, none, none], d, e)).bind a_xI
theorem evX10_foretold {Γ : aG × Launch} {d : aI} {e : aJ} {x1 : Int32} {x2 : Int32} {x3 : Int32} {q : Int32 × aI × aJ} (h : FX10_foretold d e x1 x2 x3 = some q) : Ev Γ (5) mX10_foretold [.ref 0, .int x1, .int x2, .int x3] d e (some (.int q.1)) q.2.1 q.2.2 := by
  refine Ev.of (by decide) rfl (Nat.le_of_ble_eq_true rfl) (fun z => by cases z) ?_
  show Rn Γ (5) mX10_foretold 0 [some (.ref 0), some (.int x1), some (.int x2), some (.int x3), none, none, none] [] d e _ _ _
  obtain ⟨q1, h1, h2⟩ := Option.bind_eq_some_iff.mp h
  obtain ⟨e1, e2, e3⟩ := a_xI_rt h2
  exact Rn.cast (a_run_ok (uX10_foretold) rfl h1) e1.symm e2.symm e3.symm
noncomputable def FX10_match (d : aI) (e : aJ) (x1 : Int32) : Option (Int32 × aI × aJ) := ((FX10_bestPairs d e x1 (nI 0)).bind fun q1 => (some (q1.1, q1.2.1, q1.2.2)))
theorem evX10_match {Γ : aG × Launch} {d : aI} {e : aJ} {x1 : Int32} {q : Int32 × aI × aJ} (h : FX10_match d e x1 = some q) : Ev Γ (6) mX10_match [.ref 0, .int x1] d e (some (.int q.1)) q.2.1 q.2.2 := by
  refine Ev.of (by decide) rfl (Nat.le_of_ble_eq_true rfl) (fun z => by cases z) ?_
  show Rn Γ (6) mX10_match 0 [some (.ref 0), some (.int x1)] [] d e _ _ _
  unfold FX10_match at h
  obtain ⟨q1, hq1, h⟩ := Option.bind_eq_some_iff.mp h
  refine bX10_match_0 (evX10_bestPairs hq1) (by omega) ?_
  cases h
  exact bX10_match_6

noncomputable def FX10_latest (d : aI) (e : aJ) (x1 : Int32) : Option (Int32 × aI × aJ) := ((FX10_bestPairs d e x1 (nI 1)).bind fun q1 => (some (q1.1, q1.2.1, q1.2.2)))
theorem evX10_latest {Γ : aG × Launch} {d : aI} {e : aJ} {x1 : Int32} {q : Int32 × aI × aJ} (h : FX10_latest d e x1 = some q) : Ev Γ (6) mX10_latest [.ref 0, .int x1] d e (some (.int q.1)) q.2.1 q.2.2 := by
  refine Ev.of (by decide) rfl (Nat.le_of_ble_eq_true rfl) (fun z => by cases z) ?_
  show Rn Γ (6) mX10_latest 0 [some (.ref 0), some (.int x1)] [] d e _ _ _
  unfold FX10_latest at h
  obtain ⟨q1, hq1, h⟩ := Option.bind_eq_some_iff.mp h
  refine bX10_latest_0 (evX10_bestPairs hq1) (by omega) ?_
  cases h
  exact bX10_latest_6

noncomputable def sX10_which_0 (d : aI) (e : aJ)  : Option (Nat × aL × aI × aJ) := (some (4, [some (.ref 0), some (.int (nI 0)), some (.int (nI 0))], d, e))
theorem tX10_which_0 {Γ : aG × Launch} {d dF : aI} {e eF : aJ}  {r : Option Value} {p : Nat × aL × aI × aJ} (h : sX10_which_0 d e  = some p) (kc : Nat.beq p.1 100000 = false → Rn Γ (6) mX10_which p.1 p.2.1 [] p.2.2.1 p.2.2.2 r dF eF) (kr : p.1 = 100000 → r = a_rt p.2.1 ∧ dF = p.2.2.1 ∧ eF = p.2.2.2) : Rn Γ (6) mX10_which 0 [some (.ref 0), none, none] [] d e r dF eF := by
  unfold sX10_which_0 at h
  refine bX10_which_0 ?_
  cases h
  exact kc rfl

noncomputable def sX10_which_4 (d : aI) (e : aJ) (x1 : Int32) (x2 : Int32) : Option (Nat × aL × aI × aJ) := (if (d 2 9) ≤ x2 then (some (100000, [some (.int x1)], d, e)) else ((FX10_fitsClues d e x2).bind fun q2 => (if q2.1 = 0 then (some (4, [some (.ref 0), some (.int x1), some (.int (x2 + (nI 1)))], q2.2.1, q2.2.2)) else (some (4, [some (.ref 0), some (.int (x1 ||| (a_shl (nI 1) x2))), some (.int (x2 + (nI 1)))], q2.2.1, q2.2.2)))))
theorem tX10_which_4 {Γ : aG × Launch} {d dF : aI} {e eF : aJ} {x1 : Int32} {x2 : Int32} {r : Option Value} {p : Nat × aL × aI × aJ} (h : sX10_which_4 d e x1 x2 = some p) (kc : Nat.beq p.1 100000 = false → Rn Γ (6) mX10_which p.1 p.2.1 [] p.2.2.1 p.2.2.2 r dF eF) (kr : p.1 = 100000 → r = a_rt p.2.1 ∧ dF = p.2.2.1 ∧ eF = p.2.2.2) : Rn Γ (6) mX10_which 4 [some (.ref 0), some (.int x1), some (.int x2)] [] d e r dF eF := by
  unfold sX10_which_4 at h
  refine a_ite h (fun c1 h => ?_) (fun c1 h => ?_)
  · refine bX10_which_4 (fun _ => ?_) (fun z => absurd c1 z)
    cases h
    obtain ⟨k1, k2, k3⟩ := kr rfl
    exact bX10_which_38 k1 k2 k3
  · refine bX10_which_4 (fun z => absurd z c1) (fun _ => ?_)
    obtain ⟨q2, hq2, h⟩ := Option.bind_eq_some_iff.mp h
    refine bX10_which_18 (evX10_fitsClues hq2) (by omega) ?_
    refine a_ite h (fun c3 h => ?_) (fun c3 h => ?_)
    · refine bX10_which_23 (fun _ => ?_) (fun z => absurd c3 z)
      refine bX10_which_32 ?_
      cases h
      exact kc rfl
    · refine bX10_which_23 (fun z => absurd z c3) (fun _ => ?_)
      refine bX10_which_26 ?_
      refine bX10_which_32 ?_
      cases h
      exact kc rfl

noncomputable def stX10_which (p : Nat × aL × aI × aJ) : Option (Nat × aL × aI × aJ) := match p with
  | (0, [some (.ref 0), none, none], d, e) => sX10_which_0 d e 
  | (4, [some (.ref 0), some (.int x1), some (.int x2)], d, e) => sX10_which_4 d e x1 x2
  | _ => none
theorem uX10_which {Γ : aG × Launch} {p p2 : Nat × aL × aI × aJ} {r : Option Value} {dF : aI} {eF : aJ} (h : stX10_which p = some p2) (kc : Nat.beq p2.1 100000 = false → Rn Γ (6) mX10_which p2.1 p2.2.1 [] p2.2.2.1 p2.2.2.2 r dF eF) (kr : p2.1 = 100000 → r = a_rt p2.2.1 ∧ dF = p2.2.2.1 ∧ eF = p2.2.2.2) : Rn Γ (6) mX10_which p.1 p.2.1 [] p.2.2.1 p.2.2.2 r dF eF := by
  unfold stX10_which at h
  split at h
  · exact tX10_which_0 h kc kr
  · exact tX10_which_4 h kc kr
  · cases h
noncomputable def FX10_which (d : aI) (e : aJ)  : Option (Int32 × aI × aJ) := (a_run (stX10_which) (0, [some (.ref 0), none, none], d, e)).bind a_xI
theorem evX10_which {Γ : aG × Launch} {d : aI} {e : aJ}  {q : Int32 × aI × aJ} (h : FX10_which d e  = some q) : Ev Γ (6) mX10_which [.ref 0] d e (some (.int q.1)) q.2.1 q.2.2 := by
  refine Ev.of (by decide) rfl (Nat.le_of_ble_eq_true rfl) (fun z => by cases z) ?_
  show Rn Γ (6) mX10_which 0 [some (.ref 0), none, none] [] d e _ _ _
  obtain ⟨q1, h1, h2⟩ := Option.bind_eq_some_iff.mp h
  obtain ⟨e1, e2, e3⟩ := a_xI_rt h2
  exact Rn.cast (a_run_ok (uX10_which) rfl h1) e1.symm e2.symm e3.symm
noncomputable def sX10_likely_0 (d : aI) (e : aJ) (x1 : Int32) (x2 : Int32) : Option (Nat × aL × aI × aJ) := ((FX10_which d e).bind fun q1 => ((FX2_isCat q1.2.1 q1.2.2 x1).bind fun q2 => (if q2.1 = 0 then (some (100000, [some (.long (-(lN 1)))], q2.2.1, q2.2.2)) else (if q1.1 = 0 then (some (100000, [some (.long (-(lN 1)))], q2.2.1, q2.2.2)) else (some (36, [some (.ref 0), some (.int x1), some (.int x2), some (.int q1.1), some (.long (lN 0)), none, some (.long (lN 0)), none, some (.int (nI 0)), none], q2.2.1, q2.2.2))))))
theorem tX10_likely_0 {Γ : aG × Launch} {d dF : aI} {e eF : aJ} {x1 : Int32} {x2 : Int32} {r : Option Value} {p : Nat × aL × aI × aJ} (h : sX10_likely_0 d e x1 x2 = some p) (kc : Nat.beq p.1 100000 = false → Rn Γ (7) mX10_likely p.1 p.2.1 [] p.2.2.1 p.2.2.2 r dF eF) (kr : p.1 = 100000 → r = a_rt p.2.1 ∧ dF = p.2.2.1 ∧ eF = p.2.2.2) : Rn Γ (7) mX10_likely 0 [some (.ref 0), some (.int x1), some (.int x2), none, none, none, none, none, none, none] [] d e r dF eF := by
  unfold sX10_likely_0 at h
  obtain ⟨q1, hq1, h⟩ := Option.bind_eq_some_iff.mp h
  refine bX10_likely_0 (evX10_which hq1) (by omega) ?_
  obtain ⟨q2, hq2, h⟩ := Option.bind_eq_some_iff.mp h
  refine bX10_likely_4 (evX2_isCat hq2) (by omega) ?_
  refine a_ite h (fun c3 h => ?_) (fun c3 h => ?_)
  · refine bX10_likely_16 (fun _ => ?_) (fun z => absurd c3 z)
    cases h
    obtain ⟨k1, k2, k3⟩ := kr rfl
    exact bX10_likely_23 k1 k2 k3
  · refine bX10_likely_16 (fun z => absurd z c3) (fun _ => ?_)
    refine a_ite h (fun c4 h => ?_) (fun c4 h => ?_)
    · refine bX10_likely_19 (fun z => absurd c4 z) (fun _ => ?_)
      cases h
      obtain ⟨k1, k2, k3⟩ := kr rfl
      exact bX10_likely_23 k1 k2 k3
    · refine bX10_likely_19 (fun _ => ?_) (fun z => absurd z c4)
      refine bX10_likely_27 ?_
      cases h
      exact kc rfl

noncomputable def sX10_likely_36 (d : aI) (e : aJ) (x1 : Int32) (x2 : Int32) (x3 : Int32) (y4 : Int64) (y6 : Int64) (x8 : Int32) (v9 : Option Value) : Option (Nat × aL × aI × aJ) := (if (d 2 9) ≤ x8 then ((FX10_ratio d e y6 y4 x2).bind fun q2 => (some (100000, [some (.long q2.1)], q2.2.1, q2.2.2))) else ((FX10_hasBit d e x3 x8).bind fun q3 => (if q3.1 = 0 then (if x8 = x1 then (some (36, [some (.ref 0), some (.int x1), some (.int x2), some (.int x3), some (.long (y4 + (Int32.toInt64 (nI 0)))), none, some (.long (y6 + (Int32.toInt64 (nI 0)))), none, some (.int (x8 + (nI 1))), some (.int (nI 0))], q3.2.1, q3.2.2)) else (some (36, [some (.ref 0), some (.int x1), some (.int x2), some (.int x3), some (.long (y4 + (Int32.toInt64 (nI 0)))), none, some (.long (y6 + (lN 0))), none, some (.int (x8 + (nI 1))), some (.int (nI 0))], q3.2.1, q3.2.2))) else (bif ((a_inb x8 6)) then (if x8 = x1 then (some (36, [some (.ref 0), some (.int x1), some (.int x2), some (.int x3), some (.long (y4 + (Int32.toInt64 ((nI 10) - (q3.2.1 6 (x8).toNatClampNeg))))), none, some (.long (y6 + (Int32.toInt64 ((nI 10) - (q3.2.1 6 (x8).toNatClampNeg))))), none, some (.int (x8 + (nI 1))), some (.int ((nI 10) - (q3.2.1 6 (x8).toNatClampNeg)))], q3.2.1, q3.2.2)) else (some (36, [some (.ref 0), some (.int x1), some (.int x2), some (.int x3), some (.long (y4 + (Int32.toInt64 ((nI 10) - (q3.2.1 6 (x8).toNatClampNeg))))), none, some (.long (y6 + (lN 0))), none, some (.int (x8 + (nI 1))), some (.int ((nI 10) - (q3.2.1 6 (x8).toNatClampNeg)))], q3.2.1, q3.2.2))) else none))))
theorem tX10_likely_36 {Γ : aG × Launch} {d dF : aI} {e eF : aJ} {x1 : Int32} {x2 : Int32} {x3 : Int32} {y4 : Int64} {y6 : Int64} {x8 : Int32} {v9 : Option Value} {r : Option Value} {p : Nat × aL × aI × aJ} (h : sX10_likely_36 d e x1 x2 x3 y4 y6 x8 v9 = some p) (kc : Nat.beq p.1 100000 = false → Rn Γ (7) mX10_likely p.1 p.2.1 [] p.2.2.1 p.2.2.2 r dF eF) (kr : p.1 = 100000 → r = a_rt p.2.1 ∧ dF = p.2.2.1 ∧ eF = p.2.2.2) : Rn Γ (7) mX10_likely 36 [some (.ref 0), some (.int x1), some (.int x2), some (.int x3), some (.long y4), none, some (.long y6), none, some (.int x8), v9] [] d e r dF eF := by
  unfold sX10_likely_36 at h
  refine a_ite h (fun c1 h => ?_) (fun c1 h => ?_)
  · refine bX10_likely_36 (fun _ => ?_) (fun z => absurd c1 z)
    obtain ⟨q2, hq2, h⟩ := Option.bind_eq_some_iff.mp h
    refine bX10_likely_114 (evX10_ratio hq2) (by omega) ?_
    cases h
    obtain ⟨k1, k2, k3⟩ := kr rfl
    exact bX10_likely_122 k1 k2 k3
  · refine bX10_likely_36 (fun z => absurd z c1) (fun _ => ?_)
    obtain ⟨q3, hq3, h⟩ := Option.bind_eq_some_iff.mp h
    refine bX10_likely_51 (evX10_hasBit hq3) (by omega) ?_
    refine a_ite h (fun c4 h => ?_) (fun c4 h => ?_)
    · refine bX10_likely_57 (fun _ => ?_) (fun z => absurd c4 z)
      refine bX10_likely_79 ?_
      refine a_ite h (fun c5 h => ?_) (fun c5 h => ?_)
      · refine bX10_likely_80 (fun z => absurd c5 z) (fun _ => ?_)
        refine bX10_likely_98 ?_
        refine bX10_likely_105 ?_
        cases h
        exact kc rfl
      · refine bX10_likely_80 (fun _ => ?_) (fun z => absurd z c5)
        refine bX10_likely_104 ?_
        refine bX10_likely_105 ?_
        cases h
        exact kc rfl
    · refine bX10_likely_57 (fun z => absurd z c4) (fun _ => ?_)
      obtain ⟨g6, h⟩ := a_cond h
      refine bX10_likely_60 (a_inb_vp g6) ?_
      refine a_ite h (fun c7 h => ?_) (fun c7 h => ?_)
      · refine bX10_likely_80 (fun z => absurd c7 z) (fun _ => ?_)
        refine bX10_likely_98 ?_
        refine bX10_likely_105 ?_
        cases h
        exact kc rfl
      · refine bX10_likely_80 (fun _ => ?_) (fun z => absurd z c7)
        refine bX10_likely_104 ?_
        refine bX10_likely_105 ?_
        cases h
        exact kc rfl

noncomputable def stX10_likely (p : Nat × aL × aI × aJ) : Option (Nat × aL × aI × aJ) := match p with
  | (0, [some (.ref 0), some (.int x1), some (.int x2), none, none, none, none, none, none, none], d, e) => sX10_likely_0 d e x1 x2
  | (36, [some (.ref 0), some (.int x1), some (.int x2), some (.int x3), some (.long y4), none, some (.long y6), none, some (.int x8), v9], d, e) => sX10_likely_36 d e x1 x2 x3 y4 y6 x8 v9
  | _ => none
theorem uX10_likely {Γ : aG × Launch} {p p2 : Nat × aL × aI × aJ} {r : Option Value} {dF : aI} {eF : aJ} (h : stX10_likely p = some p2) (kc : Nat.beq p2.1 100000 = false → Rn Γ (7) mX10_likely p2.1 p2.2.1 [] p2.2.2.1 p2.2.2.2 r dF eF) (kr : p2.1 = 100000 → r = a_rt p2.2.1 ∧ dF = p2.2.2.1 ∧ eF = p2.2.2.2) : Rn Γ (7) mX10_likely p.1 p.2.1 [] p.2.2.1 p.2.2.2 r dF eF := by
  unfold stX10_likely at h
  split at h
  · exact tX10_likely_0 h kc kr
  · exact tX10_likely_36 h kc kr
  · cases h
noncomputable def FX10_likely (d : aI) (e : aJ) (x1 : Int32) (x2 : Int32) : Option (Int64 × aI × aJ) := (a_run (stX10_likely) (0, [some (.ref 0), some (.int x1), some (.int x2), none, none, none, none, none, none, none], d, e)).bind a_xJ
theorem evX10_likely {Γ : aG × Launch} {d : aI} {e : aJ} {x1 : Int32} {x2 : Int32} {q : Int64 × aI × aJ} (h : FX10_likely d e x1 x2 = some q) : Ev Γ (7) mX10_likely [.ref 0, .int x1, .int x2] d e (some (.long q.1)) q.2.1 q.2.2 := by
  refine Ev.of (by decide) rfl (Nat.le_of_ble_eq_true rfl) (fun z => by cases z) ?_
  show Rn Γ (7) mX10_likely 0 [some (.ref 0), some (.int x1), some (.int x2), none, none, none, none, none, none, none] [] d e _ _ _
  obtain ⟨q1, h1, h2⟩ := Option.bind_eq_some_iff.mp h
  obtain ⟨e1, e2, e3⟩ := a_xJ_rt h2
  exact Rn.cast (a_run_ok (uX10_likely) rfl h1) e1.symm e2.symm e3.symm
noncomputable def sX10_askNext_0 (d : aI) (e : aJ)  : Option (Nat × aL × aI × aJ) := ((FX10_which d e).bind fun q1 => ((FJbit q1.2.1 q1.2.2 q1.1).bind fun q2 => (if (nI 2) ≤ q2.1 then (some (23, [some (.ref 0), some (.int q1.1), some (.int (-(nI 1))), some (.int (nI 7)), some (.int (nI 0)), none], q2.2.1, q2.2.2)) else (some (100000, [some (.int (-(nI 1)))], q2.2.1, q2.2.2)))))
theorem tX10_askNext_0 {Γ : aG × Launch} {d dF : aI} {e eF : aJ}  {r : Option Value} {p : Nat × aL × aI × aJ} (h : sX10_askNext_0 d e  = some p) (kc : Nat.beq p.1 100000 = false → Rn Γ (7) mX10_askNext p.1 p.2.1 [] p.2.2.1 p.2.2.2 r dF eF) (kr : p.1 = 100000 → r = a_rt p.2.1 ∧ dF = p.2.2.1 ∧ eF = p.2.2.2) : Rn Γ (7) mX10_askNext 0 [some (.ref 0), none, none, none, none, none] [] d e r dF eF := by
  unfold sX10_askNext_0 at h
  obtain ⟨q1, hq1, h⟩ := Option.bind_eq_some_iff.mp h
  refine bX10_askNext_0 (evX10_which hq1) (by omega) ?_
  refine bX10_askNext_4 ?_
  obtain ⟨q2, hq2, h⟩ := Option.bind_eq_some_iff.mp h
  refine jX10_askNext_11 (evJbit hq2) (by omega) ?_
  refine a_ite h (fun c3 h => ?_) (fun c3 h => ?_)
  · refine bX10_askNext_14 (fun _ => ?_) (fun z => absurd c3 z)
    refine bX10_askNext_20 ?_
    cases h
    exact kc rfl
  · refine bX10_askNext_14 (fun z => absurd z c3) (fun _ => ?_)
    cases h
    obtain ⟨k1, k2, k3⟩ := kr rfl
    exact bX10_askNext_18 k1 k2 k3

noncomputable def sX10_askNext_23 (d : aI) (e : aJ) (x1 : Int32) (x2 : Int32) (x3 : Int32) (x4 : Int32) (v5 : Option Value) : Option (Nat × aL × aI × aJ) := (if (d 2 8) ≤ x4 then (some (100000, [some (.int x2)], d, e)) else ((FX10_mostAlike d e x1 x4).bind fun q2 => (if x3 ≤ q2.1 then (some (23, [some (.ref 0), some (.int x1), some (.int x2), some (.int x3), some (.int (x4 + (nI 1))), some (.int q2.1)], q2.2.1, q2.2.2)) else (some (23, [some (.ref 0), some (.int x1), some (.int x4), some (.int q2.1), some (.int (x4 + (nI 1))), some (.int q2.1)], q2.2.1, q2.2.2)))))
theorem tX10_askNext_23 {Γ : aG × Launch} {d dF : aI} {e eF : aJ} {x1 : Int32} {x2 : Int32} {x3 : Int32} {x4 : Int32} {v5 : Option Value} {r : Option Value} {p : Nat × aL × aI × aJ} (h : sX10_askNext_23 d e x1 x2 x3 x4 v5 = some p) (kc : Nat.beq p.1 100000 = false → Rn Γ (7) mX10_askNext p.1 p.2.1 [] p.2.2.1 p.2.2.2 r dF eF) (kr : p.1 = 100000 → r = a_rt p.2.1 ∧ dF = p.2.2.1 ∧ eF = p.2.2.2) : Rn Γ (7) mX10_askNext 23 [some (.ref 0), some (.int x1), some (.int x2), some (.int x3), some (.int x4), v5] [] d e r dF eF := by
  unfold sX10_askNext_23 at h
  refine a_ite h (fun c1 h => ?_) (fun c1 h => ?_)
  · refine bX10_askNext_23 (fun _ => ?_) (fun z => absurd c1 z)
    cases h
    obtain ⟨k1, k2, k3⟩ := kr rfl
    exact bX10_askNext_65 k1 k2 k3
  · refine bX10_askNext_23 (fun z => absurd z c1) (fun _ => ?_)
    obtain ⟨q2, hq2, h⟩ := Option.bind_eq_some_iff.mp h
    refine bX10_askNext_38 (evX10_mostAlike hq2) (by omega) ?_
    refine a_ite h (fun c3 h => ?_) (fun c3 h => ?_)
    · refine bX10_askNext_45 (fun _ => ?_) (fun z => absurd c3 z)
      refine bX10_askNext_59 ?_
      cases h
      exact kc rfl
    · refine bX10_askNext_45 (fun z => absurd z c3) (fun _ => ?_)
      refine bX10_askNext_53 ?_
      refine bX10_askNext_59 ?_
      cases h
      exact kc rfl

noncomputable def stX10_askNext (p : Nat × aL × aI × aJ) : Option (Nat × aL × aI × aJ) := match p with
  | (0, [some (.ref 0), none, none, none, none, none], d, e) => sX10_askNext_0 d e 
  | (23, [some (.ref 0), some (.int x1), some (.int x2), some (.int x3), some (.int x4), v5], d, e) => sX10_askNext_23 d e x1 x2 x3 x4 v5
  | _ => none
theorem uX10_askNext {Γ : aG × Launch} {p p2 : Nat × aL × aI × aJ} {r : Option Value} {dF : aI} {eF : aJ} (h : stX10_askNext p = some p2) (kc : Nat.beq p2.1 100000 = false → Rn Γ (7) mX10_askNext p2.1 p2.2.1 [] p2.2.2.1 p2.2.2.2 r dF eF) (kr : p2.1 = 100000 → r = a_rt p2.2.1 ∧ dF = p2.2.2.1 ∧ eF = p2.2.2.2) : Rn Γ (7) mX10_askNext p.1 p.2.1 [] p.2.2.1 p.2.2.2 r dF eF := by
  unfold stX10_askNext at h
  split at h
  · exact tX10_askNext_0 h kc kr
  · exact tX10_askNext_23 h kc kr
  · cases h
noncomputable def FX10_askNext (d : aI) (e : aJ)  : Option (Int32 × aI × aJ) := (a_run (stX10_askNext) (0, [some (.ref 0), none, none, none, none, none], d, e)).bind a_xI
theorem evX10_askNext {Γ : aG × Launch} {d : aI} {e : aJ}  {q : Int32 × aI × aJ} (h : FX10_askNext d e  = some q) : Ev Γ (7) mX10_askNext [.ref 0] d e (some (.int q.1)) q.2.1 q.2.2 := by
  refine Ev.of (by decide) rfl (Nat.le_of_ble_eq_true rfl) (fun z => by cases z) ?_
  show Rn Γ (7) mX10_askNext 0 [some (.ref 0), none, none, none, none, none] [] d e _ _ _
  obtain ⟨q1, h1, h2⟩ := Option.bind_eq_some_iff.mp h
  obtain ⟨e1, e2, e3⟩ := a_xI_rt h2
  exact Rn.cast (a_run_ok (uX10_askNext) rfl h1) e1.symm e2.symm e3.symm
noncomputable def sX10_whose_0 (d : aI) (e : aJ)  : Option (Nat × aL × aI × aJ) := (some (4, [some (.ref 0), some (.int (nI 0)), some (.int (nI 0))], d, e))
theorem tX10_whose_0 {Γ : aG × Launch} {d dF : aI} {e eF : aJ}  {r : Option Value} {p : Nat × aL × aI × aJ} (h : sX10_whose_0 d e  = some p) (kc : Nat.beq p.1 100000 = false → Rn Γ (5) mX10_whose p.1 p.2.1 [] p.2.2.1 p.2.2.2 r dF eF) (kr : p.1 = 100000 → r = a_rt p.2.1 ∧ dF = p.2.2.1 ∧ eF = p.2.2.2) : Rn Γ (5) mX10_whose 0 [some (.ref 0), none, none] [] d e r dF eF := by
  unfold sX10_whose_0 at h
  refine bX10_whose_0 ?_
  cases h
  exact kc rfl

noncomputable def sX10_whose_4 (d : aI) (e : aJ) (x1 : Int32) (x2 : Int32) : Option (Nat × aL × aI × aJ) := (if (d 1 6) ≤ x2 then (some (100000, [some (.int x1)], d, e)) else (bif (a_inb x2 4) then ((FX10_fitsClaims d e (58 + 5 * (x2).toNatClampNeg)).bind fun q3 => (if q3.1 = 0 then (some (4, [some (.ref 0), some (.int x1), some (.int (x2 + (nI 1)))], q3.2.1, q3.2.2)) else (some (4, [some (.ref 0), some (.int (x1 ||| (a_shl (nI 1) x2))), some (.int (x2 + (nI 1)))], q3.2.1, q3.2.2)))) else none))
theorem tX10_whose_4 {Γ : aG × Launch} {d dF : aI} {e eF : aJ} {x1 : Int32} {x2 : Int32} {r : Option Value} {p : Nat × aL × aI × aJ} (h : sX10_whose_4 d e x1 x2 = some p) (kc : Nat.beq p.1 100000 = false → Rn Γ (5) mX10_whose p.1 p.2.1 [] p.2.2.1 p.2.2.2 r dF eF) (kr : p.1 = 100000 → r = a_rt p.2.1 ∧ dF = p.2.2.1 ∧ eF = p.2.2.2) : Rn Γ (5) mX10_whose 4 [some (.ref 0), some (.int x1), some (.int x2)] [] d e r dF eF := by
  unfold sX10_whose_4 at h
  refine a_ite h (fun c1 h => ?_) (fun c1 h => ?_)
  · refine bX10_whose_4 (fun _ => ?_) (fun z => absurd c1 z)
    cases h
    obtain ⟨k1, k2, k3⟩ := kr rfl
    exact bX10_whose_40 k1 k2 k3
  · refine bX10_whose_4 (fun z => absurd z c1) (fun _ => ?_)
    obtain ⟨g2, h⟩ := a_cond h
    refine bX10_whose_15 (a_inb_lt g2) (a_inb_nI g2) ?_
    obtain ⟨q3, hq3, h⟩ := Option.bind_eq_some_iff.mp h
    refine bX10_whose_22 (evX10_fitsClaims hq3) (by omega) ?_
    refine a_ite h (fun c4 h => ?_) (fun c4 h => ?_)
    · refine bX10_whose_25 (fun _ => ?_) (fun z => absurd c4 z)
      refine bX10_whose_34 ?_
      cases h
      exact kc rfl
    · refine bX10_whose_25 (fun z => absurd z c4) (fun _ => ?_)
      refine bX10_whose_28 ?_
      refine bX10_whose_34 ?_
      cases h
      exact kc rfl

noncomputable def stX10_whose (p : Nat × aL × aI × aJ) : Option (Nat × aL × aI × aJ) := match p with
  | (0, [some (.ref 0), none, none], d, e) => sX10_whose_0 d e 
  | (4, [some (.ref 0), some (.int x1), some (.int x2)], d, e) => sX10_whose_4 d e x1 x2
  | _ => none
theorem uX10_whose {Γ : aG × Launch} {p p2 : Nat × aL × aI × aJ} {r : Option Value} {dF : aI} {eF : aJ} (h : stX10_whose p = some p2) (kc : Nat.beq p2.1 100000 = false → Rn Γ (5) mX10_whose p2.1 p2.2.1 [] p2.2.2.1 p2.2.2.2 r dF eF) (kr : p2.1 = 100000 → r = a_rt p2.2.1 ∧ dF = p2.2.2.1 ∧ eF = p2.2.2.2) : Rn Γ (5) mX10_whose p.1 p.2.1 [] p.2.2.1 p.2.2.2 r dF eF := by
  unfold stX10_whose at h
  split at h
  · exact tX10_whose_0 h kc kr
  · exact tX10_whose_4 h kc kr
  · cases h
noncomputable def FX10_whose (d : aI) (e : aJ)  : Option (Int32 × aI × aJ) := (a_run (stX10_whose) (0, [some (.ref 0), none, none], d, e)).bind a_xI
theorem evX10_whose {Γ : aG × Launch} {d : aI} {e : aJ}  {q : Int32 × aI × aJ} (h : FX10_whose d e  = some q) : Ev Γ (5) mX10_whose [.ref 0] d e (some (.int q.1)) q.2.1 q.2.2 := by
  refine Ev.of (by decide) rfl (Nat.le_of_ble_eq_true rfl) (fun z => by cases z) ?_
  show Rn Γ (5) mX10_whose 0 [some (.ref 0), none, none] [] d e _ _ _
  obtain ⟨q1, h1, h2⟩ := Option.bind_eq_some_iff.mp h
  obtain ⟨e1, e2, e3⟩ := a_xI_rt h2
  exact Rn.cast (a_run_ok (uX10_whose) rfl h1) e1.symm e2.symm e3.symm
noncomputable def FX10_act (d : aI) (e : aJ) (x1 : Int32) (x2 : Int32) (x3 : Int32) : Option (Int32 × aI × aJ) := (if x1 = (nI 302) then ((FX10_house d e x2 x3).bind fun q2 => (if q2.1 = (-(nI 1)) then (some ((nI 0), q2.2.1, q2.2.2)) else (some ((nI 1), q2.2.1, q2.2.2)))) else (if x1 = (nI 303) then ((FX10_cat d e x2 x3).bind fun q5 => (if q5.1 = (-(nI 1)) then (some ((nI 0), q5.2.1, q5.2.2)) else (some ((nI 1), q5.2.1, q5.2.2)))) else (if x1 = (nI 304) then ((FX10_let d e x2 x3).bind fun q8 => (bif (decide (q8.1 = 0 ∨ q8.1 = 1)) then (some (q8.1, q8.2.1, q8.2.2)) else none)) else (if x1 = (nI 305) then ((FX10_out d e x2).bind fun q11 => (if q11.1 = (-(nI 1)) then (some ((nI 0), q11.2.1, q11.2.2)) else (some ((nI 1), q11.2.1, q11.2.2)))) else (if x1 = (nI 306) then ((FX10_go d e x2 (nI 1)).bind fun q14 => (bif (decide (q14.1 = 0 ∨ q14.1 = 1)) then (some (q14.1, q14.2.1, q14.2.2)) else none)) else (if x1 = (nI 307) then ((FX10_go d e x2 (nI 0)).bind fun q17 => (bif (decide (q17.1 = 0 ∨ q17.1 = 1)) then (some (q17.1, q17.2.1, q17.2.2)) else none)) else (if x1 = (nI 308) then ((FX10_allPass d e x2).bind fun q20 => (bif (decide (q20.1 = 0 ∨ q20.1 = 1)) then (some (q20.1, q20.2.1, q20.2.2)) else none)) else (some ((nI 1), d, e)))))))))
theorem evX10_act {Γ : aG × Launch} {d : aI} {e : aJ} {x1 : Int32} {x2 : Int32} {x3 : Int32} {q : Int32 × aI × aJ} (h : FX10_act d e x1 x2 x3 = some q) : Ev Γ (6) mX10_act [.ref 0, .int x1, .int x2, .int x3] d e (some (.int q.1)) q.2.1 q.2.2 := by
  refine Ev.of (by decide) rfl (Nat.le_of_ble_eq_true rfl) (fun z => by cases z) ?_
  show Rn Γ (6) mX10_act 0 [some (.ref 0), some (.int x1), some (.int x2), some (.int x3)] [] d e _ _ _
  unfold FX10_act at h
  refine a_ite h (fun c1 h => ?_) (fun c1 h => ?_)
  · refine bX10_act_0 (fun n0 _ _ _ _ _ _ => absurd c1 n0) (fun _ => ?_) (fun z => absurd (c1.symm.trans z) (by decide)) (fun z => absurd (c1.symm.trans z) (by decide)) (fun z => absurd (c1.symm.trans z) (by decide)) (fun z => absurd (c1.symm.trans z) (by decide)) (fun z => absurd (c1.symm.trans z) (by decide)) (fun z => absurd (c1.symm.trans z) (by decide))
    obtain ⟨q2, hq2, h⟩ := Option.bind_eq_some_iff.mp h
    refine bX10_act_44 (evX10_house hq2) (by omega) ?_
    refine a_ite h (fun c3 h => ?_) (fun c3 h => ?_)
    · refine bX10_act_50 (fun _ => ?_) (fun z => absurd c3 z)
      refine bX10_act_58 ?_
      cases h
      exact bX10_act_59 (a_nz (Or.inl rfl))
    · refine bX10_act_50 (fun z => absurd z c3) (fun _ => ?_)
      refine bX10_act_54 ?_
      cases h
      exact bX10_act_59 (a_nz (Or.inr rfl))
  · skip
    refine a_ite h (fun c4 h => ?_) (fun c4 h => ?_)
    · refine bX10_act_0 (fun _ n1 _ _ _ _ _ => absurd c4 n1) (fun z => absurd z c1) (fun _ => ?_) (fun z => absurd (c4.symm.trans z) (by decide)) (fun z => absurd (c4.symm.trans z) (by decide)) (fun z => absurd (c4.symm.trans z) (by decide)) (fun z => absurd (c4.symm.trans z) (by decide)) (fun z => absurd (c4.symm.trans z) (by decide))
      obtain ⟨q5, hq5, h⟩ := Option.bind_eq_some_iff.mp h
      refine bX10_act_60 (evX10_cat hq5) (by omega) ?_
      refine a_ite h (fun c6 h => ?_) (fun c6 h => ?_)
      · refine bX10_act_66 (fun _ => ?_) (fun z => absurd c6 z)
        refine bX10_act_74 ?_
        cases h
        exact bX10_act_75 (a_nz (Or.inl rfl))
      · refine bX10_act_66 (fun z => absurd z c6) (fun _ => ?_)
        refine bX10_act_70 ?_
        cases h
        exact bX10_act_75 (a_nz (Or.inr rfl))
    · skip
      refine a_ite h (fun c7 h => ?_) (fun c7 h => ?_)
      · refine bX10_act_0 (fun _ _ n2 _ _ _ _ => absurd c7 n2) (fun z => absurd z c1) (fun z => absurd z c4) (fun _ => ?_) (fun z => absurd (c7.symm.trans z) (by decide)) (fun z => absurd (c7.symm.trans z) (by decide)) (fun z => absurd (c7.symm.trans z) (by decide)) (fun z => absurd (c7.symm.trans z) (by decide))
        obtain ⟨q8, hq8, h⟩ := Option.bind_eq_some_iff.mp h
        refine bX10_act_76 (evX10_let hq8) (by omega) ?_
        obtain ⟨z9, h⟩ := a_cond h
        cases h
        exact bX10_act_82 (a_nz (of_decide_eq_true z9))
      · skip
        refine a_ite h (fun c10 h => ?_) (fun c10 h => ?_)
        · refine bX10_act_0 (fun _ _ _ n3 _ _ _ => absurd c10 n3) (fun z => absurd z c1) (fun z => absurd z c4) (fun z => absurd z c7) (fun _ => ?_) (fun z => absurd (c10.symm.trans z) (by decide)) (fun z => absurd (c10.symm.trans z) (by decide)) (fun z => absurd (c10.symm.trans z) (by decide))
          obtain ⟨q11, hq11, h⟩ := Option.bind_eq_some_iff.mp h
          refine bX10_act_83 (evX10_out hq11) (by omega) ?_
          refine a_ite h (fun c12 h => ?_) (fun c12 h => ?_)
          · refine bX10_act_88 (fun _ => ?_) (fun z => absurd c12 z)
            refine bX10_act_96 ?_
            cases h
            exact bX10_act_97 (a_nz (Or.inl rfl))
          · refine bX10_act_88 (fun z => absurd z c12) (fun _ => ?_)
            refine bX10_act_92 ?_
            cases h
            exact bX10_act_97 (a_nz (Or.inr rfl))
        · skip
          refine a_ite h (fun c13 h => ?_) (fun c13 h => ?_)
          · refine bX10_act_0 (fun _ _ _ _ n4 _ _ => absurd c13 n4) (fun z => absurd z c1) (fun z => absurd z c4) (fun z => absurd z c7) (fun z => absurd z c10) (fun _ => ?_) (fun z => absurd (c13.symm.trans z) (by decide)) (fun z => absurd (c13.symm.trans z) (by decide))
            obtain ⟨q14, hq14, h⟩ := Option.bind_eq_some_iff.mp h
            refine bX10_act_98 (evX10_go hq14) (by omega) ?_
            obtain ⟨z15, h⟩ := a_cond h
            cases h
            exact bX10_act_104 (a_nz (of_decide_eq_true z15))
          · skip
            refine a_ite h (fun c16 h => ?_) (fun c16 h => ?_)
            · refine bX10_act_0 (fun _ _ _ _ _ n5 _ => absurd c16 n5) (fun z => absurd z c1) (fun z => absurd z c4) (fun z => absurd z c7) (fun z => absurd z c10) (fun z => absurd z c13) (fun _ => ?_) (fun z => absurd (c16.symm.trans z) (by decide))
              obtain ⟨q17, hq17, h⟩ := Option.bind_eq_some_iff.mp h
              refine bX10_act_105 (evX10_go hq17) (by omega) ?_
              obtain ⟨z18, h⟩ := a_cond h
              cases h
              exact bX10_act_111 (a_nz (of_decide_eq_true z18))
            · skip
              refine a_ite h (fun c19 h => ?_) (fun c19 h => ?_)
              · refine bX10_act_0 (fun _ _ _ _ _ _ n6 => absurd c19 n6) (fun z => absurd z c1) (fun z => absurd z c4) (fun z => absurd z c7) (fun z => absurd z c10) (fun z => absurd z c13) (fun z => absurd z c16) (fun _ => ?_)
                obtain ⟨q20, hq20, h⟩ := Option.bind_eq_some_iff.mp h
                refine bX10_act_112 (evX10_allPass hq20) (by omega) ?_
                obtain ⟨z21, h⟩ := a_cond h
                cases h
                exact bX10_act_117 (a_nz (of_decide_eq_true z21))
              · skip
                refine bX10_act_0 (fun _ _ _ _ _ _ _ => ?_) (fun z => absurd z c1) (fun z => absurd z c4) (fun z => absurd z c7) (fun z => absurd z c10) (fun z => absurd z c13) (fun z => absurd z c16) (fun z => absurd z c19)
                cases h
                exact bX10_act_118

noncomputable def sX5_both_0 (Fo : aI → aJ → Int32 → Option (Unit × aI × aJ)) (d : aI) (e : aJ) (x1 : Int32) : Option (Nat × aL × aI × aJ) := ((FX5_ask Fo d e x1).bind fun q1 => (some (7, [some (.ref 83), some (.int x1), some (.int (nI 0))], q1.2.1, q1.2.2)))
theorem tX5_both_0 {Γ : aG × Launch} {Fo : aI → aJ → Int32 → Option (Unit × aI × aJ)} {dc : Nat} (hFo : ∀ {d : aI} {e : aJ} {z0 : Int32} {q : Unit × aI × aJ}, Fo d e z0 = some q → Ev Γ dc mX5_opened [.ref 83, .int z0] d e none q.2.1 q.2.2) {d dF : aI} {e eF : aJ} {x1 : Int32} {r : Option Value} {p : Nat × aL × aI × aJ} (h : sX5_both_0 Fo d e x1 = some p) (kc : Nat.beq p.1 100000 = false → Rn Γ (dc + 7) mX5_both p.1 p.2.1 [] p.2.2.1 p.2.2.2 r dF eF) (kr : p.1 = 100000 → r = a_rt p.2.1 ∧ dF = p.2.2.1 ∧ eF = p.2.2.2) : Rn Γ (dc + 7) mX5_both 0 [some (.ref 83), some (.int x1), none] [] d e r dF eF := by
  unfold sX5_both_0 at h
  obtain ⟨q1, hq1, h⟩ := Option.bind_eq_some_iff.mp h
  refine bX5_both_0 (evX5_ask hFo hq1) (by omega) ?_
  refine bX5_both_5 ?_
  cases h
  exact kc rfl

noncomputable def sX5_both_7 (Fo : aI → aJ → Int32 → Option (Unit × aI × aJ)) (d : aI) (e : aJ) (x1 : Int32) (x2 : Int32) : Option (Nat × aL × aI × aJ) := (if (nI 300) ≤ x2 then (some (100000, [], d, e)) else (if (d 83 3) = 0 then (if (d 83 10) = (nI 319) then ((FX5_next d e).bind fun q4 => ((FX5_ask Fo q4.2.1 q4.2.2 x1).bind fun q5 => ((FX7_put q5.2.1 q5.2.2 (nI 319)).bind fun q6 => (some (7, [some (.ref 83), some (.int x1), some (.int (x2 + (nI 1)))], q6.2.1, q6.2.2))))) else (some (100000, [], d, e))) else (some (100000, [], d, e))))
theorem tX5_both_7 {Γ : aG × Launch} {Fo : aI → aJ → Int32 → Option (Unit × aI × aJ)} {dc : Nat} (hFo : ∀ {d : aI} {e : aJ} {z0 : Int32} {q : Unit × aI × aJ}, Fo d e z0 = some q → Ev Γ dc mX5_opened [.ref 83, .int z0] d e none q.2.1 q.2.2) {d dF : aI} {e eF : aJ} {x1 : Int32} {x2 : Int32} {r : Option Value} {p : Nat × aL × aI × aJ} (h : sX5_both_7 Fo d e x1 x2 = some p) (kc : Nat.beq p.1 100000 = false → Rn Γ (dc + 7) mX5_both p.1 p.2.1 [] p.2.2.1 p.2.2.2 r dF eF) (kr : p.1 = 100000 → r = a_rt p.2.1 ∧ dF = p.2.2.1 ∧ eF = p.2.2.2) : Rn Γ (dc + 7) mX5_both 7 [some (.ref 83), some (.int x1), some (.int x2)] [] d e r dF eF := by
  unfold sX5_both_7 at h
  refine a_ite h (fun c1 h => ?_) (fun c1 h => ?_)
  · refine bX5_both_7 (fun _ => ?_) (fun z => absurd c1 z)
    cases h
    obtain ⟨k1, k2, k3⟩ := kr rfl
    exact bX5_both_57 k1 k2 k3
  · refine bX5_both_7 (fun z => absurd z c1) (fun _ => ?_)
    refine a_ite h (fun c2 h => ?_) (fun c2 h => ?_)
    · refine bX5_both_14 (fun z => absurd c2 z) (fun _ => ?_)
      refine a_ite h (fun c3 h => ?_) (fun c3 h => ?_)
      · refine bX5_both_21 (fun z => absurd c3 z) (fun _ => ?_)
        obtain ⟨q4, hq4, h⟩ := Option.bind_eq_some_iff.mp h
        refine bX5_both_31 (evX5_next hq4) (by omega) ?_
        obtain ⟨q5, hq5, h⟩ := Option.bind_eq_some_iff.mp h
        refine bX5_both_35 (evX5_ask hFo hq5) (by omega) ?_
        obtain ⟨q6, hq6, h⟩ := Option.bind_eq_some_iff.mp h
        refine bX5_both_40 (evX7_put hq6) (by omega) ?_
        refine bX5_both_50 ?_
        cases h
        exact kc rfl
      · refine bX5_both_21 (fun _ => ?_) (fun z => absurd z c3)
        cases h
        obtain ⟨k1, k2, k3⟩ := kr rfl
        exact bX5_both_57 k1 k2 k3
    · refine bX5_both_14 (fun _ => ?_) (fun z => absurd z c2)
      cases h
      obtain ⟨k1, k2, k3⟩ := kr rfl
      exact bX5_both_57 k1 k2 k3

noncomputable def stX5_both (Fo : aI → aJ → Int32 → Option (Unit × aI × aJ)) (p : Nat × aL × aI × aJ) : Option (Nat × aL × aI × aJ) := match p with
  | (0, [some (.ref 83), some (.int x1), none], d, e) => sX5_both_0 Fo d e x1
  | (7, [some (.ref 83), some (.int x1), some (.int x2)], d, e) => sX5_both_7 Fo d e x1 x2
  | _ => none
theorem uX5_both {Γ : aG × Launch} {Fo : aI → aJ → Int32 → Option (Unit × aI × aJ)} {dc : Nat} (hFo : ∀ {d : aI} {e : aJ} {z0 : Int32} {q : Unit × aI × aJ}, Fo d e z0 = some q → Ev Γ dc mX5_opened [.ref 83, .int z0] d e none q.2.1 q.2.2) {p p2 : Nat × aL × aI × aJ} {r : Option Value} {dF : aI} {eF : aJ} (h : stX5_both Fo p = some p2) (kc : Nat.beq p2.1 100000 = false → Rn Γ (dc + 7) mX5_both p2.1 p2.2.1 [] p2.2.2.1 p2.2.2.2 r dF eF) (kr : p2.1 = 100000 → r = a_rt p2.2.1 ∧ dF = p2.2.2.1 ∧ eF = p2.2.2.2) : Rn Γ (dc + 7) mX5_both p.1 p.2.1 [] p.2.2.1 p.2.2.2 r dF eF := by
  unfold stX5_both at h
  split at h
  · exact tX5_both_0 hFo h kc kr
  · exact tX5_both_7 hFo h kc kr
  · cases h
noncomputable def FX5_both (Fo : aI → aJ → Int32 → Option (Unit × aI × aJ)) (d : aI) (e : aJ) (x1 : Int32) : Option (Unit × aI × aJ) := (a_run (stX5_both Fo) (0, [some (.ref 83), some (.int x1), none], d, e)).bind a_xV
theorem evX5_both {Γ : aG × Launch} {Fo : aI → aJ → Int32 → Option (Unit × aI × aJ)} {dc : Nat} (hFo : ∀ {d : aI} {e : aJ} {z0 : Int32} {q : Unit × aI × aJ}, Fo d e z0 = some q → Ev Γ dc mX5_opened [.ref 83, .int z0] d e none q.2.1 q.2.2) {d : aI} {e : aJ} {x1 : Int32} {q : Unit × aI × aJ} (h : FX5_both Fo d e x1 = some q) : Ev Γ (dc + 7) mX5_both [.ref 83, .int x1] d e none q.2.1 q.2.2 := by
  refine Ev.of (by decide) rfl (Nat.le_of_ble_eq_true rfl) (fun z => by cases z) ?_
  show Rn Γ (dc + 7) mX5_both 0 [some (.ref 83), some (.int x1), none] [] d e _ _ _
  obtain ⟨q1, h1, h2⟩ := Option.bind_eq_some_iff.mp h
  obtain ⟨e1, e2, e3⟩ := a_xV_rt h2
  exact Rn.cast (a_run_ok (uX5_both hFo) rfl h1) e1.symm e2.symm e3.symm
noncomputable def sX10_played_0 (d : aI) (e : aJ) (x1 : Int32) : Option (Nat × aL × aI × aJ) := ((FX10_isText d e x1).bind fun q1 => (if q1.1 = 0 then (some (100000, [some (.int (-(nI 2)))], q1.2.1, q1.2.2)) else (bif (a_inb x1 4) then (some (20, [some (.ref 0), some (.int x1), some (.ref (58 + 5 * (x1).toNatClampNeg)), some (.int (nI 0))], q1.2.1, q1.2.2)) else none)))
theorem tX10_played_0 {Γ : aG × Launch} {d dF : aI} {e eF : aJ} {x1 : Int32} {r : Option Value} {p : Nat × aL × aI × aJ} (h : sX10_played_0 d e x1 = some p) (kc : Nat.beq p.1 100000 = false → Rn Γ (7) mX10_played p.1 p.2.1 [] p.2.2.1 p.2.2.2 r dF eF) (kr : p.1 = 100000 → r = a_rt p.2.1 ∧ dF = p.2.2.1 ∧ eF = p.2.2.2) : Rn Γ (7) mX10_played 0 [some (.ref 0), some (.int x1), none, none] [] d e r dF eF := by
  unfold sX10_played_0 at h
  obtain ⟨q1, hq1, h⟩ := Option.bind_eq_some_iff.mp h
  refine bX10_played_0 (evX10_isText hq1) (by omega) ?_
  refine a_ite h (fun c2 h => ?_) (fun c2 h => ?_)
  · refine bX10_played_5 (fun z => absurd c2 z) (fun _ => ?_)
    cases h
    obtain ⟨k1, k2, k3⟩ := kr rfl
    exact bX10_played_8 k1 k2 k3
  · refine bX10_played_5 (fun _ => ?_) (fun z => absurd z c2)
    obtain ⟨g3, h⟩ := a_cond h
    refine bX10_played_11 (a_inb_lt g3) (a_inb_nI g3) ?_
    refine bX10_played_17 ?_
    cases h
    exact kc rfl

noncomputable def sX10_played_20 (d : aI) (e : aJ) (x1 : Int32) (o2 : Nat) (x3 : Int32) : Option (Nat × aL × aI × aJ) := (bif (decide (o2 = 58 ∨ o2 = 63 ∨ o2 = 68 ∨ o2 = 73)) then (if (d o2 4) ≤ x3 then (some (100000, [some (.int (-(nI 1)))], d, e)) else (bif ((a_inb x3 24) && (a_inb x3 24) && (a_inb x3 24)) then ((FX10_act d e (d (o2 + 1) (x3).toNatClampNeg) (d (o2 + 2) (x3).toNatClampNeg) (d (o2 + 3) (x3).toNatClampNeg)).bind fun q3 => (if q3.1 = 0 then (some (100000, [some (.int x3)], q3.2.1, q3.2.2)) else (some (20, [some (.ref 0), some (.int x1), some (.ref o2), some (.int (x3 + (nI 1)))], q3.2.1, q3.2.2)))) else none)) else none)
theorem tX10_played_20 {Γ : aG × Launch} {d dF : aI} {e eF : aJ} {x1 : Int32} {o2 : Nat} {x3 : Int32} {r : Option Value} {p : Nat × aL × aI × aJ} (h : sX10_played_20 d e x1 o2 x3 = some p) (kc : Nat.beq p.1 100000 = false → Rn Γ (7) mX10_played p.1 p.2.1 [] p.2.2.1 p.2.2.2 r dF eF) (kr : p.1 = 100000 → r = a_rt p.2.1 ∧ dF = p.2.2.1 ∧ eF = p.2.2.2) : Rn Γ (7) mX10_played 20 [some (.ref 0), some (.int x1), some (.ref o2), some (.int x3)] [] d e r dF eF := by
  unfold sX10_played_20 at h
  obtain ⟨ho2x, h⟩ := a_cond h
  have ho2 := of_decide_eq_true ho2x
  refine a_ite h (fun c1 h => ?_) (fun c1 h => ?_)
  · refine bX10_played_20 ho2 (fun _ => ?_) (fun z => absurd c1 z)
    cases h
    obtain ⟨k1, k2, k3⟩ := kr rfl
    exact bX10_played_61 k1 k2 k3
  · refine bX10_played_20 ho2 (fun z => absurd z c1) (fun _ => ?_)
    obtain ⟨g2, h⟩ := a_cond h
    obtain ⟨g2x2, g2_2⟩ := a_and g2
    obtain ⟨g2x1, g2_1⟩ := a_and g2x2
    have g2_0 := g2x1
    obtain ⟨q3, hq3, h⟩ := Option.bind_eq_some_iff.mp h
    refine bX10_played_28 ho2 ⟨(a_inb_vp g2_0), (a_inb_vp g2_1), (a_inb_vp g2_2)⟩ (evX10_act hq3) (by omega) ?_
    refine a_ite h (fun c4 h => ?_) (fun c4 h => ?_)
    · refine bX10_played_50 (fun z => absurd c4 z) (fun _ => ?_)
      cases h
      obtain ⟨k1, k2, k3⟩ := kr rfl
      exact bX10_played_53 k1 k2 k3
    · refine bX10_played_50 (fun _ => ?_) (fun z => absurd z c4)
      refine bX10_played_55 ?_
      cases h
      exact kc rfl

noncomputable def stX10_played (p : Nat × aL × aI × aJ) : Option (Nat × aL × aI × aJ) := match p with
  | (0, [some (.ref 0), some (.int x1), none, none], d, e) => sX10_played_0 d e x1
  | (20, [some (.ref 0), some (.int x1), some (.ref o2), some (.int x3)], d, e) => sX10_played_20 d e x1 o2 x3
  | _ => none
theorem uX10_played {Γ : aG × Launch} {p p2 : Nat × aL × aI × aJ} {r : Option Value} {dF : aI} {eF : aJ} (h : stX10_played p = some p2) (kc : Nat.beq p2.1 100000 = false → Rn Γ (7) mX10_played p2.1 p2.2.1 [] p2.2.2.1 p2.2.2.2 r dF eF) (kr : p2.1 = 100000 → r = a_rt p2.2.1 ∧ dF = p2.2.2.1 ∧ eF = p2.2.2.2) : Rn Γ (7) mX10_played p.1 p.2.1 [] p.2.2.1 p.2.2.2 r dF eF := by
  unfold stX10_played at h
  split at h
  · exact tX10_played_0 h kc kr
  · exact tX10_played_20 h kc kr
  · cases h
noncomputable def FX10_played (d : aI) (e : aJ) (x1 : Int32) : Option (Int32 × aI × aJ) := (a_run (stX10_played) (0, [some (.ref 0), some (.int x1), none, none], d, e)).bind a_xI
theorem evX10_played {Γ : aG × Launch} {d : aI} {e : aJ} {x1 : Int32} {q : Int32 × aI × aJ} (h : FX10_played d e x1 = some q) : Ev Γ (7) mX10_played [.ref 0, .int x1] d e (some (.int q.1)) q.2.1 q.2.2 := by
  refine Ev.of (by decide) rfl (Nat.le_of_ble_eq_true rfl) (fun z => by cases z) ?_
  show Rn Γ (7) mX10_played 0 [some (.ref 0), some (.int x1), none, none] [] d e _ _ _
  obtain ⟨q1, h1, h2⟩ := Option.bind_eq_some_iff.mp h
  obtain ⟨e1, e2, e3⟩ := a_xI_rt h2
  exact Rn.cast (a_run_ok (uX10_played) rfl h1) e1.symm e2.symm e3.symm
noncomputable def sX5_either_0 (Fo : aI → aJ → Int32 → Option (Unit × aI × aJ)) (d : aI) (e : aJ) (x1 : Int32) : Option (Nat × aL × aI × aJ) := ((FX5_both Fo d e x1).bind fun q1 => (some (7, [some (.ref 83), some (.int x1), some (.int (nI 0))], q1.2.1, q1.2.2)))
theorem tX5_either_0 {Γ : aG × Launch} {Fo : aI → aJ → Int32 → Option (Unit × aI × aJ)} {dc : Nat} (hFo : ∀ {d : aI} {e : aJ} {z0 : Int32} {q : Unit × aI × aJ}, Fo d e z0 = some q → Ev Γ dc mX5_opened [.ref 83, .int z0] d e none q.2.1 q.2.2) {d dF : aI} {e eF : aJ} {x1 : Int32} {r : Option Value} {p : Nat × aL × aI × aJ} (h : sX5_either_0 Fo d e x1 = some p) (kc : Nat.beq p.1 100000 = false → Rn Γ (dc + 8) mX5_either p.1 p.2.1 [] p.2.2.1 p.2.2.2 r dF eF) (kr : p.1 = 100000 → r = a_rt p.2.1 ∧ dF = p.2.2.1 ∧ eF = p.2.2.2) : Rn Γ (dc + 8) mX5_either 0 [some (.ref 83), some (.int x1), none] [] d e r dF eF := by
  unfold sX5_either_0 at h
  obtain ⟨q1, hq1, h⟩ := Option.bind_eq_some_iff.mp h
  refine bX5_either_0 (evX5_both hFo hq1) (by omega) ?_
  refine bX5_either_5 ?_
  cases h
  exact kc rfl

noncomputable def sX5_either_7 (Fo : aI → aJ → Int32 → Option (Unit × aI × aJ)) (d : aI) (e : aJ) (x1 : Int32) (x2 : Int32) : Option (Nat × aL × aI × aJ) := (if (nI 300) ≤ x2 then (some (100000, [], d, e)) else (if (d 83 3) = 0 then (if (d 83 10) = (nI 318) then ((FX5_next d e).bind fun q4 => ((FX5_both Fo q4.2.1 q4.2.2 x1).bind fun q5 => ((FX7_put q5.2.1 q5.2.2 (nI 318)).bind fun q6 => (some (7, [some (.ref 83), some (.int x1), some (.int (x2 + (nI 1)))], q6.2.1, q6.2.2))))) else (some (100000, [], d, e))) else (some (100000, [], d, e))))
theorem tX5_either_7 {Γ : aG × Launch} {Fo : aI → aJ → Int32 → Option (Unit × aI × aJ)} {dc : Nat} (hFo : ∀ {d : aI} {e : aJ} {z0 : Int32} {q : Unit × aI × aJ}, Fo d e z0 = some q → Ev Γ dc mX5_opened [.ref 83, .int z0] d e none q.2.1 q.2.2) {d dF : aI} {e eF : aJ} {x1 : Int32} {x2 : Int32} {r : Option Value} {p : Nat × aL × aI × aJ} (h : sX5_either_7 Fo d e x1 x2 = some p) (kc : Nat.beq p.1 100000 = false → Rn Γ (dc + 8) mX5_either p.1 p.2.1 [] p.2.2.1 p.2.2.2 r dF eF) (kr : p.1 = 100000 → r = a_rt p.2.1 ∧ dF = p.2.2.1 ∧ eF = p.2.2.2) : Rn Γ (dc + 8) mX5_either 7 [some (.ref 83), some (.int x1), some (.int x2)] [] d e r dF eF := by
  unfold sX5_either_7 at h
  refine a_ite h (fun c1 h => ?_) (fun c1 h => ?_)
  · refine bX5_either_7 (fun _ => ?_) (fun z => absurd c1 z)
    cases h
    obtain ⟨k1, k2, k3⟩ := kr rfl
    exact bX5_either_57 k1 k2 k3
  · refine bX5_either_7 (fun z => absurd z c1) (fun _ => ?_)
    refine a_ite h (fun c2 h => ?_) (fun c2 h => ?_)
    · refine bX5_either_14 (fun z => absurd c2 z) (fun _ => ?_)
      refine a_ite h (fun c3 h => ?_) (fun c3 h => ?_)
      · refine bX5_either_21 (fun z => absurd c3 z) (fun _ => ?_)
        obtain ⟨q4, hq4, h⟩ := Option.bind_eq_some_iff.mp h
        refine bX5_either_31 (evX5_next hq4) (by omega) ?_
        obtain ⟨q5, hq5, h⟩ := Option.bind_eq_some_iff.mp h
        refine bX5_either_35 (evX5_both hFo hq5) (by omega) ?_
        obtain ⟨q6, hq6, h⟩ := Option.bind_eq_some_iff.mp h
        refine bX5_either_40 (evX7_put hq6) (by omega) ?_
        refine bX5_either_50 ?_
        cases h
        exact kc rfl
      · refine bX5_either_21 (fun _ => ?_) (fun z => absurd z c3)
        cases h
        obtain ⟨k1, k2, k3⟩ := kr rfl
        exact bX5_either_57 k1 k2 k3
    · refine bX5_either_14 (fun _ => ?_) (fun z => absurd z c2)
      cases h
      obtain ⟨k1, k2, k3⟩ := kr rfl
      exact bX5_either_57 k1 k2 k3

noncomputable def stX5_either (Fo : aI → aJ → Int32 → Option (Unit × aI × aJ)) (p : Nat × aL × aI × aJ) : Option (Nat × aL × aI × aJ) := match p with
  | (0, [some (.ref 83), some (.int x1), none], d, e) => sX5_either_0 Fo d e x1
  | (7, [some (.ref 83), some (.int x1), some (.int x2)], d, e) => sX5_either_7 Fo d e x1 x2
  | _ => none
theorem uX5_either {Γ : aG × Launch} {Fo : aI → aJ → Int32 → Option (Unit × aI × aJ)} {dc : Nat} (hFo : ∀ {d : aI} {e : aJ} {z0 : Int32} {q : Unit × aI × aJ}, Fo d e z0 = some q → Ev Γ dc mX5_opened [.ref 83, .int z0] d e none q.2.1 q.2.2) {p p2 : Nat × aL × aI × aJ} {r : Option Value} {dF : aI} {eF : aJ} (h : stX5_either Fo p = some p2) (kc : Nat.beq p2.1 100000 = false → Rn Γ (dc + 8) mX5_either p2.1 p2.2.1 [] p2.2.2.1 p2.2.2.2 r dF eF) (kr : p2.1 = 100000 → r = a_rt p2.2.1 ∧ dF = p2.2.2.1 ∧ eF = p2.2.2.2) : Rn Γ (dc + 8) mX5_either p.1 p.2.1 [] p.2.2.1 p.2.2.2 r dF eF := by
  unfold stX5_either at h
  split at h
  · exact tX5_either_0 hFo h kc kr
  · exact tX5_either_7 hFo h kc kr
  · cases h
noncomputable def FX5_either (Fo : aI → aJ → Int32 → Option (Unit × aI × aJ)) (d : aI) (e : aJ) (x1 : Int32) : Option (Unit × aI × aJ) := (a_run (stX5_either Fo) (0, [some (.ref 83), some (.int x1), none], d, e)).bind a_xV
theorem evX5_either {Γ : aG × Launch} {Fo : aI → aJ → Int32 → Option (Unit × aI × aJ)} {dc : Nat} (hFo : ∀ {d : aI} {e : aJ} {z0 : Int32} {q : Unit × aI × aJ}, Fo d e z0 = some q → Ev Γ dc mX5_opened [.ref 83, .int z0] d e none q.2.1 q.2.2) {d : aI} {e : aJ} {x1 : Int32} {q : Unit × aI × aJ} (h : FX5_either Fo d e x1 = some q) : Ev Γ (dc + 8) mX5_either [.ref 83, .int x1] d e none q.2.1 q.2.2 := by
  refine Ev.of (by decide) rfl (Nat.le_of_ble_eq_true rfl) (fun z => by cases z) ?_
  show Rn Γ (dc + 8) mX5_either 0 [some (.ref 83), some (.int x1), none] [] d e _ _ _
  obtain ⟨q1, h1, h2⟩ := Option.bind_eq_some_iff.mp h
  obtain ⟨e1, e2, e3⟩ := a_xV_rt h2
  exact Rn.cast (a_run_ok (uX5_either hFo) rfl h1) e1.symm e2.symm e3.symm
noncomputable def FX5_choice (Fo : aI → aJ → Int32 → Option (Unit × aI × aJ)) (d : aI) (e : aJ) (x1 : Int32) : Option (Unit × aI × aJ) := ((FX5_either Fo d e x1).bind fun q1 => ((FX5_expect q1.2.1 q1.2.2 (nI 315)).bind fun q2 => ((FX7_put q2.2.1 q2.2.2 (nI 314)).bind fun q3 => ((FX7_put q3.2.1 q3.2.2 (nI 0)).bind fun q4 => ((FX5_sum Fo q4.2.1 q4.2.2 x1).bind fun q5 => ((FX5_expect q5.2.1 q5.2.2 (nI 316)).bind fun q6 => ((FX7_put q6.2.1 q6.2.2 (nI 316)).bind fun q7 => ((FX7_put q7.2.1 q7.2.2 (nI 0)).bind fun q8 => ((FX7_land q8.2.1 q8.2.2 q4.1).bind fun q9 => ((FX5_sum Fo q9.2.1 q9.2.2 x1).bind fun q10 => ((FX5_expect q10.2.1 q10.2.2 (nI 317)).bind fun q11 => ((FX7_land q11.2.1 q11.2.2 q8.1).bind fun q12 => (some ((), q12.2.1, q12.2.2))))))))))))))
theorem evX5_choice {Γ : aG × Launch} {Fo : aI → aJ → Int32 → Option (Unit × aI × aJ)} {dc : Nat} (hFo : ∀ {d : aI} {e : aJ} {z0 : Int32} {q : Unit × aI × aJ}, Fo d e z0 = some q → Ev Γ dc mX5_opened [.ref 83, .int z0] d e none q.2.1 q.2.2) {d : aI} {e : aJ} {x1 : Int32} {q : Unit × aI × aJ} (h : FX5_choice Fo d e x1 = some q) : Ev Γ (dc + 9) mX5_choice [.ref 83, .int x1] d e none q.2.1 q.2.2 := by
  refine Ev.of (by decide) rfl (Nat.le_of_ble_eq_true rfl) (fun z => by cases z) ?_
  show Rn Γ (dc + 9) mX5_choice 0 [some (.ref 83), some (.int x1), none, none] [] d e _ _ _
  unfold FX5_choice at h
  obtain ⟨q1, hq1, h⟩ := Option.bind_eq_some_iff.mp h
  refine bX5_choice_0 (evX5_either hFo hq1) (by omega) ?_
  obtain ⟨q2, hq2, h⟩ := Option.bind_eq_some_iff.mp h
  refine bX5_choice_5 (evX5_expect hq2) (by omega) ?_
  obtain ⟨q3, hq3, h⟩ := Option.bind_eq_some_iff.mp h
  refine bX5_choice_12 (evX7_put hq3) (by omega) ?_
  obtain ⟨q4, hq4, h⟩ := Option.bind_eq_some_iff.mp h
  refine bX5_choice_22 (evX7_put hq4) (by omega) ?_
  obtain ⟨q5, hq5, h⟩ := Option.bind_eq_some_iff.mp h
  refine bX5_choice_31 (evX5_sum hFo hq5) (by omega) ?_
  obtain ⟨q6, hq6, h⟩ := Option.bind_eq_some_iff.mp h
  refine bX5_choice_37 (evX5_expect hq6) (by omega) ?_
  obtain ⟨q7, hq7, h⟩ := Option.bind_eq_some_iff.mp h
  refine bX5_choice_44 (evX7_put hq7) (by omega) ?_
  obtain ⟨q8, hq8, h⟩ := Option.bind_eq_some_iff.mp h
  refine bX5_choice_54 (evX7_put hq8) (by omega) ?_
  obtain ⟨q9, hq9, h⟩ := Option.bind_eq_some_iff.mp h
  refine bX5_choice_63 (evX7_land hq9) (by omega) ?_
  obtain ⟨q10, hq10, h⟩ := Option.bind_eq_some_iff.mp h
  refine bX5_choice_72 (evX5_sum hFo hq10) (by omega) ?_
  obtain ⟨q11, hq11, h⟩ := Option.bind_eq_some_iff.mp h
  refine bX5_choice_77 (evX5_expect hq11) (by omega) ?_
  obtain ⟨q12, hq12, h⟩ := Option.bind_eq_some_iff.mp h
  refine bX5_choice_84 (evX7_land hq12) (by omega) ?_
  cases h
  exact bX5_choice_92

