/-! ===== functions out of the methods ===== -/
noncomputable def FX11_let (d : aI) (e : aJ) (x1 : Int32) (x2 : Int32) : Option (Int32 × aI × aJ) := ((FX11_canLet d e x1 x2).bind fun q1 => (if q1.1 = 0 then (some ((nI 0), q1.2.1, q1.2.2)) else ((FX11_keep q1.2.1 q1.2.2).bind fun q3 => ((FX11_letNow q3.2.1 q3.2.2 x1 x2).bind fun q4 => (some ((nI 1), q4.2.1, q4.2.2))))))
theorem evX11_let {Γ : aG × Launch} {d : aI} {e : aJ} {x1 : Int32} {x2 : Int32} {q : Int32 × aI × aJ} (h : FX11_let d e x1 x2 = some q) : Ev Γ (3) mX11_let [.ref 108, .int x1, .int x2] d e (some (.int q.1)) q.2.1 q.2.2 := by
  refine Ev.of (by decide) rfl (Nat.le_of_ble_eq_true rfl) (fun z => by cases z) ?_
  show Rn Γ (3) mX11_let 0 [some (.ref 108), some (.int x1), some (.int x2)] [] d e _ _ _
  unfold FX11_let at h
  obtain ⟨q1, hq1, h⟩ := Option.bind_eq_some_iff.mp h
  refine bX11_let_0 (evX11_canLet hq1) (by omega) ?_
  refine a_ite h (fun c2 h => ?_) (fun c2 h => ?_)
  · refine bX11_let_6 (fun z => absurd c2 z) (fun _ => ?_)
    cases h
    exact bX11_let_9
  · refine bX11_let_6 (fun _ => ?_) (fun z => absurd z c2)
    obtain ⟨q3, hq3, h⟩ := Option.bind_eq_some_iff.mp h
    refine bX11_let_11 (evX11_keep hq3) (by omega) ?_
    obtain ⟨q4, hq4, h⟩ := Option.bind_eq_some_iff.mp h
    refine bX11_let_15 (evX11_letNow hq4) (by omega) ?_
    cases h
    exact bX11_let_21

noncomputable def FX11_out (d : aI) (e : aJ) (x1 : Int32) : Option (Int32 × aI × aJ) := ((FX11_isHouse d e x1).bind fun q1 => (if q1.1 = 0 then (some ((-(nI 1)), q1.2.1, q1.2.2)) else ((FX11_catIn q1.2.1 q1.2.2 x1).bind fun q3 => (if q3.1 = (-(nI 1)) then (some ((-(nI 1)), q3.2.1, q3.2.2)) else ((FX11_catIn q3.2.1 q3.2.2 x1).bind fun q5 => ((FX11_keep q5.2.1 q5.2.2).bind fun q6 => ((FX11_outNow q6.2.1 q6.2.2 q5.1 (nI 1)).bind fun q7 => (some (q5.1, q7.2.1, q7.2.2)))))))))
theorem evX11_out {Γ : aG × Launch} {d : aI} {e : aJ} {x1 : Int32} {q : Int32 × aI × aJ} (h : FX11_out d e x1 = some q) : Ev Γ (2) mX11_out [.ref 108, .int x1] d e (some (.int q.1)) q.2.1 q.2.2 := by
  refine Ev.of (by decide) rfl (Nat.le_of_ble_eq_true rfl) (fun z => by cases z) ?_
  show Rn Γ (2) mX11_out 0 [some (.ref 108), some (.int x1), none] [] d e _ _ _
  unfold FX11_out at h
  obtain ⟨q1, hq1, h⟩ := Option.bind_eq_some_iff.mp h
  refine bX11_out_0 (evX11_isHouse hq1) (by omega) ?_
  refine a_ite h (fun c2 h => ?_) (fun c2 h => ?_)
  · refine bX11_out_5 (fun _ => ?_) (fun z => absurd c2 z)
    cases h
    exact bX11_out_17
  · refine bX11_out_5 (fun z => absurd z c2) (fun _ => ?_)
    obtain ⟨q3, hq3, h⟩ := Option.bind_eq_some_iff.mp h
    refine bX11_out_8 (evX11_catIn hq3) (by omega) ?_
    refine a_ite h (fun c4 h => ?_) (fun c4 h => ?_)
    · refine bX11_out_13 (fun z => absurd c4 z) (fun _ => ?_)
      cases h
      exact bX11_out_17
    · refine bX11_out_13 (fun _ => ?_) (fun z => absurd z c4)
      obtain ⟨q5, hq5, h⟩ := Option.bind_eq_some_iff.mp h
      refine bX11_out_19 (evX11_catIn hq5) (by omega) ?_
      obtain ⟨q6, hq6, h⟩ := Option.bind_eq_some_iff.mp h
      refine bX11_out_24 (evX11_keep hq6) (by omega) ?_
      obtain ⟨q7, hq7, h⟩ := Option.bind_eq_some_iff.mp h
      refine bX11_out_29 (evX11_outNow hq7) (by omega) ?_
      cases h
      exact bX11_out_35

noncomputable def FX11_go (d : aI) (e : aJ) (x1 : Int32) (x2 : Int32) : Option (Int32 × aI × aJ) := ((FX11_canGo d e x1).bind fun q1 => (if q1.1 = 0 then (some ((nI 0), q1.2.1, q1.2.2)) else ((FX11_keep q1.2.1 q1.2.2).bind fun q3 => ((FX11_goNow q3.2.1 q3.2.2 x1 x2).bind fun q4 => (some ((nI 1), q4.2.1, q4.2.2))))))
theorem evX11_go {Γ : aG × Launch} {d : aI} {e : aJ} {x1 : Int32} {x2 : Int32} {q : Int32 × aI × aJ} (h : FX11_go d e x1 x2 = some q) : Ev Γ (3) mX11_go [.ref 108, .int x1, .int x2] d e (some (.int q.1)) q.2.1 q.2.2 := by
  refine Ev.of (by decide) rfl (Nat.le_of_ble_eq_true rfl) (fun z => by cases z) ?_
  show Rn Γ (3) mX11_go 0 [some (.ref 108), some (.int x1), some (.int x2)] [] d e _ _ _
  unfold FX11_go at h
  obtain ⟨q1, hq1, h⟩ := Option.bind_eq_some_iff.mp h
  refine bX11_go_0 (evX11_canGo hq1) (by omega) ?_
  refine a_ite h (fun c2 h => ?_) (fun c2 h => ?_)
  · refine bX11_go_5 (fun z => absurd c2 z) (fun _ => ?_)
    cases h
    exact bX11_go_8
  · refine bX11_go_5 (fun _ => ?_) (fun z => absurd z c2)
    obtain ⟨q3, hq3, h⟩ := Option.bind_eq_some_iff.mp h
    refine bX11_go_10 (evX11_keep hq3) (by omega) ?_
    obtain ⟨q4, hq4, h⟩ := Option.bind_eq_some_iff.mp h
    refine bX11_go_14 (evX11_goNow hq4) (by omega) ?_
    cases h
    exact bX11_go_20

noncomputable def FX11_of (d : aI) (e : aJ) (x1 : Int32) (x2 : Int32) : Option (Int32 × aI × aJ) := ((FX11_isCat d e x1).bind fun q1 => (if q1.1 = 0 then (some ((-(nI 2)), q1.2.1, q1.2.2)) else (if x2 = 0 then ((FX11_placeOf q1.2.1 q1.2.2 x1).bind fun q4 => (some (q4.1, q4.2.1, q4.2.2))) else (if x2 = (nI 1) then (bif ((a_inb ((nI 54) + x1) 1961)) then (some ((q1.2.1 109 (((nI 54) + x1)).toNatClampNeg), q1.2.1, q1.2.2)) else none) else (if x2 = (nI 2) then ((FX11_get q1.2.1 q1.2.2 x1 (nI 1)).bind fun q8 => (some (q8.1, q8.2.1, q8.2.2))) else (if x2 = (nI 3) then ((FX11_get q1.2.1 q1.2.2 x1 (nI 2)).bind fun q10 => (some (q10.1, q10.2.1, q10.2.2))) else (some ((-(nI 2)), q1.2.1, q1.2.2))))))))
theorem evX11_of {Γ : aG × Launch} {d : aI} {e : aJ} {x1 : Int32} {x2 : Int32} {q : Int32 × aI × aJ} (h : FX11_of d e x1 x2 = some q) : Ev Γ (3) mX11_of [.ref 108, .int x1, .int x2] d e (some (.int q.1)) q.2.1 q.2.2 := by
  refine Ev.of (by decide) rfl (Nat.le_of_ble_eq_true rfl) (fun z => by cases z) ?_
  show Rn Γ (3) mX11_of 0 [some (.ref 108), some (.int x1), some (.int x2)] [] d e _ _ _
  unfold FX11_of at h
  obtain ⟨q1, hq1, h⟩ := Option.bind_eq_some_iff.mp h
  refine bX11_of_0 (evX11_isCat hq1) (by omega) ?_
  refine a_ite h (fun c2 h => ?_) (fun c2 h => ?_)
  · refine bX11_of_5 (fun z => absurd c2 z) (fun _ => ?_)
    cases h
    exact bX11_of_8
  · refine bX11_of_5 (fun _ => ?_) (fun z => absurd z c2)
    refine a_ite h (fun c3 h => ?_) (fun c3 h => ?_)
    · refine bX11_of_11 (fun z => absurd c3 z) (fun _ => ?_)
      obtain ⟨q4, hq4, h⟩ := Option.bind_eq_some_iff.mp h
      refine bX11_of_15 (evX11_placeOf hq4) (by omega) ?_
      refine bX11_of_20 ?_
      cases h
      exact bX11_of_70
    · refine bX11_of_11 (fun _ => ?_) (fun z => absurd z c3)
      refine a_ite h (fun c5 h => ?_) (fun c5 h => ?_)
      · refine bX11_of_23 (fun z => absurd c5 z) (fun _ => ?_)
        obtain ⟨g6, h⟩ := a_cond h
        refine bX11_of_28 (a_inb_vp g6) ?_
        cases h
        exact bX11_of_70
      · refine bX11_of_23 (fun _ => ?_) (fun z => absurd z c5)
        refine a_ite h (fun c7 h => ?_) (fun c7 h => ?_)
        · refine bX11_of_40 (fun z => absurd c7 z) (fun _ => ?_)
          obtain ⟨q8, hq8, h⟩ := Option.bind_eq_some_iff.mp h
          refine bX11_of_45 (evX11_get hq8) (by omega) ?_
          refine bX11_of_51 ?_
          cases h
          exact bX11_of_70
        · refine bX11_of_40 (fun _ => ?_) (fun z => absurd z c7)
          refine a_ite h (fun c9 h => ?_) (fun c9 h => ?_)
          · refine bX11_of_54 (fun z => absurd c9 z) (fun _ => ?_)
            obtain ⟨q10, hq10, h⟩ := Option.bind_eq_some_iff.mp h
            refine bX11_of_59 (evX11_get hq10) (by omega) ?_
            refine bX11_of_65 ?_
            cases h
            exact bX11_of_70
          · refine bX11_of_54 (fun _ => ?_) (fun z => absurd z c9)
            refine bX11_of_68 ?_
            cases h
            exact bX11_of_70

noncomputable def FX11_ofHouse (d : aI) (e : aJ) (x1 : Int32) (x2 : Int32) : Option (Int32 × aI × aJ) := ((FX11_isHouse d e x1).bind fun q1 => (if q1.1 = 0 then (some ((-(nI 2)), q1.2.1, q1.2.2)) else (if x2 = 0 then (bif ((a_inb ((nI 42) + x1) 1961)) then (some ((q1.2.1 109 (((nI 42) + x1)).toNatClampNeg), q1.2.1, q1.2.2)) else none) else (if x2 = (nI 1) then ((FX11_getOf q1.2.1 q1.2.2 x1 (nI 0)).bind fun q6 => (some (q6.1, q6.2.1, q6.2.2))) else (if x2 = (nI 2) then ((FX11_catIn q1.2.1 q1.2.2 x1).bind fun q8 => (some (q8.1, q8.2.1, q8.2.2))) else (if x2 = (nI 3) then ((FX11_getOf q1.2.1 q1.2.2 x1 (nI 1)).bind fun q10 => (some (q10.1, q10.2.1, q10.2.2))) else (some ((-(nI 2)), q1.2.1, q1.2.2))))))))
theorem evX11_ofHouse {Γ : aG × Launch} {d : aI} {e : aJ} {x1 : Int32} {x2 : Int32} {q : Int32 × aI × aJ} (h : FX11_ofHouse d e x1 x2 = some q) : Ev Γ (2) mX11_ofHouse [.ref 108, .int x1, .int x2] d e (some (.int q.1)) q.2.1 q.2.2 := by
  refine Ev.of (by decide) rfl (Nat.le_of_ble_eq_true rfl) (fun z => by cases z) ?_
  show Rn Γ (2) mX11_ofHouse 0 [some (.ref 108), some (.int x1), some (.int x2)] [] d e _ _ _
  unfold FX11_ofHouse at h
  obtain ⟨q1, hq1, h⟩ := Option.bind_eq_some_iff.mp h
  refine bX11_ofHouse_0 (evX11_isHouse hq1) (by omega) ?_
  refine a_ite h (fun c2 h => ?_) (fun c2 h => ?_)
  · refine bX11_ofHouse_5 (fun z => absurd c2 z) (fun _ => ?_)
    cases h
    exact bX11_ofHouse_8
  · refine bX11_ofHouse_5 (fun _ => ?_) (fun z => absurd z c2)
    refine a_ite h (fun c3 h => ?_) (fun c3 h => ?_)
    · refine bX11_ofHouse_11 (fun z => absurd c3 z) (fun _ => ?_)
      obtain ⟨g4, h⟩ := a_cond h
      refine bX11_ofHouse_15 (a_inb_vp g4) ?_
      cases h
      exact bX11_ofHouse_70
    · refine bX11_ofHouse_11 (fun _ => ?_) (fun z => absurd z c3)
      refine a_ite h (fun c5 h => ?_) (fun c5 h => ?_)
      · refine bX11_ofHouse_27 (fun z => absurd c5 z) (fun _ => ?_)
        obtain ⟨q6, hq6, h⟩ := Option.bind_eq_some_iff.mp h
        refine bX11_ofHouse_32 (evX11_getOf hq6) (by omega) ?_
        refine bX11_ofHouse_38 ?_
        cases h
        exact bX11_ofHouse_70
      · refine bX11_ofHouse_27 (fun _ => ?_) (fun z => absurd z c5)
        refine a_ite h (fun c7 h => ?_) (fun c7 h => ?_)
        · refine bX11_ofHouse_41 (fun z => absurd c7 z) (fun _ => ?_)
          obtain ⟨q8, hq8, h⟩ := Option.bind_eq_some_iff.mp h
          refine bX11_ofHouse_46 (evX11_catIn hq8) (by omega) ?_
          refine bX11_ofHouse_51 ?_
          cases h
          exact bX11_ofHouse_70
        · refine bX11_ofHouse_41 (fun _ => ?_) (fun z => absurd z c7)
          refine a_ite h (fun c9 h => ?_) (fun c9 h => ?_)
          · refine bX11_ofHouse_54 (fun z => absurd c9 z) (fun _ => ?_)
            obtain ⟨q10, hq10, h⟩ := Option.bind_eq_some_iff.mp h
            refine bX11_ofHouse_59 (evX11_getOf hq10) (by omega) ?_
            refine bX11_ofHouse_65 ?_
            cases h
            exact bX11_ofHouse_70
          · refine bX11_ofHouse_54 (fun _ => ?_) (fun z => absurd z c9)
            refine bX11_ofHouse_68 ?_
            cases h
            exact bX11_ofHouse_70

noncomputable def FX11_takes (d : aI) (e : aJ) (x1 : Int32) (x2 : Int32) : Option (Int32 × aI × aJ) := ((FX11_isCat d e x1).bind fun q1 => (if q1.1 = 0 then (some ((-(nI 100)), q1.2.1, q1.2.2)) else ((FX11_isHouse q1.2.1 q1.2.2 x2).bind fun q3 => (if q3.1 = 0 then (some ((-(nI 100)), q3.2.1, q3.2.2)) else (bif ((a_inb (nI 3) 1961)) then ((FX11_takesOf q3.2.1 q3.2.2 (q3.2.1 109 3) x1 x2).bind fun q6 => (some (q6.1, q6.2.1, q6.2.2))) else none)))))
theorem evX11_takes {Γ : aG × Launch} {d : aI} {e : aJ} {x1 : Int32} {x2 : Int32} {q : Int32 × aI × aJ} (h : FX11_takes d e x1 x2 = some q) : Ev Γ (5) mX11_takes [.ref 108, .int x1, .int x2] d e (some (.int q.1)) q.2.1 q.2.2 := by
  refine Ev.of (by decide) rfl (Nat.le_of_ble_eq_true rfl) (fun z => by cases z) ?_
  show Rn Γ (5) mX11_takes 0 [some (.ref 108), some (.int x1), some (.int x2)] [] d e _ _ _
  unfold FX11_takes at h
  obtain ⟨q1, hq1, h⟩ := Option.bind_eq_some_iff.mp h
  refine bX11_takes_0 (evX11_isCat hq1) (by omega) ?_
  refine a_ite h (fun c2 h => ?_) (fun c2 h => ?_)
  · refine bX11_takes_5 (fun _ => ?_) (fun z => absurd c2 z)
    refine bX11_takes_31 ?_
    cases h
    exact bX11_takes_33
  · refine bX11_takes_5 (fun z => absurd z c2) (fun _ => ?_)
    obtain ⟨q3, hq3, h⟩ := Option.bind_eq_some_iff.mp h
    refine bX11_takes_8 (evX11_isHouse hq3) (by omega) ?_
    refine a_ite h (fun c4 h => ?_) (fun c4 h => ?_)
    · refine bX11_takes_13 (fun _ => ?_) (fun z => absurd c4 z)
      refine bX11_takes_31 ?_
      cases h
      exact bX11_takes_33
    · refine bX11_takes_13 (fun z => absurd z c4) (fun _ => ?_)
      obtain ⟨g5, h⟩ := a_cond h
      obtain ⟨q6, hq6, h⟩ := Option.bind_eq_some_iff.mp h
      refine bX11_takes_16 (a_inb_vp g5) (evX11_takesOf hq6) (by omega) ?_
      refine bX11_takes_28 ?_
      cases h
      exact bX11_takes_33

noncomputable def FX11_goes (d : aI) (e : aJ) (x1 : Int32) : Option (Int32 × aI × aJ) := ((FX11_isCat d e x1).bind fun q1 => (if q1.1 = 0 then (some ((-(nI 100)), q1.2.1, q1.2.2)) else ((FX11_goesOf q1.2.1 q1.2.2 x1).bind fun q3 => (some (q3.1, q3.2.1, q3.2.2)))))
theorem evX11_goes {Γ : aG × Launch} {d : aI} {e : aJ} {x1 : Int32} {q : Int32 × aI × aJ} (h : FX11_goes d e x1 = some q) : Ev Γ (5) mX11_goes [.ref 108, .int x1] d e (some (.int q.1)) q.2.1 q.2.2 := by
  refine Ev.of (by decide) rfl (Nat.le_of_ble_eq_true rfl) (fun z => by cases z) ?_
  show Rn Γ (5) mX11_goes 0 [some (.ref 108), some (.int x1)] [] d e _ _ _
  unfold FX11_goes at h
  obtain ⟨q1, hq1, h⟩ := Option.bind_eq_some_iff.mp h
  refine bX11_goes_0 (evX11_isCat hq1) (by omega) ?_
  refine a_ite h (fun c2 h => ?_) (fun c2 h => ?_)
  · refine bX11_goes_5 (fun _ => ?_) (fun z => absurd c2 z)
    refine bX11_goes_16 ?_
    cases h
    exact bX11_goes_18
  · refine bX11_goes_5 (fun z => absurd z c2) (fun _ => ?_)
    obtain ⟨q3, hq3, h⟩ := Option.bind_eq_some_iff.mp h
    refine bX11_goes_8 (evX11_goesOf hq3) (by omega) ?_
    refine bX11_goes_13 ?_
    cases h
    exact bX11_goes_18

noncomputable def sX11_allTaken_0 (d : aI) (e : aJ)  : Option (Nat × aL × aI × aJ) := (some (4, [some (.ref 108), some (.int (nI 0)), some (.int (nI 0))], d, e))
theorem tX11_allTaken_0 {Γ : aG × Launch} {d dF : aI} {e eF : aJ}  {r : Option Value} {p : Nat × aL × aI × aJ} (h : sX11_allTaken_0 d e  = some p) (kc : Nat.beq p.1 100000 = false → Rn Γ (1) mX11_allTaken p.1 p.2.1 [] p.2.2.1 p.2.2.2 r dF eF) (kr : p.1 = 100000 → r = a_rt p.2.1 ∧ dF = p.2.2.1 ∧ eF = p.2.2.2) : Rn Γ (1) mX11_allTaken 0 [some (.ref 108), none, none] [] d e r dF eF := by
  unfold sX11_allTaken_0 at h
  refine bX11_allTaken_0 ?_
  cases h
  exact kc rfl

noncomputable def sX11_allTaken_4 (d : aI) (e : aJ) (x1 : Int32) (x2 : Int32) : Option (Nat × aL × aI × aJ) := (bif ((a_inb (nI 1) 1961)) then (if (d 109 1) ≤ x2 then (some (100000, [some (.int x1)], d, e)) else ((FX11_get d e x2 (nI 2)).bind fun q3 => (some (4, [some (.ref 108), some (.int (x1 + q3.1)), some (.int (x2 + (nI 1)))], q3.2.1, q3.2.2)))) else none)
theorem tX11_allTaken_4 {Γ : aG × Launch} {d dF : aI} {e eF : aJ} {x1 : Int32} {x2 : Int32} {r : Option Value} {p : Nat × aL × aI × aJ} (h : sX11_allTaken_4 d e x1 x2 = some p) (kc : Nat.beq p.1 100000 = false → Rn Γ (1) mX11_allTaken p.1 p.2.1 [] p.2.2.1 p.2.2.2 r dF eF) (kr : p.1 = 100000 → r = a_rt p.2.1 ∧ dF = p.2.2.1 ∧ eF = p.2.2.2) : Rn Γ (1) mX11_allTaken 4 [some (.ref 108), some (.int x1), some (.int x2)] [] d e r dF eF := by
  unfold sX11_allTaken_4 at h
  obtain ⟨g1, h⟩ := a_cond h
  refine a_ite h (fun c2 h => ?_) (fun c2 h => ?_)
  · refine bX11_allTaken_4 (a_inb_vp g1) (fun _ => ?_) (fun z => absurd c2 z)
    cases h
    obtain ⟨k1, k2, k3⟩ := kr rfl
    exact bX11_allTaken_29 k1 k2 k3
  · refine bX11_allTaken_4 (a_inb_vp g1) (fun z => absurd z c2) (fun _ => ?_)
    obtain ⟨q3, hq3, h⟩ := Option.bind_eq_some_iff.mp h
    refine bX11_allTaken_14 (evX11_get hq3) (by omega) ?_
    refine bX11_allTaken_21 ?_
    cases h
    exact kc rfl

noncomputable def stX11_allTaken (p : Nat × aL × aI × aJ) : Option (Nat × aL × aI × aJ) := match p with
  | (0, [some (.ref 108), none, none], d, e) => sX11_allTaken_0 d e 
  | (4, [some (.ref 108), some (.int x1), some (.int x2)], d, e) => sX11_allTaken_4 d e x1 x2
  | _ => none
theorem uX11_allTaken {Γ : aG × Launch} {p p2 : Nat × aL × aI × aJ} {r : Option Value} {dF : aI} {eF : aJ} (h : stX11_allTaken p = some p2) (kc : Nat.beq p2.1 100000 = false → Rn Γ (1) mX11_allTaken p2.1 p2.2.1 [] p2.2.2.1 p2.2.2.2 r dF eF) (kr : p2.1 = 100000 → r = a_rt p2.2.1 ∧ dF = p2.2.2.1 ∧ eF = p2.2.2.2) : Rn Γ (1) mX11_allTaken p.1 p.2.1 [] p.2.2.1 p.2.2.2 r dF eF := by
  unfold stX11_allTaken at h
  split at h
  · exact tX11_allTaken_0 h kc kr
  · exact tX11_allTaken_4 h kc kr
  · cases h
noncomputable def FX11_allTaken (d : aI) (e : aJ)  : Option (Int32 × aI × aJ) := (a_run (stX11_allTaken) (0, [some (.ref 108), none, none], d, e)).bind a_xI
theorem evX11_allTaken {Γ : aG × Launch} {d : aI} {e : aJ}  {q : Int32 × aI × aJ} (h : FX11_allTaken d e  = some q) : Ev Γ (1) mX11_allTaken [.ref 108] d e (some (.int q.1)) q.2.1 q.2.2 := by
  refine Ev.of (by decide) rfl (Nat.le_of_ble_eq_true rfl) (fun z => by cases z) ?_
  show Rn Γ (1) mX11_allTaken 0 [some (.ref 108), none, none] [] d e _ _ _
  obtain ⟨q1, h1, h2⟩ := Option.bind_eq_some_iff.mp h
  obtain ⟨e1, e2, e3⟩ := a_xI_rt h2
  exact Rn.cast (a_run_ok (uX11_allTaken) rfl h1) e1.symm e2.symm e3.symm
noncomputable def sX11_is_0 (d : aI) (e : aJ) (x1 : Int32) : Option (Nat × aL × aI × aJ) := ((FX11_isIn d e x1 (nI 0) (nI 1)).bind fun q1 => (if q1.1 = 0 then (some (23, [some (.ref 108), some (.int x1), some (.int (nI 0)), some (.int (nI 0))], q1.2.1, q1.2.2)) else (bif ((a_inb ((nI 9) + x1) 1961)) then (some (100000, [some (.int (q1.2.1 109 (((nI 9) + x1)).toNatClampNeg))], q1.2.1, q1.2.2)) else none)))
theorem tX11_is_0 {Γ : aG × Launch} {d dF : aI} {e eF : aJ} {x1 : Int32} {r : Option Value} {p : Nat × aL × aI × aJ} (h : sX11_is_0 d e x1 = some p) (kc : Nat.beq p.1 100000 = false → Rn Γ (2) mX11_is p.1 p.2.1 [] p.2.2.1 p.2.2.2 r dF eF) (kr : p.1 = 100000 → r = a_rt p.2.1 ∧ dF = p.2.2.1 ∧ eF = p.2.2.2) : Rn Γ (2) mX11_is 0 [some (.ref 108), some (.int x1), none, none] [] d e r dF eF := by
  unfold sX11_is_0 at h
  obtain ⟨q1, hq1, h⟩ := Option.bind_eq_some_iff.mp h
  refine bX11_is_0 (evX11_isIn hq1) (by omega) ?_
  refine a_ite h (fun c2 h => ?_) (fun c2 h => ?_)
  · refine bX11_is_6 (fun _ => ?_) (fun z => absurd c2 z)
    refine bX11_is_19 ?_
    cases h
    exact kc rfl
  · refine bX11_is_6 (fun z => absurd z c2) (fun _ => ?_)
    obtain ⟨g3, h⟩ := a_cond h
    cases h
    obtain ⟨k1, k2, k3⟩ := kr rfl
    exact bX11_is_9 (a_inb_vp g3) k1 k2 k3

noncomputable def sX11_is_23 (d : aI) (e : aJ) (x1 : Int32) (x2 : Int32) (x3 : Int32) : Option (Nat × aL × aI × aJ) := (bif ((a_inb (nI 0) 1961)) then (if (d 109 0) ≤ x3 then (if x1 = (nI 2) then (some (100000, [some (.int x2)], d, e)) else (if x1 = (nI 3) then ((FX11_allTaken d e).bind fun q5 => (some (100000, [some (.int q5.1)], q5.2.1, q5.2.2))) else (some (100000, [some (.int (-(nI 2)))], d, e)))) else ((FX11_getOf d e x3 (nI 0)).bind fun q6 => (some (23, [some (.ref 108), some (.int x1), some (.int (x2 + q6.1)), some (.int (x3 + (nI 1)))], q6.2.1, q6.2.2)))) else none)
theorem tX11_is_23 {Γ : aG × Launch} {d dF : aI} {e eF : aJ} {x1 : Int32} {x2 : Int32} {x3 : Int32} {r : Option Value} {p : Nat × aL × aI × aJ} (h : sX11_is_23 d e x1 x2 x3 = some p) (kc : Nat.beq p.1 100000 = false → Rn Γ (2) mX11_is p.1 p.2.1 [] p.2.2.1 p.2.2.2 r dF eF) (kr : p.1 = 100000 → r = a_rt p.2.1 ∧ dF = p.2.2.1 ∧ eF = p.2.2.2) : Rn Γ (2) mX11_is 23 [some (.ref 108), some (.int x1), some (.int x2), some (.int x3)] [] d e r dF eF := by
  unfold sX11_is_23 at h
  obtain ⟨g1, h⟩ := a_cond h
  refine a_ite h (fun c2 h => ?_) (fun c2 h => ?_)
  · refine bX11_is_23 (a_inb_vp g1) (fun _ => ?_) (fun z => absurd c2 z)
    refine a_ite h (fun c3 h => ?_) (fun c3 h => ?_)
    · refine bX11_is_48 (fun z => absurd c3 z) (fun _ => ?_)
      refine bX11_is_53 ?_
      cases h
      obtain ⟨k1, k2, k3⟩ := kr rfl
      exact bX11_is_71 k1 k2 k3
    · refine bX11_is_48 (fun _ => ?_) (fun z => absurd z c3)
      refine a_ite h (fun c4 h => ?_) (fun c4 h => ?_)
      · refine bX11_is_57 (fun z => absurd c4 z) (fun _ => ?_)
        obtain ⟨q5, hq5, h⟩ := Option.bind_eq_some_iff.mp h
        refine bX11_is_62 (evX11_allTaken hq5) (by omega) ?_
        refine bX11_is_66 ?_
        cases h
        obtain ⟨k1, k2, k3⟩ := kr rfl
        exact bX11_is_71 k1 k2 k3
      · refine bX11_is_57 (fun _ => ?_) (fun z => absurd z c4)
        refine bX11_is_69 ?_
        cases h
        obtain ⟨k1, k2, k3⟩ := kr rfl
        exact bX11_is_71 k1 k2 k3
  · refine bX11_is_23 (a_inb_vp g1) (fun z => absurd z c2) (fun _ => ?_)
    obtain ⟨q6, hq6, h⟩ := Option.bind_eq_some_iff.mp h
    refine bX11_is_33 (evX11_getOf hq6) (by omega) ?_
    refine bX11_is_40 ?_
    cases h
    exact kc rfl

noncomputable def stX11_is (p : Nat × aL × aI × aJ) : Option (Nat × aL × aI × aJ) := match p with
  | (0, [some (.ref 108), some (.int x1), none, none], d, e) => sX11_is_0 d e x1
  | (23, [some (.ref 108), some (.int x1), some (.int x2), some (.int x3)], d, e) => sX11_is_23 d e x1 x2 x3
  | _ => none
theorem uX11_is {Γ : aG × Launch} {p p2 : Nat × aL × aI × aJ} {r : Option Value} {dF : aI} {eF : aJ} (h : stX11_is p = some p2) (kc : Nat.beq p2.1 100000 = false → Rn Γ (2) mX11_is p2.1 p2.2.1 [] p2.2.2.1 p2.2.2.2 r dF eF) (kr : p2.1 = 100000 → r = a_rt p2.2.1 ∧ dF = p2.2.2.1 ∧ eF = p2.2.2.2) : Rn Γ (2) mX11_is p.1 p.2.1 [] p.2.2.1 p.2.2.2 r dF eF := by
  unfold stX11_is at h
  split at h
  · exact tX11_is_0 h kc kr
  · exact tX11_is_23 h kc kr
  · cases h
noncomputable def FX11_is (d : aI) (e : aJ) (x1 : Int32) : Option (Int32 × aI × aJ) := (a_run (stX11_is) (0, [some (.ref 108), some (.int x1), none, none], d, e)).bind a_xI
theorem evX11_is {Γ : aG × Launch} {d : aI} {e : aJ} {x1 : Int32} {q : Int32 × aI × aJ} (h : FX11_is d e x1 = some q) : Ev Γ (2) mX11_is [.ref 108, .int x1] d e (some (.int q.1)) q.2.1 q.2.2 := by
  refine Ev.of (by decide) rfl (Nat.le_of_ble_eq_true rfl) (fun z => by cases z) ?_
  show Rn Γ (2) mX11_is 0 [some (.ref 108), some (.int x1), none, none] [] d e _ _ _
  obtain ⟨q1, h1, h2⟩ := Option.bind_eq_some_iff.mp h
  obtain ⟨e1, e2, e3⟩ := a_xI_rt h2
  exact Rn.cast (a_run_ok (uX11_is) rfl h1) e1.symm e2.symm e3.symm
noncomputable def FX11_lineOf (d : aI) (e : aJ) (x1 : Int32) (x2 : Int32) : Option (Int32 × aI × aJ) := (bif ((a_inb ((nI 1936) + x1) 1961)) then (if x2 = 0 then (bif ((decide (¬ (nI 108) = 0))) then (some (((d 109 (((nI 1936) + x1)).toNatClampNeg) / (nI 108)), d, e)) else none) else (if x2 = (nI 1) then (bif ((decide (¬ (nI 18) = 0)) && (decide (¬ (nI 6) = 0))) then (some ((a_irm ((d 109 (((nI 1936) + x1)).toNatClampNeg) / (nI 18)) (nI 6)), d, e)) else none) else (if x2 = (nI 2) then (bif ((decide (¬ (nI 3) = 0)) && (decide (¬ (nI 6) = 0))) then (some ((a_irm ((d 109 (((nI 1936) + x1)).toNatClampNeg) / (nI 3)) (nI 6)), d, e)) else none) else (bif ((decide (¬ (nI 3) = 0))) then (some ((a_irm (d 109 (((nI 1936) + x1)).toNatClampNeg) (nI 3)), d, e)) else none)))) else none)
theorem evX11_lineOf {Γ : aG × Launch} {d : aI} {e : aJ} {x1 : Int32} {x2 : Int32} {q : Int32 × aI × aJ} (h : FX11_lineOf d e x1 x2 = some q) : Ev Γ (0) mX11_lineOf [.ref 108, .int x1, .int x2] d e (some (.int q.1)) q.2.1 q.2.2 := by
  refine Ev.of (by decide) rfl (Nat.le_of_ble_eq_true rfl) (fun z => by cases z) ?_
  show Rn Γ (0) mX11_lineOf 0 [some (.ref 108), some (.int x1), some (.int x2), none] [] d e _ _ _
  unfold FX11_lineOf at h
  obtain ⟨g1, h⟩ := a_cond h
  refine a_ite h (fun c2 h => ?_) (fun c2 h => ?_)
  · refine bX11_lineOf_0 (a_inb_vp g1) (fun z => absurd c2 z) (fun _ => ?_)
    obtain ⟨g3, h⟩ := a_cond h
    refine bX11_lineOf_15 (of_decide_eq_true g3) ?_
    cases h
    exact bX11_lineOf_54
  · refine bX11_lineOf_0 (a_inb_vp g1) (fun _ => ?_) (fun z => absurd z c2)
    refine a_ite h (fun c4 h => ?_) (fun c4 h => ?_)
    · refine bX11_lineOf_22 (fun z => absurd c4 z) (fun _ => ?_)
      obtain ⟨g5, h⟩ := a_cond h
      obtain ⟨g5x1, g5_1⟩ := a_and g5
      have g5_0 := g5x1
      refine bX11_lineOf_27 ⟨(of_decide_eq_true g5_0), (of_decide_eq_true g5_1)⟩ ?_
      cases h
      exact bX11_lineOf_54
    · refine bX11_lineOf_22 (fun _ => ?_) (fun z => absurd z c4)
      refine a_ite h (fun c6 h => ?_) (fun c6 h => ?_)
      · refine bX11_lineOf_37 (fun z => absurd c6 z) (fun _ => ?_)
        obtain ⟨g7, h⟩ := a_cond h
        obtain ⟨g7x1, g7_1⟩ := a_and g7
        have g7_0 := g7x1
        refine bX11_lineOf_42 ⟨(of_decide_eq_true g7_0), (of_decide_eq_true g7_1)⟩ ?_
        cases h
        exact bX11_lineOf_54
      · refine bX11_lineOf_37 (fun _ => ?_) (fun z => absurd z c6)
        obtain ⟨g8, h⟩ := a_cond h
        refine bX11_lineOf_51 (of_decide_eq_true g8) ?_
        cases h
        exact bX11_lineOf_54

noncomputable def FX11_book (d : aI) (e : aJ) (x1 : Int32) (x2 : Int32) : Option (Int32 × aI × aJ) := (if x1 = (-(nI 1)) then (bif ((a_inb (nI 11) 1961)) then (some ((d 109 11), d, e)) else none) else (bif ((a_inb (nI 11) 1961)) then ((FX11_isIn d e x1 (nI 0) ((d 109 11) - (nI 1))).bind fun q4 => (if q4.1 = 0 then (some ((-(nI 2)), q4.2.1, q4.2.2)) else ((FX11_isIn q4.2.1 q4.2.2 x2 (nI 0) (nI 3)).bind fun q6 => (if q6.1 = 0 then (some ((-(nI 2)), q6.2.1, q6.2.2)) else ((FX11_lineOf q6.2.1 q6.2.2 x1 x2).bind fun q8 => (some (q8.1, q8.2.1, q8.2.2))))))) else none))
theorem evX11_book {Γ : aG × Launch} {d : aI} {e : aJ} {x1 : Int32} {x2 : Int32} {q : Int32 × aI × aJ} (h : FX11_book d e x1 x2 = some q) : Ev Γ (1) mX11_book [.ref 108, .int x1, .int x2] d e (some (.int q.1)) q.2.1 q.2.2 := by
  refine Ev.of (by decide) rfl (Nat.le_of_ble_eq_true rfl) (fun z => by cases z) ?_
  show Rn Γ (1) mX11_book 0 [some (.ref 108), some (.int x1), some (.int x2)] [] d e _ _ _
  unfold FX11_book at h
  refine a_ite h (fun c1 h => ?_) (fun c1 h => ?_)
  · refine bX11_book_0 (fun z => absurd c1 z) (fun _ => ?_)
    obtain ⟨g2, h⟩ := a_cond h
    cases h
    exact bX11_book_5 (a_inb_vp g2)
  · refine bX11_book_0 (fun _ => ?_) (fun z => absurd z c1)
    obtain ⟨g3, h⟩ := a_cond h
    obtain ⟨q4, hq4, h⟩ := Option.bind_eq_some_iff.mp h
    refine bX11_book_13 (a_inb_vp g3) (evX11_isIn hq4) (by omega) ?_
    refine a_ite h (fun c5 h => ?_) (fun c5 h => ?_)
    · refine bX11_book_27 (fun _ => ?_) (fun z => absurd c5 z)
      refine bX11_book_48 ?_
      cases h
      exact bX11_book_50
    · refine bX11_book_27 (fun z => absurd z c5) (fun _ => ?_)
      obtain ⟨q6, hq6, h⟩ := Option.bind_eq_some_iff.mp h
      refine bX11_book_30 (evX11_isIn hq6) (by omega) ?_
      refine a_ite h (fun c7 h => ?_) (fun c7 h => ?_)
      · refine bX11_book_36 (fun _ => ?_) (fun z => absurd c7 z)
        refine bX11_book_48 ?_
        cases h
        exact bX11_book_50
      · refine bX11_book_36 (fun z => absurd z c7) (fun _ => ?_)
        obtain ⟨q8, hq8, h⟩ := Option.bind_eq_some_iff.mp h
        refine bX11_book_39 (evX11_lineOf hq8) (by omega) ?_
        refine bX11_book_45 ?_
        cases h
        exact bX11_book_50

noncomputable def sX11_ledger_0 (d : aI) (e : aJ) (x1 : Int32) : Option (Nat × aL × aI × aJ) := (if x1 = (-(nI 1)) then (some (20, [some (.ref 108), some (.int x1), some (.int (nI 0)), some (.int (nI 0))], d, e)) else ((FX11_isCat d e x1).bind fun q2 => (if q2.1 = 0 then (some (100000, [some (.int (-(nI 2)))], q2.2.1, q2.2.2)) else (some (20, [some (.ref 108), some (.int x1), some (.int (nI 0)), some (.int (nI 0))], q2.2.1, q2.2.2)))))
theorem tX11_ledger_0 {Γ : aG × Launch} {d dF : aI} {e eF : aJ} {x1 : Int32} {r : Option Value} {p : Nat × aL × aI × aJ} (h : sX11_ledger_0 d e x1 = some p) (kc : Nat.beq p.1 100000 = false → Rn Γ (2) mX11_ledger p.1 p.2.1 [] p.2.2.1 p.2.2.2 r dF eF) (kr : p.1 = 100000 → r = a_rt p.2.1 ∧ dF = p.2.2.1 ∧ eF = p.2.2.2) : Rn Γ (2) mX11_ledger 0 [some (.ref 108), some (.int x1), none, none] [] d e r dF eF := by
  unfold sX11_ledger_0 at h
  refine a_ite h (fun c1 h => ?_) (fun c1 h => ?_)
  · refine bX11_ledger_0 (fun _ => ?_) (fun z => absurd c1 z)
    refine bX11_ledger_16 ?_
    cases h
    exact kc rfl
  · refine bX11_ledger_0 (fun z => absurd z c1) (fun _ => ?_)
    obtain ⟨q2, hq2, h⟩ := Option.bind_eq_some_iff.mp h
    refine bX11_ledger_5 (evX11_isCat hq2) (by omega) ?_
    refine a_ite h (fun c3 h => ?_) (fun c3 h => ?_)
    · refine bX11_ledger_10 (fun z => absurd c3 z) (fun _ => ?_)
      cases h
      obtain ⟨k1, k2, k3⟩ := kr rfl
      exact bX11_ledger_13 k1 k2 k3
    · refine bX11_ledger_10 (fun _ => ?_) (fun z => absurd z c3)
      refine bX11_ledger_16 ?_
      cases h
      exact kc rfl

noncomputable def sX11_ledger_20 (d : aI) (e : aJ) (x1 : Int32) (x2 : Int32) (x3 : Int32) : Option (Nat × aL × aI × aJ) := (bif ((a_inb (nI 11) 1961)) then (if (d 109 11) ≤ x3 then (some (100000, [some (.int x2)], d, e)) else (if x1 = (-(nI 1)) then (some (20, [some (.ref 108), some (.int x1), some (.int (x2 + (nI 1))), some (.int (x3 + (nI 1)))], d, e)) else ((FX11_lineOf d e x3 (nI 1)).bind fun q4 => (if q4.1 = x1 then (some (20, [some (.ref 108), some (.int x1), some (.int (x2 + (nI 1))), some (.int (x3 + (nI 1)))], q4.2.1, q4.2.2)) else (some (20, [some (.ref 108), some (.int x1), some (.int (x2 + (nI 0))), some (.int (x3 + (nI 1)))], q4.2.1, q4.2.2)))))) else none)
theorem tX11_ledger_20 {Γ : aG × Launch} {d dF : aI} {e eF : aJ} {x1 : Int32} {x2 : Int32} {x3 : Int32} {r : Option Value} {p : Nat × aL × aI × aJ} (h : sX11_ledger_20 d e x1 x2 x3 = some p) (kc : Nat.beq p.1 100000 = false → Rn Γ (2) mX11_ledger p.1 p.2.1 [] p.2.2.1 p.2.2.2 r dF eF) (kr : p.1 = 100000 → r = a_rt p.2.1 ∧ dF = p.2.2.1 ∧ eF = p.2.2.2) : Rn Γ (2) mX11_ledger 20 [some (.ref 108), some (.int x1), some (.int x2), some (.int x3)] [] d e r dF eF := by
  unfold sX11_ledger_20 at h
  obtain ⟨g1, h⟩ := a_cond h
  refine a_ite h (fun c2 h => ?_) (fun c2 h => ?_)
  · refine bX11_ledger_20 (a_inb_vp g1) (fun _ => ?_) (fun z => absurd c2 z)
    cases h
    obtain ⟨k1, k2, k3⟩ := kr rfl
    exact bX11_ledger_60 k1 k2 k3
  · refine bX11_ledger_20 (a_inb_vp g1) (fun z => absurd z c2) (fun _ => ?_)
    refine a_ite h (fun c3 h => ?_) (fun c3 h => ?_)
    · refine bX11_ledger_31 (fun _ => ?_) (fun z => absurd c3 z)
      refine bX11_ledger_47 ?_
      refine bX11_ledger_52 ?_
      cases h
      exact kc rfl
    · refine bX11_ledger_31 (fun z => absurd z c3) (fun _ => ?_)
      obtain ⟨q4, hq4, h⟩ := Option.bind_eq_some_iff.mp h
      refine bX11_ledger_37 (evX11_lineOf hq4) (by omega) ?_
      refine a_ite h (fun c5 h => ?_) (fun c5 h => ?_)
      · refine bX11_ledger_43 (fun z => absurd c5 z) (fun _ => ?_)
        refine bX11_ledger_47 ?_
        refine bX11_ledger_52 ?_
        cases h
        exact kc rfl
      · refine bX11_ledger_43 (fun _ => ?_) (fun z => absurd z c5)
        refine bX11_ledger_51 ?_
        refine bX11_ledger_52 ?_
        cases h
        exact kc rfl

noncomputable def stX11_ledger (p : Nat × aL × aI × aJ) : Option (Nat × aL × aI × aJ) := match p with
  | (0, [some (.ref 108), some (.int x1), none, none], d, e) => sX11_ledger_0 d e x1
  | (20, [some (.ref 108), some (.int x1), some (.int x2), some (.int x3)], d, e) => sX11_ledger_20 d e x1 x2 x3
  | _ => none
theorem uX11_ledger {Γ : aG × Launch} {p p2 : Nat × aL × aI × aJ} {r : Option Value} {dF : aI} {eF : aJ} (h : stX11_ledger p = some p2) (kc : Nat.beq p2.1 100000 = false → Rn Γ (2) mX11_ledger p2.1 p2.2.1 [] p2.2.2.1 p2.2.2.2 r dF eF) (kr : p2.1 = 100000 → r = a_rt p2.2.1 ∧ dF = p2.2.2.1 ∧ eF = p2.2.2.2) : Rn Γ (2) mX11_ledger p.1 p.2.1 [] p.2.2.1 p.2.2.2 r dF eF := by
  unfold stX11_ledger at h
  split at h
  · exact tX11_ledger_0 h kc kr
  · exact tX11_ledger_20 h kc kr
  · cases h
noncomputable def FX11_ledger (d : aI) (e : aJ) (x1 : Int32) : Option (Int32 × aI × aJ) := (a_run (stX11_ledger) (0, [some (.ref 108), some (.int x1), none, none], d, e)).bind a_xI
theorem evX11_ledger {Γ : aG × Launch} {d : aI} {e : aJ} {x1 : Int32} {q : Int32 × aI × aJ} (h : FX11_ledger d e x1 = some q) : Ev Γ (2) mX11_ledger [.ref 108, .int x1] d e (some (.int q.1)) q.2.1 q.2.2 := by
  refine Ev.of (by decide) rfl (Nat.le_of_ble_eq_true rfl) (fun z => by cases z) ?_
  show Rn Γ (2) mX11_ledger 0 [some (.ref 108), some (.int x1), none, none] [] d e _ _ _
  obtain ⟨q1, h1, h2⟩ := Option.bind_eq_some_iff.mp h
  obtain ⟨e1, e2, e3⟩ := a_xI_rt h2
  exact Rn.cast (a_run_ok (uX11_ledger) rfl h1) e1.symm e2.symm e3.symm
noncomputable def sX11_at_0 (d : aI) (e : aJ) (x1 : Int32) : Option (Nat × aL × aI × aJ) := ((FX11_isPlace d e x1).bind fun q1 => (if q1.1 = 0 then (some (100000, [some (.int (-(nI 1)))], q1.2.1, q1.2.2)) else (some (13, [some (.ref 108), some (.int x1), some (.int (nI 0)), some (.int (nI 0))], q1.2.1, q1.2.2))))
theorem tX11_at_0 {Γ : aG × Launch} {d dF : aI} {e eF : aJ} {x1 : Int32} {r : Option Value} {p : Nat × aL × aI × aJ} (h : sX11_at_0 d e x1 = some p) (kc : Nat.beq p.1 100000 = false → Rn Γ (2) mX11_at p.1 p.2.1 [] p.2.2.1 p.2.2.2 r dF eF) (kr : p.1 = 100000 → r = a_rt p.2.1 ∧ dF = p.2.2.1 ∧ eF = p.2.2.2) : Rn Γ (2) mX11_at 0 [some (.ref 108), some (.int x1), none, none] [] d e r dF eF := by
  unfold sX11_at_0 at h
  obtain ⟨q1, hq1, h⟩ := Option.bind_eq_some_iff.mp h
  refine bX11_at_0 (evX11_isPlace hq1) (by omega) ?_
  refine a_ite h (fun c2 h => ?_) (fun c2 h => ?_)
  · refine bX11_at_4 (fun z => absurd c2 z) (fun _ => ?_)
    cases h
    obtain ⟨k1, k2, k3⟩ := kr rfl
    exact bX11_at_7 k1 k2 k3
  · refine bX11_at_4 (fun _ => ?_) (fun z => absurd z c2)
    refine bX11_at_9 ?_
    cases h
    exact kc rfl

noncomputable def sX11_at_13 (d : aI) (e : aJ) (x1 : Int32) (x2 : Int32) (x3 : Int32) : Option (Nat × aL × aI × aJ) := (bif ((a_inb (nI 1) 1961)) then (if (d 109 1) ≤ x3 then (some (100000, [some (.int x2)], d, e)) else ((FX11_isWithout d e x3).bind fun q3 => (if q3.1 = 0 then (some (13, [some (.ref 108), some (.int x1), some (.int (x2 ||| (nI 0))), some (.int (x3 + (nI 1)))], q3.2.1, q3.2.2)) else ((FX11_get q3.2.1 q3.2.2 x3 (nI 0)).bind fun q5 => (if q5.1 = x1 then (some (13, [some (.ref 108), some (.int x1), some (.int (x2 ||| (a_shl (nI 1) x3))), some (.int (x3 + (nI 1)))], q5.2.1, q5.2.2)) else (some (13, [some (.ref 108), some (.int x1), some (.int (x2 ||| (nI 0))), some (.int (x3 + (nI 1)))], q5.2.1, q5.2.2))))))) else none)
theorem tX11_at_13 {Γ : aG × Launch} {d dF : aI} {e eF : aJ} {x1 : Int32} {x2 : Int32} {x3 : Int32} {r : Option Value} {p : Nat × aL × aI × aJ} (h : sX11_at_13 d e x1 x2 x3 = some p) (kc : Nat.beq p.1 100000 = false → Rn Γ (2) mX11_at p.1 p.2.1 [] p.2.2.1 p.2.2.2 r dF eF) (kr : p.1 = 100000 → r = a_rt p.2.1 ∧ dF = p.2.2.1 ∧ eF = p.2.2.2) : Rn Γ (2) mX11_at 13 [some (.ref 108), some (.int x1), some (.int x2), some (.int x3)] [] d e r dF eF := by
  unfold sX11_at_13 at h
  obtain ⟨g1, h⟩ := a_cond h
  refine a_ite h (fun c2 h => ?_) (fun c2 h => ?_)
  · refine bX11_at_13 (a_inb_vp g1) (fun _ => ?_) (fun z => absurd c2 z)
    cases h
    obtain ⟨k1, k2, k3⟩ := kr rfl
    exact bX11_at_57 k1 k2 k3
  · refine bX11_at_13 (a_inb_vp g1) (fun z => absurd z c2) (fun _ => ?_)
    obtain ⟨q3, hq3, h⟩ := Option.bind_eq_some_iff.mp h
    refine bX11_at_23 (evX11_isWithout hq3) (by omega) ?_
    refine a_ite h (fun c4 h => ?_) (fun c4 h => ?_)
    · refine bX11_at_29 (fun _ => ?_) (fun z => absurd c4 z)
      refine bX11_at_48 ?_
      refine bX11_at_49 ?_
      cases h
      exact kc rfl
    · refine bX11_at_29 (fun z => absurd z c4) (fun _ => ?_)
      obtain ⟨q5, hq5, h⟩ := Option.bind_eq_some_iff.mp h
      refine bX11_at_32 (evX11_get hq5) (by omega) ?_
      refine a_ite h (fun c6 h => ?_) (fun c6 h => ?_)
      · refine bX11_at_38 (fun z => absurd c6 z) (fun _ => ?_)
        refine bX11_at_42 ?_
        refine bX11_at_49 ?_
        cases h
        exact kc rfl
      · refine bX11_at_38 (fun _ => ?_) (fun z => absurd z c6)
        refine bX11_at_48 ?_
        refine bX11_at_49 ?_
        cases h
        exact kc rfl

noncomputable def stX11_at (p : Nat × aL × aI × aJ) : Option (Nat × aL × aI × aJ) := match p with
  | (0, [some (.ref 108), some (.int x1), none, none], d, e) => sX11_at_0 d e x1
  | (13, [some (.ref 108), some (.int x1), some (.int x2), some (.int x3)], d, e) => sX11_at_13 d e x1 x2 x3
  | _ => none
theorem uX11_at {Γ : aG × Launch} {p p2 : Nat × aL × aI × aJ} {r : Option Value} {dF : aI} {eF : aJ} (h : stX11_at p = some p2) (kc : Nat.beq p2.1 100000 = false → Rn Γ (2) mX11_at p2.1 p2.2.1 [] p2.2.2.1 p2.2.2.2 r dF eF) (kr : p2.1 = 100000 → r = a_rt p2.2.1 ∧ dF = p2.2.2.1 ∧ eF = p2.2.2.2) : Rn Γ (2) mX11_at p.1 p.2.1 [] p.2.2.1 p.2.2.2 r dF eF := by
  unfold stX11_at at h
  split at h
  · exact tX11_at_0 h kc kr
  · exact tX11_at_13 h kc kr
  · cases h
noncomputable def FX11_at (d : aI) (e : aJ) (x1 : Int32) : Option (Int32 × aI × aJ) := (a_run (stX11_at) (0, [some (.ref 108), some (.int x1), none, none], d, e)).bind a_xI
theorem evX11_at {Γ : aG × Launch} {d : aI} {e : aJ} {x1 : Int32} {q : Int32 × aI × aJ} (h : FX11_at d e x1 = some q) : Ev Γ (2) mX11_at [.ref 108, .int x1] d e (some (.int q.1)) q.2.1 q.2.2 := by
  refine Ev.of (by decide) rfl (Nat.le_of_ble_eq_true rfl) (fun z => by cases z) ?_
  show Rn Γ (2) mX11_at 0 [some (.ref 108), some (.int x1), none, none] [] d e _ _ _
  obtain ⟨q1, h1, h2⟩ := Option.bind_eq_some_iff.mp h
  obtain ⟨e1, e2, e3⟩ := a_xI_rt h2
  exact Rn.cast (a_run_ok (uX11_at) rfl h1) e1.symm e2.symm e3.symm
noncomputable def sX11_gap_0 (d : aI) (e : aJ)  : Option (Nat × aL × aI × aJ) := (some (6, [some (.ref 108), some (.int (nI 0)), some (.int (nI 0)), some (.int (nI 0))], d, e))
theorem tX11_gap_0 {Γ : aG × Launch} {d dF : aI} {e eF : aJ}  {r : Option Value} {p : Nat × aL × aI × aJ} (h : sX11_gap_0 d e  = some p) (kc : Nat.beq p.1 100000 = false → Rn Γ (3) mX11_gap p.1 p.2.1 [] p.2.2.1 p.2.2.2 r dF eF) (kr : p.1 = 100000 → r = a_rt p.2.1 ∧ dF = p.2.2.1 ∧ eF = p.2.2.2) : Rn Γ (3) mX11_gap 0 [some (.ref 108), none, none, none] [] d e r dF eF := by
  unfold sX11_gap_0 at h
  refine bX11_gap_0 ?_
  cases h
  exact kc rfl

noncomputable def sX11_gap_6 (d : aI) (e : aJ) (x1 : Int32) (x2 : Int32) (x3 : Int32) : Option (Nat × aL × aI × aJ) := (if (nI 20) ≤ x3 then (if x1 ≤ (nI 10) then (some (100000, [some (.int x1)], d, e)) else (some (100000, [some (.int (nI 10))], d, e))) else (bif ((decide (¬ (nI 10) = 0))) then ((FX11_at d e (a_irm x3 (nI 10))).bind fun q4 => (if q4.1 = 0 then (if (x2 + (nI 1)) ≤ x1 then (some (6, [some (.ref 108), some (.int x1), some (.int (x2 + (nI 1))), some (.int (x3 + (nI 1)))], q4.2.1, q4.2.2)) else (some (6, [some (.ref 108), some (.int (x2 + (nI 1))), some (.int (x2 + (nI 1))), some (.int (x3 + (nI 1)))], q4.2.1, q4.2.2))) else (if (nI 0) ≤ x1 then (some (6, [some (.ref 108), some (.int x1), some (.int (nI 0)), some (.int (x3 + (nI 1)))], q4.2.1, q4.2.2)) else (some (6, [some (.ref 108), some (.int (nI 0)), some (.int (nI 0)), some (.int (x3 + (nI 1)))], q4.2.1, q4.2.2))))) else none))
theorem tX11_gap_6 {Γ : aG × Launch} {d dF : aI} {e eF : aJ} {x1 : Int32} {x2 : Int32} {x3 : Int32} {r : Option Value} {p : Nat × aL × aI × aJ} (h : sX11_gap_6 d e x1 x2 x3 = some p) (kc : Nat.beq p.1 100000 = false → Rn Γ (3) mX11_gap p.1 p.2.1 [] p.2.2.1 p.2.2.2 r dF eF) (kr : p.1 = 100000 → r = a_rt p.2.1 ∧ dF = p.2.2.1 ∧ eF = p.2.2.2) : Rn Γ (3) mX11_gap 6 [some (.ref 108), some (.int x1), some (.int x2), some (.int x3)] [] d e r dF eF := by
  unfold sX11_gap_6 at h
  refine a_ite h (fun c1 h => ?_) (fun c1 h => ?_)
  · refine bX11_gap_6 (fun _ => ?_) (fun z => absurd c1 z)
    refine a_ite h (fun c2 h => ?_) (fun c2 h => ?_)
    · refine bX11_gap_48 (fun _ => ?_) (fun z => absurd c2 z)
      refine bX11_gap_59 ?_
      cases h
      obtain ⟨k1, k2, k3⟩ := kr rfl
      exact bX11_gap_60 k1 k2 k3
    · refine bX11_gap_48 (fun z => absurd z c2) (fun _ => ?_)
      refine bX11_gap_54 ?_
      cases h
      obtain ⟨k1, k2, k3⟩ := kr rfl
      exact bX11_gap_60 k1 k2 k3
  · refine bX11_gap_6 (fun z => absurd z c1) (fun _ => ?_)
    obtain ⟨g3, h⟩ := a_cond h
    obtain ⟨q4, hq4, h⟩ := Option.bind_eq_some_iff.mp h
    refine bX11_gap_12 (of_decide_eq_true g3) (evX11_at hq4) (by omega) ?_
    refine a_ite h (fun c5 h => ?_) (fun c5 h => ?_)
    · refine bX11_gap_20 (fun z => absurd c5 z) (fun _ => ?_)
      refine bX11_gap_23 ?_
      refine a_ite h (fun c6 h => ?_) (fun c6 h => ?_)
      · refine bX11_gap_30 (fun _ => ?_) (fun z => absurd c6 z)
        refine bX11_gap_40 ?_
        refine bX11_gap_41 ?_
        cases h
        exact kc rfl
      · refine bX11_gap_30 (fun z => absurd z c6) (fun _ => ?_)
        refine bX11_gap_36 ?_
        refine bX11_gap_41 ?_
        cases h
        exact kc rfl
    · refine bX11_gap_20 (fun _ => ?_) (fun z => absurd z c5)
      refine bX11_gap_29 ?_
      refine a_ite h (fun c7 h => ?_) (fun c7 h => ?_)
      · refine bX11_gap_30 (fun _ => ?_) (fun z => absurd c7 z)
        refine bX11_gap_40 ?_
        refine bX11_gap_41 ?_
        cases h
        exact kc rfl
      · refine bX11_gap_30 (fun z => absurd z c7) (fun _ => ?_)
        refine bX11_gap_36 ?_
        refine bX11_gap_41 ?_
        cases h
        exact kc rfl

noncomputable def stX11_gap (p : Nat × aL × aI × aJ) : Option (Nat × aL × aI × aJ) := match p with
  | (0, [some (.ref 108), none, none, none], d, e) => sX11_gap_0 d e 
  | (6, [some (.ref 108), some (.int x1), some (.int x2), some (.int x3)], d, e) => sX11_gap_6 d e x1 x2 x3
  | _ => none
theorem uX11_gap {Γ : aG × Launch} {p p2 : Nat × aL × aI × aJ} {r : Option Value} {dF : aI} {eF : aJ} (h : stX11_gap p = some p2) (kc : Nat.beq p2.1 100000 = false → Rn Γ (3) mX11_gap p2.1 p2.2.1 [] p2.2.2.1 p2.2.2.2 r dF eF) (kr : p2.1 = 100000 → r = a_rt p2.2.1 ∧ dF = p2.2.2.1 ∧ eF = p2.2.2.2) : Rn Γ (3) mX11_gap p.1 p.2.1 [] p.2.2.1 p.2.2.2 r dF eF := by
  unfold stX11_gap at h
  split at h
  · exact tX11_gap_0 h kc kr
  · exact tX11_gap_6 h kc kr
  · cases h
noncomputable def FX11_gap (d : aI) (e : aJ)  : Option (Int32 × aI × aJ) := (a_run (stX11_gap) (0, [some (.ref 108), none, none, none], d, e)).bind a_xI
theorem evX11_gap {Γ : aG × Launch} {d : aI} {e : aJ}  {q : Int32 × aI × aJ} (h : FX11_gap d e  = some q) : Ev Γ (3) mX11_gap [.ref 108] d e (some (.int q.1)) q.2.1 q.2.2 := by
  refine Ev.of (by decide) rfl (Nat.le_of_ble_eq_true rfl) (fun z => by cases z) ?_
  show Rn Γ (3) mX11_gap 0 [some (.ref 108), none, none, none] [] d e _ _ _
  obtain ⟨q1, h1, h2⟩ := Option.bind_eq_some_iff.mp h
  obtain ⟨e1, e2, e3⟩ := a_xI_rt h2
  exact Rn.cast (a_run_ok (uX11_gap) rfl h1) e1.symm e2.symm e3.symm
noncomputable def sX11_coldest_0 (d : aI) (e : aJ)  : Option (Nat × aL × aI × aJ) := (some (4, [some (.ref 108), some (.int (-(nI 1))), some (.int (nI 0))], d, e))
theorem tX11_coldest_0 {Γ : aG × Launch} {d dF : aI} {e eF : aJ}  {r : Option Value} {p : Nat × aL × aI × aJ} (h : sX11_coldest_0 d e  = some p) (kc : Nat.beq p.1 100000 = false → Rn Γ (0) mX11_coldest p.1 p.2.1 [] p.2.2.1 p.2.2.2 r dF eF) (kr : p.1 = 100000 → r = a_rt p.2.1 ∧ dF = p.2.2.1 ∧ eF = p.2.2.2) : Rn Γ (0) mX11_coldest 0 [some (.ref 108), none, none] [] d e r dF eF := by
  unfold sX11_coldest_0 at h
  refine bX11_coldest_0 ?_
  cases h
  exact kc rfl

noncomputable def sX11_coldest_4 (d : aI) (e : aJ) (x1 : Int32) (x2 : Int32) : Option (Nat × aL × aI × aJ) := (bif ((a_inb (nI 1) 1961)) then (if (d 109 1) ≤ x2 then (some (100000, [some (.int x1)], d, e)) else (if x1 = (-(nI 1)) then (some (4, [some (.ref 108), some (.int x2), some (.int (x2 + (nI 1)))], d, e)) else (bif ((a_inb ((nI 54) + x2) 1961) && (a_inb ((nI 54) + x1) 1961)) then (if (d 109 (((nI 54) + x2)).toNatClampNeg) ≤ (d 109 (((nI 54) + x1)).toNatClampNeg) then (some (4, [some (.ref 108), some (.int x1), some (.int (x2 + (nI 1)))], d, e)) else (some (4, [some (.ref 108), some (.int x2), some (.int (x2 + (nI 1)))], d, e))) else none))) else none)
theorem tX11_coldest_4 {Γ : aG × Launch} {d dF : aI} {e eF : aJ} {x1 : Int32} {x2 : Int32} {r : Option Value} {p : Nat × aL × aI × aJ} (h : sX11_coldest_4 d e x1 x2 = some p) (kc : Nat.beq p.1 100000 = false → Rn Γ (0) mX11_coldest p.1 p.2.1 [] p.2.2.1 p.2.2.2 r dF eF) (kr : p.1 = 100000 → r = a_rt p.2.1 ∧ dF = p.2.2.1 ∧ eF = p.2.2.2) : Rn Γ (0) mX11_coldest 4 [some (.ref 108), some (.int x1), some (.int x2)] [] d e r dF eF := by
  unfold sX11_coldest_4 at h
  obtain ⟨g1, h⟩ := a_cond h
  refine a_ite h (fun c2 h => ?_) (fun c2 h => ?_)
  · refine bX11_coldest_4 (a_inb_vp g1) (fun _ => ?_) (fun z => absurd c2 z)
    cases h
    obtain ⟨k1, k2, k3⟩ := kr rfl
    exact bX11_coldest_48 k1 k2 k3
  · refine bX11_coldest_4 (a_inb_vp g1) (fun z => absurd z c2) (fun _ => ?_)
    refine a_ite h (fun c3 h => ?_) (fun c3 h => ?_)
    · refine bX11_coldest_14 (fun _ => ?_) (fun z => absurd c3 z)
      refine bX11_coldest_40 ?_
      refine bX11_coldest_42 ?_
      cases h
      exact kc rfl
    · refine bX11_coldest_14 (fun z => absurd z c3) (fun _ => ?_)
      obtain ⟨g4, h⟩ := a_cond h
      obtain ⟨g4x1, g4_1⟩ := a_and g4
      have g4_0 := g4x1
      refine a_ite h (fun c5 h => ?_) (fun c5 h => ?_)
      · refine bX11_coldest_19 ⟨(a_inb_vp g4_0), (a_inb_vp g4_1)⟩ (fun _ => ?_) (fun z => absurd c5 z)
        refine bX11_coldest_42 ?_
        cases h
        exact kc rfl
      · refine bX11_coldest_19 ⟨(a_inb_vp g4_0), (a_inb_vp g4_1)⟩ (fun z => absurd z c5) (fun _ => ?_)
        refine bX11_coldest_40 ?_
        refine bX11_coldest_42 ?_
        cases h
        exact kc rfl

noncomputable def stX11_coldest (p : Nat × aL × aI × aJ) : Option (Nat × aL × aI × aJ) := match p with
  | (0, [some (.ref 108), none, none], d, e) => sX11_coldest_0 d e 
  | (4, [some (.ref 108), some (.int x1), some (.int x2)], d, e) => sX11_coldest_4 d e x1 x2
  | _ => none
theorem uX11_coldest {Γ : aG × Launch} {p p2 : Nat × aL × aI × aJ} {r : Option Value} {dF : aI} {eF : aJ} (h : stX11_coldest p = some p2) (kc : Nat.beq p2.1 100000 = false → Rn Γ (0) mX11_coldest p2.1 p2.2.1 [] p2.2.2.1 p2.2.2.2 r dF eF) (kr : p2.1 = 100000 → r = a_rt p2.2.1 ∧ dF = p2.2.2.1 ∧ eF = p2.2.2.2) : Rn Γ (0) mX11_coldest p.1 p.2.1 [] p.2.2.1 p.2.2.2 r dF eF := by
  unfold stX11_coldest at h
  split at h
  · exact tX11_coldest_0 h kc kr
  · exact tX11_coldest_4 h kc kr
  · cases h
noncomputable def FX11_coldest (d : aI) (e : aJ)  : Option (Int32 × aI × aJ) := (a_run (stX11_coldest) (0, [some (.ref 108), none, none], d, e)).bind a_xI
theorem evX11_coldest {Γ : aG × Launch} {d : aI} {e : aJ}  {q : Int32 × aI × aJ} (h : FX11_coldest d e  = some q) : Ev Γ (0) mX11_coldest [.ref 108] d e (some (.int q.1)) q.2.1 q.2.2 := by
  refine Ev.of (by decide) rfl (Nat.le_of_ble_eq_true rfl) (fun z => by cases z) ?_
  show Rn Γ (0) mX11_coldest 0 [some (.ref 108), none, none] [] d e _ _ _
  obtain ⟨q1, h1, h2⟩ := Option.bind_eq_some_iff.mp h
  obtain ⟨e1, e2, e3⟩ := a_xI_rt h2
  exact Rn.cast (a_run_ok (uX11_coldest) rfl h1) e1.symm e2.symm e3.symm
noncomputable def sX11_dreamless_0 (d : aI) (e : aJ)  : Option (Nat × aL × aI × aJ) := (some (4, [some (.ref 108), some (.int (nI 0)), some (.int (nI 0))], d, e))
theorem tX11_dreamless_0 {Γ : aG × Launch} {d dF : aI} {e eF : aJ}  {r : Option Value} {p : Nat × aL × aI × aJ} (h : sX11_dreamless_0 d e  = some p) (kc : Nat.beq p.1 100000 = false → Rn Γ (1) mX11_dreamless p.1 p.2.1 [] p.2.2.1 p.2.2.2 r dF eF) (kr : p.1 = 100000 → r = a_rt p.2.1 ∧ dF = p.2.2.1 ∧ eF = p.2.2.2) : Rn Γ (1) mX11_dreamless 0 [some (.ref 108), none, none] [] d e r dF eF := by
  unfold sX11_dreamless_0 at h
  refine bX11_dreamless_0 ?_
  cases h
  exact kc rfl

noncomputable def sX11_dreamless_4 (d : aI) (e : aJ) (x1 : Int32) (x2 : Int32) : Option (Nat × aL × aI × aJ) := (bif ((a_inb (nI 0) 1961)) then (if (d 109 0) ≤ x2 then (some (100000, [some (.int x1)], d, e)) else ((FX11_getOf d e x2 (nI 0)).bind fun q3 => (if q3.1 = 0 then (some (4, [some (.ref 108), some (.int (x1 ||| (a_shl (nI 1) x2))), some (.int (x2 + (nI 1)))], q3.2.1, q3.2.2)) else (some (4, [some (.ref 108), some (.int (x1 ||| (nI 0))), some (.int (x2 + (nI 1)))], q3.2.1, q3.2.2))))) else none)
theorem tX11_dreamless_4 {Γ : aG × Launch} {d dF : aI} {e eF : aJ} {x1 : Int32} {x2 : Int32} {r : Option Value} {p : Nat × aL × aI × aJ} (h : sX11_dreamless_4 d e x1 x2 = some p) (kc : Nat.beq p.1 100000 = false → Rn Γ (1) mX11_dreamless p.1 p.2.1 [] p.2.2.1 p.2.2.2 r dF eF) (kr : p.1 = 100000 → r = a_rt p.2.1 ∧ dF = p.2.2.1 ∧ eF = p.2.2.2) : Rn Γ (1) mX11_dreamless 4 [some (.ref 108), some (.int x1), some (.int x2)] [] d e r dF eF := by
  unfold sX11_dreamless_4 at h
  obtain ⟨g1, h⟩ := a_cond h
  refine a_ite h (fun c2 h => ?_) (fun c2 h => ?_)
  · refine bX11_dreamless_4 (a_inb_vp g1) (fun _ => ?_) (fun z => absurd c2 z)
    cases h
    obtain ⟨k1, k2, k3⟩ := kr rfl
    exact bX11_dreamless_39 k1 k2 k3
  · refine bX11_dreamless_4 (a_inb_vp g1) (fun z => absurd z c2) (fun _ => ?_)
    obtain ⟨q3, hq3, h⟩ := Option.bind_eq_some_iff.mp h
    refine bX11_dreamless_14 (evX11_getOf hq3) (by omega) ?_
    refine a_ite h (fun c4 h => ?_) (fun c4 h => ?_)
    · refine bX11_dreamless_21 (fun z => absurd c4 z) (fun _ => ?_)
      refine bX11_dreamless_24 ?_
      refine bX11_dreamless_31 ?_
      cases h
      exact kc rfl
    · refine bX11_dreamless_21 (fun _ => ?_) (fun z => absurd z c4)
      refine bX11_dreamless_30 ?_
      refine bX11_dreamless_31 ?_
      cases h
      exact kc rfl

noncomputable def stX11_dreamless (p : Nat × aL × aI × aJ) : Option (Nat × aL × aI × aJ) := match p with
  | (0, [some (.ref 108), none, none], d, e) => sX11_dreamless_0 d e 
  | (4, [some (.ref 108), some (.int x1), some (.int x2)], d, e) => sX11_dreamless_4 d e x1 x2
  | _ => none
theorem uX11_dreamless {Γ : aG × Launch} {p p2 : Nat × aL × aI × aJ} {r : Option Value} {dF : aI} {eF : aJ} (h : stX11_dreamless p = some p2) (kc : Nat.beq p2.1 100000 = false → Rn Γ (1) mX11_dreamless p2.1 p2.2.1 [] p2.2.2.1 p2.2.2.2 r dF eF) (kr : p2.1 = 100000 → r = a_rt p2.2.1 ∧ dF = p2.2.2.1 ∧ eF = p2.2.2.2) : Rn Γ (1) mX11_dreamless p.1 p.2.1 [] p.2.2.1 p.2.2.2 r dF eF := by
  unfold stX11_dreamless at h
  split at h
  · exact tX11_dreamless_0 h kc kr
  · exact tX11_dreamless_4 h kc kr
  · cases h
noncomputable def FX11_dreamless (d : aI) (e : aJ)  : Option (Int32 × aI × aJ) := (a_run (stX11_dreamless) (0, [some (.ref 108), none, none], d, e)).bind a_xI
theorem evX11_dreamless {Γ : aG × Launch} {d : aI} {e : aJ}  {q : Int32 × aI × aJ} (h : FX11_dreamless d e  = some q) : Ev Γ (1) mX11_dreamless [.ref 108] d e (some (.int q.1)) q.2.1 q.2.2 := by
  refine Ev.of (by decide) rfl (Nat.le_of_ble_eq_true rfl) (fun z => by cases z) ?_
  show Rn Γ (1) mX11_dreamless 0 [some (.ref 108), none, none] [] d e _ _ _
  obtain ⟨q1, h1, h2⟩ := Option.bind_eq_some_iff.mp h
  obtain ⟨e1, e2, e3⟩ := a_xI_rt h2
  exact Rn.cast (a_run_ok (uX11_dreamless) rfl h1) e1.symm e2.symm e3.symm
noncomputable def sX11_free_0 (d : aI) (e : aJ)  : Option (Nat × aL × aI × aJ) := (some (4, [some (.ref 108), some (.int (nI 0)), some (.int (nI 0))], d, e))
theorem tX11_free_0 {Γ : aG × Launch} {d dF : aI} {e eF : aJ}  {r : Option Value} {p : Nat × aL × aI × aJ} (h : sX11_free_0 d e  = some p) (kc : Nat.beq p.1 100000 = false → Rn Γ (2) mX11_free p.1 p.2.1 [] p.2.2.1 p.2.2.2 r dF eF) (kr : p.1 = 100000 → r = a_rt p.2.1 ∧ dF = p.2.2.1 ∧ eF = p.2.2.2) : Rn Γ (2) mX11_free 0 [some (.ref 108), none, none] [] d e r dF eF := by
  unfold sX11_free_0 at h
  refine bX11_free_0 ?_
  cases h
  exact kc rfl

noncomputable def sX11_free_4 (d : aI) (e : aJ) (x1 : Int32) (x2 : Int32) : Option (Nat × aL × aI × aJ) := (bif ((a_inb (nI 0) 1961)) then (if (d 109 0) ≤ x2 then (some (100000, [some (.int x1)], d, e)) else ((FX11_catIn d e x2).bind fun q3 => (if q3.1 = (-(nI 1)) then (some (4, [some (.ref 108), some (.int (x1 ||| (a_shl (nI 1) x2))), some (.int (x2 + (nI 1)))], q3.2.1, q3.2.2)) else (some (4, [some (.ref 108), some (.int (x1 ||| (nI 0))), some (.int (x2 + (nI 1)))], q3.2.1, q3.2.2))))) else none)
theorem tX11_free_4 {Γ : aG × Launch} {d dF : aI} {e eF : aJ} {x1 : Int32} {x2 : Int32} {r : Option Value} {p : Nat × aL × aI × aJ} (h : sX11_free_4 d e x1 x2 = some p) (kc : Nat.beq p.1 100000 = false → Rn Γ (2) mX11_free p.1 p.2.1 [] p.2.2.1 p.2.2.2 r dF eF) (kr : p.1 = 100000 → r = a_rt p.2.1 ∧ dF = p.2.2.1 ∧ eF = p.2.2.2) : Rn Γ (2) mX11_free 4 [some (.ref 108), some (.int x1), some (.int x2)] [] d e r dF eF := by
  unfold sX11_free_4 at h
  obtain ⟨g1, h⟩ := a_cond h
  refine a_ite h (fun c2 h => ?_) (fun c2 h => ?_)
  · refine bX11_free_4 (a_inb_vp g1) (fun _ => ?_) (fun z => absurd c2 z)
    cases h
    obtain ⟨k1, k2, k3⟩ := kr rfl
    exact bX11_free_39 k1 k2 k3
  · refine bX11_free_4 (a_inb_vp g1) (fun z => absurd z c2) (fun _ => ?_)
    obtain ⟨q3, hq3, h⟩ := Option.bind_eq_some_iff.mp h
    refine bX11_free_14 (evX11_catIn hq3) (by omega) ?_
    refine a_ite h (fun c4 h => ?_) (fun c4 h => ?_)
    · refine bX11_free_20 (fun z => absurd c4 z) (fun _ => ?_)
      refine bX11_free_24 ?_
      refine bX11_free_31 ?_
      cases h
      exact kc rfl
    · refine bX11_free_20 (fun _ => ?_) (fun z => absurd z c4)
      refine bX11_free_30 ?_
      refine bX11_free_31 ?_
      cases h
      exact kc rfl

noncomputable def stX11_free (p : Nat × aL × aI × aJ) : Option (Nat × aL × aI × aJ) := match p with
  | (0, [some (.ref 108), none, none], d, e) => sX11_free_0 d e 
  | (4, [some (.ref 108), some (.int x1), some (.int x2)], d, e) => sX11_free_4 d e x1 x2
  | _ => none
theorem uX11_free {Γ : aG × Launch} {p p2 : Nat × aL × aI × aJ} {r : Option Value} {dF : aI} {eF : aJ} (h : stX11_free p = some p2) (kc : Nat.beq p2.1 100000 = false → Rn Γ (2) mX11_free p2.1 p2.2.1 [] p2.2.2.1 p2.2.2.2 r dF eF) (kr : p2.1 = 100000 → r = a_rt p2.2.1 ∧ dF = p2.2.2.1 ∧ eF = p2.2.2.2) : Rn Γ (2) mX11_free p.1 p.2.1 [] p.2.2.1 p.2.2.2 r dF eF := by
  unfold stX11_free at h
  split at h
  · exact tX11_free_0 h kc kr
  · exact tX11_free_4 h kc kr
  · cases h
noncomputable def FX11_free (d : aI) (e : aJ)  : Option (Int32 × aI × aJ) := (a_run (stX11_free) (0, [some (.ref 108), none, none], d, e)).bind a_xI
theorem evX11_free {Γ : aG × Launch} {d : aI} {e : aJ}  {q : Int32 × aI × aJ} (h : FX11_free d e  = some q) : Ev Γ (2) mX11_free [.ref 108] d e (some (.int q.1)) q.2.1 q.2.2 := by
  refine Ev.of (by decide) rfl (Nat.le_of_ble_eq_true rfl) (fun z => by cases z) ?_
  show Rn Γ (2) mX11_free 0 [some (.ref 108), none, none] [] d e _ _ _
  obtain ⟨q1, h1, h2⟩ := Option.bind_eq_some_iff.mp h
  obtain ⟨e1, e2, e3⟩ := a_xI_rt h2
  exact Rn.cast (a_run_ok (uX11_free) rfl h1) e1.symm e2.symm e3.symm
noncomputable def sX11_nearest_0 (d : aI) (e : aJ) (x1 : Int32) : Option (Nat × aL × aI × aJ) := ((FX11_isCat d e x1).bind fun q1 => (if q1.1 = 0 then (some (100000, [some (.int (-(nI 1)))], q1.2.1, q1.2.2)) else (some (14, [some (.ref 108), some (.int x1), some (.int (-(nI 1))), some (.int (nI 0))], q1.2.1, q1.2.2))))
theorem tX11_nearest_0 {Γ : aG × Launch} {d dF : aI} {e eF : aJ} {x1 : Int32} {r : Option Value} {p : Nat × aL × aI × aJ} (h : sX11_nearest_0 d e x1 = some p) (kc : Nat.beq p.1 100000 = false → Rn Γ (4) mX11_nearest p.1 p.2.1 [] p.2.2.1 p.2.2.2 r dF eF) (kr : p.1 = 100000 → r = a_rt p.2.1 ∧ dF = p.2.2.1 ∧ eF = p.2.2.2) : Rn Γ (4) mX11_nearest 0 [some (.ref 108), some (.int x1), none, none] [] d e r dF eF := by
  unfold sX11_nearest_0 at h
  obtain ⟨q1, hq1, h⟩ := Option.bind_eq_some_iff.mp h
  refine bX11_nearest_0 (evX11_isCat hq1) (by omega) ?_
  refine a_ite h (fun c2 h => ?_) (fun c2 h => ?_)
  · refine bX11_nearest_5 (fun z => absurd c2 z) (fun _ => ?_)
    cases h
    obtain ⟨k1, k2, k3⟩ := kr rfl
    exact bX11_nearest_8 k1 k2 k3
  · refine bX11_nearest_5 (fun _ => ?_) (fun z => absurd z c2)
    refine bX11_nearest_10 ?_
    cases h
    exact kc rfl

noncomputable def sX11_nearest_14 (d : aI) (e : aJ) (x1 : Int32) (x2 : Int32) (x3 : Int32) : Option (Nat × aL × aI × aJ) := (bif ((a_inb (nI 0) 1961)) then (if (d 109 0) ≤ x3 then (some (100000, [some (.int x2)], d, e)) else ((FX11_catIn d e x3).bind fun q3 => (if q3.1 = (-(nI 1)) then (if x2 = (-(nI 1)) then (some (14, [some (.ref 108), some (.int x1), some (.int x3), some (.int (x3 + (nI 1)))], q3.2.1, q3.2.2)) else ((FX11_farOf q3.2.1 q3.2.2 x1 x3).bind fun q6 => ((FX11_farOf q6.2.1 q6.2.2 x1 x2).bind fun q7 => (if q7.1 ≤ q6.1 then (some (14, [some (.ref 108), some (.int x1), some (.int x2), some (.int (x3 + (nI 1)))], q7.2.1, q7.2.2)) else (some (14, [some (.ref 108), some (.int x1), some (.int x3), some (.int (x3 + (nI 1)))], q7.2.1, q7.2.2)))))) else (some (14, [some (.ref 108), some (.int x1), some (.int x2), some (.int (x3 + (nI 1)))], q3.2.1, q3.2.2))))) else none)
theorem tX11_nearest_14 {Γ : aG × Launch} {d dF : aI} {e eF : aJ} {x1 : Int32} {x2 : Int32} {x3 : Int32} {r : Option Value} {p : Nat × aL × aI × aJ} (h : sX11_nearest_14 d e x1 x2 x3 = some p) (kc : Nat.beq p.1 100000 = false → Rn Γ (4) mX11_nearest p.1 p.2.1 [] p.2.2.1 p.2.2.2 r dF eF) (kr : p.1 = 100000 → r = a_rt p.2.1 ∧ dF = p.2.2.1 ∧ eF = p.2.2.2) : Rn Γ (4) mX11_nearest 14 [some (.ref 108), some (.int x1), some (.int x2), some (.int x3)] [] d e r dF eF := by
  unfold sX11_nearest_14 at h
  obtain ⟨g1, h⟩ := a_cond h
  refine a_ite h (fun c2 h => ?_) (fun c2 h => ?_)
  · refine bX11_nearest_14 (a_inb_vp g1) (fun _ => ?_) (fun z => absurd c2 z)
    cases h
    obtain ⟨k1, k2, k3⟩ := kr rfl
    exact bX11_nearest_61 k1 k2 k3
  · refine bX11_nearest_14 (a_inb_vp g1) (fun z => absurd z c2) (fun _ => ?_)
    obtain ⟨q3, hq3, h⟩ := Option.bind_eq_some_iff.mp h
    refine bX11_nearest_24 (evX11_catIn hq3) (by omega) ?_
    refine a_ite h (fun c4 h => ?_) (fun c4 h => ?_)
    · refine bX11_nearest_29 (fun z => absurd c4 z) (fun _ => ?_)
      refine a_ite h (fun c5 h => ?_) (fun c5 h => ?_)
      · refine bX11_nearest_33 (fun _ => ?_) (fun z => absurd c5 z)
        refine bX11_nearest_53 ?_
        refine bX11_nearest_55 ?_
        cases h
        exact kc rfl
      · refine bX11_nearest_33 (fun z => absurd z c5) (fun _ => ?_)
        obtain ⟨q6, hq6, h⟩ := Option.bind_eq_some_iff.mp h
        refine bX11_nearest_38 (evX11_farOf hq6) (by omega) ?_
        obtain ⟨q7, hq7, h⟩ := Option.bind_eq_some_iff.mp h
        refine bX11_nearest_44 (evX11_farOf hq7) (by omega) ?_
        refine a_ite h (fun c8 h => ?_) (fun c8 h => ?_)
        · refine bX11_nearest_50 (fun _ => ?_) (fun z => absurd c8 z)
          refine bX11_nearest_55 ?_
          cases h
          exact kc rfl
        · refine bX11_nearest_50 (fun z => absurd z c8) (fun _ => ?_)
          refine bX11_nearest_53 ?_
          refine bX11_nearest_55 ?_
          cases h
          exact kc rfl
    · refine bX11_nearest_29 (fun _ => ?_) (fun z => absurd z c4)
      refine bX11_nearest_55 ?_
      cases h
      exact kc rfl

noncomputable def stX11_nearest (p : Nat × aL × aI × aJ) : Option (Nat × aL × aI × aJ) := match p with
  | (0, [some (.ref 108), some (.int x1), none, none], d, e) => sX11_nearest_0 d e x1
  | (14, [some (.ref 108), some (.int x1), some (.int x2), some (.int x3)], d, e) => sX11_nearest_14 d e x1 x2 x3
  | _ => none
theorem uX11_nearest {Γ : aG × Launch} {p p2 : Nat × aL × aI × aJ} {r : Option Value} {dF : aI} {eF : aJ} (h : stX11_nearest p = some p2) (kc : Nat.beq p2.1 100000 = false → Rn Γ (4) mX11_nearest p2.1 p2.2.1 [] p2.2.2.1 p2.2.2.2 r dF eF) (kr : p2.1 = 100000 → r = a_rt p2.2.1 ∧ dF = p2.2.2.1 ∧ eF = p2.2.2.2) : Rn Γ (4) mX11_nearest p.1 p.2.1 [] p.2.2.1 p.2.2.2 r dF eF := by
  unfold stX11_nearest at h
  split at h
  · exact tX11_nearest_0 h kc kr
  · exact tX11_nearest_14 h kc kr
  · cases h
noncomputable def FX11_nearest (d : aI) (e : aJ) (x1 : Int32) : Option (Int32 × aI × aJ) := (a_run (stX11_nearest) (0, [some (.ref 108), some (.int x1), none, none], d, e)).bind a_xI
theorem evX11_nearest {Γ : aG × Launch} {d : aI} {e : aJ} {x1 : Int32} {q : Int32 × aI × aJ} (h : FX11_nearest d e x1 = some q) : Ev Γ (4) mX11_nearest [.ref 108, .int x1] d e (some (.int q.1)) q.2.1 q.2.2 := by
  refine Ev.of (by decide) rfl (Nat.le_of_ble_eq_true rfl) (fun z => by cases z) ?_
  show Rn Γ (4) mX11_nearest 0 [some (.ref 108), some (.int x1), none, none] [] d e _ _ _
  obtain ⟨q1, h1, h2⟩ := Option.bind_eq_some_iff.mp h
  obtain ⟨e1, e2, e3⟩ := a_xI_rt h2
  exact Rn.cast (a_run_ok (uX11_nearest) rfl h1) e1.symm e2.symm e3.symm
noncomputable def sX11_divisor_0 (d : aI) (e : aJ) (y0 : Int64) (y2 : Int64) : Option (Nat × aL × aI × aJ) := (some (6, [some (.long y0), none, some (.long y2), none, some (.long y0), none, some (.long y2), none, none, none], d, e))
theorem tX11_divisor_0 {Γ : aG × Launch} {d dF : aI} {e eF : aJ} {y0 : Int64} {y2 : Int64} {r : Option Value} {p : Nat × aL × aI × aJ} (h : sX11_divisor_0 d e y0 y2 = some p) (kc : Nat.beq p.1 100000 = false → Rn Γ (0) mX11_divisor p.1 p.2.1 [] p.2.2.1 p.2.2.2 r dF eF) (kr : p.1 = 100000 → r = a_rt p.2.1 ∧ dF = p.2.2.1 ∧ eF = p.2.2.2) : Rn Γ (0) mX11_divisor 0 [some (.long y0), none, some (.long y2), none, none, none, none, none, none, none] [] d e r dF eF := by
  unfold sX11_divisor_0 at h
  refine bX11_divisor_0 ?_
  cases h
  exact kc rfl

noncomputable def sX11_divisor_6 (d : aI) (e : aJ) (y0 : Int64) (y2 : Int64) (y4 : Int64) (y6 : Int64) (v8 : Option Value) (v9 : Option Value) : Option (Nat × aL × aI × aJ) := (if (lg_cmp y6 (lN 0)) = 0 then (some (100000, [some (.long y4)], d, e)) else (bif ((decide (¬ y6 = 0))) then (some (6, [some (.long y0), none, some (.long y2), none, some (.long y6), none, some (.long (a_jrm y4 y6)), none, some (.long (a_jrm y4 y6)), none], d, e)) else none))
theorem tX11_divisor_6 {Γ : aG × Launch} {d dF : aI} {e eF : aJ} {y0 : Int64} {y2 : Int64} {y4 : Int64} {y6 : Int64} {v8 : Option Value} {v9 : Option Value} {r : Option Value} {p : Nat × aL × aI × aJ} (h : sX11_divisor_6 d e y0 y2 y4 y6 v8 v9 = some p) (kc : Nat.beq p.1 100000 = false → Rn Γ (0) mX11_divisor p.1 p.2.1 [] p.2.2.1 p.2.2.2 r dF eF) (kr : p.1 = 100000 → r = a_rt p.2.1 ∧ dF = p.2.2.1 ∧ eF = p.2.2.2) : Rn Γ (0) mX11_divisor 6 [some (.long y0), none, some (.long y2), none, some (.long y4), none, some (.long y6), none, v8, v9] [] d e r dF eF := by
  unfold sX11_divisor_6 at h
  refine a_ite h (fun c1 h => ?_) (fun c1 h => ?_)
  · refine bX11_divisor_6 (fun _ => ?_) (fun z => absurd c1 z)
    cases h
    obtain ⟨k1, k2, k3⟩ := kr rfl
    exact bX11_divisor_31 k1 k2 k3
  · refine bX11_divisor_6 (fun z => absurd z c1) (fun _ => ?_)
    obtain ⟨g2, h⟩ := a_cond h
    refine bX11_divisor_13 (of_decide_eq_true g2) ?_
    cases h
    exact kc rfl

noncomputable def stX11_divisor (p : Nat × aL × aI × aJ) : Option (Nat × aL × aI × aJ) := match p with
  | (0, [some (.long y0), none, some (.long y2), none, none, none, none, none, none, none], d, e) => sX11_divisor_0 d e y0 y2
  | (6, [some (.long y0), none, some (.long y2), none, some (.long y4), none, some (.long y6), none, v8, v9], d, e) => sX11_divisor_6 d e y0 y2 y4 y6 v8 v9
  | _ => none
theorem uX11_divisor {Γ : aG × Launch} {p p2 : Nat × aL × aI × aJ} {r : Option Value} {dF : aI} {eF : aJ} (h : stX11_divisor p = some p2) (kc : Nat.beq p2.1 100000 = false → Rn Γ (0) mX11_divisor p2.1 p2.2.1 [] p2.2.2.1 p2.2.2.2 r dF eF) (kr : p2.1 = 100000 → r = a_rt p2.2.1 ∧ dF = p2.2.2.1 ∧ eF = p2.2.2.2) : Rn Γ (0) mX11_divisor p.1 p.2.1 [] p.2.2.1 p.2.2.2 r dF eF := by
  unfold stX11_divisor at h
  split at h
  · exact tX11_divisor_0 h kc kr
  · exact tX11_divisor_6 h kc kr
  · cases h
noncomputable def FX11_divisor (d : aI) (e : aJ) (y0 : Int64) (y2 : Int64) : Option (Int64 × aI × aJ) := (a_run (stX11_divisor) (0, [some (.long y0), none, some (.long y2), none, none, none, none, none, none, none], d, e)).bind a_xJ
theorem evX11_divisor {Γ : aG × Launch} {d : aI} {e : aJ} {y0 : Int64} {y2 : Int64} {q : Int64 × aI × aJ} (h : FX11_divisor d e y0 y2 = some q) : Ev Γ (0) mX11_divisor [.long y0, .long y2] d e (some (.long q.1)) q.2.1 q.2.2 := by
  refine Ev.of (by decide) rfl (Nat.le_of_ble_eq_true rfl) (fun z => by cases z) ?_
  show Rn Γ (0) mX11_divisor 0 [some (.long y0), none, some (.long y2), none, none, none, none, none, none, none] [] d e _ _ _
  obtain ⟨q1, h1, h2⟩ := Option.bind_eq_some_iff.mp h
  obtain ⟨e1, e2, e3⟩ := a_xJ_rt h2
  exact Rn.cast (a_run_ok (uX11_divisor) rfl h1) e1.symm e2.symm e3.symm
noncomputable def FX11_part (d : aI) (e : aJ) (y0 : Int64) (y2 : Int64) (x4 : Int32) : Option (Int64 × aI × aJ) := (if x4 = 0 then ((FX11_divisor d e y0 y2).bind fun q2 => (bif ((decide (¬ q2.1 = 0))) then (some ((y0 / q2.1), q2.2.1, q2.2.2)) else none)) else ((FX11_divisor d e y0 y2).bind fun q4 => (bif ((decide (¬ q4.1 = 0))) then (some ((y2 / q4.1), q4.2.1, q4.2.2)) else none)))
theorem evX11_part {Γ : aG × Launch} {d : aI} {e : aJ} {y0 : Int64} {y2 : Int64} {x4 : Int32} {q : Int64 × aI × aJ} (h : FX11_part d e y0 y2 x4 = some q) : Ev Γ (1) mX11_part [.long y0, .long y2, .int x4] d e (some (.long q.1)) q.2.1 q.2.2 := by
  refine Ev.of (by decide) rfl (Nat.le_of_ble_eq_true rfl) (fun z => by cases z) ?_
  show Rn Γ (1) mX11_part 0 [some (.long y0), none, some (.long y2), none, some (.int x4)] [] d e _ _ _
  unfold FX11_part at h
  refine a_ite h (fun c1 h => ?_) (fun c1 h => ?_)
  · refine bX11_part_0 (fun _ => ?_) (fun z => absurd c1 z)
    refine bX11_part_9 ?_
    obtain ⟨q2, hq2, h⟩ := Option.bind_eq_some_iff.mp h
    refine bX11_part_10 (evX11_divisor hq2) (by omega) ?_
    obtain ⟨g3, h⟩ := a_cond h
    cases h
    exact bX11_part_15 (of_decide_eq_true g3)
  · refine bX11_part_0 (fun z => absurd z c1) (fun _ => ?_)
    refine bX11_part_5 ?_
    obtain ⟨q4, hq4, h⟩ := Option.bind_eq_some_iff.mp h
    refine bX11_part_10 (evX11_divisor hq4) (by omega) ?_
    obtain ⟨g5, h⟩ := a_cond h
    cases h
    exact bX11_part_15 (of_decide_eq_true g5)

noncomputable def FX11_share (d : aI) (e : aJ) (x1 : Int32) (x2 : Int32) : Option (Int32 × aI × aJ) := ((FX11_isCat d e x1).bind fun q1 => (if q1.1 = 0 then (some ((-(nI 1)), q1.2.1, q1.2.2)) else ((FX11_allTaken q1.2.1 q1.2.2).bind fun q3 => (if q3.1 = 0 then (if x2 = 0 then (some ((nI 0), q3.2.1, q3.2.2)) else (some ((nI 1), q3.2.1, q3.2.2))) else ((FX11_get q3.2.1 q3.2.2 x1 (nI 2)).bind fun q6 => ((FX11_allTaken q6.2.1 q6.2.2).bind fun q7 => ((FX11_part q7.2.1 q7.2.2 (Int32.toInt64 q6.1) (Int32.toInt64 q7.1) x2).bind fun q8 => (some ((Int64.toInt32 q8.1), q8.2.1, q8.2.2)))))))))
theorem evX11_share {Γ : aG × Launch} {d : aI} {e : aJ} {x1 : Int32} {x2 : Int32} {q : Int32 × aI × aJ} (h : FX11_share d e x1 x2 = some q) : Ev Γ (2) mX11_share [.ref 108, .int x1, .int x2] d e (some (.int q.1)) q.2.1 q.2.2 := by
  refine Ev.of (by decide) rfl (Nat.le_of_ble_eq_true rfl) (fun z => by cases z) ?_
  show Rn Γ (2) mX11_share 0 [some (.ref 108), some (.int x1), some (.int x2)] [] d e _ _ _
  unfold FX11_share at h
  obtain ⟨q1, hq1, h⟩ := Option.bind_eq_some_iff.mp h
  refine bX11_share_0 (evX11_isCat hq1) (by omega) ?_
  refine a_ite h (fun c2 h => ?_) (fun c2 h => ?_)
  · refine bX11_share_5 (fun z => absurd c2 z) (fun _ => ?_)
    cases h
    exact bX11_share_8
  · refine bX11_share_5 (fun _ => ?_) (fun z => absurd z c2)
    obtain ⟨q3, hq3, h⟩ := Option.bind_eq_some_iff.mp h
    refine bX11_share_10 (evX11_allTaken hq3) (by omega) ?_
    refine a_ite h (fun c4 h => ?_) (fun c4 h => ?_)
    · refine bX11_share_14 (fun z => absurd c4 z) (fun _ => ?_)
      refine a_ite h (fun c5 h => ?_) (fun c5 h => ?_)
      · refine bX11_share_17 (fun _ => ?_) (fun z => absurd c5 z)
        refine bX11_share_25 ?_
        cases h
        exact bX11_share_46
      · refine bX11_share_17 (fun z => absurd z c5) (fun _ => ?_)
        refine bX11_share_21 ?_
        cases h
        exact bX11_share_46
    · refine bX11_share_14 (fun _ => ?_) (fun z => absurd z c4)
      obtain ⟨q6, hq6, h⟩ := Option.bind_eq_some_iff.mp h
      refine bX11_share_29 (evX11_get hq6) (by omega) ?_
      obtain ⟨q7, hq7, h⟩ := Option.bind_eq_some_iff.mp h
      refine bX11_share_35 (evX11_allTaken hq7) (by omega) ?_
      obtain ⟨q8, hq8, h⟩ := Option.bind_eq_some_iff.mp h
      refine bX11_share_40 (evX11_part hq8) (by omega) ?_
      refine bX11_share_45 ?_
      cases h
      exact bX11_share_46

noncomputable def FX11_far (d : aI) (e : aJ) (x1 : Int32) (x2 : Int32) : Option (Int32 × aI × aJ) := ((FX11_isCat d e x1).bind fun q1 => (if q1.1 = 0 then (some ((-(nI 1)), q1.2.1, q1.2.2)) else ((FX11_isHouse q1.2.1 q1.2.2 x2).bind fun q3 => (if q3.1 = 0 then (some ((-(nI 1)), q3.2.1, q3.2.2)) else ((FX11_farOf q3.2.1 q3.2.2 x1 x2).bind fun q5 => (some (q5.1, q5.2.1, q5.2.2)))))))
theorem evX11_far {Γ : aG × Launch} {d : aI} {e : aJ} {x1 : Int32} {x2 : Int32} {q : Int32 × aI × aJ} (h : FX11_far d e x1 x2 = some q) : Ev Γ (4) mX11_far [.ref 108, .int x1, .int x2] d e (some (.int q.1)) q.2.1 q.2.2 := by
  refine Ev.of (by decide) rfl (Nat.le_of_ble_eq_true rfl) (fun z => by cases z) ?_
  show Rn Γ (4) mX11_far 0 [some (.ref 108), some (.int x1), some (.int x2)] [] d e _ _ _
  unfold FX11_far at h
  obtain ⟨q1, hq1, h⟩ := Option.bind_eq_some_iff.mp h
  refine bX11_far_0 (evX11_isCat hq1) (by omega) ?_
  refine a_ite h (fun c2 h => ?_) (fun c2 h => ?_)
  · refine bX11_far_5 (fun _ => ?_) (fun z => absurd c2 z)
    refine bX11_far_25 ?_
    cases h
    exact bX11_far_26
  · refine bX11_far_5 (fun z => absurd z c2) (fun _ => ?_)
    obtain ⟨q3, hq3, h⟩ := Option.bind_eq_some_iff.mp h
    refine bX11_far_8 (evX11_isHouse hq3) (by omega) ?_
    refine a_ite h (fun c4 h => ?_) (fun c4 h => ?_)
    · refine bX11_far_13 (fun _ => ?_) (fun z => absurd c4 z)
      refine bX11_far_25 ?_
      cases h
      exact bX11_far_26
    · refine bX11_far_13 (fun z => absurd z c4) (fun _ => ?_)
      obtain ⟨q5, hq5, h⟩ := Option.bind_eq_some_iff.mp h
      refine bX11_far_16 (evX11_farOf hq5) (by omega) ?_
      refine bX11_far_22 ?_
      cases h
      exact bX11_far_26

noncomputable def sX11_digitBy_0 (d : aI) (e : aJ) (x0 : Int32) (x1 : Int32) : Option (Nat × aL × aI × aJ) := (some (4, [some (.int x0), some (.int x1), some (.int x0), some (.int (nI 5))], d, e))
theorem tX11_digitBy_0 {Γ : aG × Launch} {d dF : aI} {e eF : aJ} {x0 : Int32} {x1 : Int32} {r : Option Value} {p : Nat × aL × aI × aJ} (h : sX11_digitBy_0 d e x0 x1 = some p) (kc : Nat.beq p.1 100000 = false → Rn Γ (0) mX11_digitBy p.1 p.2.1 [] p.2.2.1 p.2.2.2 r dF eF) (kr : p.1 = 100000 → r = a_rt p.2.1 ∧ dF = p.2.2.1 ∧ eF = p.2.2.2) : Rn Γ (0) mX11_digitBy 0 [some (.int x0), some (.int x1), none, none] [] d e r dF eF := by
  unfold sX11_digitBy_0 at h
  refine bX11_digitBy_0 ?_
  cases h
  exact kc rfl

noncomputable def sX11_digitBy_4 (d : aI) (e : aJ) (x0 : Int32) (x1 : Int32) (x2 : Int32) (x3 : Int32) : Option (Nat × aL × aI × aJ) := (if x3 ≤ x1 then (bif ((decide (¬ (nI 7) = 0))) then (some (100000, [some (.int (a_irm x2 (nI 7)))], d, e)) else none) else (bif ((decide (¬ (nI 7) = 0))) then (some (4, [some (.int x0), some (.int x1), some (.int (x2 / (nI 7))), some (.int (x3 + (-(nI 1))))], d, e)) else none))
theorem tX11_digitBy_4 {Γ : aG × Launch} {d dF : aI} {e eF : aJ} {x0 : Int32} {x1 : Int32} {x2 : Int32} {x3 : Int32} {r : Option Value} {p : Nat × aL × aI × aJ} (h : sX11_digitBy_4 d e x0 x1 x2 x3 = some p) (kc : Nat.beq p.1 100000 = false → Rn Γ (0) mX11_digitBy p.1 p.2.1 [] p.2.2.1 p.2.2.2 r dF eF) (kr : p.1 = 100000 → r = a_rt p.2.1 ∧ dF = p.2.2.1 ∧ eF = p.2.2.2) : Rn Γ (0) mX11_digitBy 4 [some (.int x0), some (.int x1), some (.int x2), some (.int x3)] [] d e r dF eF := by
  unfold sX11_digitBy_4 at h
  refine a_ite h (fun c1 h => ?_) (fun c1 h => ?_)
  · refine bX11_digitBy_4 (fun _ => ?_) (fun z => absurd c1 z)
    obtain ⟨g2, h⟩ := a_cond h
    cases h
    obtain ⟨k1, k2, k3⟩ := kr rfl
    exact bX11_digitBy_20 (of_decide_eq_true g2) k1 k2 k3
  · refine bX11_digitBy_4 (fun z => absurd z c1) (fun _ => ?_)
    obtain ⟨g3, h⟩ := a_cond h
    refine bX11_digitBy_9 (of_decide_eq_true g3) ?_
    cases h
    exact kc rfl

noncomputable def stX11_digitBy (p : Nat × aL × aI × aJ) : Option (Nat × aL × aI × aJ) := match p with
  | (0, [some (.int x0), some (.int x1), none, none], d, e) => sX11_digitBy_0 d e x0 x1
  | (4, [some (.int x0), some (.int x1), some (.int x2), some (.int x3)], d, e) => sX11_digitBy_4 d e x0 x1 x2 x3
  | _ => none
theorem uX11_digitBy {Γ : aG × Launch} {p p2 : Nat × aL × aI × aJ} {r : Option Value} {dF : aI} {eF : aJ} (h : stX11_digitBy p = some p2) (kc : Nat.beq p2.1 100000 = false → Rn Γ (0) mX11_digitBy p2.1 p2.2.1 [] p2.2.2.1 p2.2.2.2 r dF eF) (kr : p2.1 = 100000 → r = a_rt p2.2.1 ∧ dF = p2.2.2.1 ∧ eF = p2.2.2.2) : Rn Γ (0) mX11_digitBy p.1 p.2.1 [] p.2.2.1 p.2.2.2 r dF eF := by
  unfold stX11_digitBy at h
  split at h
  · exact tX11_digitBy_0 h kc kr
  · exact tX11_digitBy_4 h kc kr
  · cases h
noncomputable def FX11_digitBy (d : aI) (e : aJ) (x0 : Int32) (x1 : Int32) : Option (Int32 × aI × aJ) := (a_run (stX11_digitBy) (0, [some (.int x0), some (.int x1), none, none], d, e)).bind a_xI
theorem evX11_digitBy {Γ : aG × Launch} {d : aI} {e : aJ} {x0 : Int32} {x1 : Int32} {q : Int32 × aI × aJ} (h : FX11_digitBy d e x0 x1 = some q) : Ev Γ (0) mX11_digitBy [.int x0, .int x1] d e (some (.int q.1)) q.2.1 q.2.2 := by
  refine Ev.of (by decide) rfl (Nat.le_of_ble_eq_true rfl) (fun z => by cases z) ?_
  show Rn Γ (0) mX11_digitBy 0 [some (.int x0), some (.int x1), none, none] [] d e _ _ _
  obtain ⟨q1, h1, h2⟩ := Option.bind_eq_some_iff.mp h
  obtain ⟨e1, e2, e3⟩ := a_xI_rt h2
  exact Rn.cast (a_run_ok (uX11_digitBy) rfl h1) e1.symm e2.symm e3.symm
noncomputable def sX11_isMatch_0 (d : aI) (e : aJ) (x1 : Int32) : Option (Nat × aL × aI × aJ) := (some (19, [some (.ref 108), some (.int x1), some (.int (nI 0)), some (.int (nI 0)), none], (uI (uI (uI d 108 26 (nI 0)) 108 27 (nI 0)) 108 28 (nI 0)), e))
theorem tX11_isMatch_0 {Γ : aG × Launch} {d dF : aI} {e eF : aJ} {x1 : Int32} {r : Option Value} {p : Nat × aL × aI × aJ} (h : sX11_isMatch_0 d e x1 = some p) (kc : Nat.beq p.1 100000 = false → Rn Γ (4) mX11_isMatch p.1 p.2.1 [] p.2.2.1 p.2.2.2 r dF eF) (kr : p.1 = 100000 → r = a_rt p.2.1 ∧ dF = p.2.2.1 ∧ eF = p.2.2.2) : Rn Γ (4) mX11_isMatch 0 [some (.ref 108), some (.int x1), none, none, none] [] d e r dF eF := by
  unfold sX11_isMatch_0 at h
  refine bX11_isMatch_0 ?_
  cases h
  exact kc rfl

noncomputable def sX11_isMatch_19 (d : aI) (e : aJ) (x1 : Int32) (x2 : Int32) (x3 : Int32) (v4 : Option Value) : Option (Nat × aL × aI × aJ) := (if (nI 6) ≤ x3 then (some (100000, [some (.int (nI 1))], d, e)) else ((FX11_digitBy d e x1 x3).bind fun q2 => (if (q2.1 - (nI 1)) = (-(nI 1)) then (some (19, [some (.ref 108), some (.int x1), some (.int x2), some (.int (x3 + (nI 1))), some (.int (q2.1 - (nI 1)))], q2.2.1, q2.2.2)) else ((FX11_isHouse q2.2.1 q2.2.2 x3).bind fun q4 => (if q4.1 = 0 then (some (100000, [some (.int (nI 0))], q4.2.1, q4.2.2)) else ((FX11_isCat q4.2.1 q4.2.2 (q2.1 - (nI 1))).bind fun q6 => (if q6.1 = 0 then (some (100000, [some (.int (nI 0))], q6.2.1, q6.2.2)) else ((FX11_has q6.2.1 q6.2.2 x2 (q2.1 - (nI 1))).bind fun q8 => (if q8.1 = 0 then ((FX11_isWithout q8.2.1 q8.2.2 (q2.1 - (nI 1))).bind fun q10 => (if q10.1 = 0 then (some (100000, [some (.int (nI 0))], q10.2.1, q10.2.2)) else ((FX11_catIn q10.2.1 q10.2.2 x3).bind fun q12 => (if q12.1 = (-(nI 1)) then ((FX11_farOf (uI q12.2.1 108 26 ((q12.2.1 108 26) + (nI 1))) q12.2.2 (q2.1 - (nI 1)) x3).bind fun q14 => ((FX11_farOf (uI q14.2.1 108 27 ((q12.2.1 108 27) + q14.1)) q14.2.2 (q2.1 - (nI 1)) x3).bind fun q15 => (if q15.1 ≤ (q15.2.1 108 28) then (some (19, [some (.ref 108), some (.int x1), some (.int (x2 ||| (a_shl (nI 1) (q2.1 - (nI 1))))), some (.int (x3 + (nI 1))), some (.int (q2.1 - (nI 1)))], (uI q15.2.1 108 28 (q15.2.1 108 28)), q15.2.2)) else ((FX11_farOf q15.2.1 q15.2.2 (q2.1 - (nI 1)) x3).bind fun q17 => (some (19, [some (.ref 108), some (.int x1), some (.int (x2 ||| (a_shl (nI 1) (q2.1 - (nI 1))))), some (.int (x3 + (nI 1))), some (.int (q2.1 - (nI 1)))], (uI q17.2.1 108 28 q17.1), q17.2.2)))))) else (some (100000, [some (.int (nI 0))], q12.2.1, q12.2.2)))))) else (some (100000, [some (.int (nI 0))], q8.2.1, q8.2.2)))))))))))
theorem tX11_isMatch_19 {Γ : aG × Launch} {d dF : aI} {e eF : aJ} {x1 : Int32} {x2 : Int32} {x3 : Int32} {v4 : Option Value} {r : Option Value} {p : Nat × aL × aI × aJ} (h : sX11_isMatch_19 d e x1 x2 x3 v4 = some p) (kc : Nat.beq p.1 100000 = false → Rn Γ (4) mX11_isMatch p.1 p.2.1 [] p.2.2.1 p.2.2.2 r dF eF) (kr : p.1 = 100000 → r = a_rt p.2.1 ∧ dF = p.2.2.1 ∧ eF = p.2.2.2) : Rn Γ (4) mX11_isMatch 19 [some (.ref 108), some (.int x1), some (.int x2), some (.int x3), v4] [] d e r dF eF := by
  unfold sX11_isMatch_19 at h
  refine a_ite h (fun c1 h => ?_) (fun c1 h => ?_)
  · refine bX11_isMatch_19 (fun _ => ?_) (fun z => absurd c1 z)
    cases h
    obtain ⟨k1, k2, k3⟩ := kr rfl
    exact bX11_isMatch_160 k1 k2 k3
  · refine bX11_isMatch_19 (fun z => absurd z c1) (fun _ => ?_)
    obtain ⟨q2, hq2, h⟩ := Option.bind_eq_some_iff.mp h
    refine bX11_isMatch_25 (evX11_digitBy hq2) (by omega) ?_
    refine a_ite h (fun c3 h => ?_) (fun c3 h => ?_)
    · refine bX11_isMatch_30 (fun z => absurd c3 z) (fun _ => ?_)
      refine bX11_isMatch_40 ?_
      refine bX11_isMatch_154 ?_
      cases h
      exact kc rfl
    · refine bX11_isMatch_30 (fun _ => ?_) (fun z => absurd z c3)
      obtain ⟨q4, hq4, h⟩ := Option.bind_eq_some_iff.mp h
      refine bX11_isMatch_43 (evX11_isHouse hq4) (by omega) ?_
      refine a_ite h (fun c5 h => ?_) (fun c5 h => ?_)
      · refine bX11_isMatch_48 (fun _ => ?_) (fun z => absurd c5 z)
        cases h
        obtain ⟨k1, k2, k3⟩ := kr rfl
        exact bX11_isMatch_87 k1 k2 k3
      · refine bX11_isMatch_48 (fun z => absurd z c5) (fun _ => ?_)
        obtain ⟨q6, hq6, h⟩ := Option.bind_eq_some_iff.mp h
        refine bX11_isMatch_51 (evX11_isCat hq6) (by omega) ?_
        refine a_ite h (fun c7 h => ?_) (fun c7 h => ?_)
        · refine bX11_isMatch_57 (fun _ => ?_) (fun z => absurd c7 z)
          cases h
          obtain ⟨k1, k2, k3⟩ := kr rfl
          exact bX11_isMatch_87 k1 k2 k3
        · refine bX11_isMatch_57 (fun z => absurd z c7) (fun _ => ?_)
          obtain ⟨q8, hq8, h⟩ := Option.bind_eq_some_iff.mp h
          refine bX11_isMatch_60 (evX11_has hq8) (by omega) ?_
          refine a_ite h (fun c9 h => ?_) (fun c9 h => ?_)
          · refine bX11_isMatch_66 (fun z => absurd c9 z) (fun _ => ?_)
            obtain ⟨q10, hq10, h⟩ := Option.bind_eq_some_iff.mp h
            refine bX11_isMatch_69 (evX11_isWithout hq10) (by omega) ?_
            refine a_ite h (fun c11 h => ?_) (fun c11 h => ?_)
            · refine bX11_isMatch_75 (fun _ => ?_) (fun z => absurd c11 z)
              cases h
              obtain ⟨k1, k2, k3⟩ := kr rfl
              exact bX11_isMatch_87 k1 k2 k3
            · refine bX11_isMatch_75 (fun z => absurd z c11) (fun _ => ?_)
              obtain ⟨q12, hq12, h⟩ := Option.bind_eq_some_iff.mp h
              refine bX11_isMatch_78 (evX11_catIn hq12) (by omega) ?_
              refine a_ite h (fun c13 h => ?_) (fun c13 h => ?_)
              · refine bX11_isMatch_83 (fun _ => ?_) (fun z => absurd c13 z)
                obtain ⟨q14, hq14, h⟩ := Option.bind_eq_some_iff.mp h
                refine bX11_isMatch_89 (evX11_farOf hq14) (by omega) ?_
                obtain ⟨q15, hq15, h⟩ := Option.bind_eq_some_iff.mp h
                refine bX11_isMatch_118 (evX11_farOf hq15) (by omega) ?_
                refine a_ite h (fun c16 h => ?_) (fun c16 h => ?_)
                · refine bX11_isMatch_130 (fun _ => ?_) (fun z => absurd c16 z)
                  refine bX11_isMatch_147 ?_
                  refine bX11_isMatch_151 ?_
                  refine bX11_isMatch_154 ?_
                  cases h
                  exact kc rfl
                · refine bX11_isMatch_130 (fun z => absurd z c16) (fun _ => ?_)
                  obtain ⟨q17, hq17, h⟩ := Option.bind_eq_some_iff.mp h
                  refine bX11_isMatch_137 (evX11_farOf hq17) (by omega) ?_
                  refine bX11_isMatch_144 ?_
                  refine bX11_isMatch_151 ?_
                  refine bX11_isMatch_154 ?_
                  cases h
                  exact kc rfl
              · refine bX11_isMatch_83 (fun z => absurd z c13) (fun _ => ?_)
                cases h
                obtain ⟨k1, k2, k3⟩ := kr rfl
                exact bX11_isMatch_87 k1 k2 k3
          · refine bX11_isMatch_66 (fun _ => ?_) (fun z => absurd z c9)
            cases h
            obtain ⟨k1, k2, k3⟩ := kr rfl
            exact bX11_isMatch_87 k1 k2 k3

noncomputable def stX11_isMatch (p : Nat × aL × aI × aJ) : Option (Nat × aL × aI × aJ) := match p with
  | (0, [some (.ref 108), some (.int x1), none, none, none], d, e) => sX11_isMatch_0 d e x1
  | (19, [some (.ref 108), some (.int x1), some (.int x2), some (.int x3), v4], d, e) => sX11_isMatch_19 d e x1 x2 x3 v4
  | _ => none
theorem uX11_isMatch {Γ : aG × Launch} {p p2 : Nat × aL × aI × aJ} {r : Option Value} {dF : aI} {eF : aJ} (h : stX11_isMatch p = some p2) (kc : Nat.beq p2.1 100000 = false → Rn Γ (4) mX11_isMatch p2.1 p2.2.1 [] p2.2.2.1 p2.2.2.2 r dF eF) (kr : p2.1 = 100000 → r = a_rt p2.2.1 ∧ dF = p2.2.2.1 ∧ eF = p2.2.2.2) : Rn Γ (4) mX11_isMatch p.1 p.2.1 [] p.2.2.1 p.2.2.2 r dF eF := by
  unfold stX11_isMatch at h
  split at h
  · exact tX11_isMatch_0 h kc kr
  · exact tX11_isMatch_19 h kc kr
  · cases h
noncomputable def FX11_isMatch (d : aI) (e : aJ) (x1 : Int32) : Option (Int32 × aI × aJ) := (a_run (stX11_isMatch) (0, [some (.ref 108), some (.int x1), none, none, none], d, e)).bind a_xI
theorem evX11_isMatch {Γ : aG × Launch} {d : aI} {e : aJ} {x1 : Int32} {q : Int32 × aI × aJ} (h : FX11_isMatch d e x1 = some q) : Ev Γ (4) mX11_isMatch [.ref 108, .int x1] d e (some (.int q.1)) q.2.1 q.2.2 := by
  refine Ev.of (by decide) rfl (Nat.le_of_ble_eq_true rfl) (fun z => by cases z) ?_
  show Rn Γ (4) mX11_isMatch 0 [some (.ref 108), some (.int x1), none, none, none] [] d e _ _ _
  obtain ⟨q1, h1, h2⟩ := Option.bind_eq_some_iff.mp h
  obtain ⟨e1, e2, e3⟩ := a_xI_rt h2
  exact Rn.cast (a_run_ok (uX11_isMatch) rfl h1) e1.symm e2.symm e3.symm
noncomputable def sX11_mostPairs_0 (d : aI) (e : aJ)  : Option (Nat × aL × aI × aJ) := (some (4, [some (.ref 108), some (.int (nI 0)), some (.int (nI 0))], d, e))
theorem tX11_mostPairs_0 {Γ : aG × Launch} {d dF : aI} {e eF : aJ}  {r : Option Value} {p : Nat × aL × aI × aJ} (h : sX11_mostPairs_0 d e  = some p) (kc : Nat.beq p.1 100000 = false → Rn Γ (3) mX11_mostPairs p.1 p.2.1 [] p.2.2.1 p.2.2.2 r dF eF) (kr : p.1 = 100000 → r = a_rt p.2.1 ∧ dF = p.2.2.1 ∧ eF = p.2.2.2) : Rn Γ (3) mX11_mostPairs 0 [some (.ref 108), none, none] [] d e r dF eF := by
  unfold sX11_mostPairs_0 at h
  refine bX11_mostPairs_0 ?_
  cases h
  exact kc rfl

noncomputable def sX11_mostPairs_4 (d : aI) (e : aJ) (x1 : Int32) (x2 : Int32) : Option (Nat × aL × aI × aJ) := (bif ((a_inb (nI 1) 1961)) then (if (d 109 1) ≤ x2 then ((FX11_free d e).bind fun q3 => ((FX11_bits q3.2.1 q3.2.2 q3.1).bind fun q4 => (if q4.1 ≤ x1 then (some (100000, [some (.int q4.1)], q4.2.1, q4.2.2)) else (some (100000, [some (.int x1)], q4.2.1, q4.2.2))))) else ((FX11_isWithout d e x2).bind fun q6 => (if q6.1 = 0 then (some (4, [some (.ref 108), some (.int (x1 + (nI 0))), some (.int (x2 + (nI 1)))], q6.2.1, q6.2.2)) else (some (4, [some (.ref 108), some (.int (x1 + (nI 1))), some (.int (x2 + (nI 1)))], q6.2.1, q6.2.2))))) else none)
theorem tX11_mostPairs_4 {Γ : aG × Launch} {d dF : aI} {e eF : aJ} {x1 : Int32} {x2 : Int32} {r : Option Value} {p : Nat × aL × aI × aJ} (h : sX11_mostPairs_4 d e x1 x2 = some p) (kc : Nat.beq p.1 100000 = false → Rn Γ (3) mX11_mostPairs p.1 p.2.1 [] p.2.2.1 p.2.2.2 r dF eF) (kr : p.1 = 100000 → r = a_rt p.2.1 ∧ dF = p.2.2.1 ∧ eF = p.2.2.2) : Rn Γ (3) mX11_mostPairs 4 [some (.ref 108), some (.int x1), some (.int x2)] [] d e r dF eF := by
  unfold sX11_mostPairs_4 at h
  obtain ⟨g1, h⟩ := a_cond h
  refine a_ite h (fun c2 h => ?_) (fun c2 h => ?_)
  · refine bX11_mostPairs_4 (a_inb_vp g1) (fun _ => ?_) (fun z => absurd c2 z)
    obtain ⟨q3, hq3, h⟩ := Option.bind_eq_some_iff.mp h
    refine bX11_mostPairs_36 (evX11_free hq3) (by omega) ?_
    obtain ⟨q4, hq4, h⟩ := Option.bind_eq_some_iff.mp h
    refine bX11_mostPairs_40 (evX11_bits hq4) (by omega) ?_
    refine a_ite h (fun c5 h => ?_) (fun c5 h => ?_)
    · refine bX11_mostPairs_43 (fun _ => ?_) (fun z => absurd c5 z)
      refine bX11_mostPairs_53 ?_
      cases h
      obtain ⟨k1, k2, k3⟩ := kr rfl
      exact bX11_mostPairs_54 k1 k2 k3
    · refine bX11_mostPairs_43 (fun z => absurd z c5) (fun _ => ?_)
      refine bX11_mostPairs_49 ?_
      cases h
      obtain ⟨k1, k2, k3⟩ := kr rfl
      exact bX11_mostPairs_54 k1 k2 k3
  · refine bX11_mostPairs_4 (a_inb_vp g1) (fun z => absurd z c2) (fun _ => ?_)
    obtain ⟨q6, hq6, h⟩ := Option.bind_eq_some_iff.mp h
    refine bX11_mostPairs_14 (evX11_isWithout hq6) (by omega) ?_
    refine a_ite h (fun c7 h => ?_) (fun c7 h => ?_)
    · refine bX11_mostPairs_20 (fun _ => ?_) (fun z => absurd c7 z)
      refine bX11_mostPairs_27 ?_
      refine bX11_mostPairs_28 ?_
      cases h
      exact kc rfl
    · refine bX11_mostPairs_20 (fun z => absurd z c7) (fun _ => ?_)
      refine bX11_mostPairs_23 ?_
      refine bX11_mostPairs_28 ?_
      cases h
      exact kc rfl

noncomputable def stX11_mostPairs (p : Nat × aL × aI × aJ) : Option (Nat × aL × aI × aJ) := match p with
  | (0, [some (.ref 108), none, none], d, e) => sX11_mostPairs_0 d e 
  | (4, [some (.ref 108), some (.int x1), some (.int x2)], d, e) => sX11_mostPairs_4 d e x1 x2
  | _ => none
theorem uX11_mostPairs {Γ : aG × Launch} {p p2 : Nat × aL × aI × aJ} {r : Option Value} {dF : aI} {eF : aJ} (h : stX11_mostPairs p = some p2) (kc : Nat.beq p2.1 100000 = false → Rn Γ (3) mX11_mostPairs p2.1 p2.2.1 [] p2.2.2.1 p2.2.2.2 r dF eF) (kr : p2.1 = 100000 → r = a_rt p2.2.1 ∧ dF = p2.2.2.1 ∧ eF = p2.2.2.2) : Rn Γ (3) mX11_mostPairs p.1 p.2.1 [] p.2.2.1 p.2.2.2 r dF eF := by
  unfold stX11_mostPairs at h
  split at h
  · exact tX11_mostPairs_0 h kc kr
  · exact tX11_mostPairs_4 h kc kr
  · cases h
noncomputable def FX11_mostPairs (d : aI) (e : aJ)  : Option (Int32 × aI × aJ) := (a_run (stX11_mostPairs) (0, [some (.ref 108), none, none], d, e)).bind a_xI
theorem evX11_mostPairs {Γ : aG × Launch} {d : aI} {e : aJ}  {q : Int32 × aI × aJ} (h : FX11_mostPairs d e  = some q) : Ev Γ (3) mX11_mostPairs [.ref 108] d e (some (.int q.1)) q.2.1 q.2.2 := by
  refine Ev.of (by decide) rfl (Nat.le_of_ble_eq_true rfl) (fun z => by cases z) ?_
  show Rn Γ (3) mX11_mostPairs 0 [some (.ref 108), none, none] [] d e _ _ _
  obtain ⟨q1, h1, h2⟩ := Option.bind_eq_some_iff.mp h
  obtain ⟨e1, e2, e3⟩ := a_xI_rt h2
  exact Rn.cast (a_run_ok (uX11_mostPairs) rfl h1) e1.symm e2.symm e3.symm
noncomputable def sX11_bestMatch_0 (d : aI) (e : aJ) (x1 : Int32) : Option (Nat × aL × aI × aJ) := ((FX11_mostPairs d e).bind fun q1 => (some (15, [some (.ref 108), some (.int x1), some (.int q1.1), some (.int (-(nI 1))), some (.int (nI 1000000)), some (.int (nI 0))], q1.2.1, q1.2.2)))
theorem tX11_bestMatch_0 {Γ : aG × Launch} {d dF : aI} {e eF : aJ} {x1 : Int32} {r : Option Value} {p : Nat × aL × aI × aJ} (h : sX11_bestMatch_0 d e x1 = some p) (kc : Nat.beq p.1 100000 = false → Rn Γ (5) mX11_bestMatch p.1 p.2.1 [] p.2.2.1 p.2.2.2 r dF eF) (kr : p.1 = 100000 → r = a_rt p.2.1 ∧ dF = p.2.2.1 ∧ eF = p.2.2.2) : Rn Γ (5) mX11_bestMatch 0 [some (.ref 108), some (.int x1), none, none, none, none] [] d e r dF eF := by
  unfold sX11_bestMatch_0 at h
  obtain ⟨q1, hq1, h⟩ := Option.bind_eq_some_iff.mp h
  refine bX11_bestMatch_0 (evX11_mostPairs hq1) (by omega) ?_
  refine bX11_bestMatch_4 ?_
  cases h
  exact kc rfl

noncomputable def sX11_bestMatch_15 (d : aI) (e : aJ) (x1 : Int32) (x2 : Int32) (x3 : Int32) (x4 : Int32) (x5 : Int32) : Option (Nat × aL × aI × aJ) := (if (nI 117649) ≤ x5 then (some (100000, [some (.int x3)], d, e)) else ((FX11_isMatch d e x5).bind fun q2 => (if q2.1 = 0 then (some (15, [some (.ref 108), some (.int x1), some (.int x2), some (.int x3), some (.int x4), some (.int (x5 + (nI 1)))], q2.2.1, q2.2.2)) else (if (q2.2.1 108 26) < x2 then (some (15, [some (.ref 108), some (.int x1), some (.int x2), some (.int x3), some (.int x4), some (.int (x5 + (nI 1)))], q2.2.1, q2.2.2)) else (if x1 = 0 then (if (q2.2.1 108 27) < x4 then (if x1 = 0 then (some (15, [some (.ref 108), some (.int x1), some (.int x2), some (.int x5), some (.int (q2.2.1 108 27)), some (.int (x5 + (nI 1)))], q2.2.1, q2.2.2)) else (some (15, [some (.ref 108), some (.int x1), some (.int x2), some (.int x5), some (.int (q2.2.1 108 28)), some (.int (x5 + (nI 1)))], q2.2.1, q2.2.2))) else (some (15, [some (.ref 108), some (.int x1), some (.int x2), some (.int x3), some (.int x4), some (.int (x5 + (nI 1)))], q2.2.1, q2.2.2))) else (if (q2.2.1 108 28) < x4 then (if x1 = 0 then (some (15, [some (.ref 108), some (.int x1), some (.int x2), some (.int x5), some (.int (q2.2.1 108 27)), some (.int (x5 + (nI 1)))], q2.2.1, q2.2.2)) else (some (15, [some (.ref 108), some (.int x1), some (.int x2), some (.int x5), some (.int (q2.2.1 108 28)), some (.int (x5 + (nI 1)))], q2.2.1, q2.2.2))) else (some (15, [some (.ref 108), some (.int x1), some (.int x2), some (.int x3), some (.int x4), some (.int (x5 + (nI 1)))], q2.2.1, q2.2.2))))))))
theorem tX11_bestMatch_15 {Γ : aG × Launch} {d dF : aI} {e eF : aJ} {x1 : Int32} {x2 : Int32} {x3 : Int32} {x4 : Int32} {x5 : Int32} {r : Option Value} {p : Nat × aL × aI × aJ} (h : sX11_bestMatch_15 d e x1 x2 x3 x4 x5 = some p) (kc : Nat.beq p.1 100000 = false → Rn Γ (5) mX11_bestMatch p.1 p.2.1 [] p.2.2.1 p.2.2.2 r dF eF) (kr : p.1 = 100000 → r = a_rt p.2.1 ∧ dF = p.2.2.1 ∧ eF = p.2.2.2) : Rn Γ (5) mX11_bestMatch 15 [some (.ref 108), some (.int x1), some (.int x2), some (.int x3), some (.int x4), some (.int x5)] [] d e r dF eF := by
  unfold sX11_bestMatch_15 at h
  refine a_ite h (fun c1 h => ?_) (fun c1 h => ?_)
  · refine bX11_bestMatch_15 (fun _ => ?_) (fun z => absurd c1 z)
    cases h
    obtain ⟨k1, k2, k3⟩ := kr rfl
    exact bX11_bestMatch_89 k1 k2 k3
  · refine bX11_bestMatch_15 (fun z => absurd z c1) (fun _ => ?_)
    obtain ⟨q2, hq2, h⟩ := Option.bind_eq_some_iff.mp h
    refine bX11_bestMatch_23 (evX11_isMatch hq2) (by omega) ?_
    refine a_ite h (fun c3 h => ?_) (fun c3 h => ?_)
    · refine bX11_bestMatch_29 (fun _ => ?_) (fun z => absurd c3 z)
      refine bX11_bestMatch_83 ?_
      cases h
      exact kc rfl
    · refine bX11_bestMatch_29 (fun z => absurd z c3) (fun _ => ?_)
      refine a_ite h (fun c4 h => ?_) (fun c4 h => ?_)
      · refine bX11_bestMatch_32 (fun _ => ?_) (fun z => absurd c4 z)
        refine bX11_bestMatch_83 ?_
        cases h
        exact kc rfl
      · refine bX11_bestMatch_32 (fun z => absurd z c4) (fun _ => ?_)
        refine a_ite h (fun c5 h => ?_) (fun c5 h => ?_)
        · refine bX11_bestMatch_40 (fun _ => ?_) (fun z => absurd c5 z)
          refine bX11_bestMatch_51 ?_
          refine a_ite h (fun c6 h => ?_) (fun c6 h => ?_)
          · refine bX11_bestMatch_55 (fun _ => ?_) (fun z => absurd c6 z)
            refine a_ite h (fun c7 h => ?_) (fun c7 h => ?_)
            · refine bX11_bestMatch_63 (fun _ => ?_) (fun z => absurd c7 z)
              refine bX11_bestMatch_74 ?_
              refine bX11_bestMatch_78 ?_
              refine bX11_bestMatch_83 ?_
              cases h
              exact kc rfl
            · refine bX11_bestMatch_63 (fun z => absurd z c7) (fun _ => ?_)
              refine bX11_bestMatch_67 ?_
              refine bX11_bestMatch_78 ?_
              refine bX11_bestMatch_83 ?_
              cases h
              exact kc rfl
          · refine bX11_bestMatch_55 (fun z => absurd z c6) (fun _ => ?_)
            refine bX11_bestMatch_60 ?_
            refine bX11_bestMatch_83 ?_
            cases h
            exact kc rfl
        · refine bX11_bestMatch_40 (fun z => absurd z c5) (fun _ => ?_)
          refine bX11_bestMatch_44 ?_
          refine a_ite h (fun c8 h => ?_) (fun c8 h => ?_)
          · refine bX11_bestMatch_55 (fun _ => ?_) (fun z => absurd c8 z)
            refine a_ite h (fun c9 h => ?_) (fun c9 h => ?_)
            · refine bX11_bestMatch_63 (fun _ => ?_) (fun z => absurd c9 z)
              refine bX11_bestMatch_74 ?_
              refine bX11_bestMatch_78 ?_
              refine bX11_bestMatch_83 ?_
              cases h
              exact kc rfl
            · refine bX11_bestMatch_63 (fun z => absurd z c9) (fun _ => ?_)
              refine bX11_bestMatch_67 ?_
              refine bX11_bestMatch_78 ?_
              refine bX11_bestMatch_83 ?_
              cases h
              exact kc rfl
          · refine bX11_bestMatch_55 (fun z => absurd z c8) (fun _ => ?_)
            refine bX11_bestMatch_60 ?_
            refine bX11_bestMatch_83 ?_
            cases h
            exact kc rfl

noncomputable def stX11_bestMatch (p : Nat × aL × aI × aJ) : Option (Nat × aL × aI × aJ) := match p with
  | (0, [some (.ref 108), some (.int x1), none, none, none, none], d, e) => sX11_bestMatch_0 d e x1
  | (15, [some (.ref 108), some (.int x1), some (.int x2), some (.int x3), some (.int x4), some (.int x5)], d, e) => sX11_bestMatch_15 d e x1 x2 x3 x4 x5
  | _ => none
theorem uX11_bestMatch {Γ : aG × Launch} {p p2 : Nat × aL × aI × aJ} {r : Option Value} {dF : aI} {eF : aJ} (h : stX11_bestMatch p = some p2) (kc : Nat.beq p2.1 100000 = false → Rn Γ (5) mX11_bestMatch p2.1 p2.2.1 [] p2.2.2.1 p2.2.2.2 r dF eF) (kr : p2.1 = 100000 → r = a_rt p2.2.1 ∧ dF = p2.2.2.1 ∧ eF = p2.2.2.2) : Rn Γ (5) mX11_bestMatch p.1 p.2.1 [] p.2.2.1 p.2.2.2 r dF eF := by
  unfold stX11_bestMatch at h
  split at h
  · exact tX11_bestMatch_0 h kc kr
  · exact tX11_bestMatch_15 h kc kr
  · cases h
noncomputable def FX11_bestMatch (d : aI) (e : aJ) (x1 : Int32) : Option (Int32 × aI × aJ) := (a_run (stX11_bestMatch) (0, [some (.ref 108), some (.int x1), none, none, none, none], d, e)).bind a_xI
theorem evX11_bestMatch {Γ : aG × Launch} {d : aI} {e : aJ} {x1 : Int32} {q : Int32 × aI × aJ} (h : FX11_bestMatch d e x1 = some q) : Ev Γ (5) mX11_bestMatch [.ref 108, .int x1] d e (some (.int q.1)) q.2.1 q.2.2 := by
  refine Ev.of (by decide) rfl (Nat.le_of_ble_eq_true rfl) (fun z => by cases z) ?_
  show Rn Γ (5) mX11_bestMatch 0 [some (.ref 108), some (.int x1), none, none, none, none] [] d e _ _ _
  obtain ⟨q1, h1, h2⟩ := Option.bind_eq_some_iff.mp h
  obtain ⟨e1, e2, e3⟩ := a_xI_rt h2
  exact Rn.cast (a_run_ok (uX11_bestMatch) rfl h1) e1.symm e2.symm e3.symm
noncomputable def FX11_match (d : aI) (e : aJ) (x1 : Int32) : Option (Int32 × aI × aJ) := ((FX11_isIn d e x1 (nI 0) (nI 1)).bind fun q1 => (if q1.1 = 0 then (some ((-(nI 1)), q1.2.1, q1.2.2)) else ((FX11_bestMatch q1.2.1 q1.2.2 (nI 0)).bind fun q3 => ((FX11_isMatch q3.2.1 q3.2.2 q3.1).bind fun q4 => (if q4.1 = 0 then (some ((-(nI 1)), q4.2.1, q4.2.2)) else (if x1 = 0 then (some ((q4.2.1 108 26), q4.2.1, q4.2.2)) else (some ((q4.2.1 108 27), q4.2.1, q4.2.2))))))))
theorem evX11_match {Γ : aG × Launch} {d : aI} {e : aJ} {x1 : Int32} {q : Int32 × aI × aJ} (h : FX11_match d e x1 = some q) : Ev Γ (6) mX11_match [.ref 108, .int x1] d e (some (.int q.1)) q.2.1 q.2.2 := by
  refine Ev.of (by decide) rfl (Nat.le_of_ble_eq_true rfl) (fun z => by cases z) ?_
  show Rn Γ (6) mX11_match 0 [some (.ref 108), some (.int x1)] [] d e _ _ _
  unfold FX11_match at h
  obtain ⟨q1, hq1, h⟩ := Option.bind_eq_some_iff.mp h
  refine bX11_match_0 (evX11_isIn hq1) (by omega) ?_
  refine a_ite h (fun c2 h => ?_) (fun c2 h => ?_)
  · refine bX11_match_6 (fun _ => ?_) (fun z => absurd c2 z)
    cases h
    exact bX11_match_21
  · refine bX11_match_6 (fun z => absurd z c2) (fun _ => ?_)
    obtain ⟨q3, hq3, h⟩ := Option.bind_eq_some_iff.mp h
    refine bX11_match_9 (evX11_bestMatch hq3) (by omega) ?_
    obtain ⟨q4, hq4, h⟩ := Option.bind_eq_some_iff.mp h
    refine bX11_match_15 (evX11_isMatch hq4) (by omega) ?_
    refine a_ite h (fun c5 h => ?_) (fun c5 h => ?_)
    · refine bX11_match_18 (fun z => absurd c5 z) (fun _ => ?_)
      cases h
      exact bX11_match_21
    · refine bX11_match_18 (fun _ => ?_) (fun z => absurd z c5)
      refine a_ite h (fun c6 h => ?_) (fun c6 h => ?_)
      · refine bX11_match_23 (fun z => absurd c6 z) (fun _ => ?_)
        refine bX11_match_27 ?_
        cases h
        exact bX11_match_38
      · refine bX11_match_23 (fun _ => ?_) (fun z => absurd z c6)
        refine bX11_match_34 ?_
        cases h
        exact bX11_match_38

noncomputable def FX11_matched (d : aI) (e : aJ) (x1 : Int32) : Option (Int32 × aI × aJ) := ((FX11_isHouse d e x1).bind fun q1 => (if q1.1 = 0 then (some ((-(nI 1)), q1.2.1, q1.2.2)) else ((FX11_bestMatch q1.2.1 q1.2.2 (nI 0)).bind fun q3 => ((FX11_digitBy q3.2.1 q3.2.2 q3.1 x1).bind fun q4 => (some ((q4.1 - (nI 1)), q4.2.1, q4.2.2))))))
theorem evX11_matched {Γ : aG × Launch} {d : aI} {e : aJ} {x1 : Int32} {q : Int32 × aI × aJ} (h : FX11_matched d e x1 = some q) : Ev Γ (6) mX11_matched [.ref 108, .int x1] d e (some (.int q.1)) q.2.1 q.2.2 := by
  refine Ev.of (by decide) rfl (Nat.le_of_ble_eq_true rfl) (fun z => by cases z) ?_
  show Rn Γ (6) mX11_matched 0 [some (.ref 108), some (.int x1)] [] d e _ _ _
  unfold FX11_matched at h
  obtain ⟨q1, hq1, h⟩ := Option.bind_eq_some_iff.mp h
  refine bX11_matched_0 (evX11_isHouse hq1) (by omega) ?_
  refine a_ite h (fun c2 h => ?_) (fun c2 h => ?_)
  · refine bX11_matched_5 (fun _ => ?_) (fun z => absurd c2 z)
    refine bX11_matched_22 ?_
    cases h
    exact bX11_matched_23
  · refine bX11_matched_5 (fun z => absurd z c2) (fun _ => ?_)
    obtain ⟨q3, hq3, h⟩ := Option.bind_eq_some_iff.mp h
    refine bX11_matched_8 (evX11_bestMatch hq3) (by omega) ?_
    obtain ⟨q4, hq4, h⟩ := Option.bind_eq_some_iff.mp h
    refine bX11_matched_13 (evX11_digitBy hq4) (by omega) ?_
    refine bX11_matched_17 ?_
    cases h
    exact bX11_matched_23

noncomputable def FX11_latest (d : aI) (e : aJ) (x1 : Int32) : Option (Int32 × aI × aJ) := ((FX11_isIn d e x1 (nI 0) (nI 1)).bind fun q1 => (if q1.1 = 0 then (some ((-(nI 1)), q1.2.1, q1.2.2)) else ((FX11_bestMatch q1.2.1 q1.2.2 (nI 1)).bind fun q3 => ((FX11_isMatch q3.2.1 q3.2.2 q3.1).bind fun q4 => (if q4.1 = 0 then (some ((-(nI 1)), q4.2.1, q4.2.2)) else (if x1 = 0 then (some ((q4.2.1 108 26), q4.2.1, q4.2.2)) else (some ((q4.2.1 108 28), q4.2.1, q4.2.2))))))))
theorem evX11_latest {Γ : aG × Launch} {d : aI} {e : aJ} {x1 : Int32} {q : Int32 × aI × aJ} (h : FX11_latest d e x1 = some q) : Ev Γ (6) mX11_latest [.ref 108, .int x1] d e (some (.int q.1)) q.2.1 q.2.2 := by
  refine Ev.of (by decide) rfl (Nat.le_of_ble_eq_true rfl) (fun z => by cases z) ?_
  show Rn Γ (6) mX11_latest 0 [some (.ref 108), some (.int x1)] [] d e _ _ _
  unfold FX11_latest at h
  obtain ⟨q1, hq1, h⟩ := Option.bind_eq_some_iff.mp h
  refine bX11_latest_0 (evX11_isIn hq1) (by omega) ?_
  refine a_ite h (fun c2 h => ?_) (fun c2 h => ?_)
  · refine bX11_latest_6 (fun _ => ?_) (fun z => absurd c2 z)
    cases h
    exact bX11_latest_21
  · refine bX11_latest_6 (fun z => absurd z c2) (fun _ => ?_)
    obtain ⟨q3, hq3, h⟩ := Option.bind_eq_some_iff.mp h
    refine bX11_latest_9 (evX11_bestMatch hq3) (by omega) ?_
    obtain ⟨q4, hq4, h⟩ := Option.bind_eq_some_iff.mp h
    refine bX11_latest_15 (evX11_isMatch hq4) (by omega) ?_
    refine a_ite h (fun c5 h => ?_) (fun c5 h => ?_)
    · refine bX11_latest_18 (fun z => absurd c5 z) (fun _ => ?_)
      cases h
      exact bX11_latest_21
    · refine bX11_latest_18 (fun _ => ?_) (fun z => absurd z c5)
      refine a_ite h (fun c6 h => ?_) (fun c6 h => ?_)
      · refine bX11_latest_23 (fun z => absurd c6 z) (fun _ => ?_)
        refine bX11_latest_27 ?_
        cases h
        exact bX11_latest_38
      · refine bX11_latest_23 (fun _ => ?_) (fun z => absurd z c6)
        refine bX11_latest_34 ?_
        cases h
        exact bX11_latest_38

noncomputable def sX11_orders_0 (d : aI) (e : aJ)  : Option (Nat × aL × aI × aJ) := (some (4, [some (.ref 108), some (.long (lN 1)), none, some (.int (nI 0)), none, none], d, e))
theorem tX11_orders_0 {Γ : aG × Launch} {d dF : aI} {e eF : aJ}  {r : Option Value} {p : Nat × aL × aI × aJ} (h : sX11_orders_0 d e  = some p) (kc : Nat.beq p.1 100000 = false → Rn Γ (0) mX11_orders p.1 p.2.1 [] p.2.2.1 p.2.2.2 r dF eF) (kr : p.1 = 100000 → r = a_rt p.2.1 ∧ dF = p.2.2.1 ∧ eF = p.2.2.2) : Rn Γ (0) mX11_orders 0 [some (.ref 108), none, none, none, none, none] [] d e r dF eF := by
  unfold sX11_orders_0 at h
  refine bX11_orders_0 ?_
  cases h
  exact kc rfl

noncomputable def sX11_orders_4 (d : aI) (e : aJ) (y1 : Int64) (x3 : Int32) (v4 : Option Value) (v5 : Option Value) : Option (Nat × aL × aI × aJ) := (bif ((a_inb (nI 1) 1961)) then (if (d 109 1) ≤ x3 then (some (100000, [some (.long y1)], d, e)) else (some (20, [some (.ref 108), some (.long y1), none, some (.int x3), some (.int (nI 0)), some (.int (nI 0))], d, e))) else none)
theorem tX11_orders_4 {Γ : aG × Launch} {d dF : aI} {e eF : aJ} {y1 : Int64} {x3 : Int32} {v4 : Option Value} {v5 : Option Value} {r : Option Value} {p : Nat × aL × aI × aJ} (h : sX11_orders_4 d e y1 x3 v4 v5 = some p) (kc : Nat.beq p.1 100000 = false → Rn Γ (0) mX11_orders p.1 p.2.1 [] p.2.2.1 p.2.2.2 r dF eF) (kr : p.1 = 100000 → r = a_rt p.2.1 ∧ dF = p.2.2.1 ∧ eF = p.2.2.2) : Rn Γ (0) mX11_orders 4 [some (.ref 108), some (.long y1), none, some (.int x3), v4, v5] [] d e r dF eF := by
  unfold sX11_orders_4 at h
  obtain ⟨g1, h⟩ := a_cond h
  refine a_ite h (fun c2 h => ?_) (fun c2 h => ?_)
  · refine bX11_orders_4 (a_inb_vp g1) (fun _ => ?_) (fun z => absurd c2 z)
    cases h
    obtain ⟨k1, k2, k3⟩ := kr rfl
    exact bX11_orders_76 k1 k2 k3
  · refine bX11_orders_4 (a_inb_vp g1) (fun z => absurd z c2) (fun _ => ?_)
    refine bX11_orders_14 ?_
    cases h
    exact kc rfl

noncomputable def sX11_orders_20 (d : aI) (e : aJ) (y1 : Int64) (x3 : Int32) (x4 : Int32) (x5 : Int32) : Option (Nat × aL × aI × aJ) := (if x3 < x5 then (some (4, [some (.ref 108), some (.long (y1 * (Int32.toInt64 x4))), none, some (.int (x3 + (nI 1))), some (.int x4), some (.int x5)], d, e)) else (bif ((a_inb ((nI 54) + x5) 1961) && (a_inb ((nI 54) + x3) 1961)) then (if (d 109 (((nI 54) + x5)).toNatClampNeg) = (d 109 (((nI 54) + x3)).toNatClampNeg) then (some (20, [some (.ref 108), some (.long y1), none, some (.int x3), some (.int (x4 + (nI 1))), some (.int (x5 + (nI 1)))], d, e)) else (some (20, [some (.ref 108), some (.long y1), none, some (.int x3), some (.int (x4 + (nI 0))), some (.int (x5 + (nI 1)))], d, e))) else none))
theorem tX11_orders_20 {Γ : aG × Launch} {d dF : aI} {e eF : aJ} {y1 : Int64} {x3 : Int32} {x4 : Int32} {x5 : Int32} {r : Option Value} {p : Nat × aL × aI × aJ} (h : sX11_orders_20 d e y1 x3 x4 x5 = some p) (kc : Nat.beq p.1 100000 = false → Rn Γ (0) mX11_orders p.1 p.2.1 [] p.2.2.1 p.2.2.2 r dF eF) (kr : p.1 = 100000 → r = a_rt p.2.1 ∧ dF = p.2.2.1 ∧ eF = p.2.2.2) : Rn Γ (0) mX11_orders 20 [some (.ref 108), some (.long y1), none, some (.int x3), some (.int x4), some (.int x5)] [] d e r dF eF := by
  unfold sX11_orders_20 at h
  refine a_ite h (fun c1 h => ?_) (fun c1 h => ?_)
  · refine bX11_orders_20 (fun _ => ?_) (fun z => absurd c1 z)
    refine bX11_orders_64 ?_
    cases h
    exact kc rfl
  · refine bX11_orders_20 (fun z => absurd z c1) (fun _ => ?_)
    obtain ⟨g2, h⟩ := a_cond h
    obtain ⟨g2x1, g2_1⟩ := a_and g2
    have g2_0 := g2x1
    refine a_ite h (fun c3 h => ?_) (fun c3 h => ?_)
    · refine bX11_orders_26 ⟨(a_inb_vp g2_0), (a_inb_vp g2_1)⟩ (fun z => absurd c3 z) (fun _ => ?_)
      refine bX11_orders_50 ?_
      refine bX11_orders_55 ?_
      cases h
      exact kc rfl
    · refine bX11_orders_26 ⟨(a_inb_vp g2_0), (a_inb_vp g2_1)⟩ (fun _ => ?_) (fun z => absurd z c3)
      refine bX11_orders_54 ?_
      refine bX11_orders_55 ?_
      cases h
      exact kc rfl

noncomputable def stX11_orders (p : Nat × aL × aI × aJ) : Option (Nat × aL × aI × aJ) := match p with
  | (0, [some (.ref 108), none, none, none, none, none], d, e) => sX11_orders_0 d e 
  | (4, [some (.ref 108), some (.long y1), none, some (.int x3), v4, v5], d, e) => sX11_orders_4 d e y1 x3 v4 v5
  | (20, [some (.ref 108), some (.long y1), none, some (.int x3), some (.int x4), some (.int x5)], d, e) => sX11_orders_20 d e y1 x3 x4 x5
  | _ => none
theorem uX11_orders {Γ : aG × Launch} {p p2 : Nat × aL × aI × aJ} {r : Option Value} {dF : aI} {eF : aJ} (h : stX11_orders p = some p2) (kc : Nat.beq p2.1 100000 = false → Rn Γ (0) mX11_orders p2.1 p2.2.1 [] p2.2.2.1 p2.2.2.2 r dF eF) (kr : p2.1 = 100000 → r = a_rt p2.2.1 ∧ dF = p2.2.2.1 ∧ eF = p2.2.2.2) : Rn Γ (0) mX11_orders p.1 p.2.1 [] p.2.2.1 p.2.2.2 r dF eF := by
  unfold stX11_orders at h
  split at h
  · exact tX11_orders_0 h kc kr
  · exact tX11_orders_4 h kc kr
  · exact tX11_orders_20 h kc kr
  · cases h
noncomputable def FX11_orders (d : aI) (e : aJ)  : Option (Int64 × aI × aJ) := (a_run (stX11_orders) (0, [some (.ref 108), none, none, none, none, none], d, e)).bind a_xJ
theorem evX11_orders {Γ : aG × Launch} {d : aI} {e : aJ}  {q : Int64 × aI × aJ} (h : FX11_orders d e  = some q) : Ev Γ (0) mX11_orders [.ref 108] d e (some (.long q.1)) q.2.1 q.2.2 := by
  refine Ev.of (by decide) rfl (Nat.le_of_ble_eq_true rfl) (fun z => by cases z) ?_
  show Rn Γ (0) mX11_orders 0 [some (.ref 108), none, none, none, none, none] [] d e _ _ _
  obtain ⟨q1, h1, h2⟩ := Option.bind_eq_some_iff.mp h
  obtain ⟨e1, e2, e3⟩ := a_xJ_rt h2
  exact Rn.cast (a_run_ok (uX11_orders) rfl h1) e1.symm e2.symm e3.symm
noncomputable def sX11_order_0 (d : aI) (e : aJ) (x1 : Int32) : Option (Nat × aL × aI × aJ) := (some (2, [some (.ref 108), some (.int x1), some (.int (nI 0)), none, none], d, e))
theorem tX11_order_0 {Γ : aG × Launch} {d dF : aI} {e eF : aJ} {x1 : Int32} {r : Option Value} {p : Nat × aL × aI × aJ} (h : sX11_order_0 d e x1 = some p) (kc : Nat.beq p.1 100000 = false → Rn Γ (0) mX11_order p.1 p.2.1 [] p.2.2.1 p.2.2.2 r dF eF) (kr : p.1 = 100000 → r = a_rt p.2.1 ∧ dF = p.2.2.1 ∧ eF = p.2.2.2) : Rn Γ (0) mX11_order 0 [some (.ref 108), some (.int x1), none, none, none] [] d e r dF eF := by
  unfold sX11_order_0 at h
  refine bX11_order_0 ?_
  cases h
  exact kc rfl

noncomputable def sX11_order_2 (d : aI) (e : aJ) (x1 : Int32) (x2 : Int32) (v3 : Option Value) (v4 : Option Value) : Option (Nat × aL × aI × aJ) := (bif ((a_inb (nI 1) 1961)) then (if (d 109 1) ≤ x2 then (some (100000, [some (.int (-(nI 1)))], d, e)) else (some (17, [some (.ref 108), some (.int x1), some (.int x2), some (.int (nI 0)), some (.int (nI 0))], d, e))) else none)
theorem tX11_order_2 {Γ : aG × Launch} {d dF : aI} {e eF : aJ} {x1 : Int32} {x2 : Int32} {v3 : Option Value} {v4 : Option Value} {r : Option Value} {p : Nat × aL × aI × aJ} (h : sX11_order_2 d e x1 x2 v3 v4 = some p) (kc : Nat.beq p.1 100000 = false → Rn Γ (0) mX11_order p.1 p.2.1 [] p.2.2.1 p.2.2.2 r dF eF) (kr : p.1 = 100000 → r = a_rt p.2.1 ∧ dF = p.2.2.1 ∧ eF = p.2.2.2) : Rn Γ (0) mX11_order 2 [some (.ref 108), some (.int x1), some (.int x2), v3, v4] [] d e r dF eF := by
  unfold sX11_order_2 at h
  obtain ⟨g1, h⟩ := a_cond h
  refine a_ite h (fun c2 h => ?_) (fun c2 h => ?_)
  · refine bX11_order_2 (a_inb_vp g1) (fun _ => ?_) (fun z => absurd c2 z)
    cases h
    obtain ⟨k1, k2, k3⟩ := kr rfl
    exact bX11_order_105 k1 k2 k3
  · refine bX11_order_2 (a_inb_vp g1) (fun z => absurd z c2) (fun _ => ?_)
    refine bX11_order_12 ?_
    cases h
    exact kc rfl

noncomputable def sX11_order_17 (d : aI) (e : aJ) (x1 : Int32) (x2 : Int32) (x3 : Int32) (x4 : Int32) : Option (Nat × aL × aI × aJ) := (bif ((a_inb (nI 1) 1961)) then (if (d 109 1) ≤ x4 then (if x3 = x1 then (some (100000, [some (.int x2)], d, e)) else (some (2, [some (.ref 108), some (.int x1), some (.int (x2 + (nI 1))), some (.int x3), some (.int x4)], d, e))) else (bif ((a_inb ((nI 54) + x4) 1961) && (a_inb ((nI 54) + x2) 1961)) then (if (d 109 (((nI 54) + x4)).toNatClampNeg) < (d 109 (((nI 54) + x2)).toNatClampNeg) then (some (17, [some (.ref 108), some (.int x1), some (.int x2), some (.int (x3 + (nI 1))), some (.int (x4 + (nI 1)))], d, e)) else (bif ((a_inb ((nI 54) + x4) 1961) && (a_inb ((nI 54) + x2) 1961)) then (if (d 109 (((nI 54) + x4)).toNatClampNeg) = (d 109 (((nI 54) + x2)).toNatClampNeg) then (if x2 ≤ x4 then (some (17, [some (.ref 108), some (.int x1), some (.int x2), some (.int (x3 + (nI 0))), some (.int (x4 + (nI 1)))], d, e)) else (some (17, [some (.ref 108), some (.int x1), some (.int x2), some (.int (x3 + (nI 1))), some (.int (x4 + (nI 1)))], d, e))) else (some (17, [some (.ref 108), some (.int x1), some (.int x2), some (.int (x3 + (nI 0))), some (.int (x4 + (nI 1)))], d, e))) else none)) else none)) else none)
theorem tX11_order_17 {Γ : aG × Launch} {d dF : aI} {e eF : aJ} {x1 : Int32} {x2 : Int32} {x3 : Int32} {x4 : Int32} {r : Option Value} {p : Nat × aL × aI × aJ} (h : sX11_order_17 d e x1 x2 x3 x4 = some p) (kc : Nat.beq p.1 100000 = false → Rn Γ (0) mX11_order p.1 p.2.1 [] p.2.2.1 p.2.2.2 r dF eF) (kr : p.1 = 100000 → r = a_rt p.2.1 ∧ dF = p.2.2.1 ∧ eF = p.2.2.2) : Rn Γ (0) mX11_order 17 [some (.ref 108), some (.int x1), some (.int x2), some (.int x3), some (.int x4)] [] d e r dF eF := by
  unfold sX11_order_17 at h
  obtain ⟨g1, h⟩ := a_cond h
  refine a_ite h (fun c2 h => ?_) (fun c2 h => ?_)
  · refine bX11_order_17 (a_inb_vp g1) (fun _ => ?_) (fun z => absurd c2 z)
    refine a_ite h (fun c3 h => ?_) (fun c3 h => ?_)
    · refine bX11_order_92 (fun z => absurd c3 z) (fun _ => ?_)
      cases h
      obtain ⟨k1, k2, k3⟩ := kr rfl
      exact bX11_order_97 k1 k2 k3
    · refine bX11_order_92 (fun _ => ?_) (fun z => absurd z c3)
      refine bX11_order_99 ?_
      cases h
      exact kc rfl
  · refine bX11_order_17 (a_inb_vp g1) (fun z => absurd z c2) (fun _ => ?_)
    obtain ⟨g4, h⟩ := a_cond h
    obtain ⟨g4x1, g4_1⟩ := a_and g4
    have g4_0 := g4x1
    refine a_ite h (fun c5 h => ?_) (fun c5 h => ?_)
    · refine bX11_order_28 ⟨(a_inb_vp g4_0), (a_inb_vp g4_1)⟩ (fun _ => ?_) (fun z => absurd c5 z)
      refine bX11_order_79 ?_
      refine bX11_order_84 ?_
      cases h
      exact kc rfl
    · refine bX11_order_28 ⟨(a_inb_vp g4_0), (a_inb_vp g4_1)⟩ (fun z => absurd z c5) (fun _ => ?_)
      obtain ⟨g6, h⟩ := a_cond h
      obtain ⟨g6x1, g6_1⟩ := a_and g6
      have g6_0 := g6x1
      refine a_ite h (fun c7 h => ?_) (fun c7 h => ?_)
      · refine bX11_order_51 ⟨(a_inb_vp g6_0), (a_inb_vp g6_1)⟩ (fun z => absurd c7 z) (fun _ => ?_)
        refine a_ite h (fun c8 h => ?_) (fun c8 h => ?_)
        · refine bX11_order_73 (fun _ => ?_) (fun z => absurd c8 z)
          refine bX11_order_83 ?_
          refine bX11_order_84 ?_
          cases h
          exact kc rfl
        · refine bX11_order_73 (fun z => absurd z c8) (fun _ => ?_)
          refine bX11_order_79 ?_
          refine bX11_order_84 ?_
          cases h
          exact kc rfl
      · refine bX11_order_51 ⟨(a_inb_vp g6_0), (a_inb_vp g6_1)⟩ (fun _ => ?_) (fun z => absurd z c7)
        refine bX11_order_83 ?_
        refine bX11_order_84 ?_
        cases h
        exact kc rfl

noncomputable def stX11_order (p : Nat × aL × aI × aJ) : Option (Nat × aL × aI × aJ) := match p with
  | (0, [some (.ref 108), some (.int x1), none, none, none], d, e) => sX11_order_0 d e x1
  | (2, [some (.ref 108), some (.int x1), some (.int x2), v3, v4], d, e) => sX11_order_2 d e x1 x2 v3 v4
  | (17, [some (.ref 108), some (.int x1), some (.int x2), some (.int x3), some (.int x4)], d, e) => sX11_order_17 d e x1 x2 x3 x4
  | _ => none
theorem uX11_order {Γ : aG × Launch} {p p2 : Nat × aL × aI × aJ} {r : Option Value} {dF : aI} {eF : aJ} (h : stX11_order p = some p2) (kc : Nat.beq p2.1 100000 = false → Rn Γ (0) mX11_order p2.1 p2.2.1 [] p2.2.2.1 p2.2.2.2 r dF eF) (kr : p2.1 = 100000 → r = a_rt p2.2.1 ∧ dF = p2.2.2.1 ∧ eF = p2.2.2.2) : Rn Γ (0) mX11_order p.1 p.2.1 [] p.2.2.1 p.2.2.2 r dF eF := by
  unfold stX11_order at h
  split at h
  · exact tX11_order_0 h kc kr
  · exact tX11_order_2 h kc kr
  · exact tX11_order_17 h kc kr
  · cases h
noncomputable def FX11_order (d : aI) (e : aJ) (x1 : Int32) : Option (Int32 × aI × aJ) := (a_run (stX11_order) (0, [some (.ref 108), some (.int x1), none, none, none], d, e)).bind a_xI
theorem evX11_order {Γ : aG × Launch} {d : aI} {e : aJ} {x1 : Int32} {q : Int32 × aI × aJ} (h : FX11_order d e x1 = some q) : Ev Γ (0) mX11_order [.ref 108, .int x1] d e (some (.int q.1)) q.2.1 q.2.2 := by
  refine Ev.of (by decide) rfl (Nat.le_of_ble_eq_true rfl) (fun z => by cases z) ?_
  show Rn Γ (0) mX11_order 0 [some (.ref 108), some (.int x1), none, none, none] [] d e _ _ _
  obtain ⟨q1, h1, h2⟩ := Option.bind_eq_some_iff.mp h
  obtain ⟨e1, e2, e3⟩ := a_xI_rt h2
  exact Rn.cast (a_run_ok (uX11_order) rfl h1) e1.symm e2.symm e3.symm
noncomputable def FX11_isSight (d : aI) (e : aJ) (x1 : Int32) : Option (Int32 × aI × aJ) := (bif ((a_inb (nI 5) 1961)) then ((FX11_isIn d e x1 (nI 0) ((d 109 5) - (nI 1))).bind fun q2 => (bif (decide (q2.1 = 0 ∨ q2.1 = 1)) then (some (q2.1, q2.2.1, q2.2.2)) else none)) else none)
theorem evX11_isSight {Γ : aG × Launch} {d : aI} {e : aJ} {x1 : Int32} {q : Int32 × aI × aJ} (h : FX11_isSight d e x1 = some q) : Ev Γ (1) mX11_isSight [.ref 108, .int x1] d e (some (.int q.1)) q.2.1 q.2.2 := by
  refine Ev.of (by decide) rfl (Nat.le_of_ble_eq_true rfl) (fun z => by cases z) ?_
  show Rn Γ (1) mX11_isSight 0 [some (.ref 108), some (.int x1)] [] d e _ _ _
  unfold FX11_isSight at h
  obtain ⟨g1, h⟩ := a_cond h
  obtain ⟨q2, hq2, h⟩ := Option.bind_eq_some_iff.mp h
  refine bX11_isSight_0 (a_inb_vp g1) (evX11_isIn hq2) (by omega) ?_
  obtain ⟨z3, h⟩ := a_cond h
  cases h
  exact bX11_isSight_13 (a_nz (of_decide_eq_true z3))

noncomputable def FX11_seen (d : aI) (e : aJ) (x1 : Int32) (x2 : Int32) : Option (Int32 × aI × aJ) := (if x1 = (-(nI 1)) then (bif ((a_inb (nI 5) 1961)) then (some ((nI 0), (uI d 109 5 (nI 0)), e)) else none) else ((FX11_isIn d e x1 (nI 0) (nI 99)).bind fun q3 => (if q3.1 = 0 then (some ((-(nI 2)), q3.2.1, q3.2.2)) else ((FX11_isPlace q3.2.1 q3.2.2 x2).bind fun q5 => (if q5.1 = 0 then (some ((-(nI 2)), q5.2.1, q5.2.2)) else (bif ((a_inb (nI 5) 1961)) then (if (q5.2.1 109 5) = (nI 10) then (some ((-(nI 2)), q5.2.1, q5.2.2)) else (bif ((a_inb (nI 5) 1961) && (a_inb ((nI 66) + ((nI 2) * (q5.2.1 109 5))) 1961) && (a_inb (nI 5) 1961) && (a_inb (((nI 66) + ((nI 2) * ((uI q5.2.1 109 (((nI 66) + ((nI 2) * (q5.2.1 109 5)))).toNatClampNeg x1) 109 5))) + (nI 1)) 1961) && (a_inb (nI 5) 1961) && (a_inb (nI 5) 1961) && (a_inb (nI 5) 1961)) then (some ((((uI (uI q5.2.1 109 (((nI 66) + ((nI 2) * (q5.2.1 109 5)))).toNatClampNeg x1) 109 ((((nI 66) + ((nI 2) * ((uI q5.2.1 109 (((nI 66) + ((nI 2) * (q5.2.1 109 5)))).toNatClampNeg x1) 109 5))) + (nI 1))).toNatClampNeg x2) 109 5) + (nI 1)), (uI (uI (uI q5.2.1 109 (((nI 66) + ((nI 2) * (q5.2.1 109 5)))).toNatClampNeg x1) 109 ((((nI 66) + ((nI 2) * ((uI q5.2.1 109 (((nI 66) + ((nI 2) * (q5.2.1 109 5)))).toNatClampNeg x1) 109 5))) + (nI 1))).toNatClampNeg x2) 109 5 (((uI (uI q5.2.1 109 (((nI 66) + ((nI 2) * (q5.2.1 109 5)))).toNatClampNeg x1) 109 ((((nI 66) + ((nI 2) * ((uI q5.2.1 109 (((nI 66) + ((nI 2) * (q5.2.1 109 5)))).toNatClampNeg x1) 109 5))) + (nI 1))).toNatClampNeg x2) 109 5) + (nI 1))), q5.2.2)) else none)) else none))))))
theorem evX11_seen {Γ : aG × Launch} {d : aI} {e : aJ} {x1 : Int32} {x2 : Int32} {q : Int32 × aI × aJ} (h : FX11_seen d e x1 x2 = some q) : Ev Γ (2) mX11_seen [.ref 108, .int x1, .int x2] d e (some (.int q.1)) q.2.1 q.2.2 := by
  refine Ev.of (by decide) rfl (Nat.le_of_ble_eq_true rfl) (fun z => by cases z) ?_
  show Rn Γ (2) mX11_seen 0 [some (.ref 108), some (.int x1), some (.int x2)] [] d e _ _ _
  unfold FX11_seen at h
  refine a_ite h (fun c1 h => ?_) (fun c1 h => ?_)
  · refine bX11_seen_0 (fun z => absurd c1 z) (fun _ => ?_)
    obtain ⟨g2, h⟩ := a_cond h
    cases h
    exact bX11_seen_5 (a_inb_vp g2)
  · refine bX11_seen_0 (fun _ => ?_) (fun z => absurd z c1)
    obtain ⟨q3, hq3, h⟩ := Option.bind_eq_some_iff.mp h
    refine bX11_seen_14 (evX11_isIn hq3) (by omega) ?_
    refine a_ite h (fun c4 h => ?_) (fun c4 h => ?_)
    · refine bX11_seen_21 (fun _ => ?_) (fun z => absurd c4 z)
      cases h
      exact bX11_seen_42
    · refine bX11_seen_21 (fun z => absurd z c4) (fun _ => ?_)
      obtain ⟨q5, hq5, h⟩ := Option.bind_eq_some_iff.mp h
      refine bX11_seen_24 (evX11_isPlace hq5) (by omega) ?_
      refine a_ite h (fun c6 h => ?_) (fun c6 h => ?_)
      · refine bX11_seen_28 (fun _ => ?_) (fun z => absurd c6 z)
        cases h
        exact bX11_seen_42
      · refine bX11_seen_28 (fun z => absurd z c6) (fun _ => ?_)
        obtain ⟨g7, h⟩ := a_cond h
        refine a_ite h (fun c8 h => ?_) (fun c8 h => ?_)
        · refine bX11_seen_31 (a_inb_vp g7) (fun z => absurd c8 z) (fun _ => ?_)
          cases h
          exact bX11_seen_42
        · refine bX11_seen_31 (a_inb_vp g7) (fun _ => ?_) (fun z => absurd z c8)
          obtain ⟨g9, h⟩ := a_cond h
          obtain ⟨g9x6, g9_6⟩ := a_and g9
          obtain ⟨g9x5, g9_5⟩ := a_and g9x6
          obtain ⟨g9x4, g9_4⟩ := a_and g9x5
          obtain ⟨g9x3, g9_3⟩ := a_and g9x4
          obtain ⟨g9x2, g9_2⟩ := a_and g9x3
          obtain ⟨g9x1, g9_1⟩ := a_and g9x2
          have g9_0 := g9x1
          cases h
          exact bX11_seen_45 ⟨(a_inb_vp g9_0), (a_inb_vp g9_1), (a_inb_vp g9_2), (a_inb_vp g9_3), (a_inb_vp g9_4), (a_inb_vp g9_5), (a_inb_vp g9_6)⟩

noncomputable def FX11_areOne (d : aI) (e : aJ) (x1 : Int32) (x2 : Int32) : Option (Int32 × aI × aJ) := (bif ((a_inb ((nI 66) + ((nI 2) * x1)) 1961) && (a_inb ((nI 66) + ((nI 2) * x2)) 1961) && (a_inb (((nI 66) + ((nI 2) * x1)) + (nI 1)) 1961) && (a_inb (((nI 66) + ((nI 2) * x2)) + (nI 1)) 1961)) then ((FX11_apart d e (d 109 ((((nI 66) + ((nI 2) * x1)) + (nI 1))).toNatClampNeg) (d 109 ((((nI 66) + ((nI 2) * x2)) + (nI 1))).toNatClampNeg)).bind fun q2 => (if 0 ≤ ((d 109 (((nI 66) + ((nI 2) * x1))).toNatClampNeg) - (d 109 (((nI 66) + ((nI 2) * x2))).toNatClampNeg)) then (if ((d 109 (((nI 66) + ((nI 2) * x1))).toNatClampNeg) - (d 109 (((nI 66) + ((nI 2) * x2))).toNatClampNeg)) < q2.1 then (some ((nI 0), q2.2.1, q2.2.2)) else (some ((nI 1), q2.2.1, q2.2.2))) else (if (-((d 109 (((nI 66) + ((nI 2) * x1))).toNatClampNeg) - (d 109 (((nI 66) + ((nI 2) * x2))).toNatClampNeg))) < q2.1 then (some ((nI 0), q2.2.1, q2.2.2)) else (some ((nI 1), q2.2.1, q2.2.2))))) else none)
theorem evX11_areOne {Γ : aG × Launch} {d : aI} {e : aJ} {x1 : Int32} {x2 : Int32} {q : Int32 × aI × aJ} (h : FX11_areOne d e x1 x2 = some q) : Ev Γ (1) mX11_areOne [.ref 108, .int x1, .int x2] d e (some (.int q.1)) q.2.1 q.2.2 := by
  refine Ev.of (by decide) rfl (Nat.le_of_ble_eq_true rfl) (fun z => by cases z) ?_
  show Rn Γ (1) mX11_areOne 0 [some (.ref 108), some (.int x1), some (.int x2), none] [] d e _ _ _
  unfold FX11_areOne at h
  obtain ⟨g1, h⟩ := a_cond h
  obtain ⟨g1x3, g1_3⟩ := a_and g1
  obtain ⟨g1x2, g1_2⟩ := a_and g1x3
  obtain ⟨g1x1, g1_1⟩ := a_and g1x2
  have g1_0 := g1x1
  obtain ⟨q2, hq2, h⟩ := Option.bind_eq_some_iff.mp h
  refine bX11_areOne_0 ⟨(a_inb_vp g1_0), (a_inb_vp g1_1), (a_inb_vp g1_2), (a_inb_vp g1_3)⟩ (evX11_apart hq2) (by omega) ?_
  refine a_ite h (fun c3 h => ?_) (fun c3 h => ?_)
  · refine bX11_areOne_53 (fun _ => ?_) (fun z => absurd c3 z)
    refine bX11_areOne_62 ?_
    refine a_ite h (fun c4 h => ?_) (fun c4 h => ?_)
    · refine bX11_areOne_63 (fun _ => ?_) (fun z => absurd c4 z)
      refine bX11_areOne_70 ?_
      cases h
      exact bX11_areOne_71 (a_nz (Or.inl rfl))
    · refine bX11_areOne_63 (fun z => absurd z c4) (fun _ => ?_)
      refine bX11_areOne_66 ?_
      cases h
      exact bX11_areOne_71 (a_nz (Or.inr rfl))
  · refine bX11_areOne_53 (fun z => absurd z c3) (fun _ => ?_)
    refine bX11_areOne_57 ?_
    refine a_ite h (fun c5 h => ?_) (fun c5 h => ?_)
    · refine bX11_areOne_63 (fun _ => ?_) (fun z => absurd c5 z)
      refine bX11_areOne_70 ?_
      cases h
      exact bX11_areOne_71 (a_nz (Or.inl rfl))
    · refine bX11_areOne_63 (fun z => absurd z c5) (fun _ => ?_)
      refine bX11_areOne_66 ?_
      cases h
      exact bX11_areOne_71 (a_nz (Or.inr rfl))

noncomputable def sX11_canFollow_0 (d : aI) (e : aJ) (x1 : Int32) : Option (Nat × aL × aI × aJ) := (some (2, [some (.ref 108), some (.int x1), some (.int (nI 0))], d, e))
theorem tX11_canFollow_0 {Γ : aG × Launch} {d dF : aI} {e eF : aJ} {x1 : Int32} {r : Option Value} {p : Nat × aL × aI × aJ} (h : sX11_canFollow_0 d e x1 = some p) (kc : Nat.beq p.1 100000 = false → Rn Γ (2) mX11_canFollow p.1 p.2.1 [] p.2.2.1 p.2.2.2 r dF eF) (kr : p.1 = 100000 → r = a_rt p.2.1 ∧ dF = p.2.2.1 ∧ eF = p.2.2.2) : Rn Γ (2) mX11_canFollow 0 [some (.ref 108), some (.int x1), none] [] d e r dF eF := by
  unfold sX11_canFollow_0 at h
  refine bX11_canFollow_0 ?_
  cases h
  exact kc rfl

noncomputable def sX11_canFollow_2 (d : aI) (e : aJ) (x1 : Int32) (x2 : Int32) : Option (Nat × aL × aI × aJ) := (if x1 ≤ x2 then (some (100000, [some (.int (nI 1))], d, e)) else (bif ((a_inb x2 10) && (a_inb x1 10)) then (if (d 118 (x2).toNatClampNeg) = (d 118 (x1).toNatClampNeg) then ((FX11_areOne d e x2 x1).bind fun q4 => (if q4.1 = 0 then (some (100000, [some (.int (nI 0))], q4.2.1, q4.2.2)) else (some (2, [some (.ref 108), some (.int x1), some (.int (x2 + (nI 1)))], q4.2.1, q4.2.2)))) else (some (2, [some (.ref 108), some (.int x1), some (.int (x2 + (nI 1)))], d, e))) else none))
theorem tX11_canFollow_2 {Γ : aG × Launch} {d dF : aI} {e eF : aJ} {x1 : Int32} {x2 : Int32} {r : Option Value} {p : Nat × aL × aI × aJ} (h : sX11_canFollow_2 d e x1 x2 = some p) (kc : Nat.beq p.1 100000 = false → Rn Γ (2) mX11_canFollow p.1 p.2.1 [] p.2.2.1 p.2.2.2 r dF eF) (kr : p.1 = 100000 → r = a_rt p.2.1 ∧ dF = p.2.2.1 ∧ eF = p.2.2.2) : Rn Γ (2) mX11_canFollow 2 [some (.ref 108), some (.int x1), some (.int x2)] [] d e r dF eF := by
  unfold sX11_canFollow_2 at h
  refine a_ite h (fun c1 h => ?_) (fun c1 h => ?_)
  · refine bX11_canFollow_2 (fun _ => ?_) (fun z => absurd c1 z)
    cases h
    obtain ⟨k1, k2, k3⟩ := kr rfl
    exact bX11_canFollow_39 k1 k2 k3
  · refine bX11_canFollow_2 (fun z => absurd z c1) (fun _ => ?_)
    obtain ⟨g2, h⟩ := a_cond h
    obtain ⟨g2x1, g2_1⟩ := a_and g2
    have g2_0 := g2x1
    refine a_ite h (fun c3 h => ?_) (fun c3 h => ?_)
    · refine bX11_canFollow_7 ⟨(a_inb_vp g2_0), (a_inb_vp g2_1)⟩ (fun z => absurd c3 z) (fun _ => ?_)
      obtain ⟨q4, hq4, h⟩ := Option.bind_eq_some_iff.mp h
      refine bX11_canFollow_22 (evX11_areOne hq4) (by omega) ?_
      refine a_ite h (fun c5 h => ?_) (fun c5 h => ?_)
      · refine bX11_canFollow_28 (fun z => absurd c5 z) (fun _ => ?_)
        cases h
        obtain ⟨k1, k2, k3⟩ := kr rfl
        exact bX11_canFollow_31 k1 k2 k3
      · refine bX11_canFollow_28 (fun _ => ?_) (fun z => absurd z c5)
        refine bX11_canFollow_33 ?_
        cases h
        exact kc rfl
    · refine bX11_canFollow_7 ⟨(a_inb_vp g2_0), (a_inb_vp g2_1)⟩ (fun _ => ?_) (fun z => absurd z c3)
      refine bX11_canFollow_33 ?_
      cases h
      exact kc rfl

noncomputable def stX11_canFollow (p : Nat × aL × aI × aJ) : Option (Nat × aL × aI × aJ) := match p with
  | (0, [some (.ref 108), some (.int x1), none], d, e) => sX11_canFollow_0 d e x1
  | (2, [some (.ref 108), some (.int x1), some (.int x2)], d, e) => sX11_canFollow_2 d e x1 x2
  | _ => none
theorem uX11_canFollow {Γ : aG × Launch} {p p2 : Nat × aL × aI × aJ} {r : Option Value} {dF : aI} {eF : aJ} (h : stX11_canFollow p = some p2) (kc : Nat.beq p2.1 100000 = false → Rn Γ (2) mX11_canFollow p2.1 p2.2.1 [] p2.2.2.1 p2.2.2.2 r dF eF) (kr : p2.1 = 100000 → r = a_rt p2.2.1 ∧ dF = p2.2.2.1 ∧ eF = p2.2.2.2) : Rn Γ (2) mX11_canFollow p.1 p.2.1 [] p.2.2.1 p.2.2.2 r dF eF := by
  unfold stX11_canFollow at h
  split at h
  · exact tX11_canFollow_0 h kc kr
  · exact tX11_canFollow_2 h kc kr
  · cases h
noncomputable def FX11_canFollow (d : aI) (e : aJ) (x1 : Int32) : Option (Int32 × aI × aJ) := (a_run (stX11_canFollow) (0, [some (.ref 108), some (.int x1), none], d, e)).bind a_xI
theorem evX11_canFollow {Γ : aG × Launch} {d : aI} {e : aJ} {x1 : Int32} {q : Int32 × aI × aJ} (h : FX11_canFollow d e x1 = some q) : Ev Γ (2) mX11_canFollow [.ref 108, .int x1] d e (some (.int q.1)) q.2.1 q.2.2 := by
  refine Ev.of (by decide) rfl (Nat.le_of_ble_eq_true rfl) (fun z => by cases z) ?_
  show Rn Γ (2) mX11_canFollow 0 [some (.ref 108), some (.int x1), none] [] d e _ _ _
  obtain ⟨q1, h1, h2⟩ := Option.bind_eq_some_iff.mp h
  obtain ⟨e1, e2, e3⟩ := a_xI_rt h2
  exact Rn.cast (a_run_ok (uX11_canFollow) rfl h1) e1.symm e2.symm e3.symm
noncomputable def sX11_areTracks_0 (d : aI) (e : aJ) (x1 : Int32) : Option (Nat × aL × aI × aJ) := (bif ((a_inb (nI 0) 10)) then (some (9, [some (.ref 108), some (.int x1), some (.int (nI 0))], (uI d 118 0 (-(nI 1))), e)) else none)
theorem tX11_areTracks_0 {Γ : aG × Launch} {d dF : aI} {e eF : aJ} {x1 : Int32} {r : Option Value} {p : Nat × aL × aI × aJ} (h : sX11_areTracks_0 d e x1 = some p) (kc : Nat.beq p.1 100000 = false → Rn Γ (3) mX11_areTracks p.1 p.2.1 [] p.2.2.1 p.2.2.2 r dF eF) (kr : p.1 = 100000 → r = a_rt p.2.1 ∧ dF = p.2.2.1 ∧ eF = p.2.2.2) : Rn Γ (3) mX11_areTracks 0 [some (.ref 108), some (.int x1), none] [] d e r dF eF := by
  unfold sX11_areTracks_0 at h
  obtain ⟨g1, h⟩ := a_cond h
  refine bX11_areTracks_0 (a_inb_vp g1) ?_
  cases h
  exact kc rfl

noncomputable def sX11_areTracks_9 (d : aI) (e : aJ) (x1 : Int32) (x2 : Int32) : Option (Nat × aL × aI × aJ) := (if x2 < 0 then (if x2 < 0 then (some (100000, [some (.int (nI 0))], d, e)) else (some (100000, [some (.int (nI 1))], d, e))) else (bif ((a_inb (nI 5) 1961)) then (if (d 109 5) ≤ x2 then (if x2 < 0 then (some (100000, [some (.int (nI 0))], d, e)) else (some (100000, [some (.int (nI 1))], d, e))) else (bif ((a_inb x2 10) && (a_inb x2 10)) then (some (33, [some (.ref 108), some (.int x1), some (.int x2)], (uI d 118 (x2).toNatClampNeg ((d 118 (x2).toNatClampNeg) + (nI 1))), e)) else none)) else none))
theorem tX11_areTracks_9 {Γ : aG × Launch} {d dF : aI} {e eF : aJ} {x1 : Int32} {x2 : Int32} {r : Option Value} {p : Nat × aL × aI × aJ} (h : sX11_areTracks_9 d e x1 x2 = some p) (kc : Nat.beq p.1 100000 = false → Rn Γ (3) mX11_areTracks p.1 p.2.1 [] p.2.2.1 p.2.2.2 r dF eF) (kr : p.1 = 100000 → r = a_rt p.2.1 ∧ dF = p.2.2.1 ∧ eF = p.2.2.2) : Rn Γ (3) mX11_areTracks 9 [some (.ref 108), some (.int x1), some (.int x2)] [] d e r dF eF := by
  unfold sX11_areTracks_9 at h
  refine a_ite h (fun c1 h => ?_) (fun c1 h => ?_)
  · refine bX11_areTracks_9 (fun _ => ?_) (fun z => absurd c1 z)
    refine a_ite h (fun c2 h => ?_) (fun c2 h => ?_)
    · refine bX11_areTracks_103 (fun _ => ?_) (fun z => absurd c2 z)
      refine bX11_areTracks_111 ?_
      cases h
      obtain ⟨k1, k2, k3⟩ := kr rfl
      exact bX11_areTracks_112 (a_nz (Or.inl rfl)) k1 k2 k3
    · refine bX11_areTracks_103 (fun z => absurd z c2) (fun _ => ?_)
      refine bX11_areTracks_107 ?_
      cases h
      obtain ⟨k1, k2, k3⟩ := kr rfl
      exact bX11_areTracks_112 (a_nz (Or.inr rfl)) k1 k2 k3
  · refine bX11_areTracks_9 (fun z => absurd z c1) (fun _ => ?_)
    obtain ⟨g3, h⟩ := a_cond h
    refine a_ite h (fun c4 h => ?_) (fun c4 h => ?_)
    · refine bX11_areTracks_13 (a_inb_vp g3) (fun _ => ?_) (fun z => absurd c4 z)
      refine a_ite h (fun c5 h => ?_) (fun c5 h => ?_)
      · refine bX11_areTracks_103 (fun _ => ?_) (fun z => absurd c5 z)
        refine bX11_areTracks_111 ?_
        cases h
        obtain ⟨k1, k2, k3⟩ := kr rfl
        exact bX11_areTracks_112 (a_nz (Or.inl rfl)) k1 k2 k3
      · refine bX11_areTracks_103 (fun z => absurd z c5) (fun _ => ?_)
        refine bX11_areTracks_107 ?_
        cases h
        obtain ⟨k1, k2, k3⟩ := kr rfl
        exact bX11_areTracks_112 (a_nz (Or.inr rfl)) k1 k2 k3
    · refine bX11_areTracks_13 (a_inb_vp g3) (fun z => absurd z c4) (fun _ => ?_)
      obtain ⟨g6, h⟩ := a_cond h
      obtain ⟨g6x1, g6_1⟩ := a_and g6
      have g6_0 := g6x1
      refine bX11_areTracks_23 ⟨(a_inb_vp g6_0), (a_inb_vp g6_1)⟩ ?_
      cases h
      exact kc rfl

noncomputable def sX11_areTracks_33 (d : aI) (e : aJ) (x1 : Int32) (x2 : Int32) : Option (Nat × aL × aI × aJ) := (bif ((a_inb x2 10)) then (if x1 ≤ (d 118 (x2).toNatClampNeg) then (bif ((a_inb x2 10)) then (if (d 118 (x2).toNatClampNeg) < x1 then (bif ((a_inb (nI 5) 1961)) then (if (d 109 5) ≤ (x2 + (nI 1)) then (some (9, [some (.ref 108), some (.int x1), some (.int (x2 + (nI 1)))], d, e)) else (bif ((a_inb (x2 + (nI 1)) 10)) then (some (9, [some (.ref 108), some (.int x1), some (.int (x2 + (nI 1)))], (uI d 118 ((x2 + (nI 1))).toNatClampNeg (-(nI 1))), e)) else none)) else none) else (some (9, [some (.ref 108), some (.int x1), some (.int (x2 + (-(nI 1))))], d, e))) else none) else ((FX11_canFollow d e x2).bind fun q8 => (if q8.1 = 0 then (bif ((a_inb x2 10) && (a_inb x2 10)) then (some (33, [some (.ref 108), some (.int x1), some (.int x2)], (uI q8.2.1 118 (x2).toNatClampNeg ((q8.2.1 118 (x2).toNatClampNeg) + (nI 1))), q8.2.2)) else none) else (bif ((a_inb x2 10)) then (if (q8.2.1 118 (x2).toNatClampNeg) < x1 then (bif ((a_inb (nI 5) 1961)) then (if (q8.2.1 109 5) ≤ (x2 + (nI 1)) then (some (9, [some (.ref 108), some (.int x1), some (.int (x2 + (nI 1)))], q8.2.1, q8.2.2)) else (bif ((a_inb (x2 + (nI 1)) 10)) then (some (9, [some (.ref 108), some (.int x1), some (.int (x2 + (nI 1)))], (uI q8.2.1 118 ((x2 + (nI 1))).toNatClampNeg (-(nI 1))), q8.2.2)) else none)) else none) else (some (9, [some (.ref 108), some (.int x1), some (.int (x2 + (-(nI 1))))], q8.2.1, q8.2.2))) else none)))) else none)
theorem tX11_areTracks_33 {Γ : aG × Launch} {d dF : aI} {e eF : aJ} {x1 : Int32} {x2 : Int32} {r : Option Value} {p : Nat × aL × aI × aJ} (h : sX11_areTracks_33 d e x1 x2 = some p) (kc : Nat.beq p.1 100000 = false → Rn Γ (3) mX11_areTracks p.1 p.2.1 [] p.2.2.1 p.2.2.2 r dF eF) (kr : p.1 = 100000 → r = a_rt p.2.1 ∧ dF = p.2.2.1 ∧ eF = p.2.2.2) : Rn Γ (3) mX11_areTracks 33 [some (.ref 108), some (.int x1), some (.int x2)] [] d e r dF eF := by
  unfold sX11_areTracks_33 at h
  obtain ⟨g1, h⟩ := a_cond h
  refine a_ite h (fun c2 h => ?_) (fun c2 h => ?_)
  · refine bX11_areTracks_33 (a_inb_vp g1) (fun _ => ?_) (fun z => absurd c2 z)
    obtain ⟨g3, h⟩ := a_cond h
    refine a_ite h (fun c4 h => ?_) (fun c4 h => ?_)
    · refine bX11_areTracks_64 (a_inb_vp g3) (fun _ => ?_) (fun z => absurd c4 z)
      obtain ⟨g5, h⟩ := a_cond h
      refine a_ite h (fun c6 h => ?_) (fun c6 h => ?_)
      · refine bX11_areTracks_80 (a_inb_vp g5) (fun _ => ?_) (fun z => absurd c6 z)
        cases h
        exact kc rfl
      · refine bX11_areTracks_80 (a_inb_vp g5) (fun z => absurd z c6) (fun _ => ?_)
        obtain ⟨g7, h⟩ := a_cond h
        refine bX11_areTracks_93 (a_inb_vp g7) ?_
        cases h
        exact kc rfl
    · refine bX11_areTracks_64 (a_inb_vp g3) (fun z => absurd z c4) (fun _ => ?_)
      refine bX11_areTracks_74 ?_
      cases h
      exact kc rfl
  · refine bX11_areTracks_33 (a_inb_vp g1) (fun z => absurd z c2) (fun _ => ?_)
    obtain ⟨q8, hq8, h⟩ := Option.bind_eq_some_iff.mp h
    refine bX11_areTracks_43 (evX11_canFollow hq8) (by omega) ?_
    refine a_ite h (fun c9 h => ?_) (fun c9 h => ?_)
    · refine bX11_areTracks_48 (fun z => absurd c9 z) (fun _ => ?_)
      obtain ⟨g10, h⟩ := a_cond h
      obtain ⟨g10x1, g10_1⟩ := a_and g10
      have g10_0 := g10x1
      refine bX11_areTracks_51 ⟨(a_inb_vp g10_0), (a_inb_vp g10_1)⟩ ?_
      cases h
      exact kc rfl
    · refine bX11_areTracks_48 (fun _ => ?_) (fun z => absurd z c9)
      obtain ⟨g11, h⟩ := a_cond h
      refine a_ite h (fun c12 h => ?_) (fun c12 h => ?_)
      · refine bX11_areTracks_64 (a_inb_vp g11) (fun _ => ?_) (fun z => absurd c12 z)
        obtain ⟨g13, h⟩ := a_cond h
        refine a_ite h (fun c14 h => ?_) (fun c14 h => ?_)
        · refine bX11_areTracks_80 (a_inb_vp g13) (fun _ => ?_) (fun z => absurd c14 z)
          cases h
          exact kc rfl
        · refine bX11_areTracks_80 (a_inb_vp g13) (fun z => absurd z c14) (fun _ => ?_)
          obtain ⟨g15, h⟩ := a_cond h
          refine bX11_areTracks_93 (a_inb_vp g15) ?_
          cases h
          exact kc rfl
      · refine bX11_areTracks_64 (a_inb_vp g11) (fun z => absurd z c12) (fun _ => ?_)
        refine bX11_areTracks_74 ?_
        cases h
        exact kc rfl

noncomputable def stX11_areTracks (p : Nat × aL × aI × aJ) : Option (Nat × aL × aI × aJ) := match p with
  | (0, [some (.ref 108), some (.int x1), none], d, e) => sX11_areTracks_0 d e x1
  | (9, [some (.ref 108), some (.int x1), some (.int x2)], d, e) => sX11_areTracks_9 d e x1 x2
  | (33, [some (.ref 108), some (.int x1), some (.int x2)], d, e) => sX11_areTracks_33 d e x1 x2
  | _ => none
theorem uX11_areTracks {Γ : aG × Launch} {p p2 : Nat × aL × aI × aJ} {r : Option Value} {dF : aI} {eF : aJ} (h : stX11_areTracks p = some p2) (kc : Nat.beq p2.1 100000 = false → Rn Γ (3) mX11_areTracks p2.1 p2.2.1 [] p2.2.2.1 p2.2.2.2 r dF eF) (kr : p2.1 = 100000 → r = a_rt p2.2.1 ∧ dF = p2.2.2.1 ∧ eF = p2.2.2.2) : Rn Γ (3) mX11_areTracks p.1 p.2.1 [] p.2.2.1 p.2.2.2 r dF eF := by
  unfold stX11_areTracks at h
  split at h
  · exact tX11_areTracks_0 h kc kr
  · exact tX11_areTracks_9 h kc kr
  · exact tX11_areTracks_33 h kc kr
  · cases h
noncomputable def FX11_areTracks (d : aI) (e : aJ) (x1 : Int32) : Option (Int32 × aI × aJ) := (a_run (stX11_areTracks) (0, [some (.ref 108), some (.int x1), none], d, e)).bind a_xI
theorem evX11_areTracks {Γ : aG × Launch} {d : aI} {e : aJ} {x1 : Int32} {q : Int32 × aI × aJ} (h : FX11_areTracks d e x1 = some q) : Ev Γ (3) mX11_areTracks [.ref 108, .int x1] d e (some (.int q.1)) q.2.1 q.2.2 := by
  refine Ev.of (by decide) rfl (Nat.le_of_ble_eq_true rfl) (fun z => by cases z) ?_
  show Rn Γ (3) mX11_areTracks 0 [some (.ref 108), some (.int x1), none] [] d e _ _ _
  obtain ⟨q1, h1, h2⟩ := Option.bind_eq_some_iff.mp h
  obtain ⟨e1, e2, e3⟩ := a_xI_rt h2
  exact Rn.cast (a_run_ok (uX11_areTracks) rfl h1) e1.symm e2.symm e3.symm
noncomputable def sX11_fewestCats_0 (d : aI) (e : aJ)  : Option (Nat × aL × aI × aJ) := (some (2, [some (.ref 108), some (.int (nI 0))], d, e))
theorem tX11_fewestCats_0 {Γ : aG × Launch} {d dF : aI} {e eF : aJ}  {r : Option Value} {p : Nat × aL × aI × aJ} (h : sX11_fewestCats_0 d e  = some p) (kc : Nat.beq p.1 100000 = false → Rn Γ (4) mX11_fewestCats p.1 p.2.1 [] p.2.2.1 p.2.2.2 r dF eF) (kr : p.1 = 100000 → r = a_rt p.2.1 ∧ dF = p.2.2.1 ∧ eF = p.2.2.2) : Rn Γ (4) mX11_fewestCats 0 [some (.ref 108), none] [] d e r dF eF := by
  unfold sX11_fewestCats_0 at h
  refine bX11_fewestCats_0 ?_
  cases h
  exact kc rfl

noncomputable def sX11_fewestCats_2 (d : aI) (e : aJ) (x1 : Int32) : Option (Nat × aL × aI × aJ) := ((FX11_areTracks d e x1).bind fun q1 => (if q1.1 = 0 then (some (2, [some (.ref 108), some (.int (x1 + (nI 1)))], q1.2.1, q1.2.2)) else (some (100000, [some (.int x1)], q1.2.1, q1.2.2))))
theorem tX11_fewestCats_2 {Γ : aG × Launch} {d dF : aI} {e eF : aJ} {x1 : Int32} {r : Option Value} {p : Nat × aL × aI × aJ} (h : sX11_fewestCats_2 d e x1 = some p) (kc : Nat.beq p.1 100000 = false → Rn Γ (4) mX11_fewestCats p.1 p.2.1 [] p.2.2.1 p.2.2.2 r dF eF) (kr : p.1 = 100000 → r = a_rt p.2.1 ∧ dF = p.2.2.1 ∧ eF = p.2.2.2) : Rn Γ (4) mX11_fewestCats 2 [some (.ref 108), some (.int x1)] [] d e r dF eF := by
  unfold sX11_fewestCats_2 at h
  obtain ⟨q1, hq1, h⟩ := Option.bind_eq_some_iff.mp h
  refine bX11_fewestCats_2 (evX11_areTracks hq1) (by omega) ?_
  refine a_ite h (fun c2 h => ?_) (fun c2 h => ?_)
  · refine bX11_fewestCats_7 (fun z => absurd c2 z) (fun _ => ?_)
    refine bX11_fewestCats_10 ?_
    cases h
    exact kc rfl
  · refine bX11_fewestCats_7 (fun _ => ?_) (fun z => absurd z c2)
    cases h
    obtain ⟨k1, k2, k3⟩ := kr rfl
    exact bX11_fewestCats_16 k1 k2 k3

noncomputable def stX11_fewestCats (p : Nat × aL × aI × aJ) : Option (Nat × aL × aI × aJ) := match p with
  | (0, [some (.ref 108), none], d, e) => sX11_fewestCats_0 d e 
  | (2, [some (.ref 108), some (.int x1)], d, e) => sX11_fewestCats_2 d e x1
  | _ => none
theorem uX11_fewestCats {Γ : aG × Launch} {p p2 : Nat × aL × aI × aJ} {r : Option Value} {dF : aI} {eF : aJ} (h : stX11_fewestCats p = some p2) (kc : Nat.beq p2.1 100000 = false → Rn Γ (4) mX11_fewestCats p2.1 p2.2.1 [] p2.2.2.1 p2.2.2.2 r dF eF) (kr : p2.1 = 100000 → r = a_rt p2.2.1 ∧ dF = p2.2.2.1 ∧ eF = p2.2.2.2) : Rn Γ (4) mX11_fewestCats p.1 p.2.1 [] p.2.2.1 p.2.2.2 r dF eF := by
  unfold stX11_fewestCats at h
  split at h
  · exact tX11_fewestCats_0 h kc kr
  · exact tX11_fewestCats_2 h kc kr
  · cases h
noncomputable def FX11_fewestCats (d : aI) (e : aJ)  : Option (Int32 × aI × aJ) := (a_run (stX11_fewestCats) (0, [some (.ref 108), none], d, e)).bind a_xI
theorem evX11_fewestCats {Γ : aG × Launch} {d : aI} {e : aJ}  {q : Int32 × aI × aJ} (h : FX11_fewestCats d e  = some q) : Ev Γ (4) mX11_fewestCats [.ref 108] d e (some (.int q.1)) q.2.1 q.2.2 := by
  refine Ev.of (by decide) rfl (Nat.le_of_ble_eq_true rfl) (fun z => by cases z) ?_
  show Rn Γ (4) mX11_fewestCats 0 [some (.ref 108), none] [] d e _ _ _
  obtain ⟨q1, h1, h2⟩ := Option.bind_eq_some_iff.mp h
  obtain ⟨e1, e2, e3⟩ := a_xI_rt h2
  exact Rn.cast (a_run_ok (uX11_fewestCats) rfl h1) e1.symm e2.symm e3.symm
noncomputable def FX11_fewest (d : aI) (e : aJ)  : Option (Int32 × aI × aJ) := ((FX11_fewestCats d e).bind fun q1 => (some (q1.1, q1.2.1, q1.2.2)))
theorem evX11_fewest {Γ : aG × Launch} {d : aI} {e : aJ}  {q : Int32 × aI × aJ} (h : FX11_fewest d e  = some q) : Ev Γ (5) mX11_fewest [.ref 108] d e (some (.int q.1)) q.2.1 q.2.2 := by
  refine Ev.of (by decide) rfl (Nat.le_of_ble_eq_true rfl) (fun z => by cases z) ?_
  show Rn Γ (5) mX11_fewest 0 [some (.ref 108)] [] d e _ _ _
  unfold FX11_fewest at h
  obtain ⟨q1, hq1, h⟩ := Option.bind_eq_some_iff.mp h
  refine bX11_fewest_0 (evX11_fewestCats hq1) (by omega) ?_
  cases h
  exact bX11_fewest_4

noncomputable def FX11_track (d : aI) (e : aJ) (x1 : Int32) : Option (Int32 × aI × aJ) := ((FX11_isSight d e x1).bind fun q1 => (if q1.1 = 0 then (some ((-(nI 1)), q1.2.1, q1.2.2)) else ((FX11_fewestCats q1.2.1 q1.2.2).bind fun q3 => (if q3.1 ≤ 0 then (some ((-(nI 1)), q3.2.1, q3.2.2)) else (bif ((a_inb x1 10)) then (some ((q3.2.1 118 (x1).toNatClampNeg), q3.2.1, q3.2.2)) else none)))))
theorem evX11_track {Γ : aG × Launch} {d : aI} {e : aJ} {x1 : Int32} {q : Int32 × aI × aJ} (h : FX11_track d e x1 = some q) : Ev Γ (5) mX11_track [.ref 108, .int x1] d e (some (.int q.1)) q.2.1 q.2.2 := by
  refine Ev.of (by decide) rfl (Nat.le_of_ble_eq_true rfl) (fun z => by cases z) ?_
  show Rn Γ (5) mX11_track 0 [some (.ref 108), some (.int x1)] [] d e _ _ _
  unfold FX11_track at h
  obtain ⟨q1, hq1, h⟩ := Option.bind_eq_some_iff.mp h
  refine bX11_track_0 (evX11_isSight hq1) (by omega) ?_
  refine a_ite h (fun c2 h => ?_) (fun c2 h => ?_)
  · refine bX11_track_5 (fun _ => ?_) (fun z => absurd c2 z)
    refine bX11_track_24 ?_
    cases h
    exact bX11_track_25
  · refine bX11_track_5 (fun z => absurd z c2) (fun _ => ?_)
    obtain ⟨q3, hq3, h⟩ := Option.bind_eq_some_iff.mp h
    refine bX11_track_8 (evX11_fewestCats hq3) (by omega) ?_
    refine a_ite h (fun c4 h => ?_) (fun c4 h => ?_)
    · refine bX11_track_12 (fun _ => ?_) (fun z => absurd c4 z)
      refine bX11_track_24 ?_
      cases h
      exact bX11_track_25
    · refine bX11_track_12 (fun z => absurd z c4) (fun _ => ?_)
      obtain ⟨g5, h⟩ := a_cond h
      refine bX11_track_15 (a_inb_vp g5) ?_
      cases h
      exact bX11_track_25

noncomputable def FX11_same (d : aI) (e : aJ) (x1 : Int32) (x2 : Int32) : Option (Int32 × aI × aJ) := ((FX11_isSight d e x1).bind fun q1 => (if q1.1 = 0 then (some ((nI 0), q1.2.1, q1.2.2)) else ((FX11_isSight q1.2.1 q1.2.2 x2).bind fun q3 => (if q3.1 = 0 then (some ((nI 0), q3.2.1, q3.2.2)) else ((FX11_areOne q3.2.1 q3.2.2 x1 x2).bind fun q5 => (if q5.1 = 0 then (some ((nI 0), q5.2.1, q5.2.2)) else (some ((nI 1), q5.2.1, q5.2.2))))))))
theorem evX11_same {Γ : aG × Launch} {d : aI} {e : aJ} {x1 : Int32} {x2 : Int32} {q : Int32 × aI × aJ} (h : FX11_same d e x1 x2 = some q) : Ev Γ (2) mX11_same [.ref 108, .int x1, .int x2] d e (some (.int q.1)) q.2.1 q.2.2 := by
  refine Ev.of (by decide) rfl (Nat.le_of_ble_eq_true rfl) (fun z => by cases z) ?_
  show Rn Γ (2) mX11_same 0 [some (.ref 108), some (.int x1), some (.int x2)] [] d e _ _ _
  unfold FX11_same at h
  obtain ⟨q1, hq1, h⟩ := Option.bind_eq_some_iff.mp h
  refine bX11_same_0 (evX11_isSight hq1) (by omega) ?_
  refine a_ite h (fun c2 h => ?_) (fun c2 h => ?_)
  · refine bX11_same_5 (fun _ => ?_) (fun z => absurd c2 z)
    refine bX11_same_29 ?_
    cases h
    exact bX11_same_30 (a_nz (Or.inl rfl))
  · refine bX11_same_5 (fun z => absurd z c2) (fun _ => ?_)
    obtain ⟨q3, hq3, h⟩ := Option.bind_eq_some_iff.mp h
    refine bX11_same_8 (evX11_isSight hq3) (by omega) ?_
    refine a_ite h (fun c4 h => ?_) (fun c4 h => ?_)
    · refine bX11_same_13 (fun _ => ?_) (fun z => absurd c4 z)
      refine bX11_same_29 ?_
      cases h
      exact bX11_same_30 (a_nz (Or.inl rfl))
    · refine bX11_same_13 (fun z => absurd z c4) (fun _ => ?_)
      obtain ⟨q5, hq5, h⟩ := Option.bind_eq_some_iff.mp h
      refine bX11_same_16 (evX11_areOne hq5) (by omega) ?_
      refine a_ite h (fun c6 h => ?_) (fun c6 h => ?_)
      · refine bX11_same_22 (fun _ => ?_) (fun z => absurd c6 z)
        refine bX11_same_29 ?_
        cases h
        exact bX11_same_30 (a_nz (Or.inl rfl))
      · refine bX11_same_22 (fun z => absurd z c6) (fun _ => ?_)
        refine bX11_same_25 ?_
        cases h
        exact bX11_same_30 (a_nz (Or.inr rfl))

noncomputable def FX11_told (d : aI) (e : aJ) (x1 : Int32) (x2 : Int32) : Option (Int32 × aI × aJ) := (if x1 = (-(nI 1)) then (bif ((a_inb (nI 6) 1961)) then (some ((nI 0), (uI d 109 6 (nI 0)), e)) else none) else ((FX11_isHouse d e x1).bind fun q3 => (if q3.1 = 0 then (some ((-(nI 2)), q3.2.1, q3.2.2)) else ((FX11_isIn q3.2.1 q3.2.2 x2 (nI 0) (nI 99)).bind fun q5 => (if q5.1 = 0 then (some ((-(nI 2)), q5.2.1, q5.2.2)) else (bif ((a_inb (nI 6) 1961)) then (if (q5.2.1 109 6) = (nI 8) then (some ((-(nI 2)), q5.2.1, q5.2.2)) else (bif ((a_inb (nI 6) 1961) && (a_inb ((nI 86) + ((nI 2) * (q5.2.1 109 6))) 1961) && (a_inb (nI 6) 1961) && (a_inb (((nI 86) + ((nI 2) * ((uI q5.2.1 109 (((nI 86) + ((nI 2) * (q5.2.1 109 6)))).toNatClampNeg x1) 109 6))) + (nI 1)) 1961) && (a_inb (nI 6) 1961) && (a_inb (nI 6) 1961) && (a_inb (nI 6) 1961)) then (some ((((uI (uI q5.2.1 109 (((nI 86) + ((nI 2) * (q5.2.1 109 6)))).toNatClampNeg x1) 109 ((((nI 86) + ((nI 2) * ((uI q5.2.1 109 (((nI 86) + ((nI 2) * (q5.2.1 109 6)))).toNatClampNeg x1) 109 6))) + (nI 1))).toNatClampNeg x2) 109 6) + (nI 1)), (uI (uI (uI q5.2.1 109 (((nI 86) + ((nI 2) * (q5.2.1 109 6)))).toNatClampNeg x1) 109 ((((nI 86) + ((nI 2) * ((uI q5.2.1 109 (((nI 86) + ((nI 2) * (q5.2.1 109 6)))).toNatClampNeg x1) 109 6))) + (nI 1))).toNatClampNeg x2) 109 6 (((uI (uI q5.2.1 109 (((nI 86) + ((nI 2) * (q5.2.1 109 6)))).toNatClampNeg x1) 109 ((((nI 86) + ((nI 2) * ((uI q5.2.1 109 (((nI 86) + ((nI 2) * (q5.2.1 109 6)))).toNatClampNeg x1) 109 6))) + (nI 1))).toNatClampNeg x2) 109 6) + (nI 1))), q5.2.2)) else none)) else none))))))
theorem evX11_told {Γ : aG × Launch} {d : aI} {e : aJ} {x1 : Int32} {x2 : Int32} {q : Int32 × aI × aJ} (h : FX11_told d e x1 x2 = some q) : Ev Γ (2) mX11_told [.ref 108, .int x1, .int x2] d e (some (.int q.1)) q.2.1 q.2.2 := by
  refine Ev.of (by decide) rfl (Nat.le_of_ble_eq_true rfl) (fun z => by cases z) ?_
  show Rn Γ (2) mX11_told 0 [some (.ref 108), some (.int x1), some (.int x2)] [] d e _ _ _
  unfold FX11_told at h
  refine a_ite h (fun c1 h => ?_) (fun c1 h => ?_)
  · refine bX11_told_0 (fun z => absurd c1 z) (fun _ => ?_)
    obtain ⟨g2, h⟩ := a_cond h
    cases h
    exact bX11_told_5 (a_inb_vp g2)
  · refine bX11_told_0 (fun _ => ?_) (fun z => absurd z c1)
    obtain ⟨q3, hq3, h⟩ := Option.bind_eq_some_iff.mp h
    refine bX11_told_15 (evX11_isHouse hq3) (by omega) ?_
    refine a_ite h (fun c4 h => ?_) (fun c4 h => ?_)
    · refine bX11_told_20 (fun _ => ?_) (fun z => absurd c4 z)
      cases h
      exact bX11_told_45
    · refine bX11_told_20 (fun z => absurd z c4) (fun _ => ?_)
      obtain ⟨q5, hq5, h⟩ := Option.bind_eq_some_iff.mp h
      refine bX11_told_23 (evX11_isIn hq5) (by omega) ?_
      refine a_ite h (fun c6 h => ?_) (fun c6 h => ?_)
      · refine bX11_told_30 (fun _ => ?_) (fun z => absurd c6 z)
        cases h
        exact bX11_told_45
      · refine bX11_told_30 (fun z => absurd z c6) (fun _ => ?_)
        obtain ⟨g7, h⟩ := a_cond h
        refine a_ite h (fun c8 h => ?_) (fun c8 h => ?_)
        · refine bX11_told_33 (a_inb_vp g7) (fun z => absurd c8 z) (fun _ => ?_)
          cases h
          exact bX11_told_45
        · refine bX11_told_33 (a_inb_vp g7) (fun _ => ?_) (fun z => absurd z c8)
          obtain ⟨g9, h⟩ := a_cond h
          obtain ⟨g9x6, g9_6⟩ := a_and g9
          obtain ⟨g9x5, g9_5⟩ := a_and g9x6
          obtain ⟨g9x4, g9_4⟩ := a_and g9x5
          obtain ⟨g9x3, g9_3⟩ := a_and g9x4
          obtain ⟨g9x2, g9_2⟩ := a_and g9x3
          obtain ⟨g9x1, g9_1⟩ := a_and g9x2
          have g9_0 := g9x1
          cases h
          exact bX11_told_48 ⟨(a_inb_vp g9_0), (a_inb_vp g9_1), (a_inb_vp g9_2), (a_inb_vp g9_3), (a_inb_vp g9_4), (a_inb_vp g9_5), (a_inb_vp g9_6)⟩

noncomputable def sX11_which_0 (d : aI) (e : aJ)  : Option (Nat × aL × aI × aJ) := (some (4, [some (.ref 108), some (.int (nI 0)), some (.int (nI 0)), none, none], d, e))
theorem tX11_which_0 {Γ : aG × Launch} {d dF : aI} {e eF : aJ}  {r : Option Value} {p : Nat × aL × aI × aJ} (h : sX11_which_0 d e  = some p) (kc : Nat.beq p.1 100000 = false → Rn Γ (5) mX11_which p.1 p.2.1 [] p.2.2.1 p.2.2.2 r dF eF) (kr : p.1 = 100000 → r = a_rt p.2.1 ∧ dF = p.2.2.1 ∧ eF = p.2.2.2) : Rn Γ (5) mX11_which 0 [some (.ref 108), none, none, none, none] [] d e r dF eF := by
  unfold sX11_which_0 at h
  refine bX11_which_0 ?_
  cases h
  exact kc rfl

noncomputable def sX11_which_4 (d : aI) (e : aJ) (x1 : Int32) (x2 : Int32) (v3 : Option Value) (v4 : Option Value) : Option (Nat × aL × aI × aJ) := (bif ((a_inb (nI 1) 1961)) then (if (d 109 1) ≤ x2 then (some (100000, [some (.int x1)], d, e)) else (some (20, [some (.ref 108), some (.int x1), some (.int x2), some (.int (nI 1)), some (.int (nI 86))], d, e))) else none)
theorem tX11_which_4 {Γ : aG × Launch} {d dF : aI} {e eF : aJ} {x1 : Int32} {x2 : Int32} {v3 : Option Value} {v4 : Option Value} {r : Option Value} {p : Nat × aL × aI × aJ} (h : sX11_which_4 d e x1 x2 v3 v4 = some p) (kc : Nat.beq p.1 100000 = false → Rn Γ (5) mX11_which p.1 p.2.1 [] p.2.2.1 p.2.2.2 r dF eF) (kr : p.1 = 100000 → r = a_rt p.2.1 ∧ dF = p.2.2.1 ∧ eF = p.2.2.2) : Rn Γ (5) mX11_which 4 [some (.ref 108), some (.int x1), some (.int x2), v3, v4] [] d e r dF eF := by
  unfold sX11_which_4 at h
  obtain ⟨g1, h⟩ := a_cond h
  refine a_ite h (fun c2 h => ?_) (fun c2 h => ?_)
  · refine bX11_which_4 (a_inb_vp g1) (fun _ => ?_) (fun z => absurd c2 z)
    cases h
    obtain ⟨k1, k2, k3⟩ := kr rfl
    exact bX11_which_103 k1 k2 k3
  · refine bX11_which_4 (a_inb_vp g1) (fun z => absurd z c2) (fun _ => ?_)
    refine bX11_which_14 ?_
    cases h
    exact kc rfl

noncomputable def sX11_which_20 (d : aI) (e : aJ) (x1 : Int32) (x2 : Int32) (x3 : Int32) (x4 : Int32) : Option (Nat × aL × aI × aJ) := (bif ((a_inb (nI 6) 1961)) then (if ((nI 86) + ((nI 2) * (d 109 6))) ≤ x4 then (if x3 = 0 then (some (4, [some (.ref 108), some (.int (x1 ||| (nI 0))), some (.int (x2 + (nI 1))), some (.int x3), some (.int x4)], d, e)) else (some (4, [some (.ref 108), some (.int (x1 ||| (a_shl (nI 1) x2))), some (.int (x2 + (nI 1))), some (.int x3), some (.int x4)], d, e))) else (if x3 = 0 then (some (20, [some (.ref 108), some (.int x1), some (.int x2), some (.int (nI 0)), some (.int (x4 + (nI 2)))], d, e)) else (bif ((a_inb (nI 3) 1961) && (a_inb x4 1961)) then ((FX11_takesOf d e (d 109 3) x2 (d 109 (x4).toNatClampNeg)).bind fun q6 => (bif ((a_inb (x4 + (nI 1)) 1961)) then (if q6.1 = (q6.2.1 109 ((x4 + (nI 1))).toNatClampNeg) then (some (20, [some (.ref 108), some (.int x1), some (.int x2), some (.int (nI 1)), some (.int (x4 + (nI 2)))], q6.2.1, q6.2.2)) else (some (20, [some (.ref 108), some (.int x1), some (.int x2), some (.int (nI 0)), some (.int (x4 + (nI 2)))], q6.2.1, q6.2.2))) else none)) else none))) else none)
theorem tX11_which_20 {Γ : aG × Launch} {d dF : aI} {e eF : aJ} {x1 : Int32} {x2 : Int32} {x3 : Int32} {x4 : Int32} {r : Option Value} {p : Nat × aL × aI × aJ} (h : sX11_which_20 d e x1 x2 x3 x4 = some p) (kc : Nat.beq p.1 100000 = false → Rn Γ (5) mX11_which p.1 p.2.1 [] p.2.2.1 p.2.2.2 r dF eF) (kr : p.1 = 100000 → r = a_rt p.2.1 ∧ dF = p.2.2.1 ∧ eF = p.2.2.2) : Rn Γ (5) mX11_which 20 [some (.ref 108), some (.int x1), some (.int x2), some (.int x3), some (.int x4)] [] d e r dF eF := by
  unfold sX11_which_20 at h
  obtain ⟨g1, h⟩ := a_cond h
  refine a_ite h (fun c2 h => ?_) (fun c2 h => ?_)
  · refine bX11_which_20 (a_inb_vp g1) (fun _ => ?_) (fun z => absurd c2 z)
    refine a_ite h (fun c3 h => ?_) (fun c3 h => ?_)
    · refine bX11_which_83 (fun _ => ?_) (fun z => absurd c3 z)
      refine bX11_which_94 ?_
      refine bX11_which_95 ?_
      cases h
      exact kc rfl
    · refine bX11_which_83 (fun z => absurd z c3) (fun _ => ?_)
      refine bX11_which_88 ?_
      refine bX11_which_95 ?_
      cases h
      exact kc rfl
  · refine bX11_which_20 (a_inb_vp g1) (fun z => absurd z c2) (fun _ => ?_)
    refine a_ite h (fun c4 h => ?_) (fun c4 h => ?_)
    · refine bX11_which_37 (fun _ => ?_) (fun z => absurd c4 z)
      refine bX11_which_75 ?_
      refine bX11_which_76 ?_
      cases h
      exact kc rfl
    · refine bX11_which_37 (fun z => absurd z c4) (fun _ => ?_)
      obtain ⟨g5, h⟩ := a_cond h
      obtain ⟨g5x1, g5_1⟩ := a_and g5
      have g5_0 := g5x1
      obtain ⟨q6, hq6, h⟩ := Option.bind_eq_some_iff.mp h
      refine bX11_which_41 ⟨(a_inb_vp g5_0), (a_inb_vp g5_1)⟩ (evX11_takesOf hq6) (by omega) ?_
      obtain ⟨g7, h⟩ := a_cond h
      refine a_ite h (fun c8 h => ?_) (fun c8 h => ?_)
      · refine bX11_which_59 (a_inb_vp g7) (fun z => absurd c8 z) (fun _ => ?_)
        refine bX11_which_71 ?_
        refine bX11_which_76 ?_
        cases h
        exact kc rfl
      · refine bX11_which_59 (a_inb_vp g7) (fun _ => ?_) (fun z => absurd z c8)
        refine bX11_which_75 ?_
        refine bX11_which_76 ?_
        cases h
        exact kc rfl

noncomputable def stX11_which (p : Nat × aL × aI × aJ) : Option (Nat × aL × aI × aJ) := match p with
  | (0, [some (.ref 108), none, none, none, none], d, e) => sX11_which_0 d e 
  | (4, [some (.ref 108), some (.int x1), some (.int x2), v3, v4], d, e) => sX11_which_4 d e x1 x2 v3 v4
  | (20, [some (.ref 108), some (.int x1), some (.int x2), some (.int x3), some (.int x4)], d, e) => sX11_which_20 d e x1 x2 x3 x4
  | _ => none
theorem uX11_which {Γ : aG × Launch} {p p2 : Nat × aL × aI × aJ} {r : Option Value} {dF : aI} {eF : aJ} (h : stX11_which p = some p2) (kc : Nat.beq p2.1 100000 = false → Rn Γ (5) mX11_which p2.1 p2.2.1 [] p2.2.2.1 p2.2.2.2 r dF eF) (kr : p2.1 = 100000 → r = a_rt p2.2.1 ∧ dF = p2.2.2.1 ∧ eF = p2.2.2.2) : Rn Γ (5) mX11_which p.1 p.2.1 [] p.2.2.1 p.2.2.2 r dF eF := by
  unfold stX11_which at h
  split at h
  · exact tX11_which_0 h kc kr
  · exact tX11_which_4 h kc kr
  · exact tX11_which_20 h kc kr
  · cases h
noncomputable def FX11_which (d : aI) (e : aJ)  : Option (Int32 × aI × aJ) := (a_run (stX11_which) (0, [some (.ref 108), none, none, none, none], d, e)).bind a_xI
theorem evX11_which {Γ : aG × Launch} {d : aI} {e : aJ}  {q : Int32 × aI × aJ} (h : FX11_which d e  = some q) : Ev Γ (5) mX11_which [.ref 108] d e (some (.int q.1)) q.2.1 q.2.2 := by
  refine Ev.of (by decide) rfl (Nat.le_of_ble_eq_true rfl) (fun z => by cases z) ?_
  show Rn Γ (5) mX11_which 0 [some (.ref 108), none, none, none, none] [] d e _ _ _
  obtain ⟨q1, h1, h2⟩ := Option.bind_eq_some_iff.mp h
  obtain ⟨e1, e2, e3⟩ := a_xI_rt h2
  exact Rn.cast (a_run_ok (uX11_which) rfl h1) e1.symm e2.symm e3.symm
noncomputable def sX11_likely_0 (d : aI) (e : aJ) (x1 : Int32) (x2 : Int32) : Option (Nat × aL × aI × aJ) := ((FX11_which d e).bind fun q1 => ((FX11_isCat q1.2.1 q1.2.2 x1).bind fun q2 => (if q2.1 = 0 then (some (100000, [some (.long (-(lN 1)))], q2.2.1, q2.2.2)) else (if q1.1 = 0 then (some (100000, [some (.long (-(lN 1)))], q2.2.1, q2.2.2)) else (some (27, [some (.ref 108), some (.int x1), some (.int x2), some (.int q1.1), some (.long (lN 0)), none, some (.int (nI 0))], q2.2.1, q2.2.2))))))
theorem tX11_likely_0 {Γ : aG × Launch} {d dF : aI} {e eF : aJ} {x1 : Int32} {x2 : Int32} {r : Option Value} {p : Nat × aL × aI × aJ} (h : sX11_likely_0 d e x1 x2 = some p) (kc : Nat.beq p.1 100000 = false → Rn Γ (6) mX11_likely p.1 p.2.1 [] p.2.2.1 p.2.2.2 r dF eF) (kr : p.1 = 100000 → r = a_rt p.2.1 ∧ dF = p.2.2.1 ∧ eF = p.2.2.2) : Rn Γ (6) mX11_likely 0 [some (.ref 108), some (.int x1), some (.int x2), none, none, none, none] [] d e r dF eF := by
  unfold sX11_likely_0 at h
  obtain ⟨q1, hq1, h⟩ := Option.bind_eq_some_iff.mp h
  refine bX11_likely_0 (evX11_which hq1) (by omega) ?_
  obtain ⟨q2, hq2, h⟩ := Option.bind_eq_some_iff.mp h
  refine bX11_likely_4 (evX11_isCat hq2) (by omega) ?_
  refine a_ite h (fun c3 h => ?_) (fun c3 h => ?_)
  · refine bX11_likely_10 (fun _ => ?_) (fun z => absurd c3 z)
    cases h
    obtain ⟨k1, k2, k3⟩ := kr rfl
    exact bX11_likely_17 k1 k2 k3
  · refine bX11_likely_10 (fun z => absurd z c3) (fun _ => ?_)
    refine a_ite h (fun c4 h => ?_) (fun c4 h => ?_)
    · refine bX11_likely_13 (fun z => absurd c4 z) (fun _ => ?_)
      cases h
      obtain ⟨k1, k2, k3⟩ := kr rfl
      exact bX11_likely_17 k1 k2 k3
    · refine bX11_likely_13 (fun _ => ?_) (fun z => absurd z c4)
      refine bX11_likely_21 ?_
      cases h
      exact kc rfl

noncomputable def sX11_likely_27 (d : aI) (e : aJ) (x1 : Int32) (x2 : Int32) (x3 : Int32) (y4 : Int64) (x6 : Int32) : Option (Nat × aL × aI × aJ) := (bif ((a_inb (nI 1) 1961)) then (if (d 109 1) ≤ x6 then ((FX11_has d e x3 x1).bind fun q3 => (if q3.1 = 0 then ((FX11_part q3.2.1 q3.2.2 (lN 0) y4 x2).bind fun q5 => (some (100000, [some (.long q5.1)], q5.2.1, q5.2.2))) else (bif ((a_inb ((nI 54) + x1) 1961)) then ((FX11_part q3.2.1 q3.2.2 (Int32.toInt64 ((nI 10) - (q3.2.1 109 (((nI 54) + x1)).toNatClampNeg))) y4 x2).bind fun q7 => (some (100000, [some (.long q7.1)], q7.2.1, q7.2.2))) else none))) else ((FX11_has d e x3 x6).bind fun q8 => (if q8.1 = 0 then (some (27, [some (.ref 108), some (.int x1), some (.int x2), some (.int x3), some (.long (y4 + (lN 0))), none, some (.int (x6 + (nI 1)))], q8.2.1, q8.2.2)) else (bif ((a_inb ((nI 54) + x6) 1961)) then (some (27, [some (.ref 108), some (.int x1), some (.int x2), some (.int x3), some (.long (y4 + (Int32.toInt64 ((nI 10) - (q8.2.1 109 (((nI 54) + x6)).toNatClampNeg))))), none, some (.int (x6 + (nI 1)))], q8.2.1, q8.2.2)) else none)))) else none)
theorem tX11_likely_27 {Γ : aG × Launch} {d dF : aI} {e eF : aJ} {x1 : Int32} {x2 : Int32} {x3 : Int32} {y4 : Int64} {x6 : Int32} {r : Option Value} {p : Nat × aL × aI × aJ} (h : sX11_likely_27 d e x1 x2 x3 y4 x6 = some p) (kc : Nat.beq p.1 100000 = false → Rn Γ (6) mX11_likely p.1 p.2.1 [] p.2.2.1 p.2.2.2 r dF eF) (kr : p.1 = 100000 → r = a_rt p.2.1 ∧ dF = p.2.2.1 ∧ eF = p.2.2.2) : Rn Γ (6) mX11_likely 27 [some (.ref 108), some (.int x1), some (.int x2), some (.int x3), some (.long y4), none, some (.int x6)] [] d e r dF eF := by
  unfold sX11_likely_27 at h
  obtain ⟨g1, h⟩ := a_cond h
  refine a_ite h (fun c2 h => ?_) (fun c2 h => ?_)
  · refine bX11_likely_27 (a_inb_vp g1) (fun _ => ?_) (fun z => absurd c2 z)
    obtain ⟨q3, hq3, h⟩ := Option.bind_eq_some_iff.mp h
    refine bX11_likely_76 (evX11_has hq3) (by omega) ?_
    refine a_ite h (fun c4 h => ?_) (fun c4 h => ?_)
    · refine bX11_likely_81 (fun _ => ?_) (fun z => absurd c4 z)
      refine bX11_likely_100 ?_
      obtain ⟨q5, hq5, h⟩ := Option.bind_eq_some_iff.mp h
      refine bX11_likely_101 (evX11_part hq5) (by omega) ?_
      cases h
      obtain ⟨k1, k2, k3⟩ := kr rfl
      exact bX11_likely_107 k1 k2 k3
    · refine bX11_likely_81 (fun z => absurd z c4) (fun _ => ?_)
      obtain ⟨g6, h⟩ := a_cond h
      refine bX11_likely_84 (a_inb_vp g6) ?_
      obtain ⟨q7, hq7, h⟩ := Option.bind_eq_some_iff.mp h
      refine bX11_likely_101 (evX11_part hq7) (by omega) ?_
      cases h
      obtain ⟨k1, k2, k3⟩ := kr rfl
      exact bX11_likely_107 k1 k2 k3
  · refine bX11_likely_27 (a_inb_vp g1) (fun z => absurd z c2) (fun _ => ?_)
    obtain ⟨q8, hq8, h⟩ := Option.bind_eq_some_iff.mp h
    refine bX11_likely_38 (evX11_has hq8) (by omega) ?_
    refine a_ite h (fun c9 h => ?_) (fun c9 h => ?_)
    · refine bX11_likely_46 (fun _ => ?_) (fun z => absurd c9 z)
      refine bX11_likely_66 ?_
      refine bX11_likely_67 ?_
      cases h
      exact kc rfl
    · refine bX11_likely_46 (fun z => absurd z c9) (fun _ => ?_)
      obtain ⟨g10, h⟩ := a_cond h
      refine bX11_likely_49 (a_inb_vp g10) ?_
      refine bX11_likely_67 ?_
      cases h
      exact kc rfl

noncomputable def stX11_likely (p : Nat × aL × aI × aJ) : Option (Nat × aL × aI × aJ) := match p with
  | (0, [some (.ref 108), some (.int x1), some (.int x2), none, none, none, none], d, e) => sX11_likely_0 d e x1 x2
  | (27, [some (.ref 108), some (.int x1), some (.int x2), some (.int x3), some (.long y4), none, some (.int x6)], d, e) => sX11_likely_27 d e x1 x2 x3 y4 x6
  | _ => none
theorem uX11_likely {Γ : aG × Launch} {p p2 : Nat × aL × aI × aJ} {r : Option Value} {dF : aI} {eF : aJ} (h : stX11_likely p = some p2) (kc : Nat.beq p2.1 100000 = false → Rn Γ (6) mX11_likely p2.1 p2.2.1 [] p2.2.2.1 p2.2.2.2 r dF eF) (kr : p2.1 = 100000 → r = a_rt p2.2.1 ∧ dF = p2.2.2.1 ∧ eF = p2.2.2.2) : Rn Γ (6) mX11_likely p.1 p.2.1 [] p.2.2.1 p.2.2.2 r dF eF := by
  unfold stX11_likely at h
  split at h
  · exact tX11_likely_0 h kc kr
  · exact tX11_likely_27 h kc kr
  · cases h
noncomputable def FX11_likely (d : aI) (e : aJ) (x1 : Int32) (x2 : Int32) : Option (Int64 × aI × aJ) := (a_run (stX11_likely) (0, [some (.ref 108), some (.int x1), some (.int x2), none, none, none, none], d, e)).bind a_xJ
theorem evX11_likely {Γ : aG × Launch} {d : aI} {e : aJ} {x1 : Int32} {x2 : Int32} {q : Int64 × aI × aJ} (h : FX11_likely d e x1 x2 = some q) : Ev Γ (6) mX11_likely [.ref 108, .int x1, .int x2] d e (some (.long q.1)) q.2.1 q.2.2 := by
  refine Ev.of (by decide) rfl (Nat.le_of_ble_eq_true rfl) (fun z => by cases z) ?_
  show Rn Γ (6) mX11_likely 0 [some (.ref 108), some (.int x1), some (.int x2), none, none, none, none] [] d e _ _ _
  obtain ⟨q1, h1, h2⟩ := Option.bind_eq_some_iff.mp h
  obtain ⟨e1, e2, e3⟩ := a_xJ_rt h2
  exact Rn.cast (a_run_ok (uX11_likely) rfl h1) e1.symm e2.symm e3.symm
noncomputable def sX11_mostAlike_0 (d : aI) (e : aJ) (x1 : Int32) (x2 : Int32) : Option (Nat × aL × aI × aJ) := (some (5, [some (.ref 108), some (.int x1), some (.int x2), some (.int (nI 0)), some (.int (nI 0)), none, none], d, e))
theorem tX11_mostAlike_0 {Γ : aG × Launch} {d dF : aI} {e eF : aJ} {x1 : Int32} {x2 : Int32} {r : Option Value} {p : Nat × aL × aI × aJ} (h : sX11_mostAlike_0 d e x1 x2 = some p) (kc : Nat.beq p.1 100000 = false → Rn Γ (5) mX11_mostAlike p.1 p.2.1 [] p.2.2.1 p.2.2.2 r dF eF) (kr : p.1 = 100000 → r = a_rt p.2.1 ∧ dF = p.2.2.1 ∧ eF = p.2.2.2) : Rn Γ (5) mX11_mostAlike 0 [some (.ref 108), some (.int x1), some (.int x2), none, none, none, none] [] d e r dF eF := by
  unfold sX11_mostAlike_0 at h
  refine bX11_mostAlike_0 ?_
  cases h
  exact kc rfl

noncomputable def sX11_mostAlike_5 (d : aI) (e : aJ) (x1 : Int32) (x2 : Int32) (x3 : Int32) (x4 : Int32) (v5 : Option Value) (v6 : Option Value) : Option (Nat × aL × aI × aJ) := (bif ((a_inb (nI 1) 1961)) then (if (d 109 1) ≤ x4 then (some (100000, [some (.int x3)], d, e)) else (some (22, [some (.ref 108), some (.int x1), some (.int x2), some (.int x3), some (.int x4), some (.int (nI 0)), some (.int (nI 0))], d, e))) else none)
theorem tX11_mostAlike_5 {Γ : aG × Launch} {d dF : aI} {e eF : aJ} {x1 : Int32} {x2 : Int32} {x3 : Int32} {x4 : Int32} {v5 : Option Value} {v6 : Option Value} {r : Option Value} {p : Nat × aL × aI × aJ} (h : sX11_mostAlike_5 d e x1 x2 x3 x4 v5 v6 = some p) (kc : Nat.beq p.1 100000 = false → Rn Γ (5) mX11_mostAlike p.1 p.2.1 [] p.2.2.1 p.2.2.2 r dF eF) (kr : p.1 = 100000 → r = a_rt p.2.1 ∧ dF = p.2.2.1 ∧ eF = p.2.2.2) : Rn Γ (5) mX11_mostAlike 5 [some (.ref 108), some (.int x1), some (.int x2), some (.int x3), some (.int x4), v5, v6] [] d e r dF eF := by
  unfold sX11_mostAlike_5 at h
  obtain ⟨g1, h⟩ := a_cond h
  refine a_ite h (fun c2 h => ?_) (fun c2 h => ?_)
  · refine bX11_mostAlike_5 (a_inb_vp g1) (fun _ => ?_) (fun z => absurd c2 z)
    cases h
    obtain ⟨k1, k2, k3⟩ := kr rfl
    exact bX11_mostAlike_115 k1 k2 k3
  · refine bX11_mostAlike_5 (a_inb_vp g1) (fun z => absurd z c2) (fun _ => ?_)
    refine bX11_mostAlike_16 ?_
    cases h
    exact kc rfl

noncomputable def sX11_mostAlike_22 (d : aI) (e : aJ) (x1 : Int32) (x2 : Int32) (x3 : Int32) (x4 : Int32) (x5 : Int32) (x6 : Int32) : Option (Nat × aL × aI × aJ) := (bif ((a_inb (nI 1) 1961)) then (if (d 109 1) ≤ x6 then (if x5 ≤ x3 then (some (5, [some (.ref 108), some (.int x1), some (.int x2), some (.int x3), some (.int (x4 + (nI 1))), some (.int x5), some (.int x6)], d, e)) else (some (5, [some (.ref 108), some (.int x1), some (.int x2), some (.int x5), some (.int (x4 + (nI 1))), some (.int x5), some (.int x6)], d, e))) else ((FX11_has d e x2 x4).bind fun q4 => (if q4.1 = 0 then (some (22, [some (.ref 108), some (.int x1), some (.int x2), some (.int x3), some (.int x4), some (.int (x5 + (nI 0))), some (.int (x6 + (nI 1)))], q4.2.1, q4.2.2)) else ((FX11_has q4.2.1 q4.2.2 x2 x6).bind fun q6 => (if q6.1 = 0 then (some (22, [some (.ref 108), some (.int x1), some (.int x2), some (.int x3), some (.int x4), some (.int (x5 + (nI 0))), some (.int (x6 + (nI 1)))], q6.2.1, q6.2.2)) else (bif ((a_inb (nI 3) 1961)) then ((FX11_takesOf q6.2.1 q6.2.2 (q6.2.1 109 3) x4 x1).bind fun q9 => (bif ((a_inb (nI 3) 1961)) then ((FX11_takesOf q9.2.1 q9.2.2 (q9.2.1 109 3) x6 x1).bind fun q11 => (if q9.1 = q11.1 then (some (22, [some (.ref 108), some (.int x1), some (.int x2), some (.int x3), some (.int x4), some (.int (x5 + (nI 1))), some (.int (x6 + (nI 1)))], q11.2.1, q11.2.2)) else (some (22, [some (.ref 108), some (.int x1), some (.int x2), some (.int x3), some (.int x4), some (.int (x5 + (nI 0))), some (.int (x6 + (nI 1)))], q11.2.1, q11.2.2)))) else none)) else none)))))) else none)
theorem tX11_mostAlike_22 {Γ : aG × Launch} {d dF : aI} {e eF : aJ} {x1 : Int32} {x2 : Int32} {x3 : Int32} {x4 : Int32} {x5 : Int32} {x6 : Int32} {r : Option Value} {p : Nat × aL × aI × aJ} (h : sX11_mostAlike_22 d e x1 x2 x3 x4 x5 x6 = some p) (kc : Nat.beq p.1 100000 = false → Rn Γ (5) mX11_mostAlike p.1 p.2.1 [] p.2.2.1 p.2.2.2 r dF eF) (kr : p.1 = 100000 → r = a_rt p.2.1 ∧ dF = p.2.2.1 ∧ eF = p.2.2.2) : Rn Γ (5) mX11_mostAlike 22 [some (.ref 108), some (.int x1), some (.int x2), some (.int x3), some (.int x4), some (.int x5), some (.int x6)] [] d e r dF eF := by
  unfold sX11_mostAlike_22 at h
  obtain ⟨g1, h⟩ := a_cond h
  refine a_ite h (fun c2 h => ?_) (fun c2 h => ?_)
  · refine bX11_mostAlike_22 (a_inb_vp g1) (fun _ => ?_) (fun z => absurd c2 z)
    refine a_ite h (fun c3 h => ?_) (fun c3 h => ?_)
    · refine bX11_mostAlike_96 (fun _ => ?_) (fun z => absurd c3 z)
      refine bX11_mostAlike_107 ?_
      refine bX11_mostAlike_108 ?_
      cases h
      exact kc rfl
    · refine bX11_mostAlike_96 (fun z => absurd z c3) (fun _ => ?_)
      refine bX11_mostAlike_102 ?_
      refine bX11_mostAlike_108 ?_
      cases h
      exact kc rfl
  · refine bX11_mostAlike_22 (a_inb_vp g1) (fun z => absurd z c2) (fun _ => ?_)
    obtain ⟨q4, hq4, h⟩ := Option.bind_eq_some_iff.mp h
    refine bX11_mostAlike_33 (evX11_has hq4) (by omega) ?_
    refine a_ite h (fun c5 h => ?_) (fun c5 h => ?_)
    · refine bX11_mostAlike_41 (fun _ => ?_) (fun z => absurd c5 z)
      refine bX11_mostAlike_86 ?_
      refine bX11_mostAlike_87 ?_
      cases h
      exact kc rfl
    · refine bX11_mostAlike_41 (fun z => absurd z c5) (fun _ => ?_)
      obtain ⟨q6, hq6, h⟩ := Option.bind_eq_some_iff.mp h
      refine bX11_mostAlike_44 (evX11_has hq6) (by omega) ?_
      refine a_ite h (fun c7 h => ?_) (fun c7 h => ?_)
      · refine bX11_mostAlike_50 (fun _ => ?_) (fun z => absurd c7 z)
        refine bX11_mostAlike_86 ?_
        refine bX11_mostAlike_87 ?_
        cases h
        exact kc rfl
      · refine bX11_mostAlike_50 (fun z => absurd z c7) (fun _ => ?_)
        obtain ⟨g8, h⟩ := a_cond h
        obtain ⟨q9, hq9, h⟩ := Option.bind_eq_some_iff.mp h
        refine bX11_mostAlike_53 (a_inb_vp g8) (evX11_takesOf hq9) (by omega) ?_
        obtain ⟨g10, h⟩ := a_cond h
        obtain ⟨q11, hq11, h⟩ := Option.bind_eq_some_iff.mp h
        refine bX11_mostAlike_66 (a_inb_vp g10) (evX11_takesOf hq11) (by omega) ?_
        refine a_ite h (fun c12 h => ?_) (fun c12 h => ?_)
        · refine bX11_mostAlike_79 (fun z => absurd c12 z) (fun _ => ?_)
          refine bX11_mostAlike_82 ?_
          refine bX11_mostAlike_87 ?_
          cases h
          exact kc rfl
        · refine bX11_mostAlike_79 (fun _ => ?_) (fun z => absurd z c12)
          refine bX11_mostAlike_86 ?_
          refine bX11_mostAlike_87 ?_
          cases h
          exact kc rfl

noncomputable def stX11_mostAlike (p : Nat × aL × aI × aJ) : Option (Nat × aL × aI × aJ) := match p with
  | (0, [some (.ref 108), some (.int x1), some (.int x2), none, none, none, none], d, e) => sX11_mostAlike_0 d e x1 x2
  | (5, [some (.ref 108), some (.int x1), some (.int x2), some (.int x3), some (.int x4), v5, v6], d, e) => sX11_mostAlike_5 d e x1 x2 x3 x4 v5 v6
  | (22, [some (.ref 108), some (.int x1), some (.int x2), some (.int x3), some (.int x4), some (.int x5), some (.int x6)], d, e) => sX11_mostAlike_22 d e x1 x2 x3 x4 x5 x6
  | _ => none
theorem uX11_mostAlike {Γ : aG × Launch} {p p2 : Nat × aL × aI × aJ} {r : Option Value} {dF : aI} {eF : aJ} (h : stX11_mostAlike p = some p2) (kc : Nat.beq p2.1 100000 = false → Rn Γ (5) mX11_mostAlike p2.1 p2.2.1 [] p2.2.2.1 p2.2.2.2 r dF eF) (kr : p2.1 = 100000 → r = a_rt p2.2.1 ∧ dF = p2.2.2.1 ∧ eF = p2.2.2.2) : Rn Γ (5) mX11_mostAlike p.1 p.2.1 [] p.2.2.1 p.2.2.2 r dF eF := by
  unfold stX11_mostAlike at h
  split at h
  · exact tX11_mostAlike_0 h kc kr
  · exact tX11_mostAlike_5 h kc kr
  · exact tX11_mostAlike_22 h kc kr
  · cases h
noncomputable def FX11_mostAlike (d : aI) (e : aJ) (x1 : Int32) (x2 : Int32) : Option (Int32 × aI × aJ) := (a_run (stX11_mostAlike) (0, [some (.ref 108), some (.int x1), some (.int x2), none, none, none, none], d, e)).bind a_xI
theorem evX11_mostAlike {Γ : aG × Launch} {d : aI} {e : aJ} {x1 : Int32} {x2 : Int32} {q : Int32 × aI × aJ} (h : FX11_mostAlike d e x1 x2 = some q) : Ev Γ (5) mX11_mostAlike [.ref 108, .int x1, .int x2] d e (some (.int q.1)) q.2.1 q.2.2 := by
  refine Ev.of (by decide) rfl (Nat.le_of_ble_eq_true rfl) (fun z => by cases z) ?_
  show Rn Γ (5) mX11_mostAlike 0 [some (.ref 108), some (.int x1), some (.int x2), none, none, none, none] [] d e _ _ _
  obtain ⟨q1, h1, h2⟩ := Option.bind_eq_some_iff.mp h
  obtain ⟨e1, e2, e3⟩ := a_xI_rt h2
  exact Rn.cast (a_run_ok (uX11_mostAlike) rfl h1) e1.symm e2.symm e3.symm
noncomputable def sX11_askNext_0 (d : aI) (e : aJ)  : Option (Nat × aL × aI × aJ) := ((FX11_which d e).bind fun q1 => ((FX11_bits q1.2.1 q1.2.2 q1.1).bind fun q2 => (if (nI 2) ≤ q2.1 then (some (24, [some (.ref 108), some (.int q1.1), some (.int (-(nI 1))), some (.int (nI 1000000)), some (.int (nI 0)), none], q2.2.1, q2.2.2)) else (some (100000, [some (.int (-(nI 1)))], q2.2.1, q2.2.2)))))
theorem tX11_askNext_0 {Γ : aG × Launch} {d dF : aI} {e eF : aJ}  {r : Option Value} {p : Nat × aL × aI × aJ} (h : sX11_askNext_0 d e  = some p) (kc : Nat.beq p.1 100000 = false → Rn Γ (6) mX11_askNext p.1 p.2.1 [] p.2.2.1 p.2.2.2 r dF eF) (kr : p.1 = 100000 → r = a_rt p.2.1 ∧ dF = p.2.2.1 ∧ eF = p.2.2.2) : Rn Γ (6) mX11_askNext 0 [some (.ref 108), none, none, none, none, none] [] d e r dF eF := by
  unfold sX11_askNext_0 at h
  obtain ⟨q1, hq1, h⟩ := Option.bind_eq_some_iff.mp h
  refine bX11_askNext_0 (evX11_which hq1) (by omega) ?_
  obtain ⟨q2, hq2, h⟩ := Option.bind_eq_some_iff.mp h
  refine bX11_askNext_4 (evX11_bits hq2) (by omega) ?_
  refine a_ite h (fun c3 h => ?_) (fun c3 h => ?_)
  · refine bX11_askNext_9 (fun _ => ?_) (fun z => absurd c3 z)
    refine bX11_askNext_15 ?_
    cases h
    exact kc rfl
  · refine bX11_askNext_9 (fun z => absurd z c3) (fun _ => ?_)
    cases h
    obtain ⟨k1, k2, k3⟩ := kr rfl
    exact bX11_askNext_13 k1 k2 k3

noncomputable def sX11_askNext_24 (d : aI) (e : aJ) (x1 : Int32) (x2 : Int32) (x3 : Int32) (x4 : Int32) (v5 : Option Value) : Option (Nat × aL × aI × aJ) := (bif ((a_inb (nI 0) 1961)) then (if (d 109 0) ≤ x4 then (some (100000, [some (.int x2)], d, e)) else ((FX11_mostAlike d e x4 x1).bind fun q3 => (if q3.1 < x3 then (some (24, [some (.ref 108), some (.int x1), some (.int x4), some (.int q3.1), some (.int (x4 + (nI 1))), some (.int q3.1)], q3.2.1, q3.2.2)) else (some (24, [some (.ref 108), some (.int x1), some (.int x2), some (.int x3), some (.int (x4 + (nI 1))), some (.int q3.1)], q3.2.1, q3.2.2))))) else none)
theorem tX11_askNext_24 {Γ : aG × Launch} {d dF : aI} {e eF : aJ} {x1 : Int32} {x2 : Int32} {x3 : Int32} {x4 : Int32} {v5 : Option Value} {r : Option Value} {p : Nat × aL × aI × aJ} (h : sX11_askNext_24 d e x1 x2 x3 x4 v5 = some p) (kc : Nat.beq p.1 100000 = false → Rn Γ (6) mX11_askNext p.1 p.2.1 [] p.2.2.1 p.2.2.2 r dF eF) (kr : p.1 = 100000 → r = a_rt p.2.1 ∧ dF = p.2.2.1 ∧ eF = p.2.2.2) : Rn Γ (6) mX11_askNext 24 [some (.ref 108), some (.int x1), some (.int x2), some (.int x3), some (.int x4), v5] [] d e r dF eF := by
  unfold sX11_askNext_24 at h
  obtain ⟨g1, h⟩ := a_cond h
  refine a_ite h (fun c2 h => ?_) (fun c2 h => ?_)
  · refine bX11_askNext_24 (a_inb_vp g1) (fun _ => ?_) (fun z => absurd c2 z)
    cases h
    obtain ⟨k1, k2, k3⟩ := kr rfl
    exact bX11_askNext_65 k1 k2 k3
  · refine bX11_askNext_24 (a_inb_vp g1) (fun z => absurd z c2) (fun _ => ?_)
    obtain ⟨q3, hq3, h⟩ := Option.bind_eq_some_iff.mp h
    refine bX11_askNext_35 (evX11_mostAlike hq3) (by omega) ?_
    refine a_ite h (fun c4 h => ?_) (fun c4 h => ?_)
    · refine bX11_askNext_42 (fun _ => ?_) (fun z => absurd c4 z)
      refine bX11_askNext_53 ?_
      refine bX11_askNext_59 ?_
      cases h
      exact kc rfl
    · refine bX11_askNext_42 (fun z => absurd z c4) (fun _ => ?_)
      refine bX11_askNext_50 ?_
      refine bX11_askNext_59 ?_
      cases h
      exact kc rfl

noncomputable def stX11_askNext (p : Nat × aL × aI × aJ) : Option (Nat × aL × aI × aJ) := match p with
  | (0, [some (.ref 108), none, none, none, none, none], d, e) => sX11_askNext_0 d e 
  | (24, [some (.ref 108), some (.int x1), some (.int x2), some (.int x3), some (.int x4), v5], d, e) => sX11_askNext_24 d e x1 x2 x3 x4 v5
  | _ => none
theorem uX11_askNext {Γ : aG × Launch} {p p2 : Nat × aL × aI × aJ} {r : Option Value} {dF : aI} {eF : aJ} (h : stX11_askNext p = some p2) (kc : Nat.beq p2.1 100000 = false → Rn Γ (6) mX11_askNext p2.1 p2.2.1 [] p2.2.2.1 p2.2.2.2 r dF eF) (kr : p2.1 = 100000 → r = a_rt p2.2.1 ∧ dF = p2.2.2.1 ∧ eF = p2.2.2.2) : Rn Γ (6) mX11_askNext p.1 p.2.1 [] p.2.2.1 p.2.2.2 r dF eF := by
  unfold stX11_askNext at h
  split at h
  · exact tX11_askNext_0 h kc kr
  · exact tX11_askNext_24 h kc kr
  · cases h
noncomputable def FX11_askNext (d : aI) (e : aJ)  : Option (Int32 × aI × aJ) := (a_run (stX11_askNext) (0, [some (.ref 108), none, none, none, none, none], d, e)).bind a_xI
theorem evX11_askNext {Γ : aG × Launch} {d : aI} {e : aJ}  {q : Int32 × aI × aJ} (h : FX11_askNext d e  = some q) : Ev Γ (6) mX11_askNext [.ref 108] d e (some (.int q.1)) q.2.1 q.2.2 := by
  refine Ev.of (by decide) rfl (Nat.le_of_ble_eq_true rfl) (fun z => by cases z) ?_
  show Rn Γ (6) mX11_askNext 0 [some (.ref 108), none, none, none, none, none] [] d e _ _ _
  obtain ⟨q1, h1, h2⟩ := Option.bind_eq_some_iff.mp h
  obtain ⟨e1, e2, e3⟩ := a_xI_rt h2
  exact Rn.cast (a_run_ok (uX11_askNext) rfl h1) e1.symm e2.symm e3.symm
noncomputable def FX11_piece (d : aI) (e : aJ) (x1 : Int32) (x2 : Int32) : Option (Int32 × aI × aJ) := ((FX11_isIn d e x1 (nI 1) (nI 4)).bind fun q1 => (if q1.1 = 0 then (some ((-(nI 1)), q1.2.1, q1.2.2)) else ((FX11_isIn q1.2.1 q1.2.2 x2 (nI 0) ((a_shl (nI 1) x1) - (nI 1))).bind fun q3 => (if q3.1 = 0 then (some ((-(nI 1)), q3.2.1, q3.2.2)) else (bif ((a_inb (nI 7) 1961)) then (if (q3.2.1 109 7) = (nI 5) then (some ((-(nI 1)), q3.2.1, q3.2.2)) else (bif ((a_inb (nI 7) 1961) && (a_inb ((nI 102) + ((nI 2) * (q3.2.1 109 7))) 1961) && (a_inb (nI 7) 1961) && (a_inb (((nI 102) + ((nI 2) * ((uI q3.2.1 109 (((nI 102) + ((nI 2) * (q3.2.1 109 7)))).toNatClampNeg x1) 109 7))) + (nI 1)) 1961) && (a_inb (nI 7) 1961) && (a_inb (nI 7) 1961) && (a_inb (nI 7) 1961)) then (some (((((uI (uI q3.2.1 109 (((nI 102) + ((nI 2) * (q3.2.1 109 7)))).toNatClampNeg x1) 109 ((((nI 102) + ((nI 2) * ((uI q3.2.1 109 (((nI 102) + ((nI 2) * (q3.2.1 109 7)))).toNatClampNeg x1) 109 7))) + (nI 1))).toNatClampNeg x2) 109 7) + (nI 1)) - (nI 1)), (uI (uI (uI q3.2.1 109 (((nI 102) + ((nI 2) * (q3.2.1 109 7)))).toNatClampNeg x1) 109 ((((nI 102) + ((nI 2) * ((uI q3.2.1 109 (((nI 102) + ((nI 2) * (q3.2.1 109 7)))).toNatClampNeg x1) 109 7))) + (nI 1))).toNatClampNeg x2) 109 7 (((uI (uI q3.2.1 109 (((nI 102) + ((nI 2) * (q3.2.1 109 7)))).toNatClampNeg x1) 109 ((((nI 102) + ((nI 2) * ((uI q3.2.1 109 (((nI 102) + ((nI 2) * (q3.2.1 109 7)))).toNatClampNeg x1) 109 7))) + (nI 1))).toNatClampNeg x2) 109 7) + (nI 1))), q3.2.2)) else none)) else none)))))
theorem evX11_piece {Γ : aG × Launch} {d : aI} {e : aJ} {x1 : Int32} {x2 : Int32} {q : Int32 × aI × aJ} (h : FX11_piece d e x1 x2 = some q) : Ev Γ (1) mX11_piece [.ref 108, .int x1, .int x2] d e (some (.int q.1)) q.2.1 q.2.2 := by
  refine Ev.of (by decide) rfl (Nat.le_of_ble_eq_true rfl) (fun z => by cases z) ?_
  show Rn Γ (1) mX11_piece 0 [some (.ref 108), some (.int x1), some (.int x2)] [] d e _ _ _
  unfold FX11_piece at h
  obtain ⟨q1, hq1, h⟩ := Option.bind_eq_some_iff.mp h
  refine bX11_piece_0 (evX11_isIn hq1) (by omega) ?_
  refine a_ite h (fun c2 h => ?_) (fun c2 h => ?_)
  · refine bX11_piece_6 (fun _ => ?_) (fun z => absurd c2 z)
    cases h
    exact bX11_piece_33
  · refine bX11_piece_6 (fun z => absurd z c2) (fun _ => ?_)
    obtain ⟨q3, hq3, h⟩ := Option.bind_eq_some_iff.mp h
    refine bX11_piece_9 (evX11_isIn hq3) (by omega) ?_
    refine a_ite h (fun c4 h => ?_) (fun c4 h => ?_)
    · refine bX11_piece_19 (fun _ => ?_) (fun z => absurd c4 z)
      cases h
      exact bX11_piece_33
    · refine bX11_piece_19 (fun z => absurd z c4) (fun _ => ?_)
      obtain ⟨g5, h⟩ := a_cond h
      refine a_ite h (fun c6 h => ?_) (fun c6 h => ?_)
      · refine bX11_piece_22 (a_inb_vp g5) (fun z => absurd c6 z) (fun _ => ?_)
        cases h
        exact bX11_piece_33
      · refine bX11_piece_22 (a_inb_vp g5) (fun _ => ?_) (fun z => absurd z c6)
        obtain ⟨g7, h⟩ := a_cond h
        obtain ⟨g7x6, g7_6⟩ := a_and g7
        obtain ⟨g7x5, g7_5⟩ := a_and g7x6
        obtain ⟨g7x4, g7_4⟩ := a_and g7x5
        obtain ⟨g7x3, g7_3⟩ := a_and g7x4
        obtain ⟨g7x2, g7_2⟩ := a_and g7x3
        obtain ⟨g7x1, g7_1⟩ := a_and g7x2
        have g7_0 := g7x1
        cases h
        exact bX11_piece_35 ⟨(a_inb_vp g7_0), (a_inb_vp g7_1), (a_inb_vp g7_2), (a_inb_vp g7_3), (a_inb_vp g7_4), (a_inb_vp g7_5), (a_inb_vp g7_6)⟩

noncomputable def sX11_pieceBy_0 (d : aI) (e : aJ) (x1 : Int32) (x2 : Int32) : Option (Nat × aL × aI × aJ) := (bif ((a_inb (nI 7) 1961)) then (some (13, [some (.ref 108), some (.int x1), some (.int x2), some (.int x1), some (.int ((d 109 7) - (nI 1)))], d, e)) else none)
theorem tX11_pieceBy_0 {Γ : aG × Launch} {d dF : aI} {e eF : aJ} {x1 : Int32} {x2 : Int32} {r : Option Value} {p : Nat × aL × aI × aJ} (h : sX11_pieceBy_0 d e x1 x2 = some p) (kc : Nat.beq p.1 100000 = false → Rn Γ (0) mX11_pieceBy p.1 p.2.1 [] p.2.2.1 p.2.2.2 r dF eF) (kr : p.1 = 100000 → r = a_rt p.2.1 ∧ dF = p.2.2.1 ∧ eF = p.2.2.2) : Rn Γ (0) mX11_pieceBy 0 [some (.ref 108), some (.int x1), some (.int x2), none, none] [] d e r dF eF := by
  unfold sX11_pieceBy_0 at h
  obtain ⟨g1, h⟩ := a_cond h
  refine bX11_pieceBy_0 (a_inb_vp g1) ?_
  cases h
  exact kc rfl

noncomputable def sX11_pieceBy_13 (d : aI) (e : aJ) (x1 : Int32) (x2 : Int32) (x3 : Int32) (x4 : Int32) : Option (Nat × aL × aI × aJ) := (if x4 ≤ x2 then (bif ((decide (¬ (nI 5) = 0))) then (some (100000, [some (.int (a_irm x3 (nI 5)))], d, e)) else none) else (bif ((decide (¬ (nI 5) = 0))) then (some (13, [some (.ref 108), some (.int x1), some (.int x2), some (.int (x3 / (nI 5))), some (.int (x4 + (-(nI 1))))], d, e)) else none))
theorem tX11_pieceBy_13 {Γ : aG × Launch} {d dF : aI} {e eF : aJ} {x1 : Int32} {x2 : Int32} {x3 : Int32} {x4 : Int32} {r : Option Value} {p : Nat × aL × aI × aJ} (h : sX11_pieceBy_13 d e x1 x2 x3 x4 = some p) (kc : Nat.beq p.1 100000 = false → Rn Γ (0) mX11_pieceBy p.1 p.2.1 [] p.2.2.1 p.2.2.2 r dF eF) (kr : p.1 = 100000 → r = a_rt p.2.1 ∧ dF = p.2.2.1 ∧ eF = p.2.2.2) : Rn Γ (0) mX11_pieceBy 13 [some (.ref 108), some (.int x1), some (.int x2), some (.int x3), some (.int x4)] [] d e r dF eF := by
  unfold sX11_pieceBy_13 at h
  refine a_ite h (fun c1 h => ?_) (fun c1 h => ?_)
  · refine bX11_pieceBy_13 (fun _ => ?_) (fun z => absurd c1 z)
    obtain ⟨g2, h⟩ := a_cond h
    cases h
    obtain ⟨k1, k2, k3⟩ := kr rfl
    exact bX11_pieceBy_29 (of_decide_eq_true g2) k1 k2 k3
  · refine bX11_pieceBy_13 (fun z => absurd z c1) (fun _ => ?_)
    obtain ⟨g3, h⟩ := a_cond h
    refine bX11_pieceBy_19 (of_decide_eq_true g3) ?_
    cases h
    exact kc rfl

noncomputable def stX11_pieceBy (p : Nat × aL × aI × aJ) : Option (Nat × aL × aI × aJ) := match p with
  | (0, [some (.ref 108), some (.int x1), some (.int x2), none, none], d, e) => sX11_pieceBy_0 d e x1 x2
  | (13, [some (.ref 108), some (.int x1), some (.int x2), some (.int x3), some (.int x4)], d, e) => sX11_pieceBy_13 d e x1 x2 x3 x4
  | _ => none
theorem uX11_pieceBy {Γ : aG × Launch} {p p2 : Nat × aL × aI × aJ} {r : Option Value} {dF : aI} {eF : aJ} (h : stX11_pieceBy p = some p2) (kc : Nat.beq p2.1 100000 = false → Rn Γ (0) mX11_pieceBy p2.1 p2.2.1 [] p2.2.2.1 p2.2.2.2 r dF eF) (kr : p2.1 = 100000 → r = a_rt p2.2.1 ∧ dF = p2.2.2.1 ∧ eF = p2.2.2.2) : Rn Γ (0) mX11_pieceBy p.1 p.2.1 [] p.2.2.1 p.2.2.2 r dF eF := by
  unfold stX11_pieceBy at h
  split at h
  · exact tX11_pieceBy_0 h kc kr
  · exact tX11_pieceBy_13 h kc kr
  · cases h
noncomputable def FX11_pieceBy (d : aI) (e : aJ) (x1 : Int32) (x2 : Int32) : Option (Int32 × aI × aJ) := (a_run (stX11_pieceBy) (0, [some (.ref 108), some (.int x1), some (.int x2), none, none], d, e)).bind a_xI
theorem evX11_pieceBy {Γ : aG × Launch} {d : aI} {e : aJ} {x1 : Int32} {x2 : Int32} {q : Int32 × aI × aJ} (h : FX11_pieceBy d e x1 x2 = some q) : Ev Γ (0) mX11_pieceBy [.ref 108, .int x1, .int x2] d e (some (.int q.1)) q.2.1 q.2.2 := by
  refine Ev.of (by decide) rfl (Nat.le_of_ble_eq_true rfl) (fun z => by cases z) ?_
  show Rn Γ (0) mX11_pieceBy 0 [some (.ref 108), some (.int x1), some (.int x2), none, none] [] d e _ _ _
  obtain ⟨q1, h1, h2⟩ := Option.bind_eq_some_iff.mp h
  obtain ⟨e1, e2, e3⟩ := a_xI_rt h2
  exact Rn.cast (a_run_ok (uX11_pieceBy) rfl h1) e1.symm e2.symm e3.symm
noncomputable def FX11_firstBit (d : aI) (e : aJ) (x1 : Int32) : Option (Int32 × aI × aJ) := (bif ((a_inb (((nI 102) + ((nI 2) * x1)) + (nI 1)) 1961) && (a_inb ((nI 102) + ((nI 2) * x1)) 1961)) then (some (((a_shr (d 109 ((((nI 102) + ((nI 2) * x1)) + (nI 1))).toNatClampNeg) ((d 109 (((nI 102) + ((nI 2) * x1))).toNatClampNeg) - (nI 1))) &&& (nI 1)), d, e)) else none)
theorem evX11_firstBit {Γ : aG × Launch} {d : aI} {e : aJ} {x1 : Int32} {q : Int32 × aI × aJ} (h : FX11_firstBit d e x1 = some q) : Ev Γ (0) mX11_firstBit [.ref 108, .int x1] d e (some (.int q.1)) q.2.1 q.2.2 := by
  refine Ev.of (by decide) rfl (Nat.le_of_ble_eq_true rfl) (fun z => by cases z) ?_
  show Rn Γ (0) mX11_firstBit 0 [some (.ref 108), some (.int x1)] [] d e _ _ _
  unfold FX11_firstBit at h
  obtain ⟨g1, h⟩ := a_cond h
  obtain ⟨g1x1, g1_1⟩ := a_and g1
  have g1_0 := g1x1
  cases h
  exact bX11_firstBit_0 ⟨(a_inb_vp g1_0), (a_inb_vp g1_1)⟩

noncomputable def sX11_areJoined_0 (d : aI) (e : aJ) (x1 : Int32) : Option (Nat × aL × aI × aJ) := (some (4, [some (.ref 108), some (.int x1), some (.int (nI 0)), some (.int (nI 0)), none], d, e))
theorem tX11_areJoined_0 {Γ : aG × Launch} {d dF : aI} {e eF : aJ} {x1 : Int32} {r : Option Value} {p : Nat × aL × aI × aJ} (h : sX11_areJoined_0 d e x1 = some p) (kc : Nat.beq p.1 100000 = false → Rn Γ (1) mX11_areJoined p.1 p.2.1 [] p.2.2.1 p.2.2.2 r dF eF) (kr : p.1 = 100000 → r = a_rt p.2.1 ∧ dF = p.2.2.1 ∧ eF = p.2.2.2) : Rn Γ (1) mX11_areJoined 0 [some (.ref 108), some (.int x1), none, none, none] [] d e r dF eF := by
  unfold sX11_areJoined_0 at h
  refine bX11_areJoined_0 ?_
  cases h
  exact kc rfl

noncomputable def sX11_areJoined_4 (d : aI) (e : aJ) (x1 : Int32) (x2 : Int32) (x3 : Int32) (v4 : Option Value) : Option (Nat × aL × aI × aJ) := (bif ((a_inb (nI 7) 1961)) then (if (d 109 7) ≤ x3 then (some (100000, [some (.int (nI 1))], d, e)) else ((FX11_pieceBy d e x1 x3).bind fun q3 => (bif ((a_inb (nI 7) 1961)) then (if (q3.2.1 109 7) ≤ q3.1 then (some (100000, [some (.int (nI 0))], q3.2.1, q3.2.2)) else ((FX11_has q3.2.1 q3.2.2 x2 q3.1).bind fun q6 => (if q6.1 = 0 then (if x3 ≤ 0 then (some (4, [some (.ref 108), some (.int x1), some (.int (x2 ||| (a_shl (nI 1) q3.1))), some (.int (x3 + (nI 1))), some (.int q3.1)], q6.2.1, q6.2.2)) else ((FX11_pieceBy q6.2.1 q6.2.2 x1 (x3 - (nI 1))).bind fun q9 => (bif ((a_inb (((nI 102) + ((nI 2) * q9.1)) + (nI 1)) 1961)) then ((FX11_firstBit q9.2.1 q9.2.2 q3.1).bind fun q11 => (if ((q9.2.1 109 ((((nI 102) + ((nI 2) * q9.1)) + (nI 1))).toNatClampNeg) &&& (nI 1)) = q11.1 then (some (4, [some (.ref 108), some (.int x1), some (.int (x2 ||| (a_shl (nI 1) q3.1))), some (.int (x3 + (nI 1))), some (.int q3.1)], q11.2.1, q11.2.2)) else (some (100000, [some (.int (nI 0))], q11.2.1, q11.2.2)))) else none))) else (some (100000, [some (.int (nI 0))], q6.2.1, q6.2.2))))) else none))) else none)
theorem tX11_areJoined_4 {Γ : aG × Launch} {d dF : aI} {e eF : aJ} {x1 : Int32} {x2 : Int32} {x3 : Int32} {v4 : Option Value} {r : Option Value} {p : Nat × aL × aI × aJ} (h : sX11_areJoined_4 d e x1 x2 x3 v4 = some p) (kc : Nat.beq p.1 100000 = false → Rn Γ (1) mX11_areJoined p.1 p.2.1 [] p.2.2.1 p.2.2.2 r dF eF) (kr : p.1 = 100000 → r = a_rt p.2.1 ∧ dF = p.2.2.1 ∧ eF = p.2.2.2) : Rn Γ (1) mX11_areJoined 4 [some (.ref 108), some (.int x1), some (.int x2), some (.int x3), v4] [] d e r dF eF := by
  unfold sX11_areJoined_4 at h
  obtain ⟨g1, h⟩ := a_cond h
  refine a_ite h (fun c2 h => ?_) (fun c2 h => ?_)
  · refine bX11_areJoined_4 (a_inb_vp g1) (fun _ => ?_) (fun z => absurd c2 z)
    cases h
    obtain ⟨k1, k2, k3⟩ := kr rfl
    exact bX11_areJoined_96 k1 k2 k3
  · refine bX11_areJoined_4 (a_inb_vp g1) (fun z => absurd z c2) (fun _ => ?_)
    obtain ⟨q3, hq3, h⟩ := Option.bind_eq_some_iff.mp h
    refine bX11_areJoined_15 (evX11_pieceBy hq3) (by omega) ?_
    obtain ⟨g4, h⟩ := a_cond h
    refine a_ite h (fun c5 h => ?_) (fun c5 h => ?_)
    · refine bX11_areJoined_21 (a_inb_vp g4) (fun _ => ?_) (fun z => absurd c5 z)
      cases h
      obtain ⟨k1, k2, k3⟩ := kr rfl
      exact bX11_areJoined_44 k1 k2 k3
    · refine bX11_areJoined_21 (a_inb_vp g4) (fun z => absurd z c5) (fun _ => ?_)
      obtain ⟨q6, hq6, h⟩ := Option.bind_eq_some_iff.mp h
      refine bX11_areJoined_35 (evX11_has hq6) (by omega) ?_
      refine a_ite h (fun c7 h => ?_) (fun c7 h => ?_)
      · refine bX11_areJoined_41 (fun _ => ?_) (fun z => absurd c7 z)
        refine a_ite h (fun c8 h => ?_) (fun c8 h => ?_)
        · refine bX11_areJoined_46 (fun _ => ?_) (fun z => absurd c8 z)
          refine bX11_areJoined_90 ?_
          cases h
          exact kc rfl
        · refine bX11_areJoined_46 (fun z => absurd z c8) (fun _ => ?_)
          obtain ⟨q9, hq9, h⟩ := Option.bind_eq_some_iff.mp h
          refine bX11_areJoined_57 (evX11_pieceBy hq9) (by omega) ?_
          obtain ⟨g10, h⟩ := a_cond h
          obtain ⟨q11, hq11, h⟩ := Option.bind_eq_some_iff.mp h
          refine bX11_areJoined_72 (a_inb_vp g10) (evX11_firstBit hq11) (by omega) ?_
          refine a_ite h (fun c12 h => ?_) (fun c12 h => ?_)
          · refine bX11_areJoined_85 (fun _ => ?_) (fun z => absurd c12 z)
            refine bX11_areJoined_90 ?_
            cases h
            exact kc rfl
          · refine bX11_areJoined_85 (fun z => absurd z c12) (fun _ => ?_)
            cases h
            obtain ⟨k1, k2, k3⟩ := kr rfl
            exact bX11_areJoined_88 k1 k2 k3
      · refine bX11_areJoined_41 (fun z => absurd z c7) (fun _ => ?_)
        cases h
        obtain ⟨k1, k2, k3⟩ := kr rfl
        exact bX11_areJoined_44 k1 k2 k3

noncomputable def stX11_areJoined (p : Nat × aL × aI × aJ) : Option (Nat × aL × aI × aJ) := match p with
  | (0, [some (.ref 108), some (.int x1), none, none, none], d, e) => sX11_areJoined_0 d e x1
  | (4, [some (.ref 108), some (.int x1), some (.int x2), some (.int x3), v4], d, e) => sX11_areJoined_4 d e x1 x2 x3 v4
  | _ => none
theorem uX11_areJoined {Γ : aG × Launch} {p p2 : Nat × aL × aI × aJ} {r : Option Value} {dF : aI} {eF : aJ} (h : stX11_areJoined p = some p2) (kc : Nat.beq p2.1 100000 = false → Rn Γ (1) mX11_areJoined p2.1 p2.2.1 [] p2.2.2.1 p2.2.2.2 r dF eF) (kr : p2.1 = 100000 → r = a_rt p2.2.1 ∧ dF = p2.2.2.1 ∧ eF = p2.2.2.2) : Rn Γ (1) mX11_areJoined p.1 p.2.1 [] p.2.2.1 p.2.2.2 r dF eF := by
  unfold stX11_areJoined at h
  split at h
  · exact tX11_areJoined_0 h kc kr
  · exact tX11_areJoined_4 h kc kr
  · cases h
noncomputable def FX11_areJoined (d : aI) (e : aJ) (x1 : Int32) : Option (Int32 × aI × aJ) := (a_run (stX11_areJoined) (0, [some (.ref 108), some (.int x1), none, none, none], d, e)).bind a_xI
theorem evX11_areJoined {Γ : aG × Launch} {d : aI} {e : aJ} {x1 : Int32} {q : Int32 × aI × aJ} (h : FX11_areJoined d e x1 = some q) : Ev Γ (1) mX11_areJoined [.ref 108, .int x1] d e (some (.int q.1)) q.2.1 q.2.2 := by
  refine Ev.of (by decide) rfl (Nat.le_of_ble_eq_true rfl) (fun z => by cases z) ?_
  show Rn Γ (1) mX11_areJoined 0 [some (.ref 108), some (.int x1), none, none, none] [] d e _ _ _
  obtain ⟨q1, h1, h2⟩ := Option.bind_eq_some_iff.mp h
  obtain ⟨e1, e2, e3⟩ := a_xI_rt h2
  exact Rn.cast (a_run_ok (uX11_areJoined) rfl h1) e1.symm e2.symm e3.symm
noncomputable def sX11_layJoins_0 (d : aI) (e : aJ)  : Option (Nat × aL × aI × aJ) := (some (4, [some (.ref 108), some (.int (nI 1)), some (.int (nI 0))], d, e))
theorem tX11_layJoins_0 {Γ : aG × Launch} {d dF : aI} {e eF : aJ}  {r : Option Value} {p : Nat × aL × aI × aJ} (h : sX11_layJoins_0 d e  = some p) (kc : Nat.beq p.1 100000 = false → Rn Γ (2) mX11_layJoins p.1 p.2.1 [] p.2.2.1 p.2.2.2 r dF eF) (kr : p.1 = 100000 → r = a_rt p.2.1 ∧ dF = p.2.2.1 ∧ eF = p.2.2.2) : Rn Γ (2) mX11_layJoins 0 [some (.ref 108), none, none] [] d e r dF eF := by
  unfold sX11_layJoins_0 at h
  refine bX11_layJoins_0 ?_
  cases h
  exact kc rfl

noncomputable def sX11_layJoins_4 (d : aI) (e : aJ) (x1 : Int32) (x2 : Int32) : Option (Nat × aL × aI × aJ) := (bif ((a_inb (nI 7) 1961)) then (if (d 109 7) ≤ x2 then (some (37, [some (.ref 108), some (.int x1), some (.int (nI 0))], (uI (uI d 108 30 (-(nI 1))) 108 31 (nI 0)), e)) else (some (4, [some (.ref 108), some (.int (x1 * (nI 5))), some (.int (x2 + (nI 1)))], d, e))) else none)
theorem tX11_layJoins_4 {Γ : aG × Launch} {d dF : aI} {e eF : aJ} {x1 : Int32} {x2 : Int32} {r : Option Value} {p : Nat × aL × aI × aJ} (h : sX11_layJoins_4 d e x1 x2 = some p) (kc : Nat.beq p.1 100000 = false → Rn Γ (2) mX11_layJoins p.1 p.2.1 [] p.2.2.1 p.2.2.2 r dF eF) (kr : p.1 = 100000 → r = a_rt p.2.1 ∧ dF = p.2.2.1 ∧ eF = p.2.2.2) : Rn Γ (2) mX11_layJoins 4 [some (.ref 108), some (.int x1), some (.int x2)] [] d e r dF eF := by
  unfold sX11_layJoins_4 at h
  obtain ⟨g1, h⟩ := a_cond h
  refine a_ite h (fun c2 h => ?_) (fun c2 h => ?_)
  · refine bX11_layJoins_4 (a_inb_vp g1) (fun _ => ?_) (fun z => absurd c2 z)
    refine bX11_layJoins_25 ?_
    cases h
    exact kc rfl
  · refine bX11_layJoins_4 (a_inb_vp g1) (fun z => absurd z c2) (fun _ => ?_)
    refine bX11_layJoins_15 ?_
    cases h
    exact kc rfl

noncomputable def sX11_layJoins_37 (d : aI) (e : aJ) (x1 : Int32) (x2 : Int32) : Option (Nat × aL × aI × aJ) := (if x1 ≤ x2 then (some (100000, [], d, e)) else ((FX11_areJoined d e x2).bind fun q2 => (if q2.1 = 0 then (some (37, [some (.ref 108), some (.int x1), some (.int (x2 + (nI 1)))], q2.2.1, q2.2.2)) else (if (q2.2.1 108 30) = (-(nI 1)) then (some (37, [some (.ref 108), some (.int x1), some (.int (x2 + (nI 1)))], (uI (uI q2.2.1 108 30 x2) 108 31 (((uI q2.2.1 108 30 x2) 108 31) + (nI 1))), q2.2.2)) else (some (37, [some (.ref 108), some (.int x1), some (.int (x2 + (nI 1)))], (uI q2.2.1 108 31 ((q2.2.1 108 31) + (nI 1))), q2.2.2))))))
theorem tX11_layJoins_37 {Γ : aG × Launch} {d dF : aI} {e eF : aJ} {x1 : Int32} {x2 : Int32} {r : Option Value} {p : Nat × aL × aI × aJ} (h : sX11_layJoins_37 d e x1 x2 = some p) (kc : Nat.beq p.1 100000 = false → Rn Γ (2) mX11_layJoins p.1 p.2.1 [] p.2.2.1 p.2.2.2 r dF eF) (kr : p.1 = 100000 → r = a_rt p.2.1 ∧ dF = p.2.2.1 ∧ eF = p.2.2.2) : Rn Γ (2) mX11_layJoins 37 [some (.ref 108), some (.int x1), some (.int x2)] [] d e r dF eF := by
  unfold sX11_layJoins_37 at h
  refine a_ite h (fun c1 h => ?_) (fun c1 h => ?_)
  · refine bX11_layJoins_37 (fun _ => ?_) (fun z => absurd c1 z)
    cases h
    obtain ⟨k1, k2, k3⟩ := kr rfl
    exact bX11_layJoins_82 k1 k2 k3
  · refine bX11_layJoins_37 (fun z => absurd z c1) (fun _ => ?_)
    obtain ⟨q2, hq2, h⟩ := Option.bind_eq_some_iff.mp h
    refine bX11_layJoins_42 (evX11_areJoined hq2) (by omega) ?_
    refine a_ite h (fun c3 h => ?_) (fun c3 h => ?_)
    · refine bX11_layJoins_47 (fun z => absurd c3 z) (fun _ => ?_)
      refine bX11_layJoins_50 ?_
      refine bX11_layJoins_76 ?_
      cases h
      exact kc rfl
    · refine bX11_layJoins_47 (fun _ => ?_) (fun z => absurd z c3)
      refine a_ite h (fun c4 h => ?_) (fun c4 h => ?_)
      · refine bX11_layJoins_53 (fun z => absurd c4 z) (fun _ => ?_)
        refine bX11_layJoins_61 ?_
        refine bX11_layJoins_66 ?_
        refine bX11_layJoins_76 ?_
        cases h
        exact kc rfl
      · refine bX11_layJoins_53 (fun _ => ?_) (fun z => absurd z c4)
        refine bX11_layJoins_66 ?_
        refine bX11_layJoins_76 ?_
        cases h
        exact kc rfl

noncomputable def stX11_layJoins (p : Nat × aL × aI × aJ) : Option (Nat × aL × aI × aJ) := match p with
  | (0, [some (.ref 108), none, none], d, e) => sX11_layJoins_0 d e 
  | (4, [some (.ref 108), some (.int x1), some (.int x2)], d, e) => sX11_layJoins_4 d e x1 x2
  | (37, [some (.ref 108), some (.int x1), some (.int x2)], d, e) => sX11_layJoins_37 d e x1 x2
  | _ => none
theorem uX11_layJoins {Γ : aG × Launch} {p p2 : Nat × aL × aI × aJ} {r : Option Value} {dF : aI} {eF : aJ} (h : stX11_layJoins p = some p2) (kc : Nat.beq p2.1 100000 = false → Rn Γ (2) mX11_layJoins p2.1 p2.2.1 [] p2.2.2.1 p2.2.2.2 r dF eF) (kr : p2.1 = 100000 → r = a_rt p2.2.1 ∧ dF = p2.2.2.1 ∧ eF = p2.2.2.2) : Rn Γ (2) mX11_layJoins p.1 p.2.1 [] p.2.2.1 p.2.2.2 r dF eF := by
  unfold stX11_layJoins at h
  split at h
  · exact tX11_layJoins_0 h kc kr
  · exact tX11_layJoins_4 h kc kr
  · exact tX11_layJoins_37 h kc kr
  · cases h
noncomputable def FX11_layJoins (d : aI) (e : aJ)  : Option (Unit × aI × aJ) := (a_run (stX11_layJoins) (0, [some (.ref 108), none, none], d, e)).bind a_xV
theorem evX11_layJoins {Γ : aG × Launch} {d : aI} {e : aJ}  {q : Unit × aI × aJ} (h : FX11_layJoins d e  = some q) : Ev Γ (2) mX11_layJoins [.ref 108] d e none q.2.1 q.2.2 := by
  refine Ev.of (by decide) rfl (Nat.le_of_ble_eq_true rfl) (fun z => by cases z) ?_
  show Rn Γ (2) mX11_layJoins 0 [some (.ref 108), none, none] [] d e _ _ _
  obtain ⟨q1, h1, h2⟩ := Option.bind_eq_some_iff.mp h
  obtain ⟨e1, e2, e3⟩ := a_xV_rt h2
  exact Rn.cast (a_run_ok (uX11_layJoins) rfl h1) e1.symm e2.symm e3.symm
noncomputable def FX11_joins (d : aI) (e : aJ) (x1 : Int32) : Option (Int32 × aI × aJ) := ((FX11_layJoins d e).bind fun q1 => (if x1 = (-(nI 1)) then (some ((q1.2.1 108 31), q1.2.1, q1.2.2)) else (if (q1.2.1 108 31) ≤ 0 then (some ((-(nI 2)), q1.2.1, q1.2.2)) else (bif ((a_inb (nI 7) 1961)) then ((FX11_isIn q1.2.1 q1.2.2 x1 (nI 0) ((q1.2.1 109 7) - (nI 1))).bind fun q5 => (if q5.1 = 0 then (some ((-(nI 2)), q5.2.1, q5.2.2)) else ((FX11_pieceBy q5.2.1 q5.2.2 (q5.2.1 108 30) x1).bind fun q7 => (some (q7.1, q7.2.1, q7.2.2))))) else none))))
theorem evX11_joins {Γ : aG × Launch} {d : aI} {e : aJ} {x1 : Int32} {q : Int32 × aI × aJ} (h : FX11_joins d e x1 = some q) : Ev Γ (3) mX11_joins [.ref 108, .int x1] d e (some (.int q.1)) q.2.1 q.2.2 := by
  refine Ev.of (by decide) rfl (Nat.le_of_ble_eq_true rfl) (fun z => by cases z) ?_
  show Rn Γ (3) mX11_joins 0 [some (.ref 108), some (.int x1)] [] d e _ _ _
  unfold FX11_joins at h
  obtain ⟨q1, hq1, h⟩ := Option.bind_eq_some_iff.mp h
  refine bX11_joins_0 (evX11_layJoins hq1) (by omega) ?_
  refine a_ite h (fun c2 h => ?_) (fun c2 h => ?_)
  · refine bX11_joins_4 (fun z => absurd c2 z) (fun _ => ?_)
    cases h
    exact bX11_joins_9
  · refine bX11_joins_4 (fun _ => ?_) (fun z => absurd z c2)
    refine a_ite h (fun c3 h => ?_) (fun c3 h => ?_)
    · refine bX11_joins_14 (fun _ => ?_) (fun z => absurd c3 z)
      refine bX11_joins_50 ?_
      cases h
      exact bX11_joins_52
    · refine bX11_joins_14 (fun z => absurd z c3) (fun _ => ?_)
      obtain ⟨g4, h⟩ := a_cond h
      obtain ⟨q5, hq5, h⟩ := Option.bind_eq_some_iff.mp h
      refine bX11_joins_21 (a_inb_vp g4) (evX11_isIn hq5) (by omega) ?_
      refine a_ite h (fun c6 h => ?_) (fun c6 h => ?_)
      · refine bX11_joins_35 (fun _ => ?_) (fun z => absurd c6 z)
        refine bX11_joins_50 ?_
        cases h
        exact bX11_joins_52
      · refine bX11_joins_35 (fun z => absurd z c6) (fun _ => ?_)
        obtain ⟨q7, hq7, h⟩ := Option.bind_eq_some_iff.mp h
        refine bX11_joins_38 (evX11_pieceBy hq7) (by omega) ?_
        refine bX11_joins_47 ?_
        cases h
        exact bX11_joins_52

noncomputable def sX11_dream_0 (d : aI) (e : aJ)  : Option (Nat × aL × aI × aJ) := ((FX11_layJoins d e).bind fun q1 => (if (q1.2.1 108 31) = 0 then (some (100000, [some (.long (-(lN 1)))], q1.2.1, q1.2.2)) else (some (19, [some (.ref 108), some (.long (lN 0)), none, some (.int (nI 0)), none, none], q1.2.1, q1.2.2))))
theorem tX11_dream_0 {Γ : aG × Launch} {d dF : aI} {e eF : aJ}  {r : Option Value} {p : Nat × aL × aI × aJ} (h : sX11_dream_0 d e  = some p) (kc : Nat.beq p.1 100000 = false → Rn Γ (3) mX11_dream p.1 p.2.1 [] p.2.2.1 p.2.2.2 r dF eF) (kr : p.1 = 100000 → r = a_rt p.2.1 ∧ dF = p.2.2.1 ∧ eF = p.2.2.2) : Rn Γ (3) mX11_dream 0 [some (.ref 108), none, none, none, none, none] [] d e r dF eF := by
  unfold sX11_dream_0 at h
  obtain ⟨q1, hq1, h⟩ := Option.bind_eq_some_iff.mp h
  refine bX11_dream_0 (evX11_layJoins hq1) (by omega) ?_
  refine a_ite h (fun c2 h => ?_) (fun c2 h => ?_)
  · refine bX11_dream_4 (fun z => absurd c2 z) (fun _ => ?_)
    cases h
    obtain ⟨k1, k2, k3⟩ := kr rfl
    exact bX11_dream_11 k1 k2 k3
  · refine bX11_dream_4 (fun _ => ?_) (fun z => absurd z c2)
    refine bX11_dream_15 ?_
    cases h
    exact kc rfl

noncomputable def sX11_dream_19 (d : aI) (e : aJ) (y1 : Int64) (x3 : Int32) (v4 : Option Value) (v5 : Option Value) : Option (Nat × aL × aI × aJ) := (bif ((a_inb (nI 7) 1961)) then (if (d 109 7) ≤ x3 then (some (100000, [some (.long y1)], d, e)) else ((FX11_pieceBy d e (d 108 30) x3).bind fun q3 => (bif ((a_inb ((nI 102) + ((nI 2) * q3.1)) 1961)) then (if x3 = 0 then (bif ((a_inb (((nI 102) + ((nI 2) * q3.1)) + (nI 1)) 1961)) then (some (19, [some (.ref 108), some (.long ((a_jshl y1 ((q3.2.1 109 (((nI 102) + ((nI 2) * q3.1))).toNatClampNeg) - (nI 0))) + (Int32.toInt64 ((q3.2.1 109 ((((nI 102) + ((nI 2) * q3.1)) + (nI 1))).toNatClampNeg) &&& ((a_shl (nI 1) ((q3.2.1 109 (((nI 102) + ((nI 2) * q3.1))).toNatClampNeg) - (nI 0))) - (nI 1)))))), none, some (.int (x3 + (nI 1))), some (.int q3.1), some (.int ((q3.2.1 109 (((nI 102) + ((nI 2) * q3.1))).toNatClampNeg) - (nI 0)))], q3.2.1, q3.2.2)) else none) else (bif ((a_inb (((nI 102) + ((nI 2) * q3.1)) + (nI 1)) 1961)) then (some (19, [some (.ref 108), some (.long ((a_jshl y1 ((q3.2.1 109 (((nI 102) + ((nI 2) * q3.1))).toNatClampNeg) - (nI 1))) + (Int32.toInt64 ((q3.2.1 109 ((((nI 102) + ((nI 2) * q3.1)) + (nI 1))).toNatClampNeg) &&& ((a_shl (nI 1) ((q3.2.1 109 (((nI 102) + ((nI 2) * q3.1))).toNatClampNeg) - (nI 1))) - (nI 1)))))), none, some (.int (x3 + (nI 1))), some (.int q3.1), some (.int ((q3.2.1 109 (((nI 102) + ((nI 2) * q3.1))).toNatClampNeg) - (nI 1)))], q3.2.1, q3.2.2)) else none)) else none))) else none)
theorem tX11_dream_19 {Γ : aG × Launch} {d dF : aI} {e eF : aJ} {y1 : Int64} {x3 : Int32} {v4 : Option Value} {v5 : Option Value} {r : Option Value} {p : Nat × aL × aI × aJ} (h : sX11_dream_19 d e y1 x3 v4 v5 = some p) (kc : Nat.beq p.1 100000 = false → Rn Γ (3) mX11_dream p.1 p.2.1 [] p.2.2.1 p.2.2.2 r dF eF) (kr : p.1 = 100000 → r = a_rt p.2.1 ∧ dF = p.2.2.1 ∧ eF = p.2.2.2) : Rn Γ (3) mX11_dream 19 [some (.ref 108), some (.long y1), none, some (.int x3), v4, v5] [] d e r dF eF := by
  unfold sX11_dream_19 at h
  obtain ⟨g1, h⟩ := a_cond h
  refine a_ite h (fun c2 h => ?_) (fun c2 h => ?_)
  · refine bX11_dream_19 (a_inb_vp g1) (fun _ => ?_) (fun z => absurd c2 z)
    cases h
    obtain ⟨k1, k2, k3⟩ := kr rfl
    exact bX11_dream_99 k1 k2 k3
  · refine bX11_dream_19 (a_inb_vp g1) (fun z => absurd z c2) (fun _ => ?_)
    obtain ⟨q3, hq3, h⟩ := Option.bind_eq_some_iff.mp h
    refine bX11_dream_30 (evX11_pieceBy hq3) (by omega) ?_
    obtain ⟨g4, h⟩ := a_cond h
    refine a_ite h (fun c5 h => ?_) (fun c5 h => ?_)
    · refine bX11_dream_39 (a_inb_vp g4) (fun z => absurd c5 z) (fun _ => ?_)
      refine bX11_dream_57 ?_
      obtain ⟨g6, h⟩ := a_cond h
      refine bX11_dream_62 (a_inb_vp g6) ?_
      cases h
      exact kc rfl
    · refine bX11_dream_39 (a_inb_vp g4) (fun _ => ?_) (fun z => absurd z c5)
      refine bX11_dream_61 ?_
      obtain ⟨g7, h⟩ := a_cond h
      refine bX11_dream_62 (a_inb_vp g7) ?_
      cases h
      exact kc rfl

noncomputable def stX11_dream (p : Nat × aL × aI × aJ) : Option (Nat × aL × aI × aJ) := match p with
  | (0, [some (.ref 108), none, none, none, none, none], d, e) => sX11_dream_0 d e 
  | (19, [some (.ref 108), some (.long y1), none, some (.int x3), v4, v5], d, e) => sX11_dream_19 d e y1 x3 v4 v5
  | _ => none
theorem uX11_dream {Γ : aG × Launch} {p p2 : Nat × aL × aI × aJ} {r : Option Value} {dF : aI} {eF : aJ} (h : stX11_dream p = some p2) (kc : Nat.beq p2.1 100000 = false → Rn Γ (3) mX11_dream p2.1 p2.2.1 [] p2.2.2.1 p2.2.2.2 r dF eF) (kr : p2.1 = 100000 → r = a_rt p2.2.1 ∧ dF = p2.2.2.1 ∧ eF = p2.2.2.2) : Rn Γ (3) mX11_dream p.1 p.2.1 [] p.2.2.1 p.2.2.2 r dF eF := by
  unfold stX11_dream at h
  split at h
  · exact tX11_dream_0 h kc kr
  · exact tX11_dream_19 h kc kr
  · cases h
noncomputable def FX11_dream (d : aI) (e : aJ)  : Option (Int64 × aI × aJ) := (a_run (stX11_dream) (0, [some (.ref 108), none, none, none, none, none], d, e)).bind a_xJ
theorem evX11_dream {Γ : aG × Launch} {d : aI} {e : aJ}  {q : Int64 × aI × aJ} (h : FX11_dream d e  = some q) : Ev Γ (3) mX11_dream [.ref 108] d e (some (.long q.1)) q.2.1 q.2.2 := by
  refine Ev.of (by decide) rfl (Nat.le_of_ble_eq_true rfl) (fun z => by cases z) ?_
  show Rn Γ (3) mX11_dream 0 [some (.ref 108), none, none, none, none, none] [] d e _ _ _
  obtain ⟨q1, h1, h2⟩ := Option.bind_eq_some_iff.mp h
  obtain ⟨e1, e2, e3⟩ := a_xJ_rt h2
  exact Rn.cast (a_run_ok (uX11_dream) rfl h1) e1.symm e2.symm e3.symm
noncomputable def sX11_price_0 (d : aI) (e : aJ) (x1 : Int32) : Option (Nat × aL × aI × aJ) := ((FX11_isIn d e x1 (nI 0) (nI 12)).bind fun q1 => (if q1.1 = 0 then (some (100000, [some (.int (-(nI 1)))], q1.2.1, q1.2.2)) else (some (16, [some (.ref 108), some (.int x1), some (.int (nI 0)), some (.int (nI 0))], q1.2.1, q1.2.2))))
theorem tX11_price_0 {Γ : aG × Launch} {d dF : aI} {e eF : aJ} {x1 : Int32} {r : Option Value} {p : Nat × aL × aI × aJ} (h : sX11_price_0 d e x1 = some p) (kc : Nat.beq p.1 100000 = false → Rn Γ (1) mX11_price p.1 p.2.1 [] p.2.2.1 p.2.2.2 r dF eF) (kr : p.1 = 100000 → r = a_rt p.2.1 ∧ dF = p.2.2.1 ∧ eF = p.2.2.2) : Rn Γ (1) mX11_price 0 [some (.ref 108), some (.int x1), none, none] [] d e r dF eF := by
  unfold sX11_price_0 at h
  obtain ⟨q1, hq1, h⟩ := Option.bind_eq_some_iff.mp h
  refine bX11_price_0 (evX11_isIn hq1) (by omega) ?_
  refine a_ite h (fun c2 h => ?_) (fun c2 h => ?_)
  · refine bX11_price_7 (fun z => absurd c2 z) (fun _ => ?_)
    cases h
    obtain ⟨k1, k2, k3⟩ := kr rfl
    exact bX11_price_10 k1 k2 k3
  · refine bX11_price_7 (fun _ => ?_) (fun z => absurd z c2)
    refine bX11_price_12 ?_
    cases h
    exact kc rfl

noncomputable def sX11_price_16 (d : aI) (e : aJ) (x1 : Int32) (x2 : Int32) (x3 : Int32) : Option (Nat × aL × aI × aJ) := (if x1 ≤ x3 then (some (100000, [some (.int x2)], d, e)) else (bif ((decide (¬ (nI 3) = 0))) then ((FX11_held d e (Int32.toInt64 ((((nI 540) + ((nI 2) * x2)) / (nI 3)) - (nI 60))) (nI 0) (nI 1000000)).bind fun q3 => (some (16, [some (.ref 108), some (.int x1), some (.int q3.1), some (.int (x3 + (nI 1)))], q3.2.1, q3.2.2))) else none))
theorem tX11_price_16 {Γ : aG × Launch} {d dF : aI} {e eF : aJ} {x1 : Int32} {x2 : Int32} {x3 : Int32} {r : Option Value} {p : Nat × aL × aI × aJ} (h : sX11_price_16 d e x1 x2 x3 = some p) (kc : Nat.beq p.1 100000 = false → Rn Γ (1) mX11_price p.1 p.2.1 [] p.2.2.1 p.2.2.2 r dF eF) (kr : p.1 = 100000 → r = a_rt p.2.1 ∧ dF = p.2.2.1 ∧ eF = p.2.2.2) : Rn Γ (1) mX11_price 16 [some (.ref 108), some (.int x1), some (.int x2), some (.int x3)] [] d e r dF eF := by
  unfold sX11_price_16 at h
  refine a_ite h (fun c1 h => ?_) (fun c1 h => ?_)
  · refine bX11_price_16 (fun _ => ?_) (fun z => absurd c1 z)
    cases h
    obtain ⟨k1, k2, k3⟩ := kr rfl
    exact bX11_price_48 k1 k2 k3
  · refine bX11_price_16 (fun z => absurd z c1) (fun _ => ?_)
    obtain ⟨g2, h⟩ := a_cond h
    obtain ⟨q3, hq3, h⟩ := Option.bind_eq_some_iff.mp h
    refine bX11_price_21 (of_decide_eq_true g2) (evX11_held hq3) (by omega) ?_
    refine bX11_price_41 ?_
    cases h
    exact kc rfl

noncomputable def stX11_price (p : Nat × aL × aI × aJ) : Option (Nat × aL × aI × aJ) := match p with
  | (0, [some (.ref 108), some (.int x1), none, none], d, e) => sX11_price_0 d e x1
  | (16, [some (.ref 108), some (.int x1), some (.int x2), some (.int x3)], d, e) => sX11_price_16 d e x1 x2 x3
  | _ => none
theorem uX11_price {Γ : aG × Launch} {p p2 : Nat × aL × aI × aJ} {r : Option Value} {dF : aI} {eF : aJ} (h : stX11_price p = some p2) (kc : Nat.beq p2.1 100000 = false → Rn Γ (1) mX11_price p2.1 p2.2.1 [] p2.2.2.1 p2.2.2.2 r dF eF) (kr : p2.1 = 100000 → r = a_rt p2.2.1 ∧ dF = p2.2.2.1 ∧ eF = p2.2.2.2) : Rn Γ (1) mX11_price p.1 p.2.1 [] p.2.2.1 p.2.2.2 r dF eF := by
  unfold stX11_price at h
  split at h
  · exact tX11_price_0 h kc kr
  · exact tX11_price_16 h kc kr
  · cases h
noncomputable def FX11_price (d : aI) (e : aJ) (x1 : Int32) : Option (Int32 × aI × aJ) := (a_run (stX11_price) (0, [some (.ref 108), some (.int x1), none, none], d, e)).bind a_xI
theorem evX11_price {Γ : aG × Launch} {d : aI} {e : aJ} {x1 : Int32} {q : Int32 × aI × aJ} (h : FX11_price d e x1 = some q) : Ev Γ (1) mX11_price [.ref 108, .int x1] d e (some (.int q.1)) q.2.1 q.2.2 := by
  refine Ev.of (by decide) rfl (Nat.le_of_ble_eq_true rfl) (fun z => by cases z) ?_
  show Rn Γ (1) mX11_price 0 [some (.ref 108), some (.int x1), none, none] [] d e _ _ _
  obtain ⟨q1, h1, h2⟩ := Option.bind_eq_some_iff.mp h
  obtain ⟨e1, e2, e3⟩ := a_xI_rt h2
  exact Rn.cast (a_run_ok (uX11_price) rfl h1) e1.symm e2.symm e3.symm
noncomputable def sX11_chances_0 (d : aI) (e : aJ) (x1 : Int32) (x2 : Int32) (x3 : Int32) : Option (Nat × aL × aI × aJ) := ((FX11_isIn d e x1 (nI 0) (nI 8)).bind fun q1 => (if q1.1 = 0 then (some (100000, [some (.long (-(lN 1)))], q1.2.1, q1.2.2)) else ((FX11_isIn q1.2.1 q1.2.2 x2 (nI 0) x1).bind fun q3 => (if q3.1 = 0 then (some (100000, [some (.long (-(lN 1)))], q3.2.1, q3.2.2)) else (some (29, [some (.ref 108), some (.int x1), some (.int x2), some (.int x3), some (.long (lN 1)), none, some (.int (nI 1)), none, none], q3.2.1, q3.2.2))))))
theorem tX11_chances_0 {Γ : aG × Launch} {d dF : aI} {e eF : aJ} {x1 : Int32} {x2 : Int32} {x3 : Int32} {r : Option Value} {p : Nat × aL × aI × aJ} (h : sX11_chances_0 d e x1 x2 x3 = some p) (kc : Nat.beq p.1 100000 = false → Rn Γ (2) mX11_chances p.1 p.2.1 [] p.2.2.1 p.2.2.2 r dF eF) (kr : p.1 = 100000 → r = a_rt p.2.1 ∧ dF = p.2.2.1 ∧ eF = p.2.2.2) : Rn Γ (2) mX11_chances 0 [some (.ref 108), some (.int x1), some (.int x2), some (.int x3), none, none, none, none, none] [] d e r dF eF := by
  unfold sX11_chances_0 at h
  obtain ⟨q1, hq1, h⟩ := Option.bind_eq_some_iff.mp h
  refine bX11_chances_0 (evX11_isIn hq1) (by omega) ?_
  refine a_ite h (fun c2 h => ?_) (fun c2 h => ?_)
  · refine bX11_chances_7 (fun _ => ?_) (fun z => absurd c2 z)
    cases h
    obtain ⟨k1, k2, k3⟩ := kr rfl
    exact bX11_chances_19 k1 k2 k3
  · refine bX11_chances_7 (fun z => absurd z c2) (fun _ => ?_)
    obtain ⟨q3, hq3, h⟩ := Option.bind_eq_some_iff.mp h
    refine bX11_chances_10 (evX11_isIn hq3) (by omega) ?_
    refine a_ite h (fun c4 h => ?_) (fun c4 h => ?_)
    · refine bX11_chances_16 (fun z => absurd c4 z) (fun _ => ?_)
      cases h
      obtain ⟨k1, k2, k3⟩ := kr rfl
      exact bX11_chances_19 k1 k2 k3
    · refine bX11_chances_16 (fun _ => ?_) (fun z => absurd z c4)
      refine bX11_chances_23 ?_
      cases h
      exact kc rfl

noncomputable def sX11_chances_29 (d : aI) (e : aJ) (x1 : Int32) (x2 : Int32) (x3 : Int32) (y4 : Int64) (x6 : Int32) (v7 : Option Value) (v8 : Option Value) : Option (Nat × aL × aI × aJ) := (if x2 < x6 then (some (60, [some (.ref 108), some (.int x1), some (.int x2), some (.int x3), some (.long y4), none, some (.int x2), v7, v8], d, e)) else (bif ((decide (¬ (Int32.toInt64 x6) = 0))) then (some (29, [some (.ref 108), some (.int x1), some (.int x2), some (.int x3), some (.long ((y4 * (Int32.toInt64 ((x1 - x2) + x6))) / (Int32.toInt64 x6))), none, some (.int (x6 + (nI 1))), v7, v8], d, e)) else none))
theorem tX11_chances_29 {Γ : aG × Launch} {d dF : aI} {e eF : aJ} {x1 : Int32} {x2 : Int32} {x3 : Int32} {y4 : Int64} {x6 : Int32} {v7 : Option Value} {v8 : Option Value} {r : Option Value} {p : Nat × aL × aI × aJ} (h : sX11_chances_29 d e x1 x2 x3 y4 x6 v7 v8 = some p) (kc : Nat.beq p.1 100000 = false → Rn Γ (2) mX11_chances p.1 p.2.1 [] p.2.2.1 p.2.2.2 r dF eF) (kr : p.1 = 100000 → r = a_rt p.2.1 ∧ dF = p.2.2.1 ∧ eF = p.2.2.2) : Rn Γ (2) mX11_chances 29 [some (.ref 108), some (.int x1), some (.int x2), some (.int x3), some (.long y4), none, some (.int x6), v7, v8] [] d e r dF eF := by
  unfold sX11_chances_29 at h
  refine a_ite h (fun c1 h => ?_) (fun c1 h => ?_)
  · refine bX11_chances_29 (fun _ => ?_) (fun z => absurd c1 z)
    refine bX11_chances_57 ?_
    cases h
    exact kc rfl
  · refine bX11_chances_29 (fun z => absurd z c1) (fun _ => ?_)
    obtain ⟨g2, h⟩ := a_cond h
    refine bX11_chances_35 (of_decide_eq_true g2) ?_
    cases h
    exact kc rfl

noncomputable def sX11_chances_60 (d : aI) (e : aJ) (x1 : Int32) (x2 : Int32) (x3 : Int32) (y4 : Int64) (x6 : Int32) (v7 : Option Value) (v8 : Option Value) : Option (Nat × aL × aI × aJ) := (if x1 ≤ x6 then (some (86, [some (.ref 108), some (.int x1), some (.int x2), some (.int x3), some (.long y4), none, some (.long (lN 1)), none, some (.int (nI 0))], d, e)) else (some (60, [some (.ref 108), some (.int x1), some (.int x2), some (.int x3), some (.long (y4 * (lN 2))), none, some (.int (x6 + (nI 1))), v7, v8], d, e)))
theorem tX11_chances_60 {Γ : aG × Launch} {d dF : aI} {e eF : aJ} {x1 : Int32} {x2 : Int32} {x3 : Int32} {y4 : Int64} {x6 : Int32} {v7 : Option Value} {v8 : Option Value} {r : Option Value} {p : Nat × aL × aI × aJ} (h : sX11_chances_60 d e x1 x2 x3 y4 x6 v7 v8 = some p) (kc : Nat.beq p.1 100000 = false → Rn Γ (2) mX11_chances p.1 p.2.1 [] p.2.2.1 p.2.2.2 r dF eF) (kr : p.1 = 100000 → r = a_rt p.2.1 ∧ dF = p.2.2.1 ∧ eF = p.2.2.2) : Rn Γ (2) mX11_chances 60 [some (.ref 108), some (.int x1), some (.int x2), some (.int x3), some (.long y4), none, some (.int x6), v7, v8] [] d e r dF eF := by
  unfold sX11_chances_60 at h
  refine a_ite h (fun c1 h => ?_) (fun c1 h => ?_)
  · refine bX11_chances_60 (fun _ => ?_) (fun z => absurd c1 z)
    refine bX11_chances_80 ?_
    cases h
    exact kc rfl
  · refine bX11_chances_60 (fun z => absurd z c1) (fun _ => ?_)
    refine bX11_chances_66 ?_
    cases h
    exact kc rfl

noncomputable def sX11_chances_86 (d : aI) (e : aJ) (x1 : Int32) (x2 : Int32) (x3 : Int32) (y4 : Int64) (y6 : Int64) (x8 : Int32) : Option (Nat × aL × aI × aJ) := (if x1 ≤ x8 then ((FX11_part d e y4 y6 x3).bind fun q2 => (some (100000, [some (.long q2.1)], q2.2.1, q2.2.2))) else (some (86, [some (.ref 108), some (.int x1), some (.int x2), some (.int x3), some (.long y4), none, some (.long (y6 * (lN 3))), none, some (.int (x8 + (nI 1)))], d, e)))
theorem tX11_chances_86 {Γ : aG × Launch} {d dF : aI} {e eF : aJ} {x1 : Int32} {x2 : Int32} {x3 : Int32} {y4 : Int64} {y6 : Int64} {x8 : Int32} {r : Option Value} {p : Nat × aL × aI × aJ} (h : sX11_chances_86 d e x1 x2 x3 y4 y6 x8 = some p) (kc : Nat.beq p.1 100000 = false → Rn Γ (2) mX11_chances p.1 p.2.1 [] p.2.2.1 p.2.2.2 r dF eF) (kr : p.1 = 100000 → r = a_rt p.2.1 ∧ dF = p.2.2.1 ∧ eF = p.2.2.2) : Rn Γ (2) mX11_chances 86 [some (.ref 108), some (.int x1), some (.int x2), some (.int x3), some (.long y4), none, some (.long y6), none, some (.int x8)] [] d e r dF eF := by
  unfold sX11_chances_86 at h
  refine a_ite h (fun c1 h => ?_) (fun c1 h => ?_)
  · refine bX11_chances_86 (fun _ => ?_) (fun z => absurd c1 z)
    obtain ⟨q2, hq2, h⟩ := Option.bind_eq_some_iff.mp h
    refine bX11_chances_106 (evX11_part hq2) (by omega) ?_
    cases h
    obtain ⟨k1, k2, k3⟩ := kr rfl
    exact bX11_chances_114 k1 k2 k3
  · refine bX11_chances_86 (fun z => absurd z c1) (fun _ => ?_)
    refine bX11_chances_92 ?_
    cases h
    exact kc rfl

noncomputable def stX11_chances (p : Nat × aL × aI × aJ) : Option (Nat × aL × aI × aJ) := match p with
  | (0, [some (.ref 108), some (.int x1), some (.int x2), some (.int x3), none, none, none, none, none], d, e) => sX11_chances_0 d e x1 x2 x3
  | (29, [some (.ref 108), some (.int x1), some (.int x2), some (.int x3), some (.long y4), none, some (.int x6), v7, v8], d, e) => sX11_chances_29 d e x1 x2 x3 y4 x6 v7 v8
  | (60, [some (.ref 108), some (.int x1), some (.int x2), some (.int x3), some (.long y4), none, some (.int x6), v7, v8], d, e) => sX11_chances_60 d e x1 x2 x3 y4 x6 v7 v8
  | (86, [some (.ref 108), some (.int x1), some (.int x2), some (.int x3), some (.long y4), none, some (.long y6), none, some (.int x8)], d, e) => sX11_chances_86 d e x1 x2 x3 y4 y6 x8
  | _ => none
theorem uX11_chances {Γ : aG × Launch} {p p2 : Nat × aL × aI × aJ} {r : Option Value} {dF : aI} {eF : aJ} (h : stX11_chances p = some p2) (kc : Nat.beq p2.1 100000 = false → Rn Γ (2) mX11_chances p2.1 p2.2.1 [] p2.2.2.1 p2.2.2.2 r dF eF) (kr : p2.1 = 100000 → r = a_rt p2.2.1 ∧ dF = p2.2.2.1 ∧ eF = p2.2.2.2) : Rn Γ (2) mX11_chances p.1 p.2.1 [] p.2.2.1 p.2.2.2 r dF eF := by
  unfold stX11_chances at h
  split at h
  · exact tX11_chances_0 h kc kr
  · exact tX11_chances_29 h kc kr
  · exact tX11_chances_60 h kc kr
  · exact tX11_chances_86 h kc kr
  · cases h
noncomputable def FX11_chances (d : aI) (e : aJ) (x1 : Int32) (x2 : Int32) (x3 : Int32) : Option (Int64 × aI × aJ) := (a_run (stX11_chances) (0, [some (.ref 108), some (.int x1), some (.int x2), some (.int x3), none, none, none, none, none], d, e)).bind a_xJ
theorem evX11_chances {Γ : aG × Launch} {d : aI} {e : aJ} {x1 : Int32} {x2 : Int32} {x3 : Int32} {q : Int64 × aI × aJ} (h : FX11_chances d e x1 x2 x3 = some q) : Ev Γ (2) mX11_chances [.ref 108, .int x1, .int x2, .int x3] d e (some (.long q.1)) q.2.1 q.2.2 := by
  refine Ev.of (by decide) rfl (Nat.le_of_ble_eq_true rfl) (fun z => by cases z) ?_
  show Rn Γ (2) mX11_chances 0 [some (.ref 108), some (.int x1), some (.int x2), some (.int x3), none, none, none, none, none] [] d e _ _ _
  obtain ⟨q1, h1, h2⟩ := Option.bind_eq_some_iff.mp h
  obtain ⟨e1, e2, e3⟩ := a_xJ_rt h2
  exact Rn.cast (a_run_ok (uX11_chances) rfl h1) e1.symm e2.symm e3.symm
noncomputable def FX11_canPlay (d : aI) (e : aJ) (x1 : Int32) (x2 : Int32) (x3 : Int32) (x4 : Int32) : Option (Int32 × aI × aJ) := (if x1 < x3 then (some ((nI 0), d, e)) else (if x2 < x4 then (some ((nI 0), d, e)) else (if x3 = 0 then (if (x3 + x4) ≤ 0 then (some ((nI 0), d, e)) else (bif ((a_inb ((((nI 13) * (x1 - x3)) + x2) - x4) 169)) then (if (d 119 (((((nI 13) * (x1 - x3)) + x2) - x4)).toNatClampNeg) = 0 then (some ((nI 1), d, e)) else (some ((nI 0), d, e))) else none)) else (if x4 = 0 then (if (x3 + x4) ≤ 0 then (some ((nI 0), d, e)) else (bif ((a_inb ((((nI 13) * (x1 - x3)) + x2) - x4) 169)) then (if (d 119 (((((nI 13) * (x1 - x3)) + x2) - x4)).toNatClampNeg) = 0 then (some ((nI 1), d, e)) else (some ((nI 0), d, e))) else none)) else (if x3 = x4 then (if (x3 + x4) ≤ 0 then (some ((nI 0), d, e)) else (bif ((a_inb ((((nI 13) * (x1 - x3)) + x2) - x4) 169)) then (if (d 119 (((((nI 13) * (x1 - x3)) + x2) - x4)).toNatClampNeg) = 0 then (some ((nI 1), d, e)) else (some ((nI 0), d, e))) else none)) else (some ((nI 0), d, e)))))))
theorem evX11_canPlay {Γ : aG × Launch} {d : aI} {e : aJ} {x1 : Int32} {x2 : Int32} {x3 : Int32} {x4 : Int32} {q : Int32 × aI × aJ} (h : FX11_canPlay d e x1 x2 x3 x4 = some q) : Ev Γ (0) mX11_canPlay [.ref 108, .int x1, .int x2, .int x3, .int x4] d e (some (.int q.1)) q.2.1 q.2.2 := by
  refine Ev.of (by decide) rfl (Nat.le_of_ble_eq_true rfl) (fun z => by cases z) ?_
  show Rn Γ (0) mX11_canPlay 0 [some (.ref 108), some (.int x1), some (.int x2), some (.int x3), some (.int x4)] [] d e _ _ _
  unfold FX11_canPlay at h
  refine a_ite h (fun c1 h => ?_) (fun c1 h => ?_)
  · refine bX11_canPlay_0 (fun _ => ?_) (fun z => absurd c1 z)
    refine bX11_canPlay_56 ?_
    cases h
    exact bX11_canPlay_57 (a_nz (Or.inl rfl))
  · refine bX11_canPlay_0 (fun z => absurd z c1) (fun _ => ?_)
    refine a_ite h (fun c2 h => ?_) (fun c2 h => ?_)
    · refine bX11_canPlay_5 (fun _ => ?_) (fun z => absurd c2 z)
      refine bX11_canPlay_56 ?_
      cases h
      exact bX11_canPlay_57 (a_nz (Or.inl rfl))
    · refine bX11_canPlay_5 (fun z => absurd z c2) (fun _ => ?_)
      refine a_ite h (fun c3 h => ?_) (fun c3 h => ?_)
      · refine bX11_canPlay_11 (fun _ => ?_) (fun z => absurd c3 z)
        refine a_ite h (fun c4 h => ?_) (fun c4 h => ?_)
        · refine bX11_canPlay_26 (fun _ => ?_) (fun z => absurd c4 z)
          refine bX11_canPlay_56 ?_
          cases h
          exact bX11_canPlay_57 (a_nz (Or.inl rfl))
        · refine bX11_canPlay_26 (fun z => absurd z c4) (fun _ => ?_)
          obtain ⟨g5, h⟩ := a_cond h
          refine a_ite h (fun c6 h => ?_) (fun c6 h => ?_)
          · refine bX11_canPlay_33 (a_inb_vp g5) (fun z => absurd c6 z) (fun _ => ?_)
            refine bX11_canPlay_52 ?_
            cases h
            exact bX11_canPlay_57 (a_nz (Or.inr rfl))
          · refine bX11_canPlay_33 (a_inb_vp g5) (fun _ => ?_) (fun z => absurd z c6)
            refine bX11_canPlay_56 ?_
            cases h
            exact bX11_canPlay_57 (a_nz (Or.inl rfl))
      · refine bX11_canPlay_11 (fun z => absurd z c3) (fun _ => ?_)
        refine a_ite h (fun c7 h => ?_) (fun c7 h => ?_)
        · refine bX11_canPlay_15 (fun _ => ?_) (fun z => absurd c7 z)
          refine a_ite h (fun c8 h => ?_) (fun c8 h => ?_)
          · refine bX11_canPlay_26 (fun _ => ?_) (fun z => absurd c8 z)
            refine bX11_canPlay_56 ?_
            cases h
            exact bX11_canPlay_57 (a_nz (Or.inl rfl))
          · refine bX11_canPlay_26 (fun z => absurd z c8) (fun _ => ?_)
            obtain ⟨g9, h⟩ := a_cond h
            refine a_ite h (fun c10 h => ?_) (fun c10 h => ?_)
            · refine bX11_canPlay_33 (a_inb_vp g9) (fun z => absurd c10 z) (fun _ => ?_)
              refine bX11_canPlay_52 ?_
              cases h
              exact bX11_canPlay_57 (a_nz (Or.inr rfl))
            · refine bX11_canPlay_33 (a_inb_vp g9) (fun _ => ?_) (fun z => absurd z c10)
              refine bX11_canPlay_56 ?_
              cases h
              exact bX11_canPlay_57 (a_nz (Or.inl rfl))
        · refine bX11_canPlay_15 (fun z => absurd z c7) (fun _ => ?_)
          refine a_ite h (fun c11 h => ?_) (fun c11 h => ?_)
          · refine bX11_canPlay_20 (fun z => absurd c11 z) (fun _ => ?_)
            refine a_ite h (fun c12 h => ?_) (fun c12 h => ?_)
            · refine bX11_canPlay_26 (fun _ => ?_) (fun z => absurd c12 z)
              refine bX11_canPlay_56 ?_
              cases h
              exact bX11_canPlay_57 (a_nz (Or.inl rfl))
            · refine bX11_canPlay_26 (fun z => absurd z c12) (fun _ => ?_)
              obtain ⟨g13, h⟩ := a_cond h
              refine a_ite h (fun c14 h => ?_) (fun c14 h => ?_)
              · refine bX11_canPlay_33 (a_inb_vp g13) (fun z => absurd c14 z) (fun _ => ?_)
                refine bX11_canPlay_52 ?_
                cases h
                exact bX11_canPlay_57 (a_nz (Or.inr rfl))
              · refine bX11_canPlay_33 (a_inb_vp g13) (fun _ => ?_) (fun z => absurd z c14)
                refine bX11_canPlay_56 ?_
                cases h
                exact bX11_canPlay_57 (a_nz (Or.inl rfl))
          · refine bX11_canPlay_20 (fun _ => ?_) (fun z => absurd z c11)
            refine bX11_canPlay_56 ?_
            cases h
            exact bX11_canPlay_57 (a_nz (Or.inl rfl))

noncomputable def sX11_playOf_0 (d : aI) (e : aJ) (x1 : Int32) (x2 : Int32) : Option (Nat × aL × aI × aJ) := (some (2, [some (.ref 108), some (.int x1), some (.int x2), some (.int (nI 0)), none], d, e))
theorem tX11_playOf_0 {Γ : aG × Launch} {d dF : aI} {e eF : aJ} {x1 : Int32} {x2 : Int32} {r : Option Value} {p : Nat × aL × aI × aJ} (h : sX11_playOf_0 d e x1 x2 = some p) (kc : Nat.beq p.1 100000 = false → Rn Γ (1) mX11_playOf p.1 p.2.1 [] p.2.2.1 p.2.2.2 r dF eF) (kr : p.1 = 100000 → r = a_rt p.2.1 ∧ dF = p.2.2.1 ∧ eF = p.2.2.2) : Rn Γ (1) mX11_playOf 0 [some (.ref 108), some (.int x1), some (.int x2), none, none] [] d e r dF eF := by
  unfold sX11_playOf_0 at h
  refine bX11_playOf_0 ?_
  cases h
  exact kc rfl

noncomputable def sX11_playOf_2 (d : aI) (e : aJ) (x1 : Int32) (x2 : Int32) (x3 : Int32) (v4 : Option Value) : Option (Nat × aL × aI × aJ) := (if (nI 3) ≤ x3 then (some (100000, [some (.int (-(nI 1)))], d, e)) else (some (10, [some (.ref 108), some (.int x1), some (.int x2), some (.int x3), some (.int (nI 0))], d, e)))
theorem tX11_playOf_2 {Γ : aG × Launch} {d dF : aI} {e eF : aJ} {x1 : Int32} {x2 : Int32} {x3 : Int32} {v4 : Option Value} {r : Option Value} {p : Nat × aL × aI × aJ} (h : sX11_playOf_2 d e x1 x2 x3 v4 = some p) (kc : Nat.beq p.1 100000 = false → Rn Γ (1) mX11_playOf p.1 p.2.1 [] p.2.2.1 p.2.2.2 r dF eF) (kr : p.1 = 100000 → r = a_rt p.2.1 ∧ dF = p.2.2.1 ∧ eF = p.2.2.2) : Rn Γ (1) mX11_playOf 2 [some (.ref 108), some (.int x1), some (.int x2), some (.int x3), v4] [] d e r dF eF := by
  unfold sX11_playOf_2 at h
  refine a_ite h (fun c1 h => ?_) (fun c1 h => ?_)
  · refine bX11_playOf_2 (fun _ => ?_) (fun z => absurd c1 z)
    cases h
    obtain ⟨k1, k2, k3⟩ := kr rfl
    exact bX11_playOf_48 k1 k2 k3
  · refine bX11_playOf_2 (fun z => absurd z c1) (fun _ => ?_)
    refine bX11_playOf_7 ?_
    cases h
    exact kc rfl

noncomputable def sX11_playOf_10 (d : aI) (e : aJ) (x1 : Int32) (x2 : Int32) (x3 : Int32) (x4 : Int32) : Option (Nat × aL × aI × aJ) := (if (nI 3) ≤ x4 then (some (2, [some (.ref 108), some (.int x1), some (.int x2), some (.int (x3 + (nI 1))), some (.int x4)], d, e)) else ((FX11_canPlay d e x1 x2 x3 x4).bind fun q2 => (if q2.1 = 0 then (some (10, [some (.ref 108), some (.int x1), some (.int x2), some (.int x3), some (.int (x4 + (nI 1)))], q2.2.1, q2.2.2)) else (some (100000, [some (.int (((nI 10) * x3) + x4))], q2.2.1, q2.2.2)))))
theorem tX11_playOf_10 {Γ : aG × Launch} {d dF : aI} {e eF : aJ} {x1 : Int32} {x2 : Int32} {x3 : Int32} {x4 : Int32} {r : Option Value} {p : Nat × aL × aI × aJ} (h : sX11_playOf_10 d e x1 x2 x3 x4 = some p) (kc : Nat.beq p.1 100000 = false → Rn Γ (1) mX11_playOf p.1 p.2.1 [] p.2.2.1 p.2.2.2 r dF eF) (kr : p.1 = 100000 → r = a_rt p.2.1 ∧ dF = p.2.2.1 ∧ eF = p.2.2.2) : Rn Γ (1) mX11_playOf 10 [some (.ref 108), some (.int x1), some (.int x2), some (.int x3), some (.int x4)] [] d e r dF eF := by
  unfold sX11_playOf_10 at h
  refine a_ite h (fun c1 h => ?_) (fun c1 h => ?_)
  · refine bX11_playOf_10 (fun _ => ?_) (fun z => absurd c1 z)
    refine bX11_playOf_42 ?_
    cases h
    exact kc rfl
  · refine bX11_playOf_10 (fun z => absurd z c1) (fun _ => ?_)
    obtain ⟨q2, hq2, h⟩ := Option.bind_eq_some_iff.mp h
    refine bX11_playOf_16 (evX11_canPlay hq2) (by omega) ?_
    refine a_ite h (fun c3 h => ?_) (fun c3 h => ?_)
    · refine bX11_playOf_25 (fun _ => ?_) (fun z => absurd c3 z)
      refine bX11_playOf_36 ?_
      cases h
      exact kc rfl
    · refine bX11_playOf_25 (fun z => absurd z c3) (fun _ => ?_)
      cases h
      obtain ⟨k1, k2, k3⟩ := kr rfl
      exact bX11_playOf_28 k1 k2 k3

noncomputable def stX11_playOf (p : Nat × aL × aI × aJ) : Option (Nat × aL × aI × aJ) := match p with
  | (0, [some (.ref 108), some (.int x1), some (.int x2), none, none], d, e) => sX11_playOf_0 d e x1 x2
  | (2, [some (.ref 108), some (.int x1), some (.int x2), some (.int x3), v4], d, e) => sX11_playOf_2 d e x1 x2 x3 v4
  | (10, [some (.ref 108), some (.int x1), some (.int x2), some (.int x3), some (.int x4)], d, e) => sX11_playOf_10 d e x1 x2 x3 x4
  | _ => none
theorem uX11_playOf {Γ : aG × Launch} {p p2 : Nat × aL × aI × aJ} {r : Option Value} {dF : aI} {eF : aJ} (h : stX11_playOf p = some p2) (kc : Nat.beq p2.1 100000 = false → Rn Γ (1) mX11_playOf p2.1 p2.2.1 [] p2.2.2.1 p2.2.2.2 r dF eF) (kr : p2.1 = 100000 → r = a_rt p2.2.1 ∧ dF = p2.2.2.1 ∧ eF = p2.2.2.2) : Rn Γ (1) mX11_playOf p.1 p.2.1 [] p.2.2.1 p.2.2.2 r dF eF := by
  unfold stX11_playOf at h
  split at h
  · exact tX11_playOf_0 h kc kr
  · exact tX11_playOf_2 h kc kr
  · exact tX11_playOf_10 h kc kr
  · cases h
noncomputable def FX11_playOf (d : aI) (e : aJ) (x1 : Int32) (x2 : Int32) : Option (Int32 × aI × aJ) := (a_run (stX11_playOf) (0, [some (.ref 108), some (.int x1), some (.int x2), none, none], d, e)).bind a_xI
theorem evX11_playOf {Γ : aG × Launch} {d : aI} {e : aJ} {x1 : Int32} {x2 : Int32} {q : Int32 × aI × aJ} (h : FX11_playOf d e x1 x2 = some q) : Ev Γ (1) mX11_playOf [.ref 108, .int x1, .int x2] d e (some (.int q.1)) q.2.1 q.2.2 := by
  refine Ev.of (by decide) rfl (Nat.le_of_ble_eq_true rfl) (fun z => by cases z) ?_
  show Rn Γ (1) mX11_playOf 0 [some (.ref 108), some (.int x1), some (.int x2), none, none] [] d e _ _ _
  obtain ⟨q1, h1, h2⟩ := Option.bind_eq_some_iff.mp h
  obtain ⟨e1, e2, e3⟩ := a_xI_rt h2
  exact Rn.cast (a_run_ok (uX11_playOf) rfl h1) e1.symm e2.symm e3.symm
noncomputable def sX11_layGame_0 (d : aI) (e : aJ) (x1 : Int32) (x2 : Int32) : Option (Nat × aL × aI × aJ) := (some (2, [some (.ref 108), some (.int x1), some (.int x2), some (.int (nI 0)), none], d, e))
theorem tX11_layGame_0 {Γ : aG × Launch} {d dF : aI} {e eF : aJ} {x1 : Int32} {x2 : Int32} {r : Option Value} {p : Nat × aL × aI × aJ} (h : sX11_layGame_0 d e x1 x2 = some p) (kc : Nat.beq p.1 100000 = false → Rn Γ (2) mX11_layGame p.1 p.2.1 [] p.2.2.1 p.2.2.2 r dF eF) (kr : p.1 = 100000 → r = a_rt p.2.1 ∧ dF = p.2.2.1 ∧ eF = p.2.2.2) : Rn Γ (2) mX11_layGame 0 [some (.ref 108), some (.int x1), some (.int x2), none, none] [] d e r dF eF := by
  unfold sX11_layGame_0 at h
  refine bX11_layGame_0 ?_
  cases h
  exact kc rfl

noncomputable def sX11_layGame_2 (d : aI) (e : aJ) (x1 : Int32) (x2 : Int32) (x3 : Int32) (v4 : Option Value) : Option (Nat × aL × aI × aJ) := (if x1 < x3 then ((FX11_playOf d e x1 x2).bind fun q2 => (some (100000, [some (.int q2.1)], q2.2.1, q2.2.2))) else (some (10, [some (.ref 108), some (.int x1), some (.int x2), some (.int x3), some (.int (nI 0))], d, e)))
theorem tX11_layGame_2 {Γ : aG × Launch} {d dF : aI} {e eF : aJ} {x1 : Int32} {x2 : Int32} {x3 : Int32} {v4 : Option Value} {r : Option Value} {p : Nat × aL × aI × aJ} (h : sX11_layGame_2 d e x1 x2 x3 v4 = some p) (kc : Nat.beq p.1 100000 = false → Rn Γ (2) mX11_layGame p.1 p.2.1 [] p.2.2.1 p.2.2.2 r dF eF) (kr : p.1 = 100000 → r = a_rt p.2.1 ∧ dF = p.2.2.1 ∧ eF = p.2.2.2) : Rn Γ (2) mX11_layGame 2 [some (.ref 108), some (.int x1), some (.int x2), some (.int x3), v4] [] d e r dF eF := by
  unfold sX11_layGame_2 at h
  refine a_ite h (fun c1 h => ?_) (fun c1 h => ?_)
  · refine bX11_layGame_2 (fun _ => ?_) (fun z => absurd c1 z)
    obtain ⟨q2, hq2, h⟩ := Option.bind_eq_some_iff.mp h
    refine bX11_layGame_56 (evX11_playOf hq2) (by omega) ?_
    cases h
    obtain ⟨k1, k2, k3⟩ := kr rfl
    exact bX11_layGame_62 k1 k2 k3
  · refine bX11_layGame_2 (fun z => absurd z c1) (fun _ => ?_)
    refine bX11_layGame_7 ?_
    cases h
    exact kc rfl

noncomputable def sX11_layGame_10 (d : aI) (e : aJ) (x1 : Int32) (x2 : Int32) (x3 : Int32) (x4 : Int32) : Option (Nat × aL × aI × aJ) := (if x2 < x4 then (some (2, [some (.ref 108), some (.int x1), some (.int x2), some (.int (x3 + (nI 1))), some (.int x4)], d, e)) else ((FX11_playOf d e x3 x4).bind fun q2 => (if q2.1 = (-(nI 1)) then (bif ((a_inb (((nI 13) * x3) + x4) 169)) then (some (10, [some (.ref 108), some (.int x1), some (.int x2), some (.int x3), some (.int (x4 + (nI 1)))], (uI q2.2.1 119 ((((nI 13) * x3) + x4)).toNatClampNeg (vp_nar .boolean (nI 0))), q2.2.2)) else none) else (bif ((a_inb (((nI 13) * x3) + x4) 169)) then (some (10, [some (.ref 108), some (.int x1), some (.int x2), some (.int x3), some (.int (x4 + (nI 1)))], (uI q2.2.1 119 ((((nI 13) * x3) + x4)).toNatClampNeg (vp_nar .boolean (nI 1))), q2.2.2)) else none))))
theorem tX11_layGame_10 {Γ : aG × Launch} {d dF : aI} {e eF : aJ} {x1 : Int32} {x2 : Int32} {x3 : Int32} {x4 : Int32} {r : Option Value} {p : Nat × aL × aI × aJ} (h : sX11_layGame_10 d e x1 x2 x3 x4 = some p) (kc : Nat.beq p.1 100000 = false → Rn Γ (2) mX11_layGame p.1 p.2.1 [] p.2.2.1 p.2.2.2 r dF eF) (kr : p.1 = 100000 → r = a_rt p.2.1 ∧ dF = p.2.2.1 ∧ eF = p.2.2.2) : Rn Γ (2) mX11_layGame 10 [some (.ref 108), some (.int x1), some (.int x2), some (.int x3), some (.int x4)] [] d e r dF eF := by
  unfold sX11_layGame_10 at h
  refine a_ite h (fun c1 h => ?_) (fun c1 h => ?_)
  · refine bX11_layGame_10 (fun _ => ?_) (fun z => absurd c1 z)
    refine bX11_layGame_50 ?_
    cases h
    exact kc rfl
  · refine bX11_layGame_10 (fun z => absurd z c1) (fun _ => ?_)
    obtain ⟨q2, hq2, h⟩ := Option.bind_eq_some_iff.mp h
    refine bX11_layGame_16 (evX11_playOf hq2) (by omega) ?_
    refine a_ite h (fun c3 h => ?_) (fun c3 h => ?_)
    · refine bX11_layGame_34 (fun _ => ?_) (fun z => absurd c3 z)
      refine bX11_layGame_42 ?_
      obtain ⟨g4, h⟩ := a_cond h
      refine bX11_layGame_43 (a_inb_vp g4) ?_
      cases h
      exact kc rfl
    · refine bX11_layGame_34 (fun z => absurd z c3) (fun _ => ?_)
      refine bX11_layGame_38 ?_
      obtain ⟨g5, h⟩ := a_cond h
      refine bX11_layGame_43 (a_inb_vp g5) ?_
      cases h
      exact kc rfl

noncomputable def stX11_layGame (p : Nat × aL × aI × aJ) : Option (Nat × aL × aI × aJ) := match p with
  | (0, [some (.ref 108), some (.int x1), some (.int x2), none, none], d, e) => sX11_layGame_0 d e x1 x2
  | (2, [some (.ref 108), some (.int x1), some (.int x2), some (.int x3), v4], d, e) => sX11_layGame_2 d e x1 x2 x3 v4
  | (10, [some (.ref 108), some (.int x1), some (.int x2), some (.int x3), some (.int x4)], d, e) => sX11_layGame_10 d e x1 x2 x3 x4
  | _ => none
theorem uX11_layGame {Γ : aG × Launch} {p p2 : Nat × aL × aI × aJ} {r : Option Value} {dF : aI} {eF : aJ} (h : stX11_layGame p = some p2) (kc : Nat.beq p2.1 100000 = false → Rn Γ (2) mX11_layGame p2.1 p2.2.1 [] p2.2.2.1 p2.2.2.2 r dF eF) (kr : p2.1 = 100000 → r = a_rt p2.2.1 ∧ dF = p2.2.2.1 ∧ eF = p2.2.2.2) : Rn Γ (2) mX11_layGame p.1 p.2.1 [] p.2.2.1 p.2.2.2 r dF eF := by
  unfold stX11_layGame at h
  split at h
  · exact tX11_layGame_0 h kc kr
  · exact tX11_layGame_2 h kc kr
  · exact tX11_layGame_10 h kc kr
  · cases h
noncomputable def FX11_layGame (d : aI) (e : aJ) (x1 : Int32) (x2 : Int32) : Option (Int32 × aI × aJ) := (a_run (stX11_layGame) (0, [some (.ref 108), some (.int x1), some (.int x2), none, none], d, e)).bind a_xI
theorem evX11_layGame {Γ : aG × Launch} {d : aI} {e : aJ} {x1 : Int32} {x2 : Int32} {q : Int32 × aI × aJ} (h : FX11_layGame d e x1 x2 = some q) : Ev Γ (2) mX11_layGame [.ref 108, .int x1, .int x2] d e (some (.int q.1)) q.2.1 q.2.2 := by
  refine Ev.of (by decide) rfl (Nat.le_of_ble_eq_true rfl) (fun z => by cases z) ?_
  show Rn Γ (2) mX11_layGame 0 [some (.ref 108), some (.int x1), some (.int x2), none, none] [] d e _ _ _
  obtain ⟨q1, h1, h2⟩ := Option.bind_eq_some_iff.mp h
  obtain ⟨e1, e2, e3⟩ := a_xI_rt h2
  exact Rn.cast (a_run_ok (uX11_layGame) rfl h1) e1.symm e2.symm e3.symm
noncomputable def FX11_isHeap (d : aI) (e : aJ) (x0 : Int32) : Option (Int32 × aI × aJ) := ((FX11_isIn d e x0 (nI 0) (nI 12)).bind fun q1 => (bif (decide (q1.1 = 0 ∨ q1.1 = 1)) then (some (q1.1, q1.2.1, q1.2.2)) else none))
theorem evX11_isHeap {Γ : aG × Launch} {d : aI} {e : aJ} {x0 : Int32} {q : Int32 × aI × aJ} (h : FX11_isHeap d e x0 = some q) : Ev Γ (1) mX11_isHeap [.int x0] d e (some (.int q.1)) q.2.1 q.2.2 := by
  refine Ev.of (by decide) rfl (Nat.le_of_ble_eq_true rfl) (fun z => by cases z) ?_
  show Rn Γ (1) mX11_isHeap 0 [some (.int x0)] [] d e _ _ _
  unfold FX11_isHeap at h
  obtain ⟨q1, hq1, h⟩ := Option.bind_eq_some_iff.mp h
  refine bX11_isHeap_0 (evX11_isIn hq1) (by omega) ?_
  obtain ⟨z2, h⟩ := a_cond h
  cases h
  exact bX11_isHeap_7 (a_nz (of_decide_eq_true z2))

noncomputable def FX11_game (d : aI) (e : aJ) (x1 : Int32) (x2 : Int32) : Option (Int32 × aI × aJ) := ((FX11_isHeap d e x1).bind fun q1 => (if q1.1 = 0 then (some ((-(nI 1)), q1.2.1, q1.2.2)) else ((FX11_isHeap q1.2.1 q1.2.2 x2).bind fun q3 => (if q3.1 = 0 then (some ((-(nI 1)), q3.2.1, q3.2.2)) else ((FX11_layGame q3.2.1 q3.2.2 x1 x2).bind fun q5 => (if q5.1 = (-(nI 1)) then (some ((nI 0), q5.2.1, q5.2.2)) else (some ((nI 1), q5.2.1, q5.2.2))))))))
theorem evX11_game {Γ : aG × Launch} {d : aI} {e : aJ} {x1 : Int32} {x2 : Int32} {q : Int32 × aI × aJ} (h : FX11_game d e x1 x2 = some q) : Ev Γ (3) mX11_game [.ref 108, .int x1, .int x2] d e (some (.int q.1)) q.2.1 q.2.2 := by
  refine Ev.of (by decide) rfl (Nat.le_of_ble_eq_true rfl) (fun z => by cases z) ?_
  show Rn Γ (3) mX11_game 0 [some (.ref 108), some (.int x1), some (.int x2)] [] d e _ _ _
  unfold FX11_game at h
  obtain ⟨q1, hq1, h⟩ := Option.bind_eq_some_iff.mp h
  refine bX11_game_0 (evX11_isHeap hq1) (by omega) ?_
  refine a_ite h (fun c2 h => ?_) (fun c2 h => ?_)
  · refine bX11_game_4 (fun _ => ?_) (fun z => absurd c2 z)
    refine bX11_game_14 ?_
    cases h
    exact bX11_game_33
  · refine bX11_game_4 (fun z => absurd z c2) (fun _ => ?_)
    obtain ⟨q3, hq3, h⟩ := Option.bind_eq_some_iff.mp h
    refine bX11_game_7 (evX11_isHeap hq3) (by omega) ?_
    refine a_ite h (fun c4 h => ?_) (fun c4 h => ?_)
    · refine bX11_game_11 (fun z => absurd c4 z) (fun _ => ?_)
      refine bX11_game_14 ?_
      cases h
      exact bX11_game_33
    · refine bX11_game_11 (fun _ => ?_) (fun z => absurd z c4)
      obtain ⟨q5, hq5, h⟩ := Option.bind_eq_some_iff.mp h
      refine bX11_game_18 (evX11_layGame hq5) (by omega) ?_
      refine a_ite h (fun c6 h => ?_) (fun c6 h => ?_)
      · refine bX11_game_24 (fun z => absurd c6 z) (fun _ => ?_)
        refine bX11_game_28 ?_
        cases h
        exact bX11_game_33
      · refine bX11_game_24 (fun _ => ?_) (fun z => absurd z c6)
        refine bX11_game_32 ?_
        cases h
        exact bX11_game_33

noncomputable def FX11_play (d : aI) (e : aJ) (x1 : Int32) (x2 : Int32) : Option (Int32 × aI × aJ) := ((FX11_isHeap d e x1).bind fun q1 => (if q1.1 = 0 then (some ((-(nI 1)), q1.2.1, q1.2.2)) else ((FX11_isHeap q1.2.1 q1.2.2 x2).bind fun q3 => (if q3.1 = 0 then (some ((-(nI 1)), q3.2.1, q3.2.2)) else ((FX11_layGame q3.2.1 q3.2.2 x1 x2).bind fun q5 => (some (q5.1, q5.2.1, q5.2.2)))))))
theorem evX11_play {Γ : aG × Launch} {d : aI} {e : aJ} {x1 : Int32} {x2 : Int32} {q : Int32 × aI × aJ} (h : FX11_play d e x1 x2 = some q) : Ev Γ (3) mX11_play [.ref 108, .int x1, .int x2] d e (some (.int q.1)) q.2.1 q.2.2 := by
  refine Ev.of (by decide) rfl (Nat.le_of_ble_eq_true rfl) (fun z => by cases z) ?_
  show Rn Γ (3) mX11_play 0 [some (.ref 108), some (.int x1), some (.int x2)] [] d e _ _ _
  unfold FX11_play at h
  obtain ⟨q1, hq1, h⟩ := Option.bind_eq_some_iff.mp h
  refine bX11_play_0 (evX11_isHeap hq1) (by omega) ?_
  refine a_ite h (fun c2 h => ?_) (fun c2 h => ?_)
  · refine bX11_play_4 (fun _ => ?_) (fun z => absurd c2 z)
    refine bX11_play_23 ?_
    cases h
    exact bX11_play_24
  · refine bX11_play_4 (fun z => absurd z c2) (fun _ => ?_)
    obtain ⟨q3, hq3, h⟩ := Option.bind_eq_some_iff.mp h
    refine bX11_play_7 (evX11_isHeap hq3) (by omega) ?_
    refine a_ite h (fun c4 h => ?_) (fun c4 h => ?_)
    · refine bX11_play_11 (fun _ => ?_) (fun z => absurd c4 z)
      refine bX11_play_23 ?_
      cases h
      exact bX11_play_24
    · refine bX11_play_11 (fun z => absurd z c4) (fun _ => ?_)
      obtain ⟨q5, hq5, h⟩ := Option.bind_eq_some_iff.mp h
      refine bX11_play_14 (evX11_layGame hq5) (by omega) ?_
      refine bX11_play_20 ?_
      cases h
      exact bX11_play_24

noncomputable def FX11_said (d : aI) (e : aJ) (x1 : Int32) (x2 : Int32) (x3 : Int32) : Option (Int32 × aI × aJ) := (if x1 = (-(nI 1)) then (bif ((a_inb (nI 8) 1961)) then (some ((nI 0), (uI d 109 8 (nI 0)), e)) else none) else ((FX11_isCat d e x1).bind fun q3 => (if q3.1 = 0 then (some ((-(nI 2)), q3.2.1, q3.2.2)) else ((FX11_isHouse q3.2.1 q3.2.2 x2).bind fun q5 => (if q5.1 = 0 then (some ((-(nI 2)), q5.2.1, q5.2.2)) else ((FX11_isIn q5.2.1 q5.2.2 x3 (nI 0) (nI 99)).bind fun q7 => (if q7.1 = 0 then (some ((-(nI 2)), q7.2.1, q7.2.2)) else (bif ((a_inb (nI 8) 1961)) then (if (q7.2.1 109 8) = (nI 8) then (some ((-(nI 2)), q7.2.1, q7.2.2)) else (bif ((a_inb (nI 8) 1961) && (a_inb ((nI 112) + ((nI 3) * (q7.2.1 109 8))) 1961) && (a_inb (((nI 112) + ((nI 3) * (q7.2.1 109 8))) + (nI 1)) 1961) && (a_inb (((nI 112) + ((nI 3) * (q7.2.1 109 8))) + (nI 2)) 1961) && (a_inb (nI 8) 1961) && (a_inb (nI 8) 1961) && (a_inb (nI 8) 1961)) then (some ((((uI (uI (uI q7.2.1 109 (((nI 112) + ((nI 3) * (q7.2.1 109 8)))).toNatClampNeg x1) 109 ((((nI 112) + ((nI 3) * (q7.2.1 109 8))) + (nI 1))).toNatClampNeg x2) 109 ((((nI 112) + ((nI 3) * (q7.2.1 109 8))) + (nI 2))).toNatClampNeg x3) 109 8) + (nI 1)), (uI (uI (uI (uI q7.2.1 109 (((nI 112) + ((nI 3) * (q7.2.1 109 8)))).toNatClampNeg x1) 109 ((((nI 112) + ((nI 3) * (q7.2.1 109 8))) + (nI 1))).toNatClampNeg x2) 109 ((((nI 112) + ((nI 3) * (q7.2.1 109 8))) + (nI 2))).toNatClampNeg x3) 109 8 (((uI (uI (uI q7.2.1 109 (((nI 112) + ((nI 3) * (q7.2.1 109 8)))).toNatClampNeg x1) 109 ((((nI 112) + ((nI 3) * (q7.2.1 109 8))) + (nI 1))).toNatClampNeg x2) 109 ((((nI 112) + ((nI 3) * (q7.2.1 109 8))) + (nI 2))).toNatClampNeg x3) 109 8) + (nI 1))), q7.2.2)) else none)) else none))))))))
theorem evX11_said {Γ : aG × Launch} {d : aI} {e : aJ} {x1 : Int32} {x2 : Int32} {x3 : Int32} {q : Int32 × aI × aJ} (h : FX11_said d e x1 x2 x3 = some q) : Ev Γ (2) mX11_said [.ref 108, .int x1, .int x2, .int x3] d e (some (.int q.1)) q.2.1 q.2.2 := by
  refine Ev.of (by decide) rfl (Nat.le_of_ble_eq_true rfl) (fun z => by cases z) ?_
  show Rn Γ (2) mX11_said 0 [some (.ref 108), some (.int x1), some (.int x2), some (.int x3), none] [] d e _ _ _
  unfold FX11_said at h
  refine a_ite h (fun c1 h => ?_) (fun c1 h => ?_)
  · refine bX11_said_0 (fun z => absurd c1 z) (fun _ => ?_)
    obtain ⟨g2, h⟩ := a_cond h
    cases h
    exact bX11_said_5 (a_inb_vp g2)
  · refine bX11_said_0 (fun _ => ?_) (fun z => absurd z c1)
    obtain ⟨q3, hq3, h⟩ := Option.bind_eq_some_iff.mp h
    refine bX11_said_15 (evX11_isCat hq3) (by omega) ?_
    refine a_ite h (fun c4 h => ?_) (fun c4 h => ?_)
    · refine bX11_said_20 (fun _ => ?_) (fun z => absurd c4 z)
      cases h
      exact bX11_said_53
    · refine bX11_said_20 (fun z => absurd z c4) (fun _ => ?_)
      obtain ⟨q5, hq5, h⟩ := Option.bind_eq_some_iff.mp h
      refine bX11_said_23 (evX11_isHouse hq5) (by omega) ?_
      refine a_ite h (fun c6 h => ?_) (fun c6 h => ?_)
      · refine bX11_said_28 (fun _ => ?_) (fun z => absurd c6 z)
        cases h
        exact bX11_said_53
      · refine bX11_said_28 (fun z => absurd z c6) (fun _ => ?_)
        obtain ⟨q7, hq7, h⟩ := Option.bind_eq_some_iff.mp h
        refine bX11_said_31 (evX11_isIn hq7) (by omega) ?_
        refine a_ite h (fun c8 h => ?_) (fun c8 h => ?_)
        · refine bX11_said_38 (fun _ => ?_) (fun z => absurd c8 z)
          cases h
          exact bX11_said_53
        · refine bX11_said_38 (fun z => absurd z c8) (fun _ => ?_)
          obtain ⟨g9, h⟩ := a_cond h
          refine a_ite h (fun c10 h => ?_) (fun c10 h => ?_)
          · refine bX11_said_41 (a_inb_vp g9) (fun z => absurd c10 z) (fun _ => ?_)
            cases h
            exact bX11_said_53
          · refine bX11_said_41 (a_inb_vp g9) (fun _ => ?_) (fun z => absurd z c10)
            obtain ⟨g11, h⟩ := a_cond h
            obtain ⟨g11x6, g11_6⟩ := a_and g11
            obtain ⟨g11x5, g11_5⟩ := a_and g11x6
            obtain ⟨g11x4, g11_4⟩ := a_and g11x5
            obtain ⟨g11x3, g11_3⟩ := a_and g11x4
            obtain ⟨g11x2, g11_2⟩ := a_and g11x3
            obtain ⟨g11x1, g11_1⟩ := a_and g11x2
            have g11_0 := g11x1
            cases h
            exact bX11_said_56 ⟨(a_inb_vp g11_0), (a_inb_vp g11_1), (a_inb_vp g11_2), (a_inb_vp g11_3), (a_inb_vp g11_4), (a_inb_vp g11_5), (a_inb_vp g11_6)⟩

noncomputable def sX11_whose_0 (d : aI) (e : aJ)  : Option (Nat × aL × aI × aJ) := (some (4, [some (.ref 108), some (.int (nI 0)), some (.int (nI 0)), none, none], d, e))
theorem tX11_whose_0 {Γ : aG × Launch} {d dF : aI} {e eF : aJ}  {r : Option Value} {p : Nat × aL × aI × aJ} (h : sX11_whose_0 d e  = some p) (kc : Nat.beq p.1 100000 = false → Rn Γ (5) mX11_whose p.1 p.2.1 [] p.2.2.1 p.2.2.2 r dF eF) (kr : p.1 = 100000 → r = a_rt p.2.1 ∧ dF = p.2.2.1 ∧ eF = p.2.2.2) : Rn Γ (5) mX11_whose 0 [some (.ref 108), none, none, none, none] [] d e r dF eF := by
  unfold sX11_whose_0 at h
  refine bX11_whose_0 ?_
  cases h
  exact kc rfl

noncomputable def sX11_whose_4 (d : aI) (e : aJ) (x1 : Int32) (x2 : Int32) (v3 : Option Value) (v4 : Option Value) : Option (Nat × aL × aI × aJ) := (bif ((a_inb (nI 2) 1961)) then (if (d 109 2) ≤ x2 then (some (100000, [some (.int x1)], d, e)) else (some (20, [some (.ref 108), some (.int x1), some (.int x2), some (.int (nI 1)), some (.int (nI 112))], d, e))) else none)
theorem tX11_whose_4 {Γ : aG × Launch} {d dF : aI} {e eF : aJ} {x1 : Int32} {x2 : Int32} {v3 : Option Value} {v4 : Option Value} {r : Option Value} {p : Nat × aL × aI × aJ} (h : sX11_whose_4 d e x1 x2 v3 v4 = some p) (kc : Nat.beq p.1 100000 = false → Rn Γ (5) mX11_whose p.1 p.2.1 [] p.2.2.1 p.2.2.2 r dF eF) (kr : p.1 = 100000 → r = a_rt p.2.1 ∧ dF = p.2.2.1 ∧ eF = p.2.2.2) : Rn Γ (5) mX11_whose 4 [some (.ref 108), some (.int x1), some (.int x2), v3, v4] [] d e r dF eF := by
  unfold sX11_whose_4 at h
  obtain ⟨g1, h⟩ := a_cond h
  refine a_ite h (fun c2 h => ?_) (fun c2 h => ?_)
  · refine bX11_whose_4 (a_inb_vp g1) (fun _ => ?_) (fun z => absurd c2 z)
    cases h
    obtain ⟨k1, k2, k3⟩ := kr rfl
    exact bX11_whose_106 k1 k2 k3
  · refine bX11_whose_4 (a_inb_vp g1) (fun z => absurd z c2) (fun _ => ?_)
    refine bX11_whose_14 ?_
    cases h
    exact kc rfl

noncomputable def sX11_whose_20 (d : aI) (e : aJ) (x1 : Int32) (x2 : Int32) (x3 : Int32) (x4 : Int32) : Option (Nat × aL × aI × aJ) := (bif ((a_inb (nI 8) 1961)) then (if ((nI 112) + ((nI 3) * (d 109 8))) ≤ x4 then (if x3 = 0 then (some (4, [some (.ref 108), some (.int (x1 ||| (nI 0))), some (.int (x2 + (nI 1))), some (.int x3), some (.int x4)], d, e)) else (some (4, [some (.ref 108), some (.int (x1 ||| (a_shl (nI 1) x2))), some (.int (x2 + (nI 1))), some (.int x3), some (.int x4)], d, e))) else (if x3 = 0 then (some (20, [some (.ref 108), some (.int x1), some (.int x2), some (.int (nI 0)), some (.int (x4 + (nI 3)))], d, e)) else (bif ((a_inb x4 1961) && (a_inb (x4 + (nI 1)) 1961)) then ((FX11_takesOf d e x2 (d 109 (x4).toNatClampNeg) (d 109 ((x4 + (nI 1))).toNatClampNeg)).bind fun q6 => (bif ((a_inb (x4 + (nI 2)) 1961)) then (if q6.1 = (q6.2.1 109 ((x4 + (nI 2))).toNatClampNeg) then (some (20, [some (.ref 108), some (.int x1), some (.int x2), some (.int (nI 1)), some (.int (x4 + (nI 3)))], q6.2.1, q6.2.2)) else (some (20, [some (.ref 108), some (.int x1), some (.int x2), some (.int (nI 0)), some (.int (x4 + (nI 3)))], q6.2.1, q6.2.2))) else none)) else none))) else none)
theorem tX11_whose_20 {Γ : aG × Launch} {d dF : aI} {e eF : aJ} {x1 : Int32} {x2 : Int32} {x3 : Int32} {x4 : Int32} {r : Option Value} {p : Nat × aL × aI × aJ} (h : sX11_whose_20 d e x1 x2 x3 x4 = some p) (kc : Nat.beq p.1 100000 = false → Rn Γ (5) mX11_whose p.1 p.2.1 [] p.2.2.1 p.2.2.2 r dF eF) (kr : p.1 = 100000 → r = a_rt p.2.1 ∧ dF = p.2.2.1 ∧ eF = p.2.2.2) : Rn Γ (5) mX11_whose 20 [some (.ref 108), some (.int x1), some (.int x2), some (.int x3), some (.int x4)] [] d e r dF eF := by
  unfold sX11_whose_20 at h
  obtain ⟨g1, h⟩ := a_cond h
  refine a_ite h (fun c2 h => ?_) (fun c2 h => ?_)
  · refine bX11_whose_20 (a_inb_vp g1) (fun _ => ?_) (fun z => absurd c2 z)
    refine a_ite h (fun c3 h => ?_) (fun c3 h => ?_)
    · refine bX11_whose_86 (fun _ => ?_) (fun z => absurd c3 z)
      refine bX11_whose_97 ?_
      refine bX11_whose_98 ?_
      cases h
      exact kc rfl
    · refine bX11_whose_86 (fun z => absurd z c3) (fun _ => ?_)
      refine bX11_whose_91 ?_
      refine bX11_whose_98 ?_
      cases h
      exact kc rfl
  · refine bX11_whose_20 (a_inb_vp g1) (fun z => absurd z c2) (fun _ => ?_)
    refine a_ite h (fun c4 h => ?_) (fun c4 h => ?_)
    · refine bX11_whose_37 (fun _ => ?_) (fun z => absurd c4 z)
      refine bX11_whose_78 ?_
      refine bX11_whose_79 ?_
      cases h
      exact kc rfl
    · refine bX11_whose_37 (fun z => absurd z c4) (fun _ => ?_)
      obtain ⟨g5, h⟩ := a_cond h
      obtain ⟨g5x1, g5_1⟩ := a_and g5
      have g5_0 := g5x1
      obtain ⟨q6, hq6, h⟩ := Option.bind_eq_some_iff.mp h
      refine bX11_whose_41 ⟨(a_inb_vp g5_0), (a_inb_vp g5_1)⟩ (evX11_takesOf hq6) (by omega) ?_
      obtain ⟨g7, h⟩ := a_cond h
      refine a_ite h (fun c8 h => ?_) (fun c8 h => ?_)
      · refine bX11_whose_62 (a_inb_vp g7) (fun z => absurd c8 z) (fun _ => ?_)
        refine bX11_whose_74 ?_
        refine bX11_whose_79 ?_
        cases h
        exact kc rfl
      · refine bX11_whose_62 (a_inb_vp g7) (fun _ => ?_) (fun z => absurd z c8)
        refine bX11_whose_78 ?_
        refine bX11_whose_79 ?_
        cases h
        exact kc rfl

noncomputable def stX11_whose (p : Nat × aL × aI × aJ) : Option (Nat × aL × aI × aJ) := match p with
  | (0, [some (.ref 108), none, none, none, none], d, e) => sX11_whose_0 d e 
  | (4, [some (.ref 108), some (.int x1), some (.int x2), v3, v4], d, e) => sX11_whose_4 d e x1 x2 v3 v4
  | (20, [some (.ref 108), some (.int x1), some (.int x2), some (.int x3), some (.int x4)], d, e) => sX11_whose_20 d e x1 x2 x3 x4
  | _ => none
theorem uX11_whose {Γ : aG × Launch} {p p2 : Nat × aL × aI × aJ} {r : Option Value} {dF : aI} {eF : aJ} (h : stX11_whose p = some p2) (kc : Nat.beq p2.1 100000 = false → Rn Γ (5) mX11_whose p2.1 p2.2.1 [] p2.2.2.1 p2.2.2.2 r dF eF) (kr : p2.1 = 100000 → r = a_rt p2.2.1 ∧ dF = p2.2.2.1 ∧ eF = p2.2.2.2) : Rn Γ (5) mX11_whose p.1 p.2.1 [] p.2.2.1 p.2.2.2 r dF eF := by
  unfold stX11_whose at h
  split at h
  · exact tX11_whose_0 h kc kr
  · exact tX11_whose_4 h kc kr
  · exact tX11_whose_20 h kc kr
  · cases h
noncomputable def FX11_whose (d : aI) (e : aJ)  : Option (Int32 × aI × aJ) := (a_run (stX11_whose) (0, [some (.ref 108), none, none, none, none], d, e)).bind a_xI
theorem evX11_whose {Γ : aG × Launch} {d : aI} {e : aJ}  {q : Int32 × aI × aJ} (h : FX11_whose d e  = some q) : Ev Γ (5) mX11_whose [.ref 108] d e (some (.int q.1)) q.2.1 q.2.2 := by
  refine Ev.of (by decide) rfl (Nat.le_of_ble_eq_true rfl) (fun z => by cases z) ?_
  show Rn Γ (5) mX11_whose 0 [some (.ref 108), none, none, none, none] [] d e _ _ _
  obtain ⟨q1, h1, h2⟩ := Option.bind_eq_some_iff.mp h
  obtain ⟨e1, e2, e3⟩ := a_xI_rt h2
  exact Rn.cast (a_run_ok (uX11_whose) rfl h1) e1.symm e2.symm e3.symm
noncomputable def FX11_image (d : aI) (e : aJ)  : Option (Int32 × aI × aJ) := ((FX11_copyn d e).bind fun q1 => (bif ((a_inb (nI 9) 1961)) then (some ((q1.2.1 109 9), q1.2.1, q1.2.2)) else none))
theorem evX11_image {Γ : aG × Launch} {d : aI} {e : aJ}  {q : Int32 × aI × aJ} (h : FX11_image d e  = some q) : Ev Γ (1) mX11_image [.ref 108] d e (some (.int q.1)) q.2.1 q.2.2 := by
  refine Ev.of (by decide) rfl (Nat.le_of_ble_eq_true rfl) (fun z => by cases z) ?_
  show Rn Γ (1) mX11_image 0 [some (.ref 108)] [] d e _ _ _
  unfold FX11_image at h
  obtain ⟨q1, hq1, h⟩ := Option.bind_eq_some_iff.mp h
  refine bX11_image_0 (evX11_copyn hq1) (by omega) ?_
  obtain ⟨g2, h⟩ := a_cond h
  cases h
  exact bX11_image_11 (a_inb_vp g2)

noncomputable def FX11_back (d : aI) (e : aJ)  : Option (Int32 × aI × aJ) := ((FX11_copyk d e).bind fun q1 => (bif ((a_inb (nI 9) 1961)) then (some ((q1.2.1 109 9), q1.2.1, q1.2.2)) else none))
theorem evX11_back {Γ : aG × Launch} {d : aI} {e : aJ}  {q : Int32 × aI × aJ} (h : FX11_back d e  = some q) : Ev Γ (1) mX11_back [.ref 108] d e (some (.int q.1)) q.2.1 q.2.2 := by
  refine Ev.of (by decide) rfl (Nat.le_of_ble_eq_true rfl) (fun z => by cases z) ?_
  show Rn Γ (1) mX11_back 0 [some (.ref 108)] [] d e _ _ _
  unfold FX11_back at h
  obtain ⟨q1, hq1, h⟩ := Option.bind_eq_some_iff.mp h
  refine bX11_back_0 (evX11_copyk hq1) (by omega) ?_
  obtain ⟨g2, h⟩ := a_cond h
  cases h
  exact bX11_back_11 (a_inb_vp g2)

noncomputable def FX11_about (d : aI) (e : aJ) (x1 : Int32) : Option (Int32 × aI × aJ) := ((FX11_isIn d e x1 (nI 0) (nI 8)).bind fun q1 => (if q1.1 = 0 then (if x1 = (nI 9) then (some ((q1.2.1 108 4), q1.2.1, q1.2.2)) else (some ((-(nI 2)), q1.2.1, q1.2.2))) else (bif ((a_inb x1 1961)) then (some ((q1.2.1 109 (x1).toNatClampNeg), q1.2.1, q1.2.2)) else none)))
theorem evX11_about {Γ : aG × Launch} {d : aI} {e : aJ} {x1 : Int32} {q : Int32 × aI × aJ} (h : FX11_about d e x1 = some q) : Ev Γ (1) mX11_about [.ref 108, .int x1] d e (some (.int q.1)) q.2.1 q.2.2 := by
  refine Ev.of (by decide) rfl (Nat.le_of_ble_eq_true rfl) (fun z => by cases z) ?_
  show Rn Γ (1) mX11_about 0 [some (.ref 108), some (.int x1)] [] d e _ _ _
  unfold FX11_about at h
  obtain ⟨q1, hq1, h⟩ := Option.bind_eq_some_iff.mp h
  refine bX11_about_0 (evX11_isIn hq1) (by omega) ?_
  refine a_ite h (fun c2 h => ?_) (fun c2 h => ?_)
  · refine bX11_about_7 (fun _ => ?_) (fun z => absurd c2 z)
    refine a_ite h (fun c3 h => ?_) (fun c3 h => ?_)
    · refine bX11_about_19 (fun z => absurd c3 z) (fun _ => ?_)
      refine bX11_about_25 ?_
      cases h
      exact bX11_about_34
    · refine bX11_about_19 (fun _ => ?_) (fun z => absurd z c3)
      refine bX11_about_32 ?_
      cases h
      exact bX11_about_34
  · refine bX11_about_7 (fun z => absurd z c2) (fun _ => ?_)
    obtain ⟨g4, h⟩ := a_cond h
    refine bX11_about_10 (a_inb_vp g4) ?_
    cases h
    exact bX11_about_34

noncomputable def sX0_extend_0 (Fo : aI → aJ → Int32 → Int32 → Option (Unit × aI × aJ)) (d : aI) (e : aJ) (x2 : Int32) (x3 : Int32) : Option (Nat × aL × aI × aJ) := (if x2 < (d 21 4) then (some (43, [some (.ref 103), some (.ref 21), some (.int x2), some (.int x3), some (.int (nI 0))], d, e)) else (if (d 103 2) = 0 then (bif ((decide (¬ (nI 0) < 0 ∧ ¬ (nI 0) < 0 ∧ ¬ (nI 5) < 0 ∧ 0 + 5 ≤ 5 ∧ 0 + 5 ≤ 5))) then (some (100000, [], (uI (uA d 104 (va_cpy (d 105) (d 104) 0 0 5)) 103 2 (((uA d 104 (va_cpy (d 105) (d 104) 0 0 5)) 103 2) + (nI 1))), e)) else none) else (some (100000, [], (uI d 103 2 ((d 103 2) + (nI 1))), e))))
theorem tX0_extend_0 {Γ : aG × Launch} {Fo : aI → aJ → Int32 → Int32 → Option (Unit × aI × aJ)} {dc : Nat} (hFo : ∀ {d : aI} {e : aJ} {z0 z1 : Int32} {q : Unit × aI × aJ}, Fo d e z0 z1 = some q → Ev Γ dc mX0_extend [.ref 103, .ref 21, .int z0, .int z1] d e none q.2.1 q.2.2) {d dF : aI} {e eF : aJ} {x2 : Int32} {x3 : Int32} {r : Option Value} {p : Nat × aL × aI × aJ} (h : sX0_extend_0 Fo d e x2 x3 = some p) (kc : Nat.beq p.1 100000 = false → Rn Γ (dc + 1) mX0_extend p.1 p.2.1 [] p.2.2.1 p.2.2.2 r dF eF) (kr : p.1 = 100000 → r = a_rt p.2.1 ∧ dF = p.2.2.1 ∧ eF = p.2.2.2) : Rn Γ (dc + 1) mX0_extend 0 [some (.ref 103), some (.ref 21), some (.int x2), some (.int x3), none] [] d e r dF eF := by
  unfold sX0_extend_0 at h
  refine a_ite h (fun c1 h => ?_) (fun c1 h => ?_)
  · refine bX0_extend_0 (fun _ => ?_) (fun z => absurd c1 z)
    refine bX0_extend_40 ?_
    cases h
    exact kc rfl
  · refine bX0_extend_0 (fun z => absurd z c1) (fun _ => ?_)
    refine a_ite h (fun c2 h => ?_) (fun c2 h => ?_)
    · refine bX0_extend_8 (fun z => absurd c2 z) (fun _ => ?_)
      obtain ⟨g3, h⟩ := a_cond h
      refine bX0_extend_15 (of_decide_eq_true g3) ?_
      cases h
      obtain ⟨k1, k2, k3⟩ := kr rfl
      exact bX0_extend_29 k1 k2 k3
    · refine bX0_extend_8 (fun _ => ?_) (fun z => absurd z c2)
      cases h
      obtain ⟨k1, k2, k3⟩ := kr rfl
      exact bX0_extend_29 k1 k2 k3

noncomputable def sX0_extend_43 (Fo : aI → aJ → Int32 → Int32 → Option (Unit × aI × aJ)) (d : aI) (e : aJ) (x2 : Int32) (x3 : Int32) (x4 : Int32) : Option (Nat × aL × aI × aJ) := (if (d 21 4) ≤ x4 then (some (100000, [], d, e)) else ((FX10_hasBit d e x3 x4).bind fun q2 => (if q2.1 = 0 then (if x2 = 0 then (bif ((a_inb x2 5)) then ((Fo (uI q2.2.1 105 (x2).toNatClampNeg x4) q2.2.2 (x2 + (nI 1)) (x3 ||| (a_shl (nI 1) x4))).bind fun q6 => (some (43, [some (.ref 103), some (.ref 21), some (.int x2), some (.int x3), some (.int (x4 + (nI 1)))], q6.2.1, q6.2.2))) else none) else (bif ((a_inb (x2 - (nI 1)) 5)) then ((FX0_follows q2.2.1 q2.2.2 (q2.2.1 105 ((x2 - (nI 1))).toNatClampNeg) x4).bind fun q8 => (if q8.1 = 0 then (some (43, [some (.ref 103), some (.ref 21), some (.int x2), some (.int x3), some (.int (x4 + (nI 1)))], q8.2.1, q8.2.2)) else (bif ((a_inb x2 5)) then ((Fo (uI q8.2.1 105 (x2).toNatClampNeg x4) q8.2.2 (x2 + (nI 1)) (x3 ||| (a_shl (nI 1) x4))).bind fun q11 => (some (43, [some (.ref 103), some (.ref 21), some (.int x2), some (.int x3), some (.int (x4 + (nI 1)))], q11.2.1, q11.2.2))) else none))) else none)) else (some (43, [some (.ref 103), some (.ref 21), some (.int x2), some (.int x3), some (.int (x4 + (nI 1)))], q2.2.1, q2.2.2)))))
theorem tX0_extend_43 {Γ : aG × Launch} {Fo : aI → aJ → Int32 → Int32 → Option (Unit × aI × aJ)} {dc : Nat} (hFo : ∀ {d : aI} {e : aJ} {z0 z1 : Int32} {q : Unit × aI × aJ}, Fo d e z0 z1 = some q → Ev Γ dc mX0_extend [.ref 103, .ref 21, .int z0, .int z1] d e none q.2.1 q.2.2) {d dF : aI} {e eF : aJ} {x2 : Int32} {x3 : Int32} {x4 : Int32} {r : Option Value} {p : Nat × aL × aI × aJ} (h : sX0_extend_43 Fo d e x2 x3 x4 = some p) (kc : Nat.beq p.1 100000 = false → Rn Γ (dc + 1) mX0_extend p.1 p.2.1 [] p.2.2.1 p.2.2.2 r dF eF) (kr : p.1 = 100000 → r = a_rt p.2.1 ∧ dF = p.2.2.1 ∧ eF = p.2.2.2) : Rn Γ (dc + 1) mX0_extend 43 [some (.ref 103), some (.ref 21), some (.int x2), some (.int x3), some (.int x4)] [] d e r dF eF := by
  unfold sX0_extend_43 at h
  refine a_ite h (fun c1 h => ?_) (fun c1 h => ?_)
  · refine bX0_extend_43 (fun _ => ?_) (fun z => absurd c1 z)
    cases h
    obtain ⟨k1, k2, k3⟩ := kr rfl
    exact bX0_extend_110 k1 k2 k3
  · refine bX0_extend_43 (fun z => absurd z c1) (fun _ => ?_)
    obtain ⟨q2, hq2, h⟩ := Option.bind_eq_some_iff.mp h
    refine bX0_extend_52 (evX10_hasBit hq2) (by omega) ?_
    refine a_ite h (fun c3 h => ?_) (fun c3 h => ?_)
    · refine bX0_extend_58 (fun z => absurd c3 z) (fun _ => ?_)
      refine a_ite h (fun c4 h => ?_) (fun c4 h => ?_)
      · refine bX0_extend_61 (fun _ => ?_) (fun z => absurd c4 z)
        obtain ⟨g5, h⟩ := a_cond h
        obtain ⟨q6, hq6, h⟩ := Option.bind_eq_some_iff.mp h
        refine bX0_extend_82 (a_inb_vp g5) (hFo hq6) (by omega) ?_
        refine bX0_extend_104 ?_
        cases h
        exact kc rfl
      · refine bX0_extend_61 (fun z => absurd z c4) (fun _ => ?_)
        obtain ⟨g7, h⟩ := a_cond h
        obtain ⟨q8, hq8, h⟩ := Option.bind_eq_some_iff.mp h
        refine bX0_extend_65 (a_inb_vp g7) (evX0_follows hq8) (by omega) ?_
        refine a_ite h (fun c9 h => ?_) (fun c9 h => ?_)
        · refine bX0_extend_79 (fun _ => ?_) (fun z => absurd c9 z)
          refine bX0_extend_104 ?_
          cases h
          exact kc rfl
        · refine bX0_extend_79 (fun z => absurd z c9) (fun _ => ?_)
          obtain ⟨g10, h⟩ := a_cond h
          obtain ⟨q11, hq11, h⟩ := Option.bind_eq_some_iff.mp h
          refine bX0_extend_82 (a_inb_vp g10) (hFo hq11) (by omega) ?_
          refine bX0_extend_104 ?_
          cases h
          exact kc rfl
    · refine bX0_extend_58 (fun _ => ?_) (fun z => absurd z c3)
      refine bX0_extend_104 ?_
      cases h
      exact kc rfl

noncomputable def stX0_extend (Fo : aI → aJ → Int32 → Int32 → Option (Unit × aI × aJ)) (p : Nat × aL × aI × aJ) : Option (Nat × aL × aI × aJ) := match p with
  | (0, [some (.ref 103), some (.ref 21), some (.int x2), some (.int x3), none], d, e) => sX0_extend_0 Fo d e x2 x3
  | (43, [some (.ref 103), some (.ref 21), some (.int x2), some (.int x3), some (.int x4)], d, e) => sX0_extend_43 Fo d e x2 x3 x4
  | _ => none
theorem uX0_extend {Γ : aG × Launch} {Fo : aI → aJ → Int32 → Int32 → Option (Unit × aI × aJ)} {dc : Nat} (hFo : ∀ {d : aI} {e : aJ} {z0 z1 : Int32} {q : Unit × aI × aJ}, Fo d e z0 z1 = some q → Ev Γ dc mX0_extend [.ref 103, .ref 21, .int z0, .int z1] d e none q.2.1 q.2.2) {p p2 : Nat × aL × aI × aJ} {r : Option Value} {dF : aI} {eF : aJ} (h : stX0_extend Fo p = some p2) (kc : Nat.beq p2.1 100000 = false → Rn Γ (dc + 1) mX0_extend p2.1 p2.2.1 [] p2.2.2.1 p2.2.2.2 r dF eF) (kr : p2.1 = 100000 → r = a_rt p2.2.1 ∧ dF = p2.2.2.1 ∧ eF = p2.2.2.2) : Rn Γ (dc + 1) mX0_extend p.1 p.2.1 [] p.2.2.1 p.2.2.2 r dF eF := by
  unfold stX0_extend at h
  split at h
  · exact tX0_extend_0 hFo h kc kr
  · exact tX0_extend_43 hFo h kc kr
  · cases h
noncomputable def FX0_extendB (Fo : aI → aJ → Int32 → Int32 → Option (Unit × aI × aJ)) (d : aI) (e : aJ) (x2 : Int32) (x3 : Int32) : Option (Unit × aI × aJ) := (a_run (stX0_extend Fo) (0, [some (.ref 103), some (.ref 21), some (.int x2), some (.int x3), none], d, e)).bind a_xV
theorem evX0_extendB {Γ : aG × Launch} {Fo : aI → aJ → Int32 → Int32 → Option (Unit × aI × aJ)} {dc : Nat} (hFo : ∀ {d : aI} {e : aJ} {z0 z1 : Int32} {q : Unit × aI × aJ}, Fo d e z0 z1 = some q → Ev Γ dc mX0_extend [.ref 103, .ref 21, .int z0, .int z1] d e none q.2.1 q.2.2) {d : aI} {e : aJ} {x2 : Int32} {x3 : Int32} {q : Unit × aI × aJ} (h : FX0_extendB Fo d e x2 x3 = some q) : Ev Γ (dc + 1) mX0_extend [.ref 103, .ref 21, .int x2, .int x3] d e none q.2.1 q.2.2 := by
  refine Ev.of (by decide) rfl (Nat.le_of_ble_eq_true rfl) (fun z => by cases z) ?_
  show Rn Γ (dc + 1) mX0_extend 0 [some (.ref 103), some (.ref 21), some (.int x2), some (.int x3), none] [] d e _ _ _
  obtain ⟨q1, h1, h2⟩ := Option.bind_eq_some_iff.mp h
  obtain ⟨e1, e2, e3⟩ := a_xV_rt h2
  exact Rn.cast (a_run_ok (uX0_extend hFo) rfl h1) e1.symm e2.symm e3.symm
noncomputable def FX0_extend : Nat → aI → aJ → Int32 → Int32 → Option (Unit × aI × aJ)
  | 0 => fun _ _ _ _ => none
  | n + 1 => FX0_extendB (FX0_extend n)
theorem evX0_extend {Γ : aG × Launch} : ∀ (n : Nat) {d : aI} {e : aJ} {x2 : Int32} {x3 : Int32} {q : Unit × aI × aJ}, FX0_extend n d e x2 x3 = some q → Ev Γ (n * 1) mX0_extend [.ref 103, .ref 21, .int x2, .int x3] d e none q.2.1 q.2.2
  | 0, _, _, _, _, _, h => by cases h
  | n + 1, _, _, _, _, _, h => by
    have h1 := evX0_extendB (Γ := Γ) (dc := n * 1) (fun {d e z0 z1 q} hz => evX0_extend n hz) h
    rw [Nat.succ_mul]
    exact h1
noncomputable def FX1_named (d : aI) (e : aJ) (x0 : Int32) (x2 : Int32) (x3 : Int32) : Option (Int32 × aI × aJ) := (if x0 = (nI 308) then (some ((d 2 11), d, e)) else (if x0 = (nI 309) then ((FX2_isHouse d e x3).bind fun q3 => (if q3.1 = 0 then (some ((nI 0), q3.2.1, q3.2.2)) else (bif ((a_inb x3 6)) then (some ((q3.2.1 4 (x3).toNatClampNeg), q3.2.1, q3.2.2)) else none))) else (if x0 = (nI 310) then (bif ((a_inb x2 6)) then (some ((d 6 (x2).toNatClampNeg), d, e)) else none) else (if x0 = (nI 311) then ((FX2_isHouse d e x3).bind fun q9 => (if q9.1 = 0 then (some ((nI 0), q9.2.1, q9.2.2)) else (bif ((a_inb x3 6)) then (some ((q9.2.1 5 (x3).toNatClampNeg), q9.2.1, q9.2.2)) else none))) else (if x0 = (nI 312) then ((FX2_isHouse d e x3).bind fun q13 => (if q13.1 = 0 then (some ((nI 0), q13.2.1, q13.2.2)) else (bif ((a_inb x3 6)) then (some ((q13.2.1 5 (x3).toNatClampNeg), q13.2.1, q13.2.2)) else none))) else (if x0 = (nI 313) then ((FX2_isHouse d e x3).bind fun q17 => (if q17.1 = 0 then (some ((nI 0), q17.2.1, q17.2.2)) else (bif ((a_inb x3 6)) then (some ((q17.2.1 5 (x3).toNatClampNeg), q17.2.1, q17.2.2)) else none))) else (if x0 = (nI 314) then ((FX2_isHouse d e x3).bind fun q21 => (if q21.1 = 0 then (some ((nI 0), q21.2.1, q21.2.2)) else (bif ((a_inb x3 6)) then (some ((q21.2.1 5 (x3).toNatClampNeg), q21.2.1, q21.2.2)) else none))) else (if x0 = (nI 315) then ((FX2_isHouse d e x3).bind fun q25 => (if q25.1 = 0 then (some ((nI 0), q25.2.1, q25.2.2)) else (bif ((a_inb x3 6)) then (some ((q25.2.1 5 (x3).toNatClampNeg), q25.2.1, q25.2.2)) else none))) else (if x0 = (nI 316) then ((FX2_isHouse d e x3).bind fun q29 => (if q29.1 = 0 then (some ((nI 0), q29.2.1, q29.2.2)) else (bif ((a_inb x3 6)) then (some ((q29.2.1 5 (x3).toNatClampNeg), q29.2.1, q29.2.2)) else none))) else (if x0 = (nI 317) then ((FX2_isHouse d e x3).bind fun q33 => (if q33.1 = 0 then (some ((nI 0), q33.2.1, q33.2.2)) else (bif ((a_inb x3 6)) then (some ((q33.2.1 5 (x3).toNatClampNeg), q33.2.1, q33.2.2)) else none))) else (if x0 = (nI 318) then ((FX2_isHouse d e x3).bind fun q37 => (if q37.1 = 0 then (some ((nI 0), q37.2.1, q37.2.2)) else (bif ((a_inb x3 6)) then (some ((q37.2.1 5 (x3).toNatClampNeg), q37.2.1, q37.2.2)) else none))) else (if x0 = (nI 319) then ((FX2_isHouse d e x3).bind fun q41 => (if q41.1 = 0 then (some ((nI 0), q41.2.1, q41.2.2)) else (bif ((a_inb x3 6)) then (some ((q41.2.1 5 (x3).toNatClampNeg), q41.2.1, q41.2.2)) else none))) else (if x0 = (nI 320) then ((FX2_isHouse d e x3).bind fun q45 => (if q45.1 = 0 then (some ((nI 0), q45.2.1, q45.2.2)) else (bif ((a_inb x3 6)) then (some ((q45.2.1 5 (x3).toNatClampNeg), q45.2.1, q45.2.2)) else none))) else (if x0 = (nI 321) then (some (x2, d, e)) else (if x0 = (nI 322) then (bif ((a_inb x2 6)) then (some ((d 9 (x2).toNatClampNeg), d, e)) else none) else (if x0 = (nI 323) then (bif ((a_inb x2 6)) then (some ((d 7 (x2).toNatClampNeg), d, e)) else none) else (if x0 = (nI 324) then ((FX2_isHouse d e x3).bind fun q54 => (if q54.1 = 0 then (some ((nI 0), q54.2.1, q54.2.2)) else (bif ((a_inb x3 6)) then (some ((q54.2.1 5 (x3).toNatClampNeg), q54.2.1, q54.2.2)) else none))) else (if x0 = (nI 325) then (bif ((a_inb x2 6)) then (if (d 8 (x2).toNatClampNeg) = (-(nI 1)) then (some ((nI 0), d, e)) else (some ((nI 1), d, e))) else none) else ((FX2_isHouse d e x3).bind fun q60 => (if q60.1 = 0 then (some ((nI 0), q60.2.1, q60.2.2)) else (bif ((a_inb x3 6)) then (some ((q60.2.1 5 (x3).toNatClampNeg), q60.2.1, q60.2.2)) else none)))))))))))))))))))))
theorem evX1_named {Γ : aG × Launch} {d : aI} {e : aJ} {x0 : Int32} {x2 : Int32} {x3 : Int32} {q : Int32 × aI × aJ} (h : FX1_named d e x0 x2 x3 = some q) : Ev Γ (1) mX1_named [.int x0, .ref 2, .int x2, .int x3] d e (some (.int q.1)) q.2.1 q.2.2 := by
  refine Ev.of (by decide) rfl (Nat.le_of_ble_eq_true rfl) (fun z => by cases z) ?_
  show Rn Γ (1) mX1_named 0 [some (.int x0), some (.ref 2), some (.int x2), some (.int x3)] [] d e _ _ _
  unfold FX1_named at h
  refine a_ite h (fun c1 h => ?_) (fun c1 h => ?_)
  · refine bX1_named_0 (fun n0 _ _ _ _ _ _ _ _ _ _ _ _ _ _ _ _ _ => absurd c1 n0) (fun _ => ?_) (fun z => absurd (c1.symm.trans z) (by decide)) (fun z => absurd (c1.symm.trans z) (by decide)) (fun z => absurd (c1.symm.trans z) (by decide)) (fun z => absurd (c1.symm.trans z) (by decide)) (fun z => absurd (c1.symm.trans z) (by decide)) (fun z => absurd (c1.symm.trans z) (by decide)) (fun z => absurd (c1.symm.trans z) (by decide)) (fun z => absurd (c1.symm.trans z) (by decide)) (fun z => absurd (c1.symm.trans z) (by decide)) (fun z => absurd (c1.symm.trans z) (by decide)) (fun z => absurd (c1.symm.trans z) (by decide)) (fun z => absurd (c1.symm.trans z) (by decide)) (fun z => absurd (c1.symm.trans z) (by decide)) (fun z => absurd (c1.symm.trans z) (by decide)) (fun z => absurd (c1.symm.trans z) (by decide)) (fun z => absurd (c1.symm.trans z) (by decide)) (fun z => absurd (c1.symm.trans z) (by decide))
    cases h
    exact bX1_named_88
  · skip
    refine a_ite h (fun c2 h => ?_) (fun c2 h => ?_)
    · refine bX1_named_0 (fun _ n1 _ _ _ _ _ _ _ _ _ _ _ _ _ _ _ _ => absurd c2 n1) (fun z => absurd z c1) (fun _ => ?_) (fun z => absurd (c2.symm.trans z) (by decide)) (fun z => absurd (c2.symm.trans z) (by decide)) (fun z => absurd (c2.symm.trans z) (by decide)) (fun z => absurd (c2.symm.trans z) (by decide)) (fun z => absurd (c2.symm.trans z) (by decide)) (fun z => absurd (c2.symm.trans z) (by decide)) (fun z => absurd (c2.symm.trans z) (by decide)) (fun z => absurd (c2.symm.trans z) (by decide)) (fun z => absurd (c2.symm.trans z) (by decide)) (fun z => absurd (c2.symm.trans z) (by decide)) (fun z => absurd (c2.symm.trans z) (by decide)) (fun z => absurd (c2.symm.trans z) (by decide)) (fun z => absurd (c2.symm.trans z) (by decide)) (fun z => absurd (c2.symm.trans z) (by decide)) (fun z => absurd (c2.symm.trans z) (by decide)) (fun z => absurd (c2.symm.trans z) (by decide))
      obtain ⟨q3, hq3, h⟩ := Option.bind_eq_some_iff.mp h
      refine bX1_named_132 (evX2_isHouse hq3) (by omega) ?_
      refine a_ite h (fun c4 h => ?_) (fun c4 h => ?_)
      · refine bX1_named_137 (fun _ => ?_) (fun z => absurd c4 z)
        refine bX1_named_149 ?_
        cases h
        exact bX1_named_150
      · refine bX1_named_137 (fun z => absurd z c4) (fun _ => ?_)
        obtain ⟨g5, h⟩ := a_cond h
        refine bX1_named_140 (a_inb_vp g5) ?_
        cases h
        exact bX1_named_150
    · skip
      refine a_ite h (fun c6 h => ?_) (fun c6 h => ?_)
      · refine bX1_named_0 (fun _ _ n2 _ _ _ _ _ _ _ _ _ _ _ _ _ _ _ => absurd c6 n2) (fun z => absurd z c1) (fun z => absurd z c2) (fun _ => ?_) (fun z => absurd (c6.symm.trans z) (by decide)) (fun z => absurd (c6.symm.trans z) (by decide)) (fun z => absurd (c6.symm.trans z) (by decide)) (fun z => absurd (c6.symm.trans z) (by decide)) (fun z => absurd (c6.symm.trans z) (by decide)) (fun z => absurd (c6.symm.trans z) (by decide)) (fun z => absurd (c6.symm.trans z) (by decide)) (fun z => absurd (c6.symm.trans z) (by decide)) (fun z => absurd (c6.symm.trans z) (by decide)) (fun z => absurd (c6.symm.trans z) (by decide)) (fun z => absurd (c6.symm.trans z) (by decide)) (fun z => absurd (c6.symm.trans z) (by decide)) (fun z => absurd (c6.symm.trans z) (by decide)) (fun z => absurd (c6.symm.trans z) (by decide)) (fun z => absurd (c6.symm.trans z) (by decide))
        obtain ⟨g7, h⟩ := a_cond h
        cases h
        exact bX1_named_95 (a_inb_vp g7)
      · skip
        refine a_ite h (fun c8 h => ?_) (fun c8 h => ?_)
        · refine bX1_named_0 (fun _ _ _ n3 _ _ _ _ _ _ _ _ _ _ _ _ _ _ => absurd c8 n3) (fun z => absurd z c1) (fun z => absurd z c2) (fun z => absurd z c6) (fun _ => ?_) (fun z => absurd (c8.symm.trans z) (by decide)) (fun z => absurd (c8.symm.trans z) (by decide)) (fun z => absurd (c8.symm.trans z) (by decide)) (fun z => absurd (c8.symm.trans z) (by decide)) (fun z => absurd (c8.symm.trans z) (by decide)) (fun z => absurd (c8.symm.trans z) (by decide)) (fun z => absurd (c8.symm.trans z) (by decide)) (fun z => absurd (c8.symm.trans z) (by decide)) (fun z => absurd (c8.symm.trans z) (by decide)) (fun z => absurd (c8.symm.trans z) (by decide)) (fun z => absurd (c8.symm.trans z) (by decide)) (fun z => absurd (c8.symm.trans z) (by decide)) (fun z => absurd (c8.symm.trans z) (by decide)) (fun z => absurd (c8.symm.trans z) (by decide))
          obtain ⟨q9, hq9, h⟩ := Option.bind_eq_some_iff.mp h
          refine bX1_named_151 (evX2_isHouse hq9) (by omega) ?_
          refine a_ite h (fun c10 h => ?_) (fun c10 h => ?_)
          · refine bX1_named_156 (fun _ => ?_) (fun z => absurd c10 z)
            refine bX1_named_168 ?_
            cases h
            exact bX1_named_169
          · refine bX1_named_156 (fun z => absurd z c10) (fun _ => ?_)
            obtain ⟨g11, h⟩ := a_cond h
            refine bX1_named_159 (a_inb_vp g11) ?_
            cases h
            exact bX1_named_169
        · skip
          refine a_ite h (fun c12 h => ?_) (fun c12 h => ?_)
          · refine bX1_named_0 (fun _ _ _ _ n4 _ _ _ _ _ _ _ _ _ _ _ _ _ => absurd c12 n4) (fun z => absurd z c1) (fun z => absurd z c2) (fun z => absurd z c6) (fun z => absurd z c8) (fun _ => ?_) (fun z => absurd (c12.symm.trans z) (by decide)) (fun z => absurd (c12.symm.trans z) (by decide)) (fun z => absurd (c12.symm.trans z) (by decide)) (fun z => absurd (c12.symm.trans z) (by decide)) (fun z => absurd (c12.symm.trans z) (by decide)) (fun z => absurd (c12.symm.trans z) (by decide)) (fun z => absurd (c12.symm.trans z) (by decide)) (fun z => absurd (c12.symm.trans z) (by decide)) (fun z => absurd (c12.symm.trans z) (by decide)) (fun z => absurd (c12.symm.trans z) (by decide)) (fun z => absurd (c12.symm.trans z) (by decide)) (fun z => absurd (c12.symm.trans z) (by decide)) (fun z => absurd (c12.symm.trans z) (by decide))
            obtain ⟨q13, hq13, h⟩ := Option.bind_eq_some_iff.mp h
            refine bX1_named_151 (evX2_isHouse hq13) (by omega) ?_
            refine a_ite h (fun c14 h => ?_) (fun c14 h => ?_)
            · refine bX1_named_156 (fun _ => ?_) (fun z => absurd c14 z)
              refine bX1_named_168 ?_
              cases h
              exact bX1_named_169
            · refine bX1_named_156 (fun z => absurd z c14) (fun _ => ?_)
              obtain ⟨g15, h⟩ := a_cond h
              refine bX1_named_159 (a_inb_vp g15) ?_
              cases h
              exact bX1_named_169
          · skip
            refine a_ite h (fun c16 h => ?_) (fun c16 h => ?_)
            · refine bX1_named_0 (fun _ _ _ _ _ n5 _ _ _ _ _ _ _ _ _ _ _ _ => absurd c16 n5) (fun z => absurd z c1) (fun z => absurd z c2) (fun z => absurd z c6) (fun z => absurd z c8) (fun z => absurd z c12) (fun _ => ?_) (fun z => absurd (c16.symm.trans z) (by decide)) (fun z => absurd (c16.symm.trans z) (by decide)) (fun z => absurd (c16.symm.trans z) (by decide)) (fun z => absurd (c16.symm.trans z) (by decide)) (fun z => absurd (c16.symm.trans z) (by decide)) (fun z => absurd (c16.symm.trans z) (by decide)) (fun z => absurd (c16.symm.trans z) (by decide)) (fun z => absurd (c16.symm.trans z) (by decide)) (fun z => absurd (c16.symm.trans z) (by decide)) (fun z => absurd (c16.symm.trans z) (by decide)) (fun z => absurd (c16.symm.trans z) (by decide)) (fun z => absurd (c16.symm.trans z) (by decide))
              obtain ⟨q17, hq17, h⟩ := Option.bind_eq_some_iff.mp h
              refine bX1_named_151 (evX2_isHouse hq17) (by omega) ?_
              refine a_ite h (fun c18 h => ?_) (fun c18 h => ?_)
              · refine bX1_named_156 (fun _ => ?_) (fun z => absurd c18 z)
                refine bX1_named_168 ?_
                cases h
                exact bX1_named_169
              · refine bX1_named_156 (fun z => absurd z c18) (fun _ => ?_)
                obtain ⟨g19, h⟩ := a_cond h
                refine bX1_named_159 (a_inb_vp g19) ?_
                cases h
                exact bX1_named_169
            · skip
              refine a_ite h (fun c20 h => ?_) (fun c20 h => ?_)
              · refine bX1_named_0 (fun _ _ _ _ _ _ n6 _ _ _ _ _ _ _ _ _ _ _ => absurd c20 n6) (fun z => absurd z c1) (fun z => absurd z c2) (fun z => absurd z c6) (fun z => absurd z c8) (fun z => absurd z c12) (fun z => absurd z c16) (fun _ => ?_) (fun z => absurd (c20.symm.trans z) (by decide)) (fun z => absurd (c20.symm.trans z) (by decide)) (fun z => absurd (c20.symm.trans z) (by decide)) (fun z => absurd (c20.symm.trans z) (by decide)) (fun z => absurd (c20.symm.trans z) (by decide)) (fun z => absurd (c20.symm.trans z) (by decide)) (fun z => absurd (c20.symm.trans z) (by decide)) (fun z => absurd (c20.symm.trans z) (by decide)) (fun z => absurd (c20.symm.trans z) (by decide)) (fun z => absurd (c20.symm.trans z) (by decide)) (fun z => absurd (c20.symm.trans z) (by decide))
                obtain ⟨q21, hq21, h⟩ := Option.bind_eq_some_iff.mp h
                refine bX1_named_151 (evX2_isHouse hq21) (by omega) ?_
                refine a_ite h (fun c22 h => ?_) (fun c22 h => ?_)
                · refine bX1_named_156 (fun _ => ?_) (fun z => absurd c22 z)
                  refine bX1_named_168 ?_
                  cases h
                  exact bX1_named_169
                · refine bX1_named_156 (fun z => absurd z c22) (fun _ => ?_)
                  obtain ⟨g23, h⟩ := a_cond h
                  refine bX1_named_159 (a_inb_vp g23) ?_
                  cases h
                  exact bX1_named_169
              · skip
                refine a_ite h (fun c24 h => ?_) (fun c24 h => ?_)
                · refine bX1_named_0 (fun _ _ _ _ _ _ _ n7 _ _ _ _ _ _ _ _ _ _ => absurd c24 n7) (fun z => absurd z c1) (fun z => absurd z c2) (fun z => absurd z c6) (fun z => absurd z c8) (fun z => absurd z c12) (fun z => absurd z c16) (fun z => absurd z c20) (fun _ => ?_) (fun z => absurd (c24.symm.trans z) (by decide)) (fun z => absurd (c24.symm.trans z) (by decide)) (fun z => absurd (c24.symm.trans z) (by decide)) (fun z => absurd (c24.symm.trans z) (by decide)) (fun z => absurd (c24.symm.trans z) (by decide)) (fun z => absurd (c24.symm.trans z) (by decide)) (fun z => absurd (c24.symm.trans z) (by decide)) (fun z => absurd (c24.symm.trans z) (by decide)) (fun z => absurd (c24.symm.trans z) (by decide)) (fun z => absurd (c24.symm.trans z) (by decide))
                  obtain ⟨q25, hq25, h⟩ := Option.bind_eq_some_iff.mp h
                  refine bX1_named_151 (evX2_isHouse hq25) (by omega) ?_
                  refine a_ite h (fun c26 h => ?_) (fun c26 h => ?_)
                  · refine bX1_named_156 (fun _ => ?_) (fun z => absurd c26 z)
                    refine bX1_named_168 ?_
                    cases h
                    exact bX1_named_169
                  · refine bX1_named_156 (fun z => absurd z c26) (fun _ => ?_)
                    obtain ⟨g27, h⟩ := a_cond h
                    refine bX1_named_159 (a_inb_vp g27) ?_
                    cases h
                    exact bX1_named_169
                · skip
                  refine a_ite h (fun c28 h => ?_) (fun c28 h => ?_)
                  · refine bX1_named_0 (fun _ _ _ _ _ _ _ _ n8 _ _ _ _ _ _ _ _ _ => absurd c28 n8) (fun z => absurd z c1) (fun z => absurd z c2) (fun z => absurd z c6) (fun z => absurd z c8) (fun z => absurd z c12) (fun z => absurd z c16) (fun z => absurd z c20) (fun z => absurd z c24) (fun _ => ?_) (fun z => absurd (c28.symm.trans z) (by decide)) (fun z => absurd (c28.symm.trans z) (by decide)) (fun z => absurd (c28.symm.trans z) (by decide)) (fun z => absurd (c28.symm.trans z) (by decide)) (fun z => absurd (c28.symm.trans z) (by decide)) (fun z => absurd (c28.symm.trans z) (by decide)) (fun z => absurd (c28.symm.trans z) (by decide)) (fun z => absurd (c28.symm.trans z) (by decide)) (fun z => absurd (c28.symm.trans z) (by decide))
                    obtain ⟨q29, hq29, h⟩ := Option.bind_eq_some_iff.mp h
                    refine bX1_named_151 (evX2_isHouse hq29) (by omega) ?_
                    refine a_ite h (fun c30 h => ?_) (fun c30 h => ?_)
                    · refine bX1_named_156 (fun _ => ?_) (fun z => absurd c30 z)
                      refine bX1_named_168 ?_
                      cases h
                      exact bX1_named_169
                    · refine bX1_named_156 (fun z => absurd z c30) (fun _ => ?_)
                      obtain ⟨g31, h⟩ := a_cond h
                      refine bX1_named_159 (a_inb_vp g31) ?_
                      cases h
                      exact bX1_named_169
                  · skip
                    refine a_ite h (fun c32 h => ?_) (fun c32 h => ?_)
                    · refine bX1_named_0 (fun _ _ _ _ _ _ _ _ _ n9 _ _ _ _ _ _ _ _ => absurd c32 n9) (fun z => absurd z c1) (fun z => absurd z c2) (fun z => absurd z c6) (fun z => absurd z c8) (fun z => absurd z c12) (fun z => absurd z c16) (fun z => absurd z c20) (fun z => absurd z c24) (fun z => absurd z c28) (fun _ => ?_) (fun z => absurd (c32.symm.trans z) (by decide)) (fun z => absurd (c32.symm.trans z) (by decide)) (fun z => absurd (c32.symm.trans z) (by decide)) (fun z => absurd (c32.symm.trans z) (by decide)) (fun z => absurd (c32.symm.trans z) (by decide)) (fun z => absurd (c32.symm.trans z) (by decide)) (fun z => absurd (c32.symm.trans z) (by decide)) (fun z => absurd (c32.symm.trans z) (by decide))
                      obtain ⟨q33, hq33, h⟩ := Option.bind_eq_some_iff.mp h
                      refine bX1_named_151 (evX2_isHouse hq33) (by omega) ?_
                      refine a_ite h (fun c34 h => ?_) (fun c34 h => ?_)
                      · refine bX1_named_156 (fun _ => ?_) (fun z => absurd c34 z)
                        refine bX1_named_168 ?_
                        cases h
                        exact bX1_named_169
                      · refine bX1_named_156 (fun z => absurd z c34) (fun _ => ?_)
                        obtain ⟨g35, h⟩ := a_cond h
                        refine bX1_named_159 (a_inb_vp g35) ?_
                        cases h
                        exact bX1_named_169
                    · skip
                      refine a_ite h (fun c36 h => ?_) (fun c36 h => ?_)
                      · refine bX1_named_0 (fun _ _ _ _ _ _ _ _ _ _ n10 _ _ _ _ _ _ _ => absurd c36 n10) (fun z => absurd z c1) (fun z => absurd z c2) (fun z => absurd z c6) (fun z => absurd z c8) (fun z => absurd z c12) (fun z => absurd z c16) (fun z => absurd z c20) (fun z => absurd z c24) (fun z => absurd z c28) (fun z => absurd z c32) (fun _ => ?_) (fun z => absurd (c36.symm.trans z) (by decide)) (fun z => absurd (c36.symm.trans z) (by decide)) (fun z => absurd (c36.symm.trans z) (by decide)) (fun z => absurd (c36.symm.trans z) (by decide)) (fun z => absurd (c36.symm.trans z) (by decide)) (fun z => absurd (c36.symm.trans z) (by decide)) (fun z => absurd (c36.symm.trans z) (by decide))
                        obtain ⟨q37, hq37, h⟩ := Option.bind_eq_some_iff.mp h
                        refine bX1_named_151 (evX2_isHouse hq37) (by omega) ?_
                        refine a_ite h (fun c38 h => ?_) (fun c38 h => ?_)
                        · refine bX1_named_156 (fun _ => ?_) (fun z => absurd c38 z)
                          refine bX1_named_168 ?_
                          cases h
                          exact bX1_named_169
                        · refine bX1_named_156 (fun z => absurd z c38) (fun _ => ?_)
                          obtain ⟨g39, h⟩ := a_cond h
                          refine bX1_named_159 (a_inb_vp g39) ?_
                          cases h
                          exact bX1_named_169
                      · skip
                        refine a_ite h (fun c40 h => ?_) (fun c40 h => ?_)
                        · refine bX1_named_0 (fun _ _ _ _ _ _ _ _ _ _ _ n11 _ _ _ _ _ _ => absurd c40 n11) (fun z => absurd z c1) (fun z => absurd z c2) (fun z => absurd z c6) (fun z => absurd z c8) (fun z => absurd z c12) (fun z => absurd z c16) (fun z => absurd z c20) (fun z => absurd z c24) (fun z => absurd z c28) (fun z => absurd z c32) (fun z => absurd z c36) (fun _ => ?_) (fun z => absurd (c40.symm.trans z) (by decide)) (fun z => absurd (c40.symm.trans z) (by decide)) (fun z => absurd (c40.symm.trans z) (by decide)) (fun z => absurd (c40.symm.trans z) (by decide)) (fun z => absurd (c40.symm.trans z) (by decide)) (fun z => absurd (c40.symm.trans z) (by decide))
                          obtain ⟨q41, hq41, h⟩ := Option.bind_eq_some_iff.mp h
                          refine bX1_named_151 (evX2_isHouse hq41) (by omega) ?_
                          refine a_ite h (fun c42 h => ?_) (fun c42 h => ?_)
                          · refine bX1_named_156 (fun _ => ?_) (fun z => absurd c42 z)
                            refine bX1_named_168 ?_
                            cases h
                            exact bX1_named_169
                          · refine bX1_named_156 (fun z => absurd z c42) (fun _ => ?_)
                            obtain ⟨g43, h⟩ := a_cond h
                            refine bX1_named_159 (a_inb_vp g43) ?_
                            cases h
                            exact bX1_named_169
                        · skip
                          refine a_ite h (fun c44 h => ?_) (fun c44 h => ?_)
                          · refine bX1_named_0 (fun _ _ _ _ _ _ _ _ _ _ _ _ n12 _ _ _ _ _ => absurd c44 n12) (fun z => absurd z c1) (fun z => absurd z c2) (fun z => absurd z c6) (fun z => absurd z c8) (fun z => absurd z c12) (fun z => absurd z c16) (fun z => absurd z c20) (fun z => absurd z c24) (fun z => absurd z c28) (fun z => absurd z c32) (fun z => absurd z c36) (fun z => absurd z c40) (fun _ => ?_) (fun z => absurd (c44.symm.trans z) (by decide)) (fun z => absurd (c44.symm.trans z) (by decide)) (fun z => absurd (c44.symm.trans z) (by decide)) (fun z => absurd (c44.symm.trans z) (by decide)) (fun z => absurd (c44.symm.trans z) (by decide))
                            obtain ⟨q45, hq45, h⟩ := Option.bind_eq_some_iff.mp h
                            refine bX1_named_151 (evX2_isHouse hq45) (by omega) ?_
                            refine a_ite h (fun c46 h => ?_) (fun c46 h => ?_)
                            · refine bX1_named_156 (fun _ => ?_) (fun z => absurd c46 z)
                              refine bX1_named_168 ?_
                              cases h
                              exact bX1_named_169
                            · refine bX1_named_156 (fun z => absurd z c46) (fun _ => ?_)
                              obtain ⟨g47, h⟩ := a_cond h
                              refine bX1_named_159 (a_inb_vp g47) ?_
                              cases h
                              exact bX1_named_169
                          · skip
                            refine a_ite h (fun c48 h => ?_) (fun c48 h => ?_)
                            · refine bX1_named_0 (fun _ _ _ _ _ _ _ _ _ _ _ _ _ n13 _ _ _ _ => absurd c48 n13) (fun z => absurd z c1) (fun z => absurd z c2) (fun z => absurd z c6) (fun z => absurd z c8) (fun z => absurd z c12) (fun z => absurd z c16) (fun z => absurd z c20) (fun z => absurd z c24) (fun z => absurd z c28) (fun z => absurd z c32) (fun z => absurd z c36) (fun z => absurd z c40) (fun z => absurd z c44) (fun _ => ?_) (fun z => absurd (c48.symm.trans z) (by decide)) (fun z => absurd (c48.symm.trans z) (by decide)) (fun z => absurd (c48.symm.trans z) (by decide)) (fun z => absurd (c48.symm.trans z) (by decide))
                              cases h
                              exact bX1_named_93
                            · skip
                              refine a_ite h (fun c49 h => ?_) (fun c49 h => ?_)
                              · refine bX1_named_0 (fun _ _ _ _ _ _ _ _ _ _ _ _ _ _ n14 _ _ _ => absurd c49 n14) (fun z => absurd z c1) (fun z => absurd z c2) (fun z => absurd z c6) (fun z => absurd z c8) (fun z => absurd z c12) (fun z => absurd z c16) (fun z => absurd z c20) (fun z => absurd z c24) (fun z => absurd z c28) (fun z => absurd z c32) (fun z => absurd z c36) (fun z => absurd z c40) (fun z => absurd z c44) (fun z => absurd z c48) (fun _ => ?_) (fun z => absurd (c49.symm.trans z) (by decide)) (fun z => absurd (c49.symm.trans z) (by decide)) (fun z => absurd (c49.symm.trans z) (by decide))
                                obtain ⟨g50, h⟩ := a_cond h
                                cases h
                                exact bX1_named_102 (a_inb_vp g50)
                              · skip
                                refine a_ite h (fun c51 h => ?_) (fun c51 h => ?_)
                                · refine bX1_named_0 (fun _ _ _ _ _ _ _ _ _ _ _ _ _ _ _ n15 _ _ => absurd c51 n15) (fun z => absurd z c1) (fun z => absurd z c2) (fun z => absurd z c6) (fun z => absurd z c8) (fun z => absurd z c12) (fun z => absurd z c16) (fun z => absurd z c20) (fun z => absurd z c24) (fun z => absurd z c28) (fun z => absurd z c32) (fun z => absurd z c36) (fun z => absurd z c40) (fun z => absurd z c44) (fun z => absurd z c48) (fun z => absurd z c49) (fun _ => ?_) (fun z => absurd (c51.symm.trans z) (by decide)) (fun z => absurd (c51.symm.trans z) (by decide))
                                  obtain ⟨g52, h⟩ := a_cond h
                                  cases h
                                  exact bX1_named_109 (a_inb_vp g52)
                                · skip
                                  refine a_ite h (fun c53 h => ?_) (fun c53 h => ?_)
                                  · refine bX1_named_0 (fun _ _ _ _ _ _ _ _ _ _ _ _ _ _ _ _ n16 _ => absurd c53 n16) (fun z => absurd z c1) (fun z => absurd z c2) (fun z => absurd z c6) (fun z => absurd z c8) (fun z => absurd z c12) (fun z => absurd z c16) (fun z => absurd z c20) (fun z => absurd z c24) (fun z => absurd z c28) (fun z => absurd z c32) (fun z => absurd z c36) (fun z => absurd z c40) (fun z => absurd z c44) (fun z => absurd z c48) (fun z => absurd z c49) (fun z => absurd z c51) (fun _ => ?_) (fun z => absurd (c53.symm.trans z) (by decide))
                                    obtain ⟨q54, hq54, h⟩ := Option.bind_eq_some_iff.mp h
                                    refine bX1_named_151 (evX2_isHouse hq54) (by omega) ?_
                                    refine a_ite h (fun c55 h => ?_) (fun c55 h => ?_)
                                    · refine bX1_named_156 (fun _ => ?_) (fun z => absurd c55 z)
                                      refine bX1_named_168 ?_
                                      cases h
                                      exact bX1_named_169
                                    · refine bX1_named_156 (fun z => absurd z c55) (fun _ => ?_)
                                      obtain ⟨g56, h⟩ := a_cond h
                                      refine bX1_named_159 (a_inb_vp g56) ?_
                                      cases h
                                      exact bX1_named_169
                                  · skip
                                    refine a_ite h (fun c57 h => ?_) (fun c57 h => ?_)
                                    · refine bX1_named_0 (fun _ _ _ _ _ _ _ _ _ _ _ _ _ _ _ _ _ n17 => absurd c57 n17) (fun z => absurd z c1) (fun z => absurd z c2) (fun z => absurd z c6) (fun z => absurd z c8) (fun z => absurd z c12) (fun z => absurd z c16) (fun z => absurd z c20) (fun z => absurd z c24) (fun z => absurd z c28) (fun z => absurd z c32) (fun z => absurd z c36) (fun z => absurd z c40) (fun z => absurd z c44) (fun z => absurd z c48) (fun z => absurd z c49) (fun z => absurd z c51) (fun z => absurd z c53) (fun _ => ?_)
                                      obtain ⟨g58, h⟩ := a_cond h
                                      refine a_ite h (fun c59 h => ?_) (fun c59 h => ?_)
                                      · refine bX1_named_116 (a_inb_vp g58) (fun z => absurd c59 z) (fun _ => ?_)
                                        refine bX1_named_126 ?_
                                        cases h
                                        exact bX1_named_131
                                      · refine bX1_named_116 (a_inb_vp g58) (fun _ => ?_) (fun z => absurd z c59)
                                        refine bX1_named_130 ?_
                                        cases h
                                        exact bX1_named_131
                                    · skip
                                      refine bX1_named_0 (fun _ _ _ _ _ _ _ _ _ _ _ _ _ _ _ _ _ _ => ?_) (fun z => absurd z c1) (fun z => absurd z c2) (fun z => absurd z c6) (fun z => absurd z c8) (fun z => absurd z c12) (fun z => absurd z c16) (fun z => absurd z c20) (fun z => absurd z c24) (fun z => absurd z c28) (fun z => absurd z c32) (fun z => absurd z c36) (fun z => absurd z c40) (fun z => absurd z c44) (fun z => absurd z c48) (fun z => absurd z c49) (fun z => absurd z c51) (fun z => absurd z c53) (fun z => absurd z c57)
                                      obtain ⟨q60, hq60, h⟩ := Option.bind_eq_some_iff.mp h
                                      refine bX1_named_151 (evX2_isHouse hq60) (by omega) ?_
                                      refine a_ite h (fun c61 h => ?_) (fun c61 h => ?_)
                                      · refine bX1_named_156 (fun _ => ?_) (fun z => absurd c61 z)
                                        refine bX1_named_168 ?_
                                        cases h
                                        exact bX1_named_169
                                      · refine bX1_named_156 (fun z => absurd z c61) (fun _ => ?_)
                                        obtain ⟨g62, h⟩ := a_cond h
                                        refine bX1_named_159 (a_inb_vp g62) ?_
                                        cases h
                                        exact bX1_named_169

