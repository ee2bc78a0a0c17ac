/-! ===== functions out of the methods ===== -/
noncomputable def FX1_ofOne (d : aI) (e : aJ) (x0 : Int32) (x1 : Int32) : Option (Int32 × aI × aJ) := (if x0 = (nI 5) then (some ((-x1), d, e)) else (if x0 = (nI 320) then (some (((nI 1) - x1), d, e)) else ((FX2_isCat d e x1).bind fun q3 => (if q3.1 = 0 then (some ((nI 0), q3.2.1, q3.2.2)) else (bif ((a_inb x1 6)) then (some ((q3.2.1 6 (x1).toNatClampNeg), q3.2.1, q3.2.2)) else none)))))
theorem evX1_ofOne {Γ : aG × Launch} {d : aI} {e : aJ} {x0 : Int32} {x1 : Int32} {q : Int32 × aI × aJ} (h : FX1_ofOne d e x0 x1 = some q) : Ev Γ (1) mX1_ofOne [.int x0, .int x1, .ref 2] d e (some (.int q.1)) q.2.1 q.2.2 := by
  refine Ev.of (by decide) rfl (Nat.le_of_ble_eq_true rfl) (fun z => by cases z) ?_
  show Rn Γ (1) mX1_ofOne 0 [some (.int x0), some (.int x1), some (.ref 2)] [] d e _ _ _
  unfold FX1_ofOne at h
  refine a_ite h (fun c1 h => ?_) (fun c1 h => ?_)
  · refine bX1_ofOne_0 (fun z => absurd c1 z) (fun _ => ?_)
    cases h
    exact bX1_ofOne_5
  · refine bX1_ofOne_0 (fun _ => ?_) (fun z => absurd z c1)
    refine a_ite h (fun c2 h => ?_) (fun c2 h => ?_)
    · refine bX1_ofOne_8 (fun z => absurd c2 z) (fun _ => ?_)
      cases h
      exact bX1_ofOne_15
    · refine bX1_ofOne_8 (fun _ => ?_) (fun z => absurd z c2)
      obtain ⟨q3, hq3, h⟩ := Option.bind_eq_some_iff.mp h
      refine bX1_ofOne_19 (evX2_isCat hq3) (by omega) ?_
      refine a_ite h (fun c4 h => ?_) (fun c4 h => ?_)
      · refine bX1_ofOne_24 (fun _ => ?_) (fun z => absurd c4 z)
        refine bX1_ofOne_36 ?_
        cases h
        exact bX1_ofOne_37
      · refine bX1_ofOne_24 (fun z => absurd z c4) (fun _ => ?_)
        obtain ⟨g5, h⟩ := a_cond h
        refine bX1_ofOne_27 (a_inb_vp g5) ?_
        cases h
        exact bX1_ofOne_37

noncomputable def FX1_ofTwo (d : aI) (e : aJ) (x0 : Int32) (y1 : Int64) (y3 : Int64) : Option (Int64 × aI × aJ) := (if x0 = (nI 42) then (some ((y1 * y3), d, e)) else (if x0 = (nI 43) then (some ((y1 + y3), d, e)) else (if x0 = (nI 45) then (some ((y1 - y3), d, e)) else (if x0 = (nI 47) then (if (lg_cmp y3 (lN 0)) = 0 then (some ((lN 0), d, e)) else (bif ((decide (¬ y3 = 0))) then (some ((y1 / y3), d, e)) else none)) else (if x0 = (nI 312) then (bif ((decide (¬ (lN 10) = 0)) && (decide (¬ (lN 10) = 0)) && (decide (¬ (lN 10) = 0))) then (some ((a_jrm (((a_jrm (a_absJ y3) (lN 10)) - (a_jrm (a_absJ y1) (lN 10))) + (lN 10)) (lN 10)), d, e)) else none) else (if x0 = (nI 318) then (some ((y1 ||| y3), d, e)) else (if x0 = (nI 319) then (some ((y1 &&& y3), d, e)) else ((FX1_compares d e x0 y1 y3).bind fun q11 => (if q11.1 = 0 then (some ((lN 0), q11.2.1, q11.2.2)) else (some ((lN 1), q11.2.1, q11.2.2)))))))))))
theorem evX1_ofTwo {Γ : aG × Launch} {d : aI} {e : aJ} {x0 : Int32} {y1 : Int64} {y3 : Int64} {q : Int64 × aI × aJ} (h : FX1_ofTwo d e x0 y1 y3 = some q) : Ev Γ (1) mX1_ofTwo [.int x0, .long y1, .long y3] d e (some (.long q.1)) q.2.1 q.2.2 := by
  refine Ev.of (by decide) rfl (Nat.le_of_ble_eq_true rfl) (fun z => by cases z) ?_
  show Rn Γ (1) mX1_ofTwo 0 [some (.int x0), some (.long y1), none, some (.long y3), none] [] d e _ _ _
  unfold FX1_ofTwo at h
  refine a_ite h (fun c1 h => ?_) (fun c1 h => ?_)
  · refine bX1_ofTwo_0 (fun n0 _ _ _ _ _ _ => absurd c1 n0) (fun _ => ?_) (fun z => absurd (c1.symm.trans z) (by decide)) (fun z => absurd (c1.symm.trans z) (by decide)) (fun z => absurd (c1.symm.trans z) (by decide)) (fun z => absurd (c1.symm.trans z) (by decide)) (fun z => absurd (c1.symm.trans z) (by decide)) (fun z => absurd (c1.symm.trans z) (by decide))
    cases h
    exact bX1_ofTwo_76
  · skip
    refine a_ite h (fun c2 h => ?_) (fun c2 h => ?_)
    · refine bX1_ofTwo_0 (fun _ n1 _ _ _ _ _ => absurd c2 n1) (fun z => absurd z c1) (fun _ => ?_) (fun z => absurd (c2.symm.trans z) (by decide)) (fun z => absurd (c2.symm.trans z) (by decide)) (fun z => absurd (c2.symm.trans z) (by decide)) (fun z => absurd (c2.symm.trans z) (by decide)) (fun z => absurd (c2.symm.trans z) (by decide))
      cases h
      exact bX1_ofTwo_68
    · skip
      refine a_ite h (fun c3 h => ?_) (fun c3 h => ?_)
      · refine bX1_ofTwo_0 (fun _ _ n2 _ _ _ _ => absurd c3 n2) (fun z => absurd z c1) (fun z => absurd z c2) (fun _ => ?_) (fun z => absurd (c3.symm.trans z) (by decide)) (fun z => absurd (c3.symm.trans z) (by decide)) (fun z => absurd (c3.symm.trans z) (by decide)) (fun z => absurd (c3.symm.trans z) (by decide))
        cases h
        exact bX1_ofTwo_72
      · skip
        refine a_ite h (fun c4 h => ?_) (fun c4 h => ?_)
        · refine bX1_ofTwo_0 (fun _ _ _ n3 _ _ _ => absurd c4 n3) (fun z => absurd z c1) (fun z => absurd z c2) (fun z => absurd z c3) (fun _ => ?_) (fun z => absurd (c4.symm.trans z) (by decide)) (fun z => absurd (c4.symm.trans z) (by decide)) (fun z => absurd (c4.symm.trans z) (by decide))
          refine a_ite h (fun c5 h => ?_) (fun c5 h => ?_)
          · refine bX1_ofTwo_80 (fun z => absurd c5 z) (fun _ => ?_)
            refine bX1_ofTwo_86 ?_
            cases h
            exact bX1_ofTwo_93
          · refine bX1_ofTwo_80 (fun _ => ?_) (fun z => absurd z c5)
            obtain ⟨g6, h⟩ := a_cond h
            refine bX1_ofTwo_90 (of_decide_eq_true g6) ?_
            cases h
            exact bX1_ofTwo_93
        · skip
          refine a_ite h (fun c7 h => ?_) (fun c7 h => ?_)
          · refine bX1_ofTwo_0 (fun _ _ _ _ n4 _ _ => absurd c7 n4) (fun z => absurd z c1) (fun z => absurd z c2) (fun z => absurd z c3) (fun z => absurd z c4) (fun _ => ?_) (fun z => absurd (c7.symm.trans z) (by decide)) (fun z => absurd (c7.symm.trans z) (by decide))
            obtain ⟨g8, h⟩ := a_cond h
            obtain ⟨g8x2, g8_2⟩ := a_and g8
            obtain ⟨g8x1, g8_1⟩ := a_and g8x2
            have g8_0 := g8x1
            cases h
            exact bX1_ofTwo_94 ⟨(of_decide_eq_true g8_0), (of_decide_eq_true g8_1), (of_decide_eq_true g8_2)⟩
          · skip
            refine a_ite h (fun c9 h => ?_) (fun c9 h => ?_)
            · refine bX1_ofTwo_0 (fun _ _ _ _ _ n5 _ => absurd c9 n5) (fun z => absurd z c1) (fun z => absurd z c2) (fun z => absurd z c3) (fun z => absurd z c4) (fun z => absurd z c7) (fun _ => ?_) (fun z => absurd (c9.symm.trans z) (by decide))
              cases h
              exact bX1_ofTwo_124
            · skip
              refine a_ite h (fun c10 h => ?_) (fun c10 h => ?_)
              · refine bX1_ofTwo_0 (fun _ _ _ _ _ _ n6 => absurd c10 n6) (fun z => absurd z c1) (fun z => absurd z c2) (fun z => absurd z c3) (fun z => absurd z c4) (fun z => absurd z c7) (fun z => absurd z c9) (fun _ => ?_)
                cases h
                exact bX1_ofTwo_120
              · skip
                refine bX1_ofTwo_0 (fun _ _ _ _ _ _ _ => ?_) (fun z => absurd z c1) (fun z => absurd z c2) (fun z => absurd z c3) (fun z => absurd z c4) (fun z => absurd z c7) (fun z => absurd z c9) (fun z => absurd z c10)
                obtain ⟨q11, hq11, h⟩ := Option.bind_eq_some_iff.mp h
                refine bX1_ofTwo_128 (evX1_compares hq11) (by omega) ?_
                refine a_ite h (fun c12 h => ?_) (fun c12 h => ?_)
                · refine bX1_ofTwo_134 (fun _ => ?_) (fun z => absurd c12 z)
                  refine bX1_ofTwo_141 ?_
                  cases h
                  exact bX1_ofTwo_142
                · refine bX1_ofTwo_134 (fun z => absurd z c12) (fun _ => ?_)
                  refine bX1_ofTwo_137 ?_
                  cases h
                  exact bX1_ofTwo_142

noncomputable def FX2_enter (d : aI) (e : aJ) (x1 : Int32) (x2 : Int32) : Option (Unit × aI × aJ) := (bif ((a_inb x1 6) && (a_inb x2 6) && (a_inb x2 6)) then ((FX2_note (uI (uI d 8 (x1).toNatClampNeg x2) 5 (x2).toNatClampNeg (a_min ((d 5 (x2).toNatClampNeg) + (nI 1)) (nI 999))) e x1 x2 (nI 0)).bind fun q2 => (some ((), q2.2.1, q2.2.2))) else none)
theorem evX2_enter {Γ : aG × Launch} {d : aI} {e : aJ} {x1 : Int32} {x2 : Int32} {q : Unit × aI × aJ} (h : FX2_enter d e x1 x2 = some q) : Ev Γ (1) mX2_enter [.ref 2, .int x1, .int x2] d e none q.2.1 q.2.2 := by
  refine Ev.of (by decide) rfl (Nat.le_of_ble_eq_true rfl) (fun z => by cases z) ?_
  show Rn Γ (1) mX2_enter 0 [some (.ref 2), some (.int x1), some (.int x2)] [] d e _ _ _
  unfold FX2_enter at h
  obtain ⟨g1, h⟩ := a_cond h
  obtain ⟨g1x2, g1_2⟩ := a_and g1
  obtain ⟨g1x1, g1_1⟩ := a_and g1x2
  have g1_0 := g1x1
  obtain ⟨q2, hq2, h⟩ := Option.bind_eq_some_iff.mp h
  refine bX2_enter_0 ⟨(a_inb_vp g1_0), (a_inb_vp g1_1), (a_inb_vp g1_2)⟩ (evX2_note hq2) (by omega) ?_
  cases h
  exact bX2_enter_34

noncomputable def FX2_leave (d : aI) (e : aJ) (x1 : Int32) (x2 : Int32) (x3 : Int32) : Option (Unit × aI × aJ) := (bif ((a_inb x1 6)) then ((FX2_note (uI d 8 (x1).toNatClampNeg (-(nI 1))) e x1 x2 x3).bind fun q2 => (some ((), q2.2.1, q2.2.2))) else none)
theorem evX2_leave {Γ : aG × Launch} {d : aI} {e : aJ} {x1 : Int32} {x2 : Int32} {x3 : Int32} {q : Unit × aI × aJ} (h : FX2_leave d e x1 x2 x3 = some q) : Ev Γ (1) mX2_leave [.ref 2, .int x1, .int x2, .int x3] d e none q.2.1 q.2.2 := by
  refine Ev.of (by decide) rfl (Nat.le_of_ble_eq_true rfl) (fun z => by cases z) ?_
  show Rn Γ (1) mX2_leave 0 [some (.ref 2), some (.int x1), some (.int x2), some (.int x3)] [] d e _ _ _
  unfold FX2_leave at h
  obtain ⟨g1, h⟩ := a_cond h
  obtain ⟨q2, hq2, h⟩ := Option.bind_eq_some_iff.mp h
  refine bX2_leave_0 (a_inb_vp g1) (evX2_note hq2) (by omega) ?_
  cases h
  exact bX2_leave_14

noncomputable def FX2_wander (d : aI) (e : aJ) (x1 : Int32) : Option (Unit × aI × aJ) := ((FX2_draw d e).bind fun q1 => (bif ((decide (¬ (nI 3) = 0))) then (if (a_irm q1.1 (nI 3)) = 0 then (some ((), q1.2.1, q1.2.2)) else (if (a_irm q1.1 (nI 3)) = (nI 1) then ((FX2_move q1.2.1 q1.2.2 x1 (nI 1)).bind fun q5 => (some ((), q5.2.1, q5.2.2))) else ((FX2_move q1.2.1 q1.2.2 x1 (-(nI 1))).bind fun q6 => (some ((), q6.2.1, q6.2.2))))) else none))
theorem evX2_wander {Γ : aG × Launch} {d : aI} {e : aJ} {x1 : Int32} {q : Unit × aI × aJ} (h : FX2_wander d e x1 = some q) : Ev Γ (1) mX2_wander [.ref 2, .int x1] d e none q.2.1 q.2.2 := by
  refine Ev.of (by decide) rfl (Nat.le_of_ble_eq_true rfl) (fun z => by cases z) ?_
  show Rn Γ (1) mX2_wander 0 [some (.ref 2), some (.int x1), none] [] d e _ _ _
  unfold FX2_wander at h
  obtain ⟨q1, hq1, h⟩ := Option.bind_eq_some_iff.mp h
  refine bX2_wander_0 (evX2_draw hq1) (by omega) ?_
  obtain ⟨g2, h⟩ := a_cond h
  refine a_ite h (fun c3 h => ?_) (fun c3 h => ?_)
  · refine bX2_wander_4 (of_decide_eq_true g2) (fun _ => ?_) (fun z => absurd c3 z)
    cases h
    exact bX2_wander_26
  · refine bX2_wander_4 (of_decide_eq_true g2) (fun z => absurd z c3) (fun _ => ?_)
    refine a_ite h (fun c4 h => ?_) (fun c4 h => ?_)
    · refine bX2_wander_11 (fun z => absurd c4 z) (fun _ => ?_)
      refine bX2_wander_18 ?_
      obtain ⟨q5, hq5, h⟩ := Option.bind_eq_some_iff.mp h
      refine bX2_wander_23 (evX2_move hq5) (by omega) ?_
      cases h
      exact bX2_wander_26
    · refine bX2_wander_11 (fun _ => ?_) (fun z => absurd z c4)
      refine bX2_wander_22 ?_
      obtain ⟨q6, hq6, h⟩ := Option.bind_eq_some_iff.mp h
      refine bX2_wander_23 (evX2_move hq6) (by omega) ?_
      cases h
      exact bX2_wander_26

noncomputable def FX2_away (d : aI) (e : aJ) (x1 : Int32) (x2 : Int32) : Option (Int32 × aI × aJ) := (bif ((a_inb x1 6) && (a_inb x2 6)) then ((FX10_around d e (d 7 (x1).toNatClampNeg) (d 3 (x2).toNatClampNeg)).bind fun q2 => (some (q2.1, q2.2.1, q2.2.2))) else none)
theorem evX2_away {Γ : aG × Launch} {d : aI} {e : aJ} {x1 : Int32} {x2 : Int32} {q : Int32 × aI × aJ} (h : FX2_away d e x1 x2 = some q) : Ev Γ (1) mX2_away [.ref 2, .int x1, .int x2] d e (some (.int q.1)) q.2.1 q.2.2 := by
  refine Ev.of (by decide) rfl (Nat.le_of_ble_eq_true rfl) (fun z => by cases z) ?_
  show Rn Γ (1) mX2_away 0 [some (.ref 2), some (.int x1), some (.int x2)] [] d e _ _ _
  unfold FX2_away at h
  obtain ⟨g1, h⟩ := a_cond h
  obtain ⟨g1x1, g1_1⟩ := a_and g1
  have g1_0 := g1x1
  obtain ⟨q2, hq2, h⟩ := Option.bind_eq_some_iff.mp h
  refine bX2_away_0 ⟨(a_inb_vp g1_0), (a_inb_vp g1_1)⟩ (evX10_around hq2) (by omega) ?_
  cases h
  exact bX2_away_15

noncomputable def FX4_paired (d : aI) (e : aJ) (x2 : Int32) (x3 : Int32) (x4 : Int32) : Option (Int32 × aI × aJ) := (bif ((a_inb x4 6) && (a_inb x2 6)) then ((FX2_away d e (d 97 (x4).toNatClampNeg) (d 98 (x2).toNatClampNeg)).bind fun q2 => ((FX4_cell q2.2.1 q2.2.2 (x2 + (nI 1)) (x3 ||| (a_shl (nI 1) x4))).bind fun q3 => (bif ((a_inb q3.1 448)) then (if (q3.2.1 95 5) = 0 then (some ((q2.1 + (q3.2.1 96 (q3.1).toNatClampNeg)), q3.2.1, q3.2.2)) else (some ((a_max q2.1 (q3.2.1 96 (q3.1).toNatClampNeg)), q3.2.1, q3.2.2))) else none))) else none)
theorem evX4_paired {Γ : aG × Launch} {d : aI} {e : aJ} {x2 : Int32} {x3 : Int32} {x4 : Int32} {q : Int32 × aI × aJ} (h : FX4_paired d e x2 x3 x4 = some q) : Ev Γ (2) mX4_paired [.ref 95, .ref 2, .int x2, .int x3, .int x4] d e (some (.int q.1)) q.2.1 q.2.2 := by
  refine Ev.of (by decide) rfl (Nat.le_of_ble_eq_true rfl) (fun z => by cases z) ?_
  show Rn Γ (2) mX4_paired 0 [some (.ref 95), some (.ref 2), some (.int x2), some (.int x3), some (.int x4), none, none] [] d e _ _ _
  unfold FX4_paired at h
  obtain ⟨g1, h⟩ := a_cond h
  obtain ⟨g1x1, g1_1⟩ := a_and g1
  have g1_0 := g1x1
  obtain ⟨q2, hq2, h⟩ := Option.bind_eq_some_iff.mp h
  refine bX4_paired_0 ⟨(a_inb_vp g1_0), (a_inb_vp g1_1)⟩ (evX2_away hq2) (by omega) ?_
  obtain ⟨q3, hq3, h⟩ := Option.bind_eq_some_iff.mp h
  refine bX4_paired_17 (evX4_cell hq3) (by omega) ?_
  obtain ⟨g4, h⟩ := a_cond h
  refine a_ite h (fun c5 h => ?_) (fun c5 h => ?_)
  · refine bX4_paired_35 (a_inb_vp g4) (fun _ => ?_) (fun z => absurd c5 z)
    refine bX4_paired_55 ?_
    cases h
    exact bX4_paired_60
  · refine bX4_paired_35 (a_inb_vp g4) (fun z => absurd z c5) (fun _ => ?_)
    refine bX4_paired_45 ?_
    cases h
    exact bX4_paired_60

noncomputable def sX4_chosen_0 (d : aI) (e : aJ) (x2 : Int32) (x3 : Int32) : Option (Nat × aL × aI × aJ) := ((FX4_cell d e x2 x3).bind fun q1 => (bif ((a_inb q1.1 448)) then ((FX4_cell q1.2.1 q1.2.2 (x2 + (nI 1)) x3).bind fun q3 => (bif ((a_inb q3.1 448)) then (if (q3.2.1 96 (q3.1).toNatClampNeg) = (q1.2.1 96 (q1.1).toNatClampNeg) then (some (100000, [some (.int (-(nI 1)))], q3.2.1, q3.2.2)) else (some (34, [some (.ref 95), some (.ref 2), some (.int x2), some (.int x3), some (.int (q1.2.1 96 (q1.1).toNatClampNeg)), some (.int (nI 0))], q3.2.1, q3.2.2))) else none)) else none))
theorem tX4_chosen_0 {Γ : aG × Launch} {d dF : aI} {e eF : aJ} {x2 : Int32} {x3 : Int32} {r : Option Value} {p : Nat × aL × aI × aJ} (h : sX4_chosen_0 d e x2 x3 = some p) (kc : Nat.beq p.1 100000 = false → Rn Γ (3) mX4_chosen p.1 p.2.1 [] p.2.2.1 p.2.2.2 r dF eF) (kr : p.1 = 100000 → r = a_rt p.2.1 ∧ dF = p.2.2.1 ∧ eF = p.2.2.2) : Rn Γ (3) mX4_chosen 0 [some (.ref 95), some (.ref 2), some (.int x2), some (.int x3), none, none] [] d e r dF eF := by
  unfold sX4_chosen_0 at h
  obtain ⟨q1, hq1, h⟩ := Option.bind_eq_some_iff.mp h
  refine bX4_chosen_0 (evX4_cell hq1) (by omega) ?_
  obtain ⟨g2, h⟩ := a_cond h
  obtain ⟨q3, hq3, h⟩ := Option.bind_eq_some_iff.mp h
  refine bX4_chosen_9 (a_inb_vp g2) (evX4_cell hq3) (by omega) ?_
  obtain ⟨g4, h⟩ := a_cond h
  refine a_ite h (fun c5 h => ?_) (fun c5 h => ?_)
  · refine bX4_chosen_23 (a_inb_vp g4) (fun z => absurd c5 z) (fun _ => ?_)
    cases h
    obtain ⟨k1, k2, k3⟩ := kr rfl
    exact bX4_chosen_29 k1 k2 k3
  · refine bX4_chosen_23 (a_inb_vp g4) (fun _ => ?_) (fun z => absurd z c5)
    refine bX4_chosen_31 ?_
    cases h
    exact kc rfl

noncomputable def sX4_chosen_34 (d : aI) (e : aJ) (x2 : Int32) (x3 : Int32) (x4 : Int32) (x5 : Int32) : Option (Nat × aL × aI × aJ) := (if (d 95 3) ≤ x5 then (some (100000, [some (.int (-(nI 1)))], d, e)) else ((FX10_hasBit d e x3 x5).bind fun q2 => (if q2.1 = 0 then ((FX4_paired q2.2.1 q2.2.2 x2 x3 x5).bind fun q4 => (if q4.1 = x4 then (some (100000, [some (.int x5)], q4.2.1, q4.2.2)) else (some (34, [some (.ref 95), some (.ref 2), some (.int x2), some (.int x3), some (.int x4), some (.int (x5 + (nI 1)))], q4.2.1, q4.2.2)))) else (some (34, [some (.ref 95), some (.ref 2), some (.int x2), some (.int x3), some (.int x4), some (.int (x5 + (nI 1)))], q2.2.1, q2.2.2)))))
theorem tX4_chosen_34 {Γ : aG × Launch} {d dF : aI} {e eF : aJ} {x2 : Int32} {x3 : Int32} {x4 : Int32} {x5 : Int32} {r : Option Value} {p : Nat × aL × aI × aJ} (h : sX4_chosen_34 d e x2 x3 x4 x5 = some p) (kc : Nat.beq p.1 100000 = false → Rn Γ (3) mX4_chosen p.1 p.2.1 [] p.2.2.1 p.2.2.2 r dF eF) (kr : p.1 = 100000 → r = a_rt p.2.1 ∧ dF = p.2.2.1 ∧ eF = p.2.2.2) : Rn Γ (3) mX4_chosen 34 [some (.ref 95), some (.ref 2), some (.int x2), some (.int x3), some (.int x4), some (.int x5)] [] d e r dF eF := by
  unfold sX4_chosen_34 at h
  refine a_ite h (fun c1 h => ?_) (fun c1 h => ?_)
  · refine bX4_chosen_34 (fun _ => ?_) (fun z => absurd c1 z)
    cases h
    obtain ⟨k1, k2, k3⟩ := kr rfl
    exact bX4_chosen_75 k1 k2 k3
  · refine bX4_chosen_34 (fun z => absurd z c1) (fun _ => ?_)
    obtain ⟨q2, hq2, h⟩ := Option.bind_eq_some_iff.mp h
    refine bX4_chosen_43 (evX10_hasBit hq2) (by omega) ?_
    refine a_ite h (fun c3 h => ?_) (fun c3 h => ?_)
    · refine bX4_chosen_49 (fun z => absurd c3 z) (fun _ => ?_)
      obtain ⟨q4, hq4, h⟩ := Option.bind_eq_some_iff.mp h
      refine bX4_chosen_52 (evX4_paired hq4) (by omega) ?_
      refine a_ite h (fun c5 h => ?_) (fun c5 h => ?_)
      · refine bX4_chosen_61 (fun z => absurd c5 z) (fun _ => ?_)
        cases h
        obtain ⟨k1, k2, k3⟩ := kr rfl
        exact bX4_chosen_66 k1 k2 k3
      · refine bX4_chosen_61 (fun _ => ?_) (fun z => absurd z c5)
        refine bX4_chosen_69 ?_
        cases h
        exact kc rfl
    · refine bX4_chosen_49 (fun _ => ?_) (fun z => absurd z c3)
      refine bX4_chosen_69 ?_
      cases h
      exact kc rfl

noncomputable def stX4_chosen (p : Nat × aL × aI × aJ) : Option (Nat × aL × aI × aJ) := match p with
  | (0, [some (.ref 95), some (.ref 2), some (.int x2), some (.int x3), none, none], d, e) => sX4_chosen_0 d e x2 x3
  | (34, [some (.ref 95), some (.ref 2), some (.int x2), some (.int x3), some (.int x4), some (.int x5)], d, e) => sX4_chosen_34 d e x2 x3 x4 x5
  | _ => none
theorem uX4_chosen {Γ : aG × Launch} {p p2 : Nat × aL × aI × aJ} {r : Option Value} {dF : aI} {eF : aJ} (h : stX4_chosen p = some p2) (kc : Nat.beq p2.1 100000 = false → Rn Γ (3) mX4_chosen p2.1 p2.2.1 [] p2.2.2.1 p2.2.2.2 r dF eF) (kr : p2.1 = 100000 → r = a_rt p2.2.1 ∧ dF = p2.2.2.1 ∧ eF = p2.2.2.2) : Rn Γ (3) mX4_chosen p.1 p.2.1 [] p.2.2.1 p.2.2.2 r dF eF := by
  unfold stX4_chosen at h
  split at h
  · exact tX4_chosen_0 h kc kr
  · exact tX4_chosen_34 h kc kr
  · cases h
noncomputable def FX4_chosen (d : aI) (e : aJ) (x2 : Int32) (x3 : Int32) : Option (Int32 × aI × aJ) := (a_run (stX4_chosen) (0, [some (.ref 95), some (.ref 2), some (.int x2), some (.int x3), none, none], d, e)).bind a_xI
theorem evX4_chosen {Γ : aG × Launch} {d : aI} {e : aJ} {x2 : Int32} {x3 : Int32} {q : Int32 × aI × aJ} (h : FX4_chosen d e x2 x3 = some q) : Ev Γ (3) mX4_chosen [.ref 95, .ref 2, .int x2, .int x3] d e (some (.int q.1)) q.2.1 q.2.2 := by
  refine Ev.of (by decide) rfl (Nat.le_of_ble_eq_true rfl) (fun z => by cases z) ?_
  show Rn Γ (3) mX4_chosen 0 [some (.ref 95), some (.ref 2), some (.int x2), some (.int x3), none, none] [] d e _ _ _
  obtain ⟨q1, h1, h2⟩ := Option.bind_eq_some_iff.mp h
  obtain ⟨e1, e2, e3⟩ := a_xI_rt h2
  exact Rn.cast (a_run_ok (uX4_chosen) rfl h1) e1.symm e2.symm e3.symm
noncomputable def sX5_scanWord_0 (d : aI) (e : aJ) (x1 : Int32) : Option (Nat × aL × aI × aJ) := (some (2, [some (.ref 83), some (.int x1), some (.int x1), none], d, e))
theorem tX5_scanWord_0 {Γ : aG × Launch} {d dF : aI} {e eF : aJ} {x1 : Int32} {r : Option Value} {p : Nat × aL × aI × aJ} (h : sX5_scanWord_0 d e x1 = some p) (kc : Nat.beq p.1 100000 = false → Rn Γ (7) mX5_scanWord p.1 p.2.1 [] p.2.2.1 p.2.2.2 r dF eF) (kr : p.1 = 100000 → r = a_rt p.2.1 ∧ dF = p.2.2.1 ∧ eF = p.2.2.2) : Rn Γ (7) mX5_scanWord 0 [some (.ref 83), some (.int x1), none, none] [] d e r dF eF := by
  unfold sX5_scanWord_0 at h
  refine bX5_scanWord_0 ?_
  cases h
  exact kc rfl

noncomputable def sX5_scanWord_2 (d : aI) (e : aJ) (x1 : Int32) (x2 : Int32) (v3 : Option Value) : Option (Nat × aL × aI × aJ) := (if (d 83 2) ≤ x2 then (bif ((a_inb (d 83 8) 301)) then (some (40, [some (.ref 83), some (.int x1), some (.int x2), some (.int (nI 0))], (uI d 85 ((d 83 8)).toNatClampNeg (nI 2)), e)) else none) else (bif ((a_inb x2 300)) then ((FX5_isLetter d e (d 84 (x2).toNatClampNeg)).bind fun q4 => (if q4.1 = 0 then (bif ((a_inb (q4.2.1 83 8) 301)) then (some (40, [some (.ref 83), some (.int x1), some (.int x2), some (.int (nI 0))], (uI q4.2.1 85 ((q4.2.1 83 8)).toNatClampNeg (nI 2)), q4.2.2)) else none) else (some (2, [some (.ref 83), some (.int x1), some (.int (x2 + (nI 1))), v3], q4.2.1, q4.2.2)))) else none))
theorem tX5_scanWord_2 {Γ : aG × Launch} {d dF : aI} {e eF : aJ} {x1 : Int32} {x2 : Int32} {v3 : Option Value} {r : Option Value} {p : Nat × aL × aI × aJ} (h : sX5_scanWord_2 d e x1 x2 v3 = some p) (kc : Nat.beq p.1 100000 = false → Rn Γ (7) mX5_scanWord p.1 p.2.1 [] p.2.2.1 p.2.2.2 r dF eF) (kr : p.1 = 100000 → r = a_rt p.2.1 ∧ dF = p.2.2.1 ∧ eF = p.2.2.2) : Rn Γ (7) mX5_scanWord 2 [some (.ref 83), some (.int x1), some (.int x2), v3] [] d e r dF eF := by
  unfold sX5_scanWord_2 at h
  refine a_ite h (fun c1 h => ?_) (fun c1 h => ?_)
  · refine bX5_scanWord_2 (fun _ => ?_) (fun z => absurd c1 z)
    obtain ⟨g2, h⟩ := a_cond h
    refine bX5_scanWord_28 (a_inb_vp g2) ?_
    cases h
    exact kc rfl
  · refine bX5_scanWord_2 (fun z => absurd z c1) (fun _ => ?_)
    obtain ⟨g3, h⟩ := a_cond h
    obtain ⟨q4, hq4, h⟩ := Option.bind_eq_some_iff.mp h
    refine bX5_scanWord_10 (a_inb_vp g3) (evX5_isLetter hq4) (by omega) ?_
    refine a_ite h (fun c5 h => ?_) (fun c5 h => ?_)
    · refine bX5_scanWord_19 (fun _ => ?_) (fun z => absurd c5 z)
      obtain ⟨g6, h⟩ := a_cond h
      refine bX5_scanWord_28 (a_inb_vp g6) ?_
      cases h
      exact kc rfl
    · refine bX5_scanWord_19 (fun z => absurd z c5) (fun _ => ?_)
      refine bX5_scanWord_22 ?_
      cases h
      exact kc rfl

noncomputable def sX5_scanWord_40 (d : aI) (e : aJ) (x1 : Int32) (x2 : Int32) (x3 : Int32) : Option (Nat × aL × aI × aJ) := ((FSlen d e).bind fun q1 => (bif ((decide (¬ (nI 6) = 0))) then (if (q1.1 / (nI 6)) ≤ x3 then (some (100000, [some (.int x2)], q1.2.1, q1.2.2)) else ((FX5_isWord q1.2.1 q1.2.2 (x3 * (nI 6)) x1 x2).bind fun q4 => (if q4.1 = 0 then (some (40, [some (.ref 83), some (.int x1), some (.int x2), some (.int (x3 + (nI 1)))], q4.2.1, q4.2.2)) else (bif ((a_inb (q4.2.1 83 8) 301)) then (some (100000, [some (.int x2)], (uI q4.2.1 85 ((q4.2.1 83 8)).toNatClampNeg ((nI 300) + x3)), q4.2.2)) else none)))) else none))
theorem tX5_scanWord_40 {Γ : aG × Launch} {d dF : aI} {e eF : aJ} {x1 : Int32} {x2 : Int32} {x3 : Int32} {r : Option Value} {p : Nat × aL × aI × aJ} (h : sX5_scanWord_40 d e x1 x2 x3 = some p) (kc : Nat.beq p.1 100000 = false → Rn Γ (7) mX5_scanWord p.1 p.2.1 [] p.2.2.1 p.2.2.2 r dF eF) (kr : p.1 = 100000 → r = a_rt p.2.1 ∧ dF = p.2.2.1 ∧ eF = p.2.2.2) : Rn Γ (7) mX5_scanWord 40 [some (.ref 83), some (.int x1), some (.int x2), some (.int x3)] [] d e r dF eF := by
  unfold sX5_scanWord_40 at h
  refine bX5_scanWord_40 ?_
  obtain ⟨q1, hq1, h⟩ := Option.bind_eq_some_iff.mp h
  refine jX5_scanWord_43 (evSlen hq1) (by omega) ?_
  obtain ⟨g2, h⟩ := a_cond h
  refine a_ite h (fun c3 h => ?_) (fun c3 h => ?_)
  · refine bX5_scanWord_46 (of_decide_eq_true g2) (fun _ => ?_) (fun z => absurd c3 z)
    cases h
    obtain ⟨k1, k2, k3⟩ := kr rfl
    exact bX5_scanWord_88 k1 k2 k3
  · refine bX5_scanWord_46 (of_decide_eq_true g2) (fun z => absurd z c3) (fun _ => ?_)
    obtain ⟨q4, hq4, h⟩ := Option.bind_eq_some_iff.mp h
    refine bX5_scanWord_52 (evX5_isWord hq4) (by omega) ?_
    refine a_ite h (fun c5 h => ?_) (fun c5 h => ?_)
    · refine bX5_scanWord_62 (fun _ => ?_) (fun z => absurd c5 z)
      refine bX5_scanWord_82 ?_
      cases h
      exact kc rfl
    · refine bX5_scanWord_62 (fun z => absurd z c5) (fun _ => ?_)
      obtain ⟨g6, h⟩ := a_cond h
      refine bX5_scanWord_65 (a_inb_vp g6) ?_
      cases h
      obtain ⟨k1, k2, k3⟩ := kr rfl
      exact bX5_scanWord_88 k1 k2 k3

noncomputable def stX5_scanWord (p : Nat × aL × aI × aJ) : Option (Nat × aL × aI × aJ) := match p with
  | (0, [some (.ref 83), some (.int x1), none, none], d, e) => sX5_scanWord_0 d e x1
  | (2, [some (.ref 83), some (.int x1), some (.int x2), v3], d, e) => sX5_scanWord_2 d e x1 x2 v3
  | (40, [some (.ref 83), some (.int x1), some (.int x2), some (.int x3)], d, e) => sX5_scanWord_40 d e x1 x2 x3
  | _ => none
theorem uX5_scanWord {Γ : aG × Launch} {p p2 : Nat × aL × aI × aJ} {r : Option Value} {dF : aI} {eF : aJ} (h : stX5_scanWord p = some p2) (kc : Nat.beq p2.1 100000 = false → Rn Γ (7) mX5_scanWord p2.1 p2.2.1 [] p2.2.2.1 p2.2.2.2 r dF eF) (kr : p2.1 = 100000 → r = a_rt p2.2.1 ∧ dF = p2.2.2.1 ∧ eF = p2.2.2.2) : Rn Γ (7) mX5_scanWord p.1 p.2.1 [] p.2.2.1 p.2.2.2 r dF eF := by
  unfold stX5_scanWord at h
  split at h
  · exact tX5_scanWord_0 h kc kr
  · exact tX5_scanWord_2 h kc kr
  · exact tX5_scanWord_40 h kc kr
  · cases h
noncomputable def FX5_scanWord (d : aI) (e : aJ) (x1 : Int32) : Option (Int32 × aI × aJ) := (a_run (stX5_scanWord) (0, [some (.ref 83), some (.int x1), none, none], d, e)).bind a_xI
theorem evX5_scanWord {Γ : aG × Launch} {d : aI} {e : aJ} {x1 : Int32} {q : Int32 × aI × aJ} (h : FX5_scanWord d e x1 = some q) : Ev Γ (7) mX5_scanWord [.ref 83, .int x1] d e (some (.int q.1)) q.2.1 q.2.2 := by
  refine Ev.of (by decide) rfl (Nat.le_of_ble_eq_true rfl) (fun z => by cases z) ?_
  show Rn Γ (7) mX5_scanWord 0 [some (.ref 83), some (.int x1), none, none] [] d e _ _ _
  obtain ⟨q1, h1, h2⟩ := Option.bind_eq_some_iff.mp h
  obtain ⟨e1, e2, e3⟩ := a_xI_rt h2
  exact Rn.cast (a_run_ok (uX5_scanWord) rfl h1) e1.symm e2.symm e3.symm
noncomputable def FX5_deed (d : aI) (e : aJ) (x1 : Int32) : Option (Unit × aI × aJ) := (if x1 = (nI 302) then ((FX5_number d e (nI 0) (nI 9)).bind fun q2 => ((FX5_expect q2.2.1 q2.2.2 (nI 309)).bind fun q3 => ((FX5_number q3.2.1 q3.2.2 (nI 0) (nI 999)).bind fun q4 => ((FX7_add q4.2.1 q4.2.2 x1 q2.1 q4.1).bind fun q5 => (some ((), q5.2.1, q5.2.2)))))) else (if x1 = (nI 303) then ((FX5_number d e (nI 0) (nI 9)).bind fun q7 => ((FX5_expect q7.2.1 q7.2.2 (nI 310)).bind fun q8 => ((FX5_number q8.2.1 q8.2.2 (nI 0) (nI 9)).bind fun q9 => ((FX7_add q9.2.1 q9.2.2 x1 q7.1 q9.1).bind fun q10 => (some ((), q10.2.1, q10.2.2)))))) else (if x1 = (nI 304) then ((FX5_number d e (nI 0) (nI 5)).bind fun q12 => ((FX5_expect q12.2.1 q12.2.2 (nI 311)).bind fun q13 => ((FX5_number q13.2.1 q13.2.2 (nI 0) (nI 5)).bind fun q14 => ((FX7_add q14.2.1 q14.2.2 x1 q12.1 q14.1).bind fun q15 => (some ((), q15.2.1, q15.2.2)))))) else (if x1 = (nI 305) then ((FX5_number d e (nI 0) (nI 5)).bind fun q17 => ((FX7_add q17.2.1 q17.2.2 x1 q17.1 (nI 0)).bind fun q18 => (some ((), q18.2.1, q18.2.2)))) else (if x1 = (nI 306) then ((FX5_number d e (nI 0) (nI 5)).bind fun q20 => ((FX7_add q20.2.1 q20.2.2 x1 q20.1 (nI 0)).bind fun q21 => (some ((), q21.2.1, q21.2.2)))) else (if x1 = (nI 307) then ((FX5_number d e (nI 0) (nI 5)).bind fun q23 => ((FX7_add q23.2.1 q23.2.2 x1 q23.1 (nI 0)).bind fun q24 => (some ((), q24.2.1, q24.2.2)))) else (if x1 = (nI 308) then ((FX5_number d e (nI 1) (nI 60)).bind fun q26 => ((FX7_add q26.2.1 q26.2.2 x1 q26.1 (nI 0)).bind fun q27 => (some ((), q27.2.1, q27.2.2)))) else ((FX5_number d e (nI 0) (nI 5)).bind fun q28 => ((FX7_add q28.2.1 q28.2.2 x1 q28.1 (nI 0)).bind fun q29 => (some ((), q29.2.1, q29.2.2)))))))))))
theorem evX5_deed {Γ : aG × Launch} {d : aI} {e : aJ} {x1 : Int32} {q : Unit × aI × aJ} (h : FX5_deed d e x1 = some q) : Ev Γ (2) mX5_deed [.ref 83, .int x1] d e none q.2.1 q.2.2 := by
  refine Ev.of (by decide) rfl (Nat.le_of_ble_eq_true rfl) (fun z => by cases z) ?_
  show Rn Γ (2) mX5_deed 0 [some (.ref 83), some (.int x1), none, none] [] d e _ _ _
  unfold FX5_deed at h
  refine a_ite h (fun c1 h => ?_) (fun c1 h => ?_)
  · refine bX5_deed_0 (fun n0 _ _ _ _ _ _ => absurd c1 n0) (fun _ => ?_) (fun z => absurd (c1.symm.trans z) (by decide)) (fun z => absurd (c1.symm.trans z) (by decide)) (fun z => absurd (c1.symm.trans z) (by decide)) (fun z => absurd (c1.symm.trans z) (by decide)) (fun z => absurd (c1.symm.trans z) (by decide)) (fun z => absurd (c1.symm.trans z) (by decide))
    obtain ⟨q2, hq2, h⟩ := Option.bind_eq_some_iff.mp h
    refine bX5_deed_48 (evX5_number hq2) (by omega) ?_
    obtain ⟨q3, hq3, h⟩ := Option.bind_eq_some_iff.mp h
    refine bX5_deed_55 (evX5_expect hq3) (by omega) ?_
    obtain ⟨q4, hq4, h⟩ := Option.bind_eq_some_iff.mp h
    refine bX5_deed_63 (evX5_number hq4) (by omega) ?_
    refine bX5_deed_71 ?_
    obtain ⟨q5, hq5, h⟩ := Option.bind_eq_some_iff.mp h
    refine bX5_deed_153 (evX7_add hq5) (by omega) ?_
    cases h
    exact bX5_deed_163
  · skip
    refine a_ite h (fun c6 h => ?_) (fun c6 h => ?_)
    · refine bX5_deed_0 (fun _ n1 _ _ _ _ _ => absurd c6 n1) (fun z => absurd z c1) (fun _ => ?_) (fun z => absurd (c6.symm.trans z) (by decide)) (fun z => absurd (c6.symm.trans z) (by decide)) (fun z => absurd (c6.symm.trans z) (by decide)) (fun z => absurd (c6.symm.trans z) (by decide)) (fun z => absurd (c6.symm.trans z) (by decide))
      obtain ⟨q7, hq7, h⟩ := Option.bind_eq_some_iff.mp h
      refine bX5_deed_75 (evX5_number hq7) (by omega) ?_
      obtain ⟨q8, hq8, h⟩ := Option.bind_eq_some_iff.mp h
      refine bX5_deed_82 (evX5_expect hq8) (by omega) ?_
      obtain ⟨q9, hq9, h⟩ := Option.bind_eq_some_iff.mp h
      refine bX5_deed_90 (evX5_number hq9) (by omega) ?_
      refine bX5_deed_97 ?_
      obtain ⟨q10, hq10, h⟩ := Option.bind_eq_some_iff.mp h
      refine bX5_deed_153 (evX7_add hq10) (by omega) ?_
      cases h
      exact bX5_deed_163
    · skip
      refine a_ite h (fun c11 h => ?_) (fun c11 h => ?_)
      · refine bX5_deed_0 (fun _ _ n2 _ _ _ _ => absurd c11 n2) (fun z => absurd z c1) (fun z => absurd z c6) (fun _ => ?_) (fun z => absurd (c11.symm.trans z) (by decide)) (fun z => absurd (c11.symm.trans z) (by decide)) (fun z => absurd (c11.symm.trans z) (by decide)) (fun z => absurd (c11.symm.trans z) (by decide))
        obtain ⟨q12, hq12, h⟩ := Option.bind_eq_some_iff.mp h
        refine bX5_deed_101 (evX5_number hq12) (by omega) ?_
        obtain ⟨q13, hq13, h⟩ := Option.bind_eq_some_iff.mp h
        refine bX5_deed_107 (evX5_expect hq13) (by omega) ?_
        obtain ⟨q14, hq14, h⟩ := Option.bind_eq_some_iff.mp h
        refine bX5_deed_115 (evX5_number hq14) (by omega) ?_
        refine bX5_deed_121 ?_
        obtain ⟨q15, hq15, h⟩ := Option.bind_eq_some_iff.mp h
        refine bX5_deed_153 (evX7_add hq15) (by omega) ?_
        cases h
        exact bX5_deed_163
      · skip
        refine a_ite h (fun c16 h => ?_) (fun c16 h => ?_)
        · refine bX5_deed_0 (fun _ _ _ n3 _ _ _ => absurd c16 n3) (fun z => absurd z c1) (fun z => absurd z c6) (fun z => absurd z c11) (fun _ => ?_) (fun z => absurd (c16.symm.trans z) (by decide)) (fun z => absurd (c16.symm.trans z) (by decide)) (fun z => absurd (c16.symm.trans z) (by decide))
          obtain ⟨q17, hq17, h⟩ := Option.bind_eq_some_iff.mp h
          refine bX5_deed_125 (evX5_number hq17) (by omega) ?_
          refine bX5_deed_131 ?_
          obtain ⟨q18, hq18, h⟩ := Option.bind_eq_some_iff.mp h
          refine bX5_deed_153 (evX7_add hq18) (by omega) ?_
          cases h
          exact bX5_deed_163
        · skip
          refine a_ite h (fun c19 h => ?_) (fun c19 h => ?_)
          · refine bX5_deed_0 (fun _ _ _ _ n4 _ _ => absurd c19 n4) (fun z => absurd z c1) (fun z => absurd z c6) (fun z => absurd z c11) (fun z => absurd z c16) (fun _ => ?_) (fun z => absurd (c19.symm.trans z) (by decide)) (fun z => absurd (c19.symm.trans z) (by decide))
            obtain ⟨q20, hq20, h⟩ := Option.bind_eq_some_iff.mp h
            refine bX5_deed_146 (evX5_number hq20) (by omega) ?_
            refine bX5_deed_152 ?_
            obtain ⟨q21, hq21, h⟩ := Option.bind_eq_some_iff.mp h
            refine bX5_deed_153 (evX7_add hq21) (by omega) ?_
            cases h
            exact bX5_deed_163
          · skip
            refine a_ite h (fun c22 h => ?_) (fun c22 h => ?_)
            · refine bX5_deed_0 (fun _ _ _ _ _ n5 _ => absurd c22 n5) (fun z => absurd z c1) (fun z => absurd z c6) (fun z => absurd z c11) (fun z => absurd z c16) (fun z => absurd z c19) (fun _ => ?_) (fun z => absurd (c22.symm.trans z) (by decide))
              obtain ⟨q23, hq23, h⟩ := Option.bind_eq_some_iff.mp h
              refine bX5_deed_146 (evX5_number hq23) (by omega) ?_
              refine bX5_deed_152 ?_
              obtain ⟨q24, hq24, h⟩ := Option.bind_eq_some_iff.mp h
              refine bX5_deed_153 (evX7_add hq24) (by omega) ?_
              cases h
              exact bX5_deed_163
            · skip
              refine a_ite h (fun c25 h => ?_) (fun c25 h => ?_)
              · refine bX5_deed_0 (fun _ _ _ _ _ _ n6 => absurd c25 n6) (fun z => absurd z c1) (fun z => absurd z c6) (fun z => absurd z c11) (fun z => absurd z c16) (fun z => absurd z c19) (fun z => absurd z c22) (fun _ => ?_)
                obtain ⟨q26, hq26, h⟩ := Option.bind_eq_some_iff.mp h
                refine bX5_deed_135 (evX5_number hq26) (by omega) ?_
                refine bX5_deed_142 ?_
                obtain ⟨q27, hq27, h⟩ := Option.bind_eq_some_iff.mp h
                refine bX5_deed_153 (evX7_add hq27) (by omega) ?_
                cases h
                exact bX5_deed_163
              · skip
                refine bX5_deed_0 (fun _ _ _ _ _ _ _ => ?_) (fun z => absurd z c1) (fun z => absurd z c6) (fun z => absurd z c11) (fun z => absurd z c16) (fun z => absurd z c19) (fun z => absurd z c22) (fun z => absurd z c25)
                obtain ⟨q28, hq28, h⟩ := Option.bind_eq_some_iff.mp h
                refine bX5_deed_146 (evX5_number hq28) (by omega) ?_
                refine bX5_deed_152 ?_
                obtain ⟨q29, hq29, h⟩ := Option.bind_eq_some_iff.mp h
                refine bX5_deed_153 (evX7_add hq29) (by omega) ?_
                cases h
                exact bX5_deed_163

noncomputable def FX5_name (d : aI) (e : aJ)  : Option (Unit × aI × aJ) := (if (d 83 10) = (nI 308) then ((FX7_put d e (d 83 10)).bind fun q2 => ((FX5_next q2.2.1 q2.2.2).bind fun q3 => (some ((), q3.2.1, q3.2.2)))) else (if (d 83 10) = (nI 309) then (if (d 83 11) = (nI 300) then ((FX5_blameUnless d e (nI 1)).bind fun q6 => ((FX7_put q6.2.1 q6.2.2 (q6.2.1 83 10)).bind fun q7 => ((FX5_next q7.2.1 q7.2.2).bind fun q8 => (some ((), q8.2.1, q8.2.2))))) else ((FX5_blameUnless d e (nI 0)).bind fun q9 => ((FX7_put q9.2.1 q9.2.2 (q9.2.1 83 10)).bind fun q10 => ((FX5_next q10.2.1 q10.2.2).bind fun q11 => (some ((), q11.2.1, q11.2.2)))))) else (if (d 83 10) = (nI 310) then ((FX7_put d e (d 83 10)).bind fun q13 => ((FX5_next q13.2.1 q13.2.2).bind fun q14 => (some ((), q14.2.1, q14.2.2)))) else (if (d 83 10) = (nI 311) then ((FX5_blame d e (nI 1)).bind fun q16 => (some ((), q16.2.1, q16.2.2))) else (if (d 83 10) = (nI 312) then ((FX5_blame d e (nI 1)).bind fun q18 => (some ((), q18.2.1, q18.2.2))) else (if (d 83 10) = (nI 313) then ((FX5_blame d e (nI 1)).bind fun q20 => (some ((), q20.2.1, q20.2.2))) else (if (d 83 10) = (nI 314) then ((FX5_blame d e (nI 1)).bind fun q22 => (some ((), q22.2.1, q22.2.2))) else (if (d 83 10) = (nI 315) then ((FX5_blame d e (nI 1)).bind fun q24 => (some ((), q24.2.1, q24.2.2))) else (if (d 83 10) = (nI 316) then ((FX5_blame d e (nI 1)).bind fun q26 => (some ((), q26.2.1, q26.2.2))) else (if (d 83 10) = (nI 317) then ((FX5_blame d e (nI 1)).bind fun q28 => (some ((), q28.2.1, q28.2.2))) else (if (d 83 10) = (nI 318) then ((FX5_blame d e (nI 1)).bind fun q30 => (some ((), q30.2.1, q30.2.2))) else (if (d 83 10) = (nI 319) then ((FX5_blame d e (nI 1)).bind fun q32 => (some ((), q32.2.1, q32.2.2))) else (if (d 83 10) = (nI 320) then ((FX5_blame d e (nI 1)).bind fun q34 => (some ((), q34.2.1, q34.2.2))) else (if (d 83 10) = (nI 321) then ((FX7_put d e (d 83 10)).bind fun q36 => ((FX5_next q36.2.1 q36.2.2).bind fun q37 => (some ((), q37.2.1, q37.2.2)))) else (if (d 83 10) = (nI 322) then ((FX7_put d e (d 83 10)).bind fun q39 => ((FX5_next q39.2.1 q39.2.2).bind fun q40 => (some ((), q40.2.1, q40.2.2)))) else (if (d 83 10) = (nI 323) then ((FX7_put d e (d 83 10)).bind fun q42 => ((FX5_next q42.2.1 q42.2.2).bind fun q43 => (some ((), q43.2.1, q43.2.2)))) else (if (d 83 10) = (nI 324) then (if (d 83 11) = (nI 300) then ((FX5_blameUnless d e (nI 1)).bind fun q46 => ((FX7_put q46.2.1 q46.2.2 (q46.2.1 83 10)).bind fun q47 => ((FX5_next q47.2.1 q47.2.2).bind fun q48 => (some ((), q48.2.1, q48.2.2))))) else ((FX5_blameUnless d e (nI 0)).bind fun q49 => ((FX7_put q49.2.1 q49.2.2 (q49.2.1 83 10)).bind fun q50 => ((FX5_next q50.2.1 q50.2.2).bind fun q51 => (some ((), q51.2.1, q51.2.2)))))) else (if (d 83 10) = (nI 325) then (if (d 83 11) = (nI 301) then ((FX5_blameUnless d e (nI 1)).bind fun q54 => ((FX7_put q54.2.1 q54.2.2 (q54.2.1 83 10)).bind fun q55 => ((FX5_next q55.2.1 q55.2.2).bind fun q56 => (some ((), q56.2.1, q56.2.2))))) else ((FX5_blameUnless d e (nI 0)).bind fun q57 => ((FX7_put q57.2.1 q57.2.2 (q57.2.1 83 10)).bind fun q58 => ((FX5_next q58.2.1 q58.2.2).bind fun q59 => (some ((), q59.2.1, q59.2.2)))))) else ((FX5_blame d e (nI 1)).bind fun q60 => (some ((), q60.2.1, q60.2.2)))))))))))))))))))))
theorem evX5_name {Γ : aG × Launch} {d : aI} {e : aJ}  {q : Unit × aI × aJ} (h : FX5_name d e  = some q) : Ev Γ (2) mX5_name [.ref 83] d e none q.2.1 q.2.2 := by
  refine Ev.of (by decide) rfl (Nat.le_of_ble_eq_true rfl) (fun z => by cases z) ?_
  show Rn Γ (2) mX5_name 0 [some (.ref 83)] [] d e _ _ _
  unfold FX5_name at h
  refine a_ite h (fun c1 h => ?_) (fun c1 h => ?_)
  · refine bX5_name_0 (fun n0 _ _ _ _ _ _ _ _ _ _ _ _ _ _ _ _ _ => absurd c1 n0) (fun _ => ?_) (fun z => absurd (c1.symm.trans z) (by decide)) (fun z => absurd (c1.symm.trans z) (by decide)) (fun z => absurd (c1.symm.trans z) (by decide)) (fun z => absurd (c1.symm.trans z) (by decide)) (fun z => absurd (c1.symm.trans z) (by decide)) (fun z => absurd (c1.symm.trans z) (by decide)) (fun z => absurd (c1.symm.trans z) (by decide)) (fun z => absurd (c1.symm.trans z) (by decide)) (fun z => absurd (c1.symm.trans z) (by decide)) (fun z => absurd (c1.symm.trans z) (by decide)) (fun z => absurd (c1.symm.trans z) (by decide)) (fun z => absurd (c1.symm.trans z) (by decide)) (fun z => absurd (c1.symm.trans z) (by decide)) (fun z => absurd (c1.symm.trans z) (by decide)) (fun z => absurd (c1.symm.trans z) (by decide)) (fun z => absurd (c1.symm.trans z) (by decide)) (fun z => absurd (c1.symm.trans z) (by decide))
    refine bX5_name_92 ?_
    obtain ⟨q2, hq2, h⟩ := Option.bind_eq_some_iff.mp h
    refine bX5_name_145 (evX7_put hq2) (by omega) ?_
    obtain ⟨q3, hq3, h⟩ := Option.bind_eq_some_iff.mp h
    refine bX5_name_156 (evX5_next hq3) (by omega) ?_
    cases h
    exact bX5_name_161
  · skip
    refine a_ite h (fun c4 h => ?_) (fun c4 h => ?_)
    · refine bX5_name_0 (fun _ n1 _ _ _ _ _ _ _ _ _ _ _ _ _ _ _ _ => absurd c4 n1) (fun z => absurd z c1) (fun _ => ?_) (fun z => absurd (c4.symm.trans z) (by decide)) (fun z => absurd (c4.symm.trans z) (by decide)) (fun z => absurd (c4.symm.trans z) (by decide)) (fun z => absurd (c4.symm.trans z) (by decide)) (fun z => absurd (c4.symm.trans z) (by decide)) (fun z => absurd (c4.symm.trans z) (by decide)) (fun z => absurd (c4.symm.trans z) (by decide)) (fun z => absurd (c4.symm.trans z) (by decide)) (fun z => absurd (c4.symm.trans z) (by decide)) (fun z => absurd (c4.symm.trans z) (by decide)) (fun z => absurd (c4.symm.trans z) (by decide)) (fun z => absurd (c4.symm.trans z) (by decide)) (fun z => absurd (c4.symm.trans z) (by decide)) (fun z => absurd (c4.symm.trans z) (by decide)) (fun z => absurd (c4.symm.trans z) (by decide)) (fun z => absurd (c4.symm.trans z) (by decide))
      refine a_ite h (fun c5 h => ?_) (fun c5 h => ?_)
      · refine bX5_name_95 (fun z => absurd c5 z) (fun _ => ?_)
        refine bX5_name_106 ?_
        obtain ⟨q6, hq6, h⟩ := Option.bind_eq_some_iff.mp h
        refine bX5_name_111 (evX5_blameUnless hq6) (by omega) ?_
        refine bX5_name_114 ?_
        obtain ⟨q7, hq7, h⟩ := Option.bind_eq_some_iff.mp h
        refine bX5_name_145 (evX7_put hq7) (by omega) ?_
        obtain ⟨q8, hq8, h⟩ := Option.bind_eq_some_iff.mp h
        refine bX5_name_156 (evX5_next hq8) (by omega) ?_
        cases h
        exact bX5_name_161
      · refine bX5_name_95 (fun _ => ?_) (fun z => absurd z c5)
        refine bX5_name_110 ?_
        obtain ⟨q9, hq9, h⟩ := Option.bind_eq_some_iff.mp h
        refine bX5_name_111 (evX5_blameUnless hq9) (by omega) ?_
        refine bX5_name_114 ?_
        obtain ⟨q10, hq10, h⟩ := Option.bind_eq_some_iff.mp h
        refine bX5_name_145 (evX7_put hq10) (by omega) ?_
        obtain ⟨q11, hq11, h⟩ := Option.bind_eq_some_iff.mp h
        refine bX5_name_156 (evX5_next hq11) (by omega) ?_
        cases h
        exact bX5_name_161
    · skip
      refine a_ite h (fun c12 h => ?_) (fun c12 h => ?_)
      · refine bX5_name_0 (fun _ _ n2 _ _ _ _ _ _ _ _ _ _ _ _ _ _ _ => absurd c12 n2) (fun z => absurd z c1) (fun z => absurd z c4) (fun _ => ?_) (fun z => absurd (c12.symm.trans z) (by decide)) (fun z => absurd (c12.symm.trans z) (by decide)) (fun z => absurd (c12.symm.trans z) (by decide)) (fun z => absurd (c12.symm.trans z) (by decide)) (fun z => absurd (c12.symm.trans z) (by decide)) (fun z => absurd (c12.symm.trans z) (by decide)) (fun z => absurd (c12.symm.trans z) (by decide)) (fun z => absurd (c12.symm.trans z) (by decide)) (fun z => absurd (c12.symm.trans z) (by decide)) (fun z => absurd (c12.symm.trans z) (by decide)) (fun z => absurd (c12.symm.trans z) (by decide)) (fun z => absurd (c12.symm.trans z) (by decide)) (fun z => absurd (c12.symm.trans z) (by decide)) (fun z => absurd (c12.symm.trans z) (by decide)) (fun z => absurd (c12.symm.trans z) (by decide))
        refine bX5_name_92 ?_
        obtain ⟨q13, hq13, h⟩ := Option.bind_eq_some_iff.mp h
        refine bX5_name_145 (evX7_put hq13) (by omega) ?_
        obtain ⟨q14, hq14, h⟩ := Option.bind_eq_some_iff.mp h
        refine bX5_name_156 (evX5_next hq14) (by omega) ?_
        cases h
        exact bX5_name_161
      · skip
        refine a_ite h (fun c15 h => ?_) (fun c15 h => ?_)
        · refine bX5_name_0 (fun _ _ _ n3 _ _ _ _ _ _ _ _ _ _ _ _ _ _ => absurd c15 n3) (fun z => absurd z c1) (fun z => absurd z c4) (fun z => absurd z c12) (fun _ => ?_) (fun z => absurd (c15.symm.trans z) (by decide)) (fun z => absurd (c15.symm.trans z) (by decide)) (fun z => absurd (c15.symm.trans z) (by decide)) (fun z => absurd (c15.symm.trans z) (by decide)) (fun z => absurd (c15.symm.trans z) (by decide)) (fun z => absurd (c15.symm.trans z) (by decide)) (fun z => absurd (c15.symm.trans z) (by decide)) (fun z => absurd (c15.symm.trans z) (by decide)) (fun z => absurd (c15.symm.trans z) (by decide)) (fun z => absurd (c15.symm.trans z) (by decide)) (fun z => absurd (c15.symm.trans z) (by decide)) (fun z => absurd (c15.symm.trans z) (by decide)) (fun z => absurd (c15.symm.trans z) (by decide)) (fun z => absurd (c15.symm.trans z) (by decide))
          obtain ⟨q16, hq16, h⟩ := Option.bind_eq_some_iff.mp h
          refine bX5_name_139 (evX5_blame hq16) (by omega) ?_
          cases h
          exact bX5_name_144
        · skip
          refine a_ite h (fun c17 h => ?_) (fun c17 h => ?_)
          · refine bX5_name_0 (fun _ _ _ _ n4 _ _ _ _ _ _ _ _ _ _ _ _ _ => absurd c17 n4) (fun z => absurd z c1) (fun z => absurd z c4) (fun z => absurd z c12) (fun z => absurd z c15) (fun _ => ?_) (fun z => absurd (c17.symm.trans z) (by decide)) (fun z => absurd (c17.symm.trans z) (by decide)) (fun z => absurd (c17.symm.trans z) (by decide)) (fun z => absurd (c17.symm.trans z) (by decide)) (fun z => absurd (c17.symm.trans z) (by decide)) (fun z => absurd (c17.symm.trans z) (by decide)) (fun z => absurd (c17.symm.trans z) (by decide)) (fun z => absurd (c17.symm.trans z) (by decide)) (fun z => absurd (c17.symm.trans z) (by decide)) (fun z => absurd (c17.symm.trans z) (by decide)) (fun z => absurd (c17.symm.trans z) (by decide)) (fun z => absurd (c17.symm.trans z) (by decide)) (fun z => absurd (c17.symm.trans z) (by decide))
            obtain ⟨q18, hq18, h⟩ := Option.bind_eq_some_iff.mp h
            refine bX5_name_139 (evX5_blame hq18) (by omega) ?_
            cases h
            exact bX5_name_144
          · skip
            refine a_ite h (fun c19 h => ?_) (fun c19 h => ?_)
            · refine bX5_name_0 (fun _ _ _ _ _ n5 _ _ _ _ _ _ _ _ _ _ _ _ => absurd c19 n5) (fun z => absurd z c1) (fun z => absurd z c4) (fun z => absurd z c12) (fun z => absurd z c15) (fun z => absurd z c17) (fun _ => ?_) (fun z => absurd (c19.symm.trans z) (by decide)) (fun z => absurd (c19.symm.trans z) (by decide)) (fun z => absurd (c19.symm.trans z) (by decide)) (fun z => absurd (c19.symm.trans z) (by decide)) (fun z => absurd (c19.symm.trans z) (by decide)) (fun z => absurd (c19.symm.trans z) (by decide)) (fun z => absurd (c19.symm.trans z) (by decide)) (fun z => absurd (c19.symm.trans z) (by decide)) (fun z => absurd (c19.symm.trans z) (by decide)) (fun z => absurd (c19.symm.trans z) (by decide)) (fun z => absurd (c19.symm.trans z) (by decide)) (fun z => absurd (c19.symm.trans z) (by decide))
              obtain ⟨q20, hq20, h⟩ := Option.bind_eq_some_iff.mp h
              refine bX5_name_139 (evX5_blame hq20) (by omega) ?_
              cases h
              exact bX5_name_144
            · skip
              refine a_ite h (fun c21 h => ?_) (fun c21 h => ?_)
              · refine bX5_name_0 (fun _ _ _ _ _ _ n6 _ _ _ _ _ _ _ _ _ _ _ => absurd c21 n6) (fun z => absurd z c1) (fun z => absurd z c4) (fun z => absurd z c12) (fun z => absurd z c15) (fun z => absurd z c17) (fun z => absurd z c19) (fun _ => ?_) (fun z => absurd (c21.symm.trans z) (by decide)) (fun z => absurd (c21.symm.trans z) (by decide)) (fun z => absurd (c21.symm.trans z) (by decide)) (fun z => absurd (c21.symm.trans z) (by decide)) (fun z => absurd (c21.symm.trans z) (by decide)) (fun z => absurd (c21.symm.trans z) (by decide)) (fun z => absurd (c21.symm.trans z) (by decide)) (fun z => absurd (c21.symm.trans z) (by decide)) (fun z => absurd (c21.symm.trans z) (by decide)) (fun z => absurd (c21.symm.trans z) (by decide)) (fun z => absurd (c21.symm.trans z) (by decide))
                obtain ⟨q22, hq22, h⟩ := Option.bind_eq_some_iff.mp h
                refine bX5_name_139 (evX5_blame hq22) (by omega) ?_
                cases h
                exact bX5_name_144
              · skip
                refine a_ite h (fun c23 h => ?_) (fun c23 h => ?_)
                · refine bX5_name_0 (fun _ _ _ _ _ _ _ n7 _ _ _ _ _ _ _ _ _ _ => absurd c23 n7) (fun z => absurd z c1) (fun z => absurd z c4) (fun z => absurd z c12) (fun z => absurd z c15) (fun z => absurd z c17) (fun z => absurd z c19) (fun z => absurd z c21) (fun _ => ?_) (fun z => absurd (c23.symm.trans z) (by decide)) (fun z => absurd (c23.symm.trans z) (by decide)) (fun z => absurd (c23.symm.trans z) (by decide)) (fun z => absurd (c23.symm.trans z) (by decide)) (fun z => absurd (c23.symm.trans z) (by decide)) (fun z => absurd (c23.symm.trans z) (by decide)) (fun z => absurd (c23.symm.trans z) (by decide)) (fun z => absurd (c23.symm.trans z) (by decide)) (fun z => absurd (c23.symm.trans z) (by decide)) (fun z => absurd (c23.symm.trans z) (by decide))
                  obtain ⟨q24, hq24, h⟩ := Option.bind_eq_some_iff.mp h
                  refine bX5_name_139 (evX5_blame hq24) (by omega) ?_
                  cases h
                  exact bX5_name_144
                · skip
                  refine a_ite h (fun c25 h => ?_) (fun c25 h => ?_)
                  · refine bX5_name_0 (fun _ _ _ _ _ _ _ _ n8 _ _ _ _ _ _ _ _ _ => absurd c25 n8) (fun z => absurd z c1) (fun z => absurd z c4) (fun z => absurd z c12) (fun z => absurd z c15) (fun z => absurd z c17) (fun z => absurd z c19) (fun z => absurd z c21) (fun z => absurd z c23) (fun _ => ?_) (fun z => absurd (c25.symm.trans z) (by decide)) (fun z => absurd (c25.symm.trans z) (by decide)) (fun z => absurd (c25.symm.trans z) (by decide)) (fun z => absurd (c25.symm.trans z) (by decide)) (fun z => absurd (c25.symm.trans z) (by decide)) (fun z => absurd (c25.symm.trans z) (by decide)) (fun z => absurd (c25.symm.trans z) (by decide)) (fun z => absurd (c25.symm.trans z) (by decide)) (fun z => absurd (c25.symm.trans z) (by decide))
                    obtain ⟨q26, hq26, h⟩ := Option.bind_eq_some_iff.mp h
                    refine bX5_name_139 (evX5_blame hq26) (by omega) ?_
                    cases h
                    exact bX5_name_144
                  · skip
                    refine a_ite h (fun c27 h => ?_) (fun c27 h => ?_)
                    · refine bX5_name_0 (fun _ _ _ _ _ _ _ _ _ n9 _ _ _ _ _ _ _ _ => absurd c27 n9) (fun z => absurd z c1) (fun z => absurd z c4) (fun z => absurd z c12) (fun z => absurd z c15) (fun z => absurd z c17) (fun z => absurd z c19) (fun z => absurd z c21) (fun z => absurd z c23) (fun z => absurd z c25) (fun _ => ?_) (fun z => absurd (c27.symm.trans z) (by decide)) (fun z => absurd (c27.symm.trans z) (by decide)) (fun z => absurd (c27.symm.trans z) (by decide)) (fun z => absurd (c27.symm.trans z) (by decide)) (fun z => absurd (c27.symm.trans z) (by decide)) (fun z => absurd (c27.symm.trans z) (by decide)) (fun z => absurd (c27.symm.trans z) (by decide)) (fun z => absurd (c27.symm.trans z) (by decide))
                      obtain ⟨q28, hq28, h⟩ := Option.bind_eq_some_iff.mp h
                      refine bX5_name_139 (evX5_blame hq28) (by omega) ?_
                      cases h
                      exact bX5_name_144
                    · skip
                      refine a_ite h (fun c29 h => ?_) (fun c29 h => ?_)
                      · refine bX5_name_0 (fun _ _ _ _ _ _ _ _ _ _ n10 _ _ _ _ _ _ _ => absurd c29 n10) (fun z => absurd z c1) (fun z => absurd z c4) (fun z => absurd z c12) (fun z => absurd z c15) (fun z => absurd z c17) (fun z => absurd z c19) (fun z => absurd z c21) (fun z => absurd z c23) (fun z => absurd z c25) (fun z => absurd z c27) (fun _ => ?_) (fun z => absurd (c29.symm.trans z) (by decide)) (fun z => absurd (c29.symm.trans z) (by decide)) (fun z => absurd (c29.symm.trans z) (by decide)) (fun z => absurd (c29.symm.trans z) (by decide)) (fun z => absurd (c29.symm.trans z) (by decide)) (fun z => absurd (c29.symm.trans z) (by decide)) (fun z => absurd (c29.symm.trans z) (by decide))
                        obtain ⟨q30, hq30, h⟩ := Option.bind_eq_some_iff.mp h
                        refine bX5_name_139 (evX5_blame hq30) (by omega) ?_
                        cases h
                        exact bX5_name_144
                      · skip
                        refine a_ite h (fun c31 h => ?_) (fun c31 h => ?_)
                        · refine bX5_name_0 (fun _ _ _ _ _ _ _ _ _ _ _ n11 _ _ _ _ _ _ => absurd c31 n11) (fun z => absurd z c1) (fun z => absurd z c4) (fun z => absurd z c12) (fun z => absurd z c15) (fun z => absurd z c17) (fun z => absurd z c19) (fun z => absurd z c21) (fun z => absurd z c23) (fun z => absurd z c25) (fun z => absurd z c27) (fun z => absurd z c29) (fun _ => ?_) (fun z => absurd (c31.symm.trans z) (by decide)) (fun z => absurd (c31.symm.trans z) (by decide)) (fun z => absurd (c31.symm.trans z) (by decide)) (fun z => absurd (c31.symm.trans z) (by decide)) (fun z => absurd (c31.symm.trans z) (by decide)) (fun z => absurd (c31.symm.trans z) (by decide))
                          obtain ⟨q32, hq32, h⟩ := Option.bind_eq_some_iff.mp h
                          refine bX5_name_139 (evX5_blame hq32) (by omega) ?_
                          cases h
                          exact bX5_name_144
                        · skip
                          refine a_ite h (fun c33 h => ?_) (fun c33 h => ?_)
                          · refine bX5_name_0 (fun _ _ _ _ _ _ _ _ _ _ _ _ n12 _ _ _ _ _ => absurd c33 n12) (fun z => absurd z c1) (fun z => absurd z c4) (fun z => absurd z c12) (fun z => absurd z c15) (fun z => absurd z c17) (fun z => absurd z c19) (fun z => absurd z c21) (fun z => absurd z c23) (fun z => absurd z c25) (fun z => absurd z c27) (fun z => absurd z c29) (fun z => absurd z c31) (fun _ => ?_) (fun z => absurd (c33.symm.trans z) (by decide)) (fun z => absurd (c33.symm.trans z) (by decide)) (fun z => absurd (c33.symm.trans z) (by decide)) (fun z => absurd (c33.symm.trans z) (by decide)) (fun z => absurd (c33.symm.trans z) (by decide))
                            obtain ⟨q34, hq34, h⟩ := Option.bind_eq_some_iff.mp h
                            refine bX5_name_139 (evX5_blame hq34) (by omega) ?_
                            cases h
                            exact bX5_name_144
                          · skip
                            refine a_ite h (fun c35 h => ?_) (fun c35 h => ?_)
                            · refine bX5_name_0 (fun _ _ _ _ _ _ _ _ _ _ _ _ _ n13 _ _ _ _ => absurd c35 n13) (fun z => absurd z c1) (fun z => absurd z c4) (fun z => absurd z c12) (fun z => absurd z c15) (fun z => absurd z c17) (fun z => absurd z c19) (fun z => absurd z c21) (fun z => absurd z c23) (fun z => absurd z c25) (fun z => absurd z c27) (fun z => absurd z c29) (fun z => absurd z c31) (fun z => absurd z c33) (fun _ => ?_) (fun z => absurd (c35.symm.trans z) (by decide)) (fun z => absurd (c35.symm.trans z) (by decide)) (fun z => absurd (c35.symm.trans z) (by decide)) (fun z => absurd (c35.symm.trans z) (by decide))
                              refine bX5_name_92 ?_
                              obtain ⟨q36, hq36, h⟩ := Option.bind_eq_some_iff.mp h
                              refine bX5_name_145 (evX7_put hq36) (by omega) ?_
                              obtain ⟨q37, hq37, h⟩ := Option.bind_eq_some_iff.mp h
                              refine bX5_name_156 (evX5_next hq37) (by omega) ?_
                              cases h
                              exact bX5_name_161
                            · skip
                              refine a_ite h (fun c38 h => ?_) (fun c38 h => ?_)
                              · refine bX5_name_0 (fun _ _ _ _ _ _ _ _ _ _ _ _ _ _ n14 _ _ _ => absurd c38 n14) (fun z => absurd z c1) (fun z => absurd z c4) (fun z => absurd z c12) (fun z => absurd z c15) (fun z => absurd z c17) (fun z => absurd z c19) (fun z => absurd z c21) (fun z => absurd z c23) (fun z => absurd z c25) (fun z => absurd z c27) (fun z => absurd z c29) (fun z => absurd z c31) (fun z => absurd z c33) (fun z => absurd z c35) (fun _ => ?_) (fun z => absurd (c38.symm.trans z) (by decide)) (fun z => absurd (c38.symm.trans z) (by decide)) (fun z => absurd (c38.symm.trans z) (by decide))
                                refine bX5_name_92 ?_
                                obtain ⟨q39, hq39, h⟩ := Option.bind_eq_some_iff.mp h
                                refine bX5_name_145 (evX7_put hq39) (by omega) ?_
                                obtain ⟨q40, hq40, h⟩ := Option.bind_eq_some_iff.mp h
                                refine bX5_name_156 (evX5_next hq40) (by omega) ?_
                                cases h
                                exact bX5_name_161
                              · skip
                                refine a_ite h (fun c41 h => ?_) (fun c41 h => ?_)
                                · refine bX5_name_0 (fun _ _ _ _ _ _ _ _ _ _ _ _ _ _ _ n15 _ _ => absurd c41 n15) (fun z => absurd z c1) (fun z => absurd z c4) (fun z => absurd z c12) (fun z => absurd z c15) (fun z => absurd z c17) (fun z => absurd z c19) (fun z => absurd z c21) (fun z => absurd z c23) (fun z => absurd z c25) (fun z => absurd z c27) (fun z => absurd z c29) (fun z => absurd z c31) (fun z => absurd z c33) (fun z => absurd z c35) (fun z => absurd z c38) (fun _ => ?_) (fun z => absurd (c41.symm.trans z) (by decide)) (fun z => absurd (c41.symm.trans z) (by decide))
                                  refine bX5_name_92 ?_
                                  obtain ⟨q42, hq42, h⟩ := Option.bind_eq_some_iff.mp h
                                  refine bX5_name_145 (evX7_put hq42) (by omega) ?_
                                  obtain ⟨q43, hq43, h⟩ := Option.bind_eq_some_iff.mp h
                                  refine bX5_name_156 (evX5_next hq43) (by omega) ?_
                                  cases h
                                  exact bX5_name_161
                                · skip
                                  refine a_ite h (fun c44 h => ?_) (fun c44 h => ?_)
                                  · refine bX5_name_0 (fun _ _ _ _ _ _ _ _ _ _ _ _ _ _ _ _ n16 _ => absurd c44 n16) (fun z => absurd z c1) (fun z => absurd z c4) (fun z => absurd z c12) (fun z => absurd z c15) (fun z => absurd z c17) (fun z => absurd z c19) (fun z => absurd z c21) (fun z => absurd z c23) (fun z => absurd z c25) (fun z => absurd z c27) (fun z => absurd z c29) (fun z => absurd z c31) (fun z => absurd z c33) (fun z => absurd z c35) (fun z => absurd z c38) (fun z => absurd z c41) (fun _ => ?_) (fun z => absurd (c44.symm.trans z) (by decide))
                                    refine a_ite h (fun c45 h => ?_) (fun c45 h => ?_)
                                    · refine bX5_name_95 (fun z => absurd c45 z) (fun _ => ?_)
                                      refine bX5_name_106 ?_
                                      obtain ⟨q46, hq46, h⟩ := Option.bind_eq_some_iff.mp h
                                      refine bX5_name_111 (evX5_blameUnless hq46) (by omega) ?_
                                      refine bX5_name_114 ?_
                                      obtain ⟨q47, hq47, h⟩ := Option.bind_eq_some_iff.mp h
                                      refine bX5_name_145 (evX7_put hq47) (by omega) ?_
                                      obtain ⟨q48, hq48, h⟩ := Option.bind_eq_some_iff.mp h
                                      refine bX5_name_156 (evX5_next hq48) (by omega) ?_
                                      cases h
                                      exact bX5_name_161
                                    · refine bX5_name_95 (fun _ => ?_) (fun z => absurd z c45)
                                      refine bX5_name_110 ?_
                                      obtain ⟨q49, hq49, h⟩ := Option.bind_eq_some_iff.mp h
                                      refine bX5_name_111 (evX5_blameUnless hq49) (by omega) ?_
                                      refine bX5_name_114 ?_
                                      obtain ⟨q50, hq50, h⟩ := Option.bind_eq_some_iff.mp h
                                      refine bX5_name_145 (evX7_put hq50) (by omega) ?_
                                      obtain ⟨q51, hq51, h⟩ := Option.bind_eq_some_iff.mp h
                                      refine bX5_name_156 (evX5_next hq51) (by omega) ?_
                                      cases h
                                      exact bX5_name_161
                                  · skip
                                    refine a_ite h (fun c52 h => ?_) (fun c52 h => ?_)
                                    · refine bX5_name_0 (fun _ _ _ _ _ _ _ _ _ _ _ _ _ _ _ _ _ n17 => absurd c52 n17) (fun z => absurd z c1) (fun z => absurd z c4) (fun z => absurd z c12) (fun z => absurd z c15) (fun z => absurd z c17) (fun z => absurd z c19) (fun z => absurd z c21) (fun z => absurd z c23) (fun z => absurd z c25) (fun z => absurd z c27) (fun z => absurd z c29) (fun z => absurd z c31) (fun z => absurd z c33) (fun z => absurd z c35) (fun z => absurd z c38) (fun z => absurd z c41) (fun z => absurd z c44) (fun _ => ?_)
                                      refine a_ite h (fun c53 h => ?_) (fun c53 h => ?_)
                                      · refine bX5_name_117 (fun z => absurd c53 z) (fun _ => ?_)
                                        refine bX5_name_128 ?_
                                        obtain ⟨q54, hq54, h⟩ := Option.bind_eq_some_iff.mp h
                                        refine bX5_name_133 (evX5_blameUnless hq54) (by omega) ?_
                                        refine bX5_name_136 ?_
                                        obtain ⟨q55, hq55, h⟩ := Option.bind_eq_some_iff.mp h
                                        refine bX5_name_145 (evX7_put hq55) (by omega) ?_
                                        obtain ⟨q56, hq56, h⟩ := Option.bind_eq_some_iff.mp h
                                        refine bX5_name_156 (evX5_next hq56) (by omega) ?_
                                        cases h
                                        exact bX5_name_161
                                      · refine bX5_name_117 (fun _ => ?_) (fun z => absurd z c53)
                                        refine bX5_name_132 ?_
                                        obtain ⟨q57, hq57, h⟩ := Option.bind_eq_some_iff.mp h
                                        refine bX5_name_133 (evX5_blameUnless hq57) (by omega) ?_
                                        refine bX5_name_136 ?_
                                        obtain ⟨q58, hq58, h⟩ := Option.bind_eq_some_iff.mp h
                                        refine bX5_name_145 (evX7_put hq58) (by omega) ?_
                                        obtain ⟨q59, hq59, h⟩ := Option.bind_eq_some_iff.mp h
                                        refine bX5_name_156 (evX5_next hq59) (by omega) ?_
                                        cases h
                                        exact bX5_name_161
                                    · skip
                                      refine bX5_name_0 (fun _ _ _ _ _ _ _ _ _ _ _ _ _ _ _ _ _ _ => ?_) (fun z => absurd z c1) (fun z => absurd z c4) (fun z => absurd z c12) (fun z => absurd z c15) (fun z => absurd z c17) (fun z => absurd z c19) (fun z => absurd z c21) (fun z => absurd z c23) (fun z => absurd z c25) (fun z => absurd z c27) (fun z => absurd z c29) (fun z => absurd z c31) (fun z => absurd z c33) (fun z => absurd z c35) (fun z => absurd z c38) (fun z => absurd z c41) (fun z => absurd z c44) (fun z => absurd z c52)
                                      obtain ⟨q60, hq60, h⟩ := Option.bind_eq_some_iff.mp h
                                      refine bX5_name_139 (evX5_blame hq60) (by omega) ?_
                                      cases h
                                      exact bX5_name_144

noncomputable def FX10_house (d : aI) (e : aJ) (x1 : Int32) (x2 : Int32) : Option (Int32 × aI × aJ) := ((FX10_within d e x1 (nI 0) (nI 9)).bind fun q1 => (if q1.1 = 0 then (some ((-(nI 1)), q1.2.1, q1.2.2)) else ((FX10_within q1.2.1 q1.2.2 x2 (nI 0) (nI 999)).bind fun q3 => (if q3.1 = 0 then (some ((-(nI 1)), q3.2.1, q3.2.2)) else ((FX2_build q3.2.1 q3.2.2 x1 x2).bind fun q5 => (some (q5.1, q5.2.1, q5.2.2)))))))
theorem evX10_house {Γ : aG × Launch} {d : aI} {e : aJ} {x1 : Int32} {x2 : Int32} {q : Int32 × aI × aJ} (h : FX10_house d e x1 x2 = some q) : Ev Γ (1) mX10_house [.ref 0, .int x1, .int x2] d e (some (.int q.1)) q.2.1 q.2.2 := by
  refine Ev.of (by decide) rfl (Nat.le_of_ble_eq_true rfl) (fun z => by cases z) ?_
  show Rn Γ (1) mX10_house 0 [some (.ref 0), some (.int x1), some (.int x2)] [] d e _ _ _
  unfold FX10_house at h
  obtain ⟨q1, hq1, h⟩ := Option.bind_eq_some_iff.mp h
  refine bX10_house_0 (evX10_within hq1) (by omega) ?_
  refine a_ite h (fun c2 h => ?_) (fun c2 h => ?_)
  · refine bX10_house_7 (fun _ => ?_) (fun z => absurd c2 z)
    cases h
    exact bX10_house_21
  · refine bX10_house_7 (fun z => absurd z c2) (fun _ => ?_)
    obtain ⟨q3, hq3, h⟩ := Option.bind_eq_some_iff.mp h
    refine bX10_house_10 (evX10_within hq3) (by omega) ?_
    refine a_ite h (fun c4 h => ?_) (fun c4 h => ?_)
    · refine bX10_house_18 (fun z => absurd c4 z) (fun _ => ?_)
      cases h
      exact bX10_house_21
    · refine bX10_house_18 (fun _ => ?_) (fun z => absurd z c4)
      obtain ⟨q5, hq5, h⟩ := Option.bind_eq_some_iff.mp h
      refine bX10_house_23 (evX2_build hq5) (by omega) ?_
      cases h
      exact bX10_house_35

noncomputable def FX10_cat (d : aI) (e : aJ) (x1 : Int32) (x2 : Int32) : Option (Int32 × aI × aJ) := ((FX10_within d e x1 (nI 0) (nI 9)).bind fun q1 => (if q1.1 = 0 then (some ((-(nI 1)), q1.2.1, q1.2.2)) else ((FX10_within q1.2.1 q1.2.2 x2 (nI 0) (nI 9)).bind fun q3 => (if q3.1 = 0 then (some ((-(nI 1)), q3.2.1, q3.2.2)) else ((FX2_bring q3.2.1 q3.2.2 x1 x2).bind fun q5 => (some (q5.1, q5.2.1, q5.2.2)))))))
theorem evX10_cat {Γ : aG × Launch} {d : aI} {e : aJ} {x1 : Int32} {x2 : Int32} {q : Int32 × aI × aJ} (h : FX10_cat d e x1 x2 = some q) : Ev Γ (1) mX10_cat [.ref 0, .int x1, .int x2] d e (some (.int q.1)) q.2.1 q.2.2 := by
  refine Ev.of (by decide) rfl (Nat.le_of_ble_eq_true rfl) (fun z => by cases z) ?_
  show Rn Γ (1) mX10_cat 0 [some (.ref 0), some (.int x1), some (.int x2)] [] d e _ _ _
  unfold FX10_cat at h
  obtain ⟨q1, hq1, h⟩ := Option.bind_eq_some_iff.mp h
  refine bX10_cat_0 (evX10_within hq1) (by omega) ?_
  refine a_ite h (fun c2 h => ?_) (fun c2 h => ?_)
  · refine bX10_cat_7 (fun _ => ?_) (fun z => absurd c2 z)
    cases h
    exact bX10_cat_20
  · refine bX10_cat_7 (fun z => absurd z c2) (fun _ => ?_)
    obtain ⟨q3, hq3, h⟩ := Option.bind_eq_some_iff.mp h
    refine bX10_cat_10 (evX10_within hq3) (by omega) ?_
    refine a_ite h (fun c4 h => ?_) (fun c4 h => ?_)
    · refine bX10_cat_17 (fun z => absurd c4 z) (fun _ => ?_)
      cases h
      exact bX10_cat_20
    · refine bX10_cat_17 (fun _ => ?_) (fun z => absurd z c4)
      obtain ⟨q5, hq5, h⟩ := Option.bind_eq_some_iff.mp h
      refine bX10_cat_22 (evX2_bring hq5) (by omega) ?_
      cases h
      exact bX10_cat_34

noncomputable def FX10_end (d : aI) (e : aJ) (x1 : Int32) : Option (Int32 × aI × aJ) := ((FX10_within d e x1 (nI 0) (d 83 2)).bind fun q1 => (if q1.1 = 0 then (some ((-(nI 1)), q1.2.1, q1.2.2)) else (some (x1, (uI q1.2.1 83 2 x1), q1.2.2))))
theorem evX10_end {Γ : aG × Launch} {d : aI} {e : aJ} {x1 : Int32} {q : Int32 × aI × aJ} (h : FX10_end d e x1 = some q) : Ev Γ (1) mX10_end [.ref 0, .int x1] d e (some (.int q.1)) q.2.1 q.2.2 := by
  refine Ev.of (by decide) rfl (Nat.le_of_ble_eq_true rfl) (fun z => by cases z) ?_
  show Rn Γ (1) mX10_end 0 [some (.ref 0), some (.int x1)] [] d e _ _ _
  unfold FX10_end at h
  obtain ⟨q1, hq1, h⟩ := Option.bind_eq_some_iff.mp h
  refine bX10_end_0 (evX10_within hq1) (by omega) ?_
  refine a_ite h (fun c2 h => ?_) (fun c2 h => ?_)
  · refine bX10_end_12 (fun z => absurd c2 z) (fun _ => ?_)
    cases h
    exact bX10_end_15
  · refine bX10_end_12 (fun _ => ?_) (fun z => absurd z c2)
    cases h
    exact bX10_end_17

noncomputable def FX10_by (d : aI) (e : aJ) (x1 : Int32) : Option (Int32 × aI × aJ) := (if x1 = (-(nI 1)) then (some ((nI 1), (uI d 1 7 x1), e)) else ((FX10_isText d e x1).bind fun q2 => (if q2.1 = 0 then (some ((nI 0), q2.2.1, q2.2.2)) else (some ((nI 1), (uI q2.2.1 1 7 x1), q2.2.2)))))
theorem evX10_by {Γ : aG × Launch} {d : aI} {e : aJ} {x1 : Int32} {q : Int32 × aI × aJ} (h : FX10_by d e x1 = some q) : Ev Γ (2) mX10_by [.ref 0, .int x1] d e (some (.int q.1)) q.2.1 q.2.2 := by
  refine Ev.of (by decide) rfl (Nat.le_of_ble_eq_true rfl) (fun z => by cases z) ?_
  show Rn Γ (2) mX10_by 0 [some (.ref 0), some (.int x1)] [] d e _ _ _
  unfold FX10_by at h
  refine a_ite h (fun c1 h => ?_) (fun c1 h => ?_)
  · refine bX10_by_0 (fun _ => ?_) (fun z => absurd c1 z)
    cases h
    exact bX10_by_15
  · refine bX10_by_0 (fun z => absurd z c1) (fun _ => ?_)
    obtain ⟨q2, hq2, h⟩ := Option.bind_eq_some_iff.mp h
    refine bX10_by_5 (evX10_isText hq2) (by omega) ?_
    refine a_ite h (fun c3 h => ?_) (fun c3 h => ?_)
    · refine bX10_by_10 (fun z => absurd c3 z) (fun _ => ?_)
      cases h
      exact bX10_by_13
    · refine bX10_by_10 (fun _ => ?_) (fun z => absurd z c3)
      cases h
      exact bX10_by_15

noncomputable def FX10_is (d : aI) (e : aJ) (x1 : Int32) : Option (Int32 × aI × aJ) := (if x1 = (nI 0) then (some ((d 2 11), d, e)) else (if x1 = (nI 1) then (some ((d 2 12), d, e)) else (if x1 = (nI 2) then ((FX10_total d e 4 (d 2 8)).bind fun q4 => (some (q4.1, q4.2.1, q4.2.2))) else (if x1 = (nI 3) then ((FX10_total d e 9 (d 2 9)).bind fun q6 => (some (q6.1, q6.2.1, q6.2.2))) else (some ((-(nI 2)), d, e))))))
theorem evX10_is {Γ : aG × Launch} {d : aI} {e : aJ} {x1 : Int32} {q : Int32 × aI × aJ} (h : FX10_is d e x1 = some q) : Ev Γ (1) mX10_is [.ref 0, .int x1] d e (some (.int q.1)) q.2.1 q.2.2 := by
  refine Ev.of (by decide) rfl (Nat.le_of_ble_eq_true rfl) (fun z => by cases z) ?_
  show Rn Γ (1) mX10_is 0 [some (.ref 0), some (.int x1)] [] d e _ _ _
  unfold FX10_is at h
  refine a_ite h (fun c1 h => ?_) (fun c1 h => ?_)
  · refine bX10_is_0 (fun n0 _ _ _ => absurd c1 n0) (fun _ => ?_) (fun z => absurd (c1.symm.trans z) (by decide)) (fun z => absurd (c1.symm.trans z) (by decide)) (fun z => absurd (c1.symm.trans z) (by decide))
    cases h
    exact bX10_is_32
  · skip
    refine a_ite h (fun c2 h => ?_) (fun c2 h => ?_)
    · refine bX10_is_0 (fun _ n1 _ _ => absurd c2 n1) (fun z => absurd z c1) (fun _ => ?_) (fun z => absurd (c2.symm.trans z) (by decide)) (fun z => absurd (c2.symm.trans z) (by decide))
      cases h
      exact bX10_is_43
    · skip
      refine a_ite h (fun c3 h => ?_) (fun c3 h => ?_)
      · refine bX10_is_0 (fun _ _ n2 _ => absurd c3 n2) (fun z => absurd z c1) (fun z => absurd z c2) (fun _ => ?_) (fun z => absurd (c3.symm.trans z) (by decide))
        obtain ⟨q4, hq4, h⟩ := Option.bind_eq_some_iff.mp h
        refine bX10_is_54 (evX10_total hq4) (by omega) ?_
        cases h
        exact bX10_is_77
      · skip
        refine a_ite h (fun c5 h => ?_) (fun c5 h => ?_)
        · refine bX10_is_0 (fun _ _ _ n3 => absurd c5 n3) (fun z => absurd z c1) (fun z => absurd z c2) (fun z => absurd z c3) (fun _ => ?_)
          obtain ⟨q6, hq6, h⟩ := Option.bind_eq_some_iff.mp h
          refine bX10_is_78 (evX10_total hq6) (by omega) ?_
          cases h
          exact bX10_is_101
        · skip
          refine bX10_is_0 (fun _ _ _ _ => ?_) (fun z => absurd z c1) (fun z => absurd z c2) (fun z => absurd z c3) (fun z => absurd z c5)
          cases h
          exact bX10_is_102

noncomputable def FX10_book (d : aI) (e : aJ) (x1 : Int32) (x2 : Int32) : Option (Int32 × aI × aJ) := (if x1 = (-(nI 1)) then (some ((d 2 10), d, e)) else ((FX10_within d e x1 (nI 0) ((d 2 10) - (nI 1))).bind fun q2 => (if q2.1 = 0 then (some ((-(nI 2)), q2.2.1, q2.2.2)) else (bif ((a_inb x1 25)) then (if x2 = (nI 0) then ((FX10_hourOf q2.2.1 q2.2.2 (q2.2.1 10 (x1).toNatClampNeg)).bind fun q6 => (some (q6.1, q6.2.1, q6.2.2))) else (if x2 = (nI 1) then ((FX10_catOf q2.2.1 q2.2.2 (q2.2.1 10 (x1).toNatClampNeg)).bind fun q8 => (some (q8.1, q8.2.1, q8.2.2))) else (if x2 = (nI 2) then ((FX10_houseOf q2.2.1 q2.2.2 (q2.2.1 10 (x1).toNatClampNeg)).bind fun q10 => (some (q10.1, q10.2.1, q10.2.2))) else (if x2 = (nI 3) then ((FX10_deedOf q2.2.1 q2.2.2 (q2.2.1 10 (x1).toNatClampNeg)).bind fun q12 => (some (q12.1, q12.2.1, q12.2.2))) else (some ((-(nI 2)), q2.2.1, q2.2.2)))))) else none))))
theorem evX10_book {Γ : aG × Launch} {d : aI} {e : aJ} {x1 : Int32} {x2 : Int32} {q : Int32 × aI × aJ} (h : FX10_book d e x1 x2 = some q) : Ev Γ (1) mX10_book [.ref 0, .int x1, .int x2] d e (some (.int q.1)) q.2.1 q.2.2 := by
  refine Ev.of (by decide) rfl (Nat.le_of_ble_eq_true rfl) (fun z => by cases z) ?_
  show Rn Γ (1) mX10_book 0 [some (.ref 0), some (.int x1), some (.int x2), none] [] d e _ _ _
  unfold FX10_book at h
  refine a_ite h (fun c1 h => ?_) (fun c1 h => ?_)
  · refine bX10_book_0 (fun z => absurd c1 z) (fun _ => ?_)
    cases h
    exact bX10_book_5
  · refine bX10_book_0 (fun _ => ?_) (fun z => absurd z c1)
    obtain ⟨q2, hq2, h⟩ := Option.bind_eq_some_iff.mp h
    refine bX10_book_16 (evX10_within hq2) (by omega) ?_
    refine a_ite h (fun c3 h => ?_) (fun c3 h => ?_)
    · refine bX10_book_33 (fun z => absurd c3 z) (fun _ => ?_)
      cases h
      exact bX10_book_36
    · refine bX10_book_33 (fun _ => ?_) (fun z => absurd z c3)
      obtain ⟨g4, h⟩ := a_cond h
      refine a_ite h (fun c5 h => ?_) (fun c5 h => ?_)
      · refine bX10_book_39 (a_inb_vp g4) (fun n0 _ _ _ => absurd c5 n0) (fun _ => ?_) (fun z => absurd (c5.symm.trans z) (by decide)) (fun z => absurd (c5.symm.trans z) (by decide)) (fun z => absurd (c5.symm.trans z) (by decide))
        obtain ⟨q6, hq6, h⟩ := Option.bind_eq_some_iff.mp h
        refine bX10_book_84 (evX10_hourOf hq6) (by omega) ?_
        cases h
        exact bX10_book_88
      · skip
        refine a_ite h (fun c7 h => ?_) (fun c7 h => ?_)
        · refine bX10_book_39 (a_inb_vp g4) (fun _ n1 _ _ => absurd c7 n1) (fun z => absurd z c5) (fun _ => ?_) (fun z => absurd (c7.symm.trans z) (by decide)) (fun z => absurd (c7.symm.trans z) (by decide))
          obtain ⟨q8, hq8, h⟩ := Option.bind_eq_some_iff.mp h
          refine bX10_book_89 (evX10_catOf hq8) (by omega) ?_
          cases h
          exact bX10_book_93
        · skip
          refine a_ite h (fun c9 h => ?_) (fun c9 h => ?_)
          · refine bX10_book_39 (a_inb_vp g4) (fun _ _ n2 _ => absurd c9 n2) (fun z => absurd z c5) (fun z => absurd z c7) (fun _ => ?_) (fun z => absurd (c9.symm.trans z) (by decide))
            obtain ⟨q10, hq10, h⟩ := Option.bind_eq_some_iff.mp h
            refine bX10_book_94 (evX10_houseOf hq10) (by omega) ?_
            cases h
            exact bX10_book_98
          · skip
            refine a_ite h (fun c11 h => ?_) (fun c11 h => ?_)
            · refine bX10_book_39 (a_inb_vp g4) (fun _ _ _ n3 => absurd c11 n3) (fun z => absurd z c5) (fun z => absurd z c7) (fun z => absurd z c9) (fun _ => ?_)
              obtain ⟨q12, hq12, h⟩ := Option.bind_eq_some_iff.mp h
              refine bX10_book_99 (evX10_deedOf hq12) (by omega) ?_
              cases h
              exact bX10_book_103
            · skip
              refine bX10_book_39 (a_inb_vp g4) (fun _ _ _ _ => ?_) (fun z => absurd z c5) (fun z => absurd z c7) (fun z => absurd z c9) (fun z => absurd z c11)
              cases h
              exact bX10_book_104

noncomputable def FX10_far (d : aI) (e : aJ) (x1 : Int32) (x2 : Int32) : Option (Int32 × aI × aJ) := ((FX2_isCat d e x1).bind fun q1 => (if q1.1 = 0 then (some ((-(nI 1)), q1.2.1, q1.2.2)) else ((FX2_isHouse q1.2.1 q1.2.2 x2).bind fun q3 => (if q3.1 = 0 then (some ((-(nI 1)), q3.2.1, q3.2.2)) else ((FX2_away q3.2.1 q3.2.2 x1 x2).bind fun q5 => (some (q5.1, q5.2.1, q5.2.2)))))))
theorem evX10_far {Γ : aG × Launch} {d : aI} {e : aJ} {x1 : Int32} {x2 : Int32} {q : Int32 × aI × aJ} (h : FX10_far d e x1 x2 = some q) : Ev Γ (2) mX10_far [.ref 0, .int x1, .int x2] d e (some (.int q.1)) q.2.1 q.2.2 := by
  refine Ev.of (by decide) rfl (Nat.le_of_ble_eq_true rfl) (fun z => by cases z) ?_
  show Rn Γ (2) mX10_far 0 [some (.ref 0), some (.int x1), some (.int x2)] [] d e _ _ _
  unfold FX10_far at h
  obtain ⟨q1, hq1, h⟩ := Option.bind_eq_some_iff.mp h
  refine bX10_far_0 (evX2_isCat hq1) (by omega) ?_
  refine a_ite h (fun c2 h => ?_) (fun c2 h => ?_)
  · refine bX10_far_11 (fun _ => ?_) (fun z => absurd c2 z)
    cases h
    exact bX10_far_28
  · refine bX10_far_11 (fun z => absurd z c2) (fun _ => ?_)
    obtain ⟨q3, hq3, h⟩ := Option.bind_eq_some_iff.mp h
    refine bX10_far_14 (evX2_isHouse hq3) (by omega) ?_
    refine a_ite h (fun c4 h => ?_) (fun c4 h => ?_)
    · refine bX10_far_25 (fun z => absurd c4 z) (fun _ => ?_)
      cases h
      exact bX10_far_28
    · refine bX10_far_25 (fun _ => ?_) (fun z => absurd z c4)
      obtain ⟨q5, hq5, h⟩ := Option.bind_eq_some_iff.mp h
      refine bX10_far_30 (evX2_away hq5) (by omega) ?_
      cases h
      exact bX10_far_42

noncomputable def FX10_seen (d : aI) (e : aJ) (x1 : Int32) (x2 : Int32) : Option (Int32 × aI × aJ) := ((FX10_within d e x1 (nI 0) (nI 99)).bind fun q1 => (if q1.1 = 0 then ((FX10_tell q1.2.1 q1.2.2 13 x1 x2 (nI 0) (nI 0)).bind fun q3 => (some (q3.1, q3.2.1, q3.2.2))) else ((FX10_within q1.2.1 q1.2.2 x2 (nI 0) (nI 9)).bind fun q4 => (if q4.1 = 0 then ((FX10_tell q4.2.1 q4.2.2 13 x1 x2 (nI 0) (nI 0)).bind fun q6 => (some (q6.1, q6.2.1, q6.2.2))) else ((FX10_tell q4.2.1 q4.2.2 13 x1 x2 (nI 0) (nI 1)).bind fun q7 => (some (q7.1, q7.2.1, q7.2.2)))))))
theorem evX10_seen {Γ : aG × Launch} {d : aI} {e : aJ} {x1 : Int32} {x2 : Int32} {q : Int32 × aI × aJ} (h : FX10_seen d e x1 x2 = some q) : Ev Γ (2) mX10_seen [.ref 0, .int x1, .int x2] d e (some (.int q.1)) q.2.1 q.2.2 := by
  refine Ev.of (by decide) rfl (Nat.le_of_ble_eq_true rfl) (fun z => by cases z) ?_
  show Rn Γ (2) mX10_seen 0 [some (.ref 0), some (.int x1), some (.int x2), none] [] d e _ _ _
  unfold FX10_seen at h
  obtain ⟨q1, hq1, h⟩ := Option.bind_eq_some_iff.mp h
  refine bX10_seen_0 (evX10_within hq1) (by omega) ?_
  refine a_ite h (fun c2 h => ?_) (fun c2 h => ?_)
  · refine bX10_seen_7 (fun _ => ?_) (fun z => absurd c2 z)
    refine bX10_seen_24 ?_
    obtain ⟨q3, hq3, h⟩ := Option.bind_eq_some_iff.mp h
    refine bX10_seen_25 (evX10_tell hq3) (by omega) ?_
    cases h
    exact bX10_seen_40
  · refine bX10_seen_7 (fun z => absurd z c2) (fun _ => ?_)
    obtain ⟨q4, hq4, h⟩ := Option.bind_eq_some_iff.mp h
    refine bX10_seen_10 (evX10_within hq4) (by omega) ?_
    refine a_ite h (fun c5 h => ?_) (fun c5 h => ?_)
    · refine bX10_seen_17 (fun _ => ?_) (fun z => absurd c5 z)
      refine bX10_seen_24 ?_
      obtain ⟨q6, hq6, h⟩ := Option.bind_eq_some_iff.mp h
      refine bX10_seen_25 (evX10_tell hq6) (by omega) ?_
      cases h
      exact bX10_seen_40
    · refine bX10_seen_17 (fun z => absurd z c5) (fun _ => ?_)
      refine bX10_seen_20 ?_
      obtain ⟨q7, hq7, h⟩ := Option.bind_eq_some_iff.mp h
      refine bX10_seen_25 (evX10_tell hq7) (by omega) ?_
      cases h
      exact bX10_seen_40

noncomputable def FX10_told (d : aI) (e : aJ) (x1 : Int32) (x2 : Int32) : Option (Int32 × aI × aJ) := ((FX2_isHouse d e x1).bind fun q1 => (if q1.1 = 0 then ((FX10_tell q1.2.1 q1.2.2 17 x1 x2 (nI 0) (nI 0)).bind fun q3 => (some (q3.1, q3.2.1, q3.2.2))) else ((FX10_within q1.2.1 q1.2.2 x2 (nI 0) (nI 99)).bind fun q4 => (if q4.1 = 0 then ((FX10_tell q4.2.1 q4.2.2 17 x1 x2 (nI 0) (nI 0)).bind fun q6 => (some (q6.1, q6.2.1, q6.2.2))) else ((FX10_tell q4.2.1 q4.2.2 17 x1 x2 (nI 0) (nI 1)).bind fun q7 => (some (q7.1, q7.2.1, q7.2.2)))))))
theorem evX10_told {Γ : aG × Launch} {d : aI} {e : aJ} {x1 : Int32} {x2 : Int32} {q : Int32 × aI × aJ} (h : FX10_told d e x1 x2 = some q) : Ev Γ (2) mX10_told [.ref 0, .int x1, .int x2] d e (some (.int q.1)) q.2.1 q.2.2 := by
  refine Ev.of (by decide) rfl (Nat.le_of_ble_eq_true rfl) (fun z => by cases z) ?_
  show Rn Γ (2) mX10_told 0 [some (.ref 0), some (.int x1), some (.int x2), none] [] d e _ _ _
  unfold FX10_told at h
  obtain ⟨q1, hq1, h⟩ := Option.bind_eq_some_iff.mp h
  refine bX10_told_0 (evX2_isHouse hq1) (by omega) ?_
  refine a_ite h (fun c2 h => ?_) (fun c2 h => ?_)
  · refine bX10_told_11 (fun _ => ?_) (fun z => absurd c2 z)
    refine bX10_told_28 ?_
    obtain ⟨q3, hq3, h⟩ := Option.bind_eq_some_iff.mp h
    refine bX10_told_29 (evX10_tell hq3) (by omega) ?_
    cases h
    exact bX10_told_44
  · refine bX10_told_11 (fun z => absurd z c2) (fun _ => ?_)
    obtain ⟨q4, hq4, h⟩ := Option.bind_eq_some_iff.mp h
    refine bX10_told_14 (evX10_within hq4) (by omega) ?_
    refine a_ite h (fun c5 h => ?_) (fun c5 h => ?_)
    · refine bX10_told_21 (fun _ => ?_) (fun z => absurd c5 z)
      refine bX10_told_28 ?_
      obtain ⟨q6, hq6, h⟩ := Option.bind_eq_some_iff.mp h
      refine bX10_told_29 (evX10_tell hq6) (by omega) ?_
      cases h
      exact bX10_told_44
    · refine bX10_told_21 (fun z => absurd z c5) (fun _ => ?_)
      refine bX10_told_24 ?_
      obtain ⟨q7, hq7, h⟩ := Option.bind_eq_some_iff.mp h
      refine bX10_told_29 (evX10_tell hq7) (by omega) ?_
      cases h
      exact bX10_told_44

noncomputable def FX10_piece (d : aI) (e : aJ) (x1 : Int32) (x2 : Int32) : Option (Int32 × aI × aJ) := ((FX10_within d e x1 (nI 1) (nI 4)).bind fun q1 => (if q1.1 = 0 then (some ((-(nI 1)), q1.2.1, q1.2.2)) else ((FX10_within q1.2.1 q1.2.2 x2 (nI 0) ((a_shl (nI 1) x1) - (nI 1))).bind fun q3 => (if q3.1 = 0 then (some ((-(nI 1)), q3.2.1, q3.2.2)) else ((FX3_add q3.2.1 q3.2.2 21 x1 x2 (nI 0)).bind fun q5 => (if q5.1 = 0 then (some ((-(nI 1)), q5.2.1, q5.2.2)) else (some (((q5.2.1 21 4) - (nI 1)), q5.2.1, q5.2.2))))))))
theorem evX10_piece {Γ : aG × Launch} {d : aI} {e : aJ} {x1 : Int32} {x2 : Int32} {q : Int32 × aI × aJ} (h : FX10_piece d e x1 x2 = some q) : Ev Γ (1) mX10_piece [.ref 0, .int x1, .int x2] d e (some (.int q.1)) q.2.1 q.2.2 := by
  refine Ev.of (by decide) rfl (Nat.le_of_ble_eq_true rfl) (fun z => by cases z) ?_
  show Rn Γ (1) mX10_piece 0 [some (.ref 0), some (.int x1), some (.int x2)] [] d e _ _ _
  unfold FX10_piece at h
  obtain ⟨q1, hq1, h⟩ := Option.bind_eq_some_iff.mp h
  refine bX10_piece_0 (evX10_within hq1) (by omega) ?_
  refine a_ite h (fun c2 h => ?_) (fun c2 h => ?_)
  · refine bX10_piece_6 (fun _ => ?_) (fun z => absurd c2 z)
    cases h
    exact bX10_piece_22
  · refine bX10_piece_6 (fun z => absurd z c2) (fun _ => ?_)
    obtain ⟨q3, hq3, h⟩ := Option.bind_eq_some_iff.mp h
    refine bX10_piece_9 (evX10_within hq3) (by omega) ?_
    refine a_ite h (fun c4 h => ?_) (fun c4 h => ?_)
    · refine bX10_piece_19 (fun z => absurd c4 z) (fun _ => ?_)
      cases h
      exact bX10_piece_22
    · refine bX10_piece_19 (fun _ => ?_) (fun z => absurd z c4)
      obtain ⟨q5, hq5, h⟩ := Option.bind_eq_some_iff.mp h
      refine bX10_piece_24 (evX3_add hq5) (by omega) ?_
      refine a_ite h (fun c6 h => ?_) (fun c6 h => ?_)
      · refine bX10_piece_37 (fun _ => ?_) (fun z => absurd c6 z)
        refine bX10_piece_55 ?_
        cases h
        exact bX10_piece_56
      · refine bX10_piece_37 (fun z => absurd z c6) (fun _ => ?_)
        refine bX10_piece_40 ?_
        cases h
        exact bX10_piece_56

noncomputable def sX10_price_0 (d : aI) (e : aJ) (x1 : Int32) : Option (Nat × aL × aI × aJ) := ((FX10_within d e x1 (nI 0) (nI 12)).bind fun q1 => (if q1.1 = 0 then (some (100000, [some (.int (-(nI 1)))], q1.2.1, q1.2.2)) else (some (16, [some (.ref 0), some (.int x1), some (.int (nI 0)), some (.int (nI 0))], q1.2.1, q1.2.2))))
theorem tX10_price_0 {Γ : aG × Launch} {d dF : aI} {e eF : aJ} {x1 : Int32} {r : Option Value} {p : Nat × aL × aI × aJ} (h : sX10_price_0 d e x1 = some p) (kc : Nat.beq p.1 100000 = false → Rn Γ (1) mX10_price p.1 p.2.1 [] p.2.2.1 p.2.2.2 r dF eF) (kr : p.1 = 100000 → r = a_rt p.2.1 ∧ dF = p.2.2.1 ∧ eF = p.2.2.2) : Rn Γ (1) mX10_price 0 [some (.ref 0), some (.int x1), none, none] [] d e r dF eF := by
  unfold sX10_price_0 at h
  obtain ⟨q1, hq1, h⟩ := Option.bind_eq_some_iff.mp h
  refine bX10_price_0 (evX10_within hq1) (by omega) ?_
  refine a_ite h (fun c2 h => ?_) (fun c2 h => ?_)
  · refine bX10_price_7 (fun z => absurd c2 z) (fun _ => ?_)
    cases h
    obtain ⟨k1, k2, k3⟩ := kr rfl
    exact bX10_price_10 k1 k2 k3
  · refine bX10_price_7 (fun _ => ?_) (fun z => absurd z c2)
    refine bX10_price_12 ?_
    cases h
    exact kc rfl

noncomputable def sX10_price_16 (d : aI) (e : aJ) (x1 : Int32) (x2 : Int32) (x3 : Int32) : Option (Nat × aL × aI × aJ) := (if x1 ≤ x3 then (some (100000, [some (.int x2)], d, e)) else (bif ((decide (¬ (nI 3) = 0))) then (some (16, [some (.ref 0), some (.int x1), some (.int (a_max (nI 0) ((((nI 540) + ((nI 2) * x2)) / (nI 3)) - (nI 60)))), some (.int (x3 + (nI 1)))], d, e)) else none))
theorem tX10_price_16 {Γ : aG × Launch} {d dF : aI} {e eF : aJ} {x1 : Int32} {x2 : Int32} {x3 : Int32} {r : Option Value} {p : Nat × aL × aI × aJ} (h : sX10_price_16 d e x1 x2 x3 = some p) (kc : Nat.beq p.1 100000 = false → Rn Γ (1) mX10_price p.1 p.2.1 [] p.2.2.1 p.2.2.2 r dF eF) (kr : p.1 = 100000 → r = a_rt p.2.1 ∧ dF = p.2.2.1 ∧ eF = p.2.2.2) : Rn Γ (1) mX10_price 16 [some (.ref 0), some (.int x1), some (.int x2), some (.int x3)] [] d e r dF eF := by
  unfold sX10_price_16 at h
  refine a_ite h (fun c1 h => ?_) (fun c1 h => ?_)
  · refine bX10_price_16 (fun _ => ?_) (fun z => absurd c1 z)
    cases h
    obtain ⟨k1, k2, k3⟩ := kr rfl
    exact bX10_price_44 k1 k2 k3
  · refine bX10_price_16 (fun z => absurd z c1) (fun _ => ?_)
    obtain ⟨g2, h⟩ := a_cond h
    refine bX10_price_21 (of_decide_eq_true g2) ?_
    cases h
    exact kc rfl

noncomputable def stX10_price (p : Nat × aL × aI × aJ) : Option (Nat × aL × aI × aJ) := match p with
  | (0, [some (.ref 0), some (.int x1), none, none], d, e) => sX10_price_0 d e x1
  | (16, [some (.ref 0), some (.int x1), some (.int x2), some (.int x3)], d, e) => sX10_price_16 d e x1 x2 x3
  | _ => none
theorem uX10_price {Γ : aG × Launch} {p p2 : Nat × aL × aI × aJ} {r : Option Value} {dF : aI} {eF : aJ} (h : stX10_price p = some p2) (kc : Nat.beq p2.1 100000 = false → Rn Γ (1) mX10_price p2.1 p2.2.1 [] p2.2.2.1 p2.2.2.2 r dF eF) (kr : p2.1 = 100000 → r = a_rt p2.2.1 ∧ dF = p2.2.2.1 ∧ eF = p2.2.2.2) : Rn Γ (1) mX10_price p.1 p.2.1 [] p.2.2.1 p.2.2.2 r dF eF := by
  unfold stX10_price at h
  split at h
  · exact tX10_price_0 h kc kr
  · exact tX10_price_16 h kc kr
  · cases h
noncomputable def FX10_price (d : aI) (e : aJ) (x1 : Int32) : Option (Int32 × aI × aJ) := (a_run (stX10_price) (0, [some (.ref 0), some (.int x1), none, none], d, e)).bind a_xI
theorem evX10_price {Γ : aG × Launch} {d : aI} {e : aJ} {x1 : Int32} {q : Int32 × aI × aJ} (h : FX10_price d e x1 = some q) : Ev Γ (1) mX10_price [.ref 0, .int x1] d e (some (.int q.1)) q.2.1 q.2.2 := by
  refine Ev.of (by decide) rfl (Nat.le_of_ble_eq_true rfl) (fun z => by cases z) ?_
  show Rn Γ (1) mX10_price 0 [some (.ref 0), some (.int x1), none, none] [] d e _ _ _
  obtain ⟨q1, h1, h2⟩ := Option.bind_eq_some_iff.mp h
  obtain ⟨e1, e2, e3⟩ := a_xI_rt h2
  exact Rn.cast (a_run_ok (uX10_price) rfl h1) e1.symm e2.symm e3.symm
noncomputable def sX10_chances_0 (d : aI) (e : aJ) (x1 : Int32) (x2 : Int32) (x3 : Int32) : Option (Nat × aL × aI × aJ) := ((FX10_within d e x1 (nI 0) (nI 8)).bind fun q1 => (if q1.1 = 0 then (some (100000, [some (.long (-(lN 1)))], q1.2.1, q1.2.2)) else ((FX10_within q1.2.1 q1.2.2 x2 (nI 0) x1).bind fun q3 => (if q3.1 = 0 then (some (100000, [some (.long (-(lN 1)))], q3.2.1, q3.2.2)) else (some (32, [some (.ref 0), some (.int x1), some (.int x2), some (.int x3), some (.long (lN 1)), none, some (.long (lN 1)), none, some (.int (nI 0))], q3.2.1, q3.2.2))))))
theorem tX10_chances_0 {Γ : aG × Launch} {d dF : aI} {e eF : aJ} {x1 : Int32} {x2 : Int32} {x3 : Int32} {r : Option Value} {p : Nat × aL × aI × aJ} (h : sX10_chances_0 d e x1 x2 x3 = some p) (kc : Nat.beq p.1 100000 = false → Rn Γ (1) mX10_chances p.1 p.2.1 [] p.2.2.1 p.2.2.2 r dF eF) (kr : p.1 = 100000 → r = a_rt p.2.1 ∧ dF = p.2.2.1 ∧ eF = p.2.2.2) : Rn Γ (1) mX10_chances 0 [some (.ref 0), some (.int x1), some (.int x2), some (.int x3), none, none, none, none, none] [] d e r dF eF := by
  unfold sX10_chances_0 at h
  obtain ⟨q1, hq1, h⟩ := Option.bind_eq_some_iff.mp h
  refine bX10_chances_0 (evX10_within hq1) (by omega) ?_
  refine a_ite h (fun c2 h => ?_) (fun c2 h => ?_)
  · refine bX10_chances_7 (fun _ => ?_) (fun z => absurd c2 z)
    cases h
    obtain ⟨k1, k2, k3⟩ := kr rfl
    exact bX10_chances_19 k1 k2 k3
  · refine bX10_chances_7 (fun z => absurd z c2) (fun _ => ?_)
    obtain ⟨q3, hq3, h⟩ := Option.bind_eq_some_iff.mp h
    refine bX10_chances_10 (evX10_within hq3) (by omega) ?_
    refine a_ite h (fun c4 h => ?_) (fun c4 h => ?_)
    · refine bX10_chances_16 (fun z => absurd c4 z) (fun _ => ?_)
      cases h
      obtain ⟨k1, k2, k3⟩ := kr rfl
      exact bX10_chances_19 k1 k2 k3
    · refine bX10_chances_16 (fun _ => ?_) (fun z => absurd z c4)
      refine bX10_chances_23 ?_
      cases h
      exact kc rfl

noncomputable def sX10_chances_32 (d : aI) (e : aJ) (x1 : Int32) (x2 : Int32) (x3 : Int32) (y4 : Int64) (y6 : Int64) (x8 : Int32) : Option (Nat × aL × aI × aJ) := (if x2 ≤ x8 then (some (63, [some (.ref 0), some (.int x1), some (.int x2), some (.int x3), some (.long y4), none, some (.long y6), none, some (.int (nI 0))], d, e)) else (bif ((decide (¬ (Int32.toInt64 (x8 + (nI 1))) = 0))) then (some (32, [some (.ref 0), some (.int x1), some (.int x2), some (.int x3), some (.long ((y4 * (Int32.toInt64 (x1 - x8))) / (Int32.toInt64 (x8 + (nI 1))))), none, some (.long y6), none, some (.int (x8 + (nI 1)))], d, e)) else none))
theorem tX10_chances_32 {Γ : aG × Launch} {d dF : aI} {e eF : aJ} {x1 : Int32} {x2 : Int32} {x3 : Int32} {y4 : Int64} {y6 : Int64} {x8 : Int32} {r : Option Value} {p : Nat × aL × aI × aJ} (h : sX10_chances_32 d e x1 x2 x3 y4 y6 x8 = some p) (kc : Nat.beq p.1 100000 = false → Rn Γ (1) mX10_chances p.1 p.2.1 [] p.2.2.1 p.2.2.2 r dF eF) (kr : p.1 = 100000 → r = a_rt p.2.1 ∧ dF = p.2.2.1 ∧ eF = p.2.2.2) : Rn Γ (1) mX10_chances 32 [some (.ref 0), some (.int x1), some (.int x2), some (.int x3), some (.long y4), none, some (.long y6), none, some (.int x8)] [] d e r dF eF := by
  unfold sX10_chances_32 at h
  refine a_ite h (fun c1 h => ?_) (fun c1 h => ?_)
  · refine bX10_chances_32 (fun _ => ?_) (fun z => absurd c1 z)
    refine bX10_chances_60 ?_
    cases h
    exact kc rfl
  · refine bX10_chances_32 (fun z => absurd z c1) (fun _ => ?_)
    obtain ⟨g2, h⟩ := a_cond h
    refine bX10_chances_38 (of_decide_eq_true g2) ?_
    cases h
    exact kc rfl

noncomputable def sX10_chances_63 (d : aI) (e : aJ) (x1 : Int32) (x2 : Int32) (x3 : Int32) (y4 : Int64) (y6 : Int64) (x8 : Int32) : Option (Nat × aL × aI × aJ) := (if x1 ≤ x8 then ((FX10_ratio d e y4 y6 x3).bind fun q2 => (some (100000, [some (.long q2.1)], q2.2.1, q2.2.2))) else (if (x1 - x2) ≤ x8 then (some (63, [some (.ref 0), some (.int x1), some (.int x2), some (.int x3), some (.long (y4 * (lN 1))), none, some (.long (y6 * (lN 3))), none, some (.int (x8 + (nI 1)))], d, e)) else (some (63, [some (.ref 0), some (.int x1), some (.int x2), some (.int x3), some (.long (y4 * (lN 2))), none, some (.long (y6 * (lN 3))), none, some (.int (x8 + (nI 1)))], d, e))))
theorem tX10_chances_63 {Γ : aG × Launch} {d dF : aI} {e eF : aJ} {x1 : Int32} {x2 : Int32} {x3 : Int32} {y4 : Int64} {y6 : Int64} {x8 : Int32} {r : Option Value} {p : Nat × aL × aI × aJ} (h : sX10_chances_63 d e x1 x2 x3 y4 y6 x8 = some p) (kc : Nat.beq p.1 100000 = false → Rn Γ (1) mX10_chances p.1 p.2.1 [] p.2.2.1 p.2.2.2 r dF eF) (kr : p.1 = 100000 → r = a_rt p.2.1 ∧ dF = p.2.2.1 ∧ eF = p.2.2.2) : Rn Γ (1) mX10_chances 63 [some (.ref 0), some (.int x1), some (.int x2), some (.int x3), some (.long y4), none, some (.long y6), none, some (.int x8)] [] d e r dF eF := by
  unfold sX10_chances_63 at h
  refine a_ite h (fun c1 h => ?_) (fun c1 h => ?_)
  · refine bX10_chances_63 (fun _ => ?_) (fun z => absurd c1 z)
    obtain ⟨q2, hq2, h⟩ := Option.bind_eq_some_iff.mp h
    refine bX10_chances_103 (evX10_ratio hq2) (by omega) ?_
    cases h
    obtain ⟨k1, k2, k3⟩ := kr rfl
    exact bX10_chances_111 k1 k2 k3
  · refine bX10_chances_63 (fun z => absurd z c1) (fun _ => ?_)
    refine a_ite h (fun c3 h => ?_) (fun c3 h => ?_)
    · refine bX10_chances_69 (fun _ => ?_) (fun z => absurd c3 z)
      refine bX10_chances_85 ?_
      refine bX10_chances_86 ?_
      cases h
      exact kc rfl
    · refine bX10_chances_69 (fun z => absurd z c3) (fun _ => ?_)
      refine bX10_chances_79 ?_
      refine bX10_chances_86 ?_
      cases h
      exact kc rfl

noncomputable def stX10_chances (p : Nat × aL × aI × aJ) : Option (Nat × aL × aI × aJ) := match p with
  | (0, [some (.ref 0), some (.int x1), some (.int x2), some (.int x3), none, none, none, none, none], d, e) => sX10_chances_0 d e x1 x2 x3
  | (32, [some (.ref 0), some (.int x1), some (.int x2), some (.int x3), some (.long y4), none, some (.long y6), none, some (.int x8)], d, e) => sX10_chances_32 d e x1 x2 x3 y4 y6 x8
  | (63, [some (.ref 0), some (.int x1), some (.int x2), some (.int x3), some (.long y4), none, some (.long y6), none, some (.int x8)], d, e) => sX10_chances_63 d e x1 x2 x3 y4 y6 x8
  | _ => none
theorem uX10_chances {Γ : aG × Launch} {p p2 : Nat × aL × aI × aJ} {r : Option Value} {dF : aI} {eF : aJ} (h : stX10_chances p = some p2) (kc : Nat.beq p2.1 100000 = false → Rn Γ (1) mX10_chances p2.1 p2.2.1 [] p2.2.2.1 p2.2.2.2 r dF eF) (kr : p2.1 = 100000 → r = a_rt p2.2.1 ∧ dF = p2.2.2.1 ∧ eF = p2.2.2.2) : Rn Γ (1) mX10_chances p.1 p.2.1 [] p.2.2.1 p.2.2.2 r dF eF := by
  unfold stX10_chances at h
  split at h
  · exact tX10_chances_0 h kc kr
  · exact tX10_chances_32 h kc kr
  · exact tX10_chances_63 h kc kr
  · cases h
noncomputable def FX10_chances (d : aI) (e : aJ) (x1 : Int32) (x2 : Int32) (x3 : Int32) : Option (Int64 × aI × aJ) := (a_run (stX10_chances) (0, [some (.ref 0), some (.int x1), some (.int x2), some (.int x3), none, none, none, none, none], d, e)).bind a_xJ
theorem evX10_chances {Γ : aG × Launch} {d : aI} {e : aJ} {x1 : Int32} {x2 : Int32} {x3 : Int32} {q : Int64 × aI × aJ} (h : FX10_chances d e x1 x2 x3 = some q) : Ev Γ (1) mX10_chances [.ref 0, .int x1, .int x2, .int x3] d e (some (.long q.1)) q.2.1 q.2.2 := by
  refine Ev.of (by decide) rfl (Nat.le_of_ble_eq_true rfl) (fun z => by cases z) ?_
  show Rn Γ (1) mX10_chances 0 [some (.ref 0), some (.int x1), some (.int x2), some (.int x3), none, none, none, none, none] [] d e _ _ _
  obtain ⟨q1, h1, h2⟩ := Option.bind_eq_some_iff.mp h
  obtain ⟨e1, e2, e3⟩ := a_xJ_rt h2
  exact Rn.cast (a_run_ok (uX10_chances) rfl h1) e1.symm e2.symm e3.symm
noncomputable def FX10_game (d : aI) (e : aJ) (x1 : Int32) (x2 : Int32) : Option (Int32 × aI × aJ) := ((FX10_within d e x1 (nI 0) (nI 12)).bind fun q1 => (if q1.1 = 0 then (some ((-(nI 1)), q1.2.1, q1.2.2)) else ((FX10_within q1.2.1 q1.2.2 x2 (nI 0) (nI 12)).bind fun q3 => (if q3.1 = 0 then (some ((-(nI 1)), q3.2.1, q3.2.2)) else ((FX10_isLost q3.2.1 q3.2.2 x1 x2).bind fun q5 => (if q5.1 = 0 then (some ((nI 1), q5.2.1, q5.2.2)) else (some ((nI 0), q5.2.1, q5.2.2))))))))
theorem evX10_game {Γ : aG × Launch} {d : aI} {e : aJ} {x1 : Int32} {x2 : Int32} {q : Int32 × aI × aJ} (h : FX10_game d e x1 x2 = some q) : Ev Γ (1) mX10_game [.ref 0, .int x1, .int x2] d e (some (.int q.1)) q.2.1 q.2.2 := by
  refine Ev.of (by decide) rfl (Nat.le_of_ble_eq_true rfl) (fun z => by cases z) ?_
  show Rn Γ (1) mX10_game 0 [some (.ref 0), some (.int x1), some (.int x2)] [] d e _ _ _
  unfold FX10_game at h
  obtain ⟨q1, hq1, h⟩ := Option.bind_eq_some_iff.mp h
  refine bX10_game_0 (evX10_within hq1) (by omega) ?_
  refine a_ite h (fun c2 h => ?_) (fun c2 h => ?_)
  · refine bX10_game_7 (fun _ => ?_) (fun z => absurd c2 z)
    cases h
    exact bX10_game_20
  · refine bX10_game_7 (fun z => absurd z c2) (fun _ => ?_)
    obtain ⟨q3, hq3, h⟩ := Option.bind_eq_some_iff.mp h
    refine bX10_game_10 (evX10_within hq3) (by omega) ?_
    refine a_ite h (fun c4 h => ?_) (fun c4 h => ?_)
    · refine bX10_game_17 (fun z => absurd c4 z) (fun _ => ?_)
      cases h
      exact bX10_game_20
    · refine bX10_game_17 (fun _ => ?_) (fun z => absurd z c4)
      obtain ⟨q5, hq5, h⟩ := Option.bind_eq_some_iff.mp h
      refine bX10_game_22 (evX10_isLost hq5) (by omega) ?_
      refine a_ite h (fun c6 h => ?_) (fun c6 h => ?_)
      · refine bX10_game_27 (fun _ => ?_) (fun z => absurd c6 z)
        refine bX10_game_34 ?_
        cases h
        exact bX10_game_35
      · refine bX10_game_27 (fun z => absurd z c6) (fun _ => ?_)
        refine bX10_game_30 ?_
        cases h
        exact bX10_game_35

noncomputable def sX10_play_0 (d : aI) (e : aJ) (x1 : Int32) (x2 : Int32) : Option (Nat × aL × aI × aJ) := ((FX10_within d e x1 (nI 0) (nI 12)).bind fun q1 => (if q1.1 = 0 then (some (100000, [some (.int (-(nI 1)))], q1.2.1, q1.2.2)) else ((FX10_within q1.2.1 q1.2.2 x2 (nI 0) (nI 12)).bind fun q3 => (if q3.1 = 0 then (some (100000, [some (.int (-(nI 1)))], q3.2.1, q3.2.2)) else (some (24, [some (.ref 0), some (.int x1), some (.int x2), some (.int (nI 0)), none], q3.2.1, q3.2.2))))))
theorem tX10_play_0 {Γ : aG × Launch} {d dF : aI} {e eF : aJ} {x1 : Int32} {x2 : Int32} {r : Option Value} {p : Nat × aL × aI × aJ} (h : sX10_play_0 d e x1 x2 = some p) (kc : Nat.beq p.1 100000 = false → Rn Γ (1) mX10_play p.1 p.2.1 [] p.2.2.1 p.2.2.2 r dF eF) (kr : p.1 = 100000 → r = a_rt p.2.1 ∧ dF = p.2.2.1 ∧ eF = p.2.2.2) : Rn Γ (1) mX10_play 0 [some (.ref 0), some (.int x1), some (.int x2), none, none] [] d e r dF eF := by
  unfold sX10_play_0 at h
  obtain ⟨q1, hq1, h⟩ := Option.bind_eq_some_iff.mp h
  refine bX10_play_0 (evX10_within hq1) (by omega) ?_
  refine a_ite h (fun c2 h => ?_) (fun c2 h => ?_)
  · refine bX10_play_7 (fun _ => ?_) (fun z => absurd c2 z)
    cases h
    obtain ⟨k1, k2, k3⟩ := kr rfl
    exact bX10_play_20 k1 k2 k3
  · refine bX10_play_7 (fun z => absurd z c2) (fun _ => ?_)
    obtain ⟨q3, hq3, h⟩ := Option.bind_eq_some_iff.mp h
    refine bX10_play_10 (evX10_within hq3) (by omega) ?_
    refine a_ite h (fun c4 h => ?_) (fun c4 h => ?_)
    · refine bX10_play_17 (fun z => absurd c4 z) (fun _ => ?_)
      cases h
      obtain ⟨k1, k2, k3⟩ := kr rfl
      exact bX10_play_20 k1 k2 k3
    · refine bX10_play_17 (fun _ => ?_) (fun z => absurd z c4)
      refine bX10_play_22 ?_
      cases h
      exact kc rfl

noncomputable def sX10_play_24 (d : aI) (e : aJ) (x1 : Int32) (x2 : Int32) (x3 : Int32) (v4 : Option Value) : Option (Nat × aL × aI × aJ) := (if (a_min (nI 2) x1) < x3 then (some (100000, [some (.int (-(nI 1)))], d, e)) else (some (36, [some (.ref 0), some (.int x1), some (.int x2), some (.int x3), some (.int (nI 0))], d, e)))
theorem tX10_play_24 {Γ : aG × Launch} {d dF : aI} {e eF : aJ} {x1 : Int32} {x2 : Int32} {x3 : Int32} {v4 : Option Value} {r : Option Value} {p : Nat × aL × aI × aJ} (h : sX10_play_24 d e x1 x2 x3 v4 = some p) (kc : Nat.beq p.1 100000 = false → Rn Γ (1) mX10_play p.1 p.2.1 [] p.2.2.1 p.2.2.2 r dF eF) (kr : p.1 = 100000 → r = a_rt p.2.1 ∧ dF = p.2.2.1 ∧ eF = p.2.2.2) : Rn Γ (1) mX10_play 24 [some (.ref 0), some (.int x1), some (.int x2), some (.int x3), v4] [] d e r dF eF := by
  unfold sX10_play_24 at h
  refine a_ite h (fun c1 h => ?_) (fun c1 h => ?_)
  · refine bX10_play_24 (fun _ => ?_) (fun z => absurd c1 z)
    cases h
    obtain ⟨k1, k2, k3⟩ := kr rfl
    exact bX10_play_88 k1 k2 k3
  · refine bX10_play_24 (fun z => absurd z c1) (fun _ => ?_)
    refine bX10_play_33 ?_
    cases h
    exact kc rfl

noncomputable def sX10_play_36 (d : aI) (e : aJ) (x1 : Int32) (x2 : Int32) (x3 : Int32) (x4 : Int32) : Option (Nat × aL × aI × aJ) := (if (a_min (nI 2) x2) < x4 then (some (24, [some (.ref 0), some (.int x1), some (.int x2), some (.int (x3 + (nI 1))), some (.int x4)], d, e)) else ((FX10_isMove d e x3 x4).bind fun q2 => (if q2.1 = 0 then (some (36, [some (.ref 0), some (.int x1), some (.int x2), some (.int x3), some (.int (x4 + (nI 1)))], q2.2.1, q2.2.2)) else ((FX10_isLost q2.2.1 q2.2.2 (x1 - x3) (x2 - x4)).bind fun q4 => (if q4.1 = 0 then (some (36, [some (.ref 0), some (.int x1), some (.int x2), some (.int x3), some (.int (x4 + (nI 1)))], q4.2.1, q4.2.2)) else (some (100000, [some (.int (((nI 10) * x3) + x4))], q4.2.1, q4.2.2)))))))
theorem tX10_play_36 {Γ : aG × Launch} {d dF : aI} {e eF : aJ} {x1 : Int32} {x2 : Int32} {x3 : Int32} {x4 : Int32} {r : Option Value} {p : Nat × aL × aI × aJ} (h : sX10_play_36 d e x1 x2 x3 x4 = some p) (kc : Nat.beq p.1 100000 = false → Rn Γ (1) mX10_play p.1 p.2.1 [] p.2.2.1 p.2.2.2 r dF eF) (kr : p.1 = 100000 → r = a_rt p.2.1 ∧ dF = p.2.2.1 ∧ eF = p.2.2.2) : Rn Γ (1) mX10_play 36 [some (.ref 0), some (.int x1), some (.int x2), some (.int x3), some (.int x4)] [] d e r dF eF := by
  unfold sX10_play_36 at h
  refine a_ite h (fun c1 h => ?_) (fun c1 h => ?_)
  · refine bX10_play_36 (fun _ => ?_) (fun z => absurd c1 z)
    refine bX10_play_82 ?_
    cases h
    exact kc rfl
  · refine bX10_play_36 (fun z => absurd z c1) (fun _ => ?_)
    obtain ⟨q2, hq2, h⟩ := Option.bind_eq_some_iff.mp h
    refine bX10_play_46 (evX10_isMove hq2) (by omega) ?_
    refine a_ite h (fun c3 h => ?_) (fun c3 h => ?_)
    · refine bX10_play_52 (fun _ => ?_) (fun z => absurd c3 z)
      refine bX10_play_76 ?_
      cases h
      exact kc rfl
    · refine bX10_play_52 (fun z => absurd z c3) (fun _ => ?_)
      obtain ⟨q4, hq4, h⟩ := Option.bind_eq_some_iff.mp h
      refine bX10_play_55 (evX10_isLost hq4) (by omega) ?_
      refine a_ite h (fun c5 h => ?_) (fun c5 h => ?_)
      · refine bX10_play_65 (fun _ => ?_) (fun z => absurd c5 z)
        refine bX10_play_76 ?_
        cases h
        exact kc rfl
      · refine bX10_play_65 (fun z => absurd z c5) (fun _ => ?_)
        cases h
        obtain ⟨k1, k2, k3⟩ := kr rfl
        exact bX10_play_68 k1 k2 k3

noncomputable def stX10_play (p : Nat × aL × aI × aJ) : Option (Nat × aL × aI × aJ) := match p with
  | (0, [some (.ref 0), some (.int x1), some (.int x2), none, none], d, e) => sX10_play_0 d e x1 x2
  | (24, [some (.ref 0), some (.int x1), some (.int x2), some (.int x3), v4], d, e) => sX10_play_24 d e x1 x2 x3 v4
  | (36, [some (.ref 0), some (.int x1), some (.int x2), some (.int x3), some (.int x4)], d, e) => sX10_play_36 d e x1 x2 x3 x4
  | _ => none
theorem uX10_play {Γ : aG × Launch} {p p2 : Nat × aL × aI × aJ} {r : Option Value} {dF : aI} {eF : aJ} (h : stX10_play p = some p2) (kc : Nat.beq p2.1 100000 = false → Rn Γ (1) mX10_play p2.1 p2.2.1 [] p2.2.2.1 p2.2.2.2 r dF eF) (kr : p2.1 = 100000 → r = a_rt p2.2.1 ∧ dF = p2.2.2.1 ∧ eF = p2.2.2.2) : Rn Γ (1) mX10_play p.1 p.2.1 [] p.2.2.1 p.2.2.2 r dF eF := by
  unfold stX10_play at h
  split at h
  · exact tX10_play_0 h kc kr
  · exact tX10_play_24 h kc kr
  · exact tX10_play_36 h kc kr
  · cases h
noncomputable def FX10_play (d : aI) (e : aJ) (x1 : Int32) (x2 : Int32) : Option (Int32 × aI × aJ) := (a_run (stX10_play) (0, [some (.ref 0), some (.int x1), some (.int x2), none, none], d, e)).bind a_xI
theorem evX10_play {Γ : aG × Launch} {d : aI} {e : aJ} {x1 : Int32} {x2 : Int32} {q : Int32 × aI × aJ} (h : FX10_play d e x1 x2 = some q) : Ev Γ (1) mX10_play [.ref 0, .int x1, .int x2] d e (some (.int q.1)) q.2.1 q.2.2 := by
  refine Ev.of (by decide) rfl (Nat.le_of_ble_eq_true rfl) (fun z => by cases z) ?_
  show Rn Γ (1) mX10_play 0 [some (.ref 0), some (.int x1), some (.int x2), none, none] [] d e _ _ _
  obtain ⟨q1, h1, h2⟩ := Option.bind_eq_some_iff.mp h
  obtain ⟨e1, e2, e3⟩ := a_xI_rt h2
  exact Rn.cast (a_run_ok (uX10_play) rfl h1) e1.symm e2.symm e3.symm
noncomputable def FX10_said (d : aI) (e : aJ) (x1 : Int32) (x2 : Int32) (x3 : Int32) : Option (Int32 × aI × aJ) := ((FX2_isCat d e x1).bind fun q1 => (if q1.1 = 0 then ((FX10_tell q1.2.1 q1.2.2 25 x1 x2 x3 (nI 0)).bind fun q3 => (some (q3.1, q3.2.1, q3.2.2))) else ((FX2_isHouse q1.2.1 q1.2.2 x2).bind fun q4 => (if q4.1 = 0 then ((FX10_tell q4.2.1 q4.2.2 25 x1 x2 x3 (nI 0)).bind fun q6 => (some (q6.1, q6.2.1, q6.2.2))) else ((FX10_within q4.2.1 q4.2.2 x3 (nI 0) (nI 99)).bind fun q7 => (if q7.1 = 0 then ((FX10_tell q7.2.1 q7.2.2 25 x1 x2 x3 (nI 0)).bind fun q9 => (some (q9.1, q9.2.1, q9.2.2))) else ((FX10_tell q7.2.1 q7.2.2 25 x1 x2 x3 (nI 1)).bind fun q10 => (some (q10.1, q10.2.1, q10.2.2)))))))))
theorem evX10_said {Γ : aG × Launch} {d : aI} {e : aJ} {x1 : Int32} {x2 : Int32} {x3 : Int32} {q : Int32 × aI × aJ} (h : FX10_said d e x1 x2 x3 = some q) : Ev Γ (2) mX10_said [.ref 0, .int x1, .int x2, .int x3] d e (some (.int q.1)) q.2.1 q.2.2 := by
  refine Ev.of (by decide) rfl (Nat.le_of_ble_eq_true rfl) (fun z => by cases z) ?_
  show Rn Γ (2) mX10_said 0 [some (.ref 0), some (.int x1), some (.int x2), some (.int x3), none] [] d e _ _ _
  unfold FX10_said at h
  obtain ⟨q1, hq1, h⟩ := Option.bind_eq_some_iff.mp h
  refine bX10_said_0 (evX2_isCat hq1) (by omega) ?_
  refine a_ite h (fun c2 h => ?_) (fun c2 h => ?_)
  · refine bX10_said_11 (fun _ => ?_) (fun z => absurd c2 z)
    refine bX10_said_42 ?_
    obtain ⟨q3, hq3, h⟩ := Option.bind_eq_some_iff.mp h
    refine bX10_said_43 (evX10_tell hq3) (by omega) ?_
    cases h
    exact bX10_said_60
  · refine bX10_said_11 (fun z => absurd z c2) (fun _ => ?_)
    obtain ⟨q4, hq4, h⟩ := Option.bind_eq_some_iff.mp h
    refine bX10_said_14 (evX2_isHouse hq4) (by omega) ?_
    refine a_ite h (fun c5 h => ?_) (fun c5 h => ?_)
    · refine bX10_said_25 (fun _ => ?_) (fun z => absurd c5 z)
      refine bX10_said_42 ?_
      obtain ⟨q6, hq6, h⟩ := Option.bind_eq_some_iff.mp h
      refine bX10_said_43 (evX10_tell hq6) (by omega) ?_
      cases h
      exact bX10_said_60
    · refine bX10_said_25 (fun z => absurd z c5) (fun _ => ?_)
      obtain ⟨q7, hq7, h⟩ := Option.bind_eq_some_iff.mp h
      refine bX10_said_28 (evX10_within hq7) (by omega) ?_
      refine a_ite h (fun c8 h => ?_) (fun c8 h => ?_)
      · refine bX10_said_35 (fun _ => ?_) (fun z => absurd c8 z)
        refine bX10_said_42 ?_
        obtain ⟨q9, hq9, h⟩ := Option.bind_eq_some_iff.mp h
        refine bX10_said_43 (evX10_tell hq9) (by omega) ?_
        cases h
        exact bX10_said_60
      · refine bX10_said_35 (fun z => absurd z c8) (fun _ => ?_)
        refine bX10_said_38 ?_
        obtain ⟨q10, hq10, h⟩ := Option.bind_eq_some_iff.mp h
        refine bX10_said_43 (evX10_tell hq10) (by omega) ?_
        cases h
        exact bX10_said_60

noncomputable def sX10_nearest_0 (d : aI) (e : aJ) (x1 : Int32) : Option (Nat × aL × aI × aJ) := ((FX2_isCat d e x1).bind fun q1 => (if q1.1 = 0 then (some (100000, [some (.int (-(nI 1)))], q1.2.1, q1.2.2)) else (some (23, [some (.ref 0), some (.int x1), some (.ref 2), some (.int (-(nI 1))), some (.int (nI 0)), none], q1.2.1, q1.2.2))))
theorem tX10_nearest_0 {Γ : aG × Launch} {d dF : aI} {e eF : aJ} {x1 : Int32} {r : Option Value} {p : Nat × aL × aI × aJ} (h : sX10_nearest_0 d e x1 = some p) (kc : Nat.beq p.1 100000 = false → Rn Γ (2) mX10_nearest p.1 p.2.1 [] p.2.2.1 p.2.2.2 r dF eF) (kr : p.1 = 100000 → r = a_rt p.2.1 ∧ dF = p.2.2.1 ∧ eF = p.2.2.2) : Rn Γ (2) mX10_nearest 0 [some (.ref 0), some (.int x1), none, none, none, none] [] d e r dF eF := by
  unfold sX10_nearest_0 at h
  obtain ⟨q1, hq1, h⟩ := Option.bind_eq_some_iff.mp h
  refine bX10_nearest_0 (evX2_isCat hq1) (by omega) ?_
  refine a_ite h (fun c2 h => ?_) (fun c2 h => ?_)
  · refine bX10_nearest_15 (fun z => absurd c2 z) (fun _ => ?_)
    cases h
    obtain ⟨k1, k2, k3⟩ := kr rfl
    exact bX10_nearest_18 k1 k2 k3
  · refine bX10_nearest_15 (fun _ => ?_) (fun z => absurd z c2)
    refine bX10_nearest_20 ?_
    cases h
    exact kc rfl

noncomputable def sX10_nearest_23 (d : aI) (e : aJ) (x1 : Int32) (x3 : Int32) (x4 : Int32) (v5 : Option Value) : Option (Nat × aL × aI × aJ) := (if (d 2 8) ≤ x4 then (some (100000, [some (.int x3)], d, e)) else ((FX2_guest d e x4).bind fun q2 => (if q2.1 = (-(nI 1)) then (if (nI 1) = 0 then (some (23, [some (.ref 0), some (.int x1), some (.ref 2), some (.int x3), some (.int (x4 + (nI 1))), some (.int (nI 1))], q2.2.1, q2.2.2)) else (if x3 = (-(nI 1)) then (some (23, [some (.ref 0), some (.int x1), some (.ref 2), some (.int x4), some (.int (x4 + (nI 1))), some (.int (nI 1))], q2.2.1, q2.2.2)) else ((FX2_away q2.2.1 q2.2.2 x1 x4).bind fun q6 => ((FX2_away q6.2.1 q6.2.2 x1 x3).bind fun q7 => (if q7.1 ≤ q6.1 then (some (23, [some (.ref 0), some (.int x1), some (.ref 2), some (.int x3), some (.int (x4 + (nI 1))), some (.int (nI 1))], q7.2.1, q7.2.2)) else (some (23, [some (.ref 0), some (.int x1), some (.ref 2), some (.int x4), some (.int (x4 + (nI 1))), some (.int (nI 1))], q7.2.1, q7.2.2))))))) else (if (nI 0) = 0 then (some (23, [some (.ref 0), some (.int x1), some (.ref 2), some (.int x3), some (.int (x4 + (nI 1))), some (.int (nI 0))], q2.2.1, q2.2.2)) else (if x3 = (-(nI 1)) then (some (23, [some (.ref 0), some (.int x1), some (.ref 2), some (.int x4), some (.int (x4 + (nI 1))), some (.int (nI 0))], q2.2.1, q2.2.2)) else ((FX2_away q2.2.1 q2.2.2 x1 x4).bind fun q11 => ((FX2_away q11.2.1 q11.2.2 x1 x3).bind fun q12 => (if q12.1 ≤ q11.1 then (some (23, [some (.ref 0), some (.int x1), some (.ref 2), some (.int x3), some (.int (x4 + (nI 1))), some (.int (nI 0))], q12.2.1, q12.2.2)) else (some (23, [some (.ref 0), some (.int x1), some (.ref 2), some (.int x4), some (.int (x4 + (nI 1))), some (.int (nI 0))], q12.2.1, q12.2.2))))))))))
theorem tX10_nearest_23 {Γ : aG × Launch} {d dF : aI} {e eF : aJ} {x1 : Int32} {x3 : Int32} {x4 : Int32} {v5 : Option Value} {r : Option Value} {p : Nat × aL × aI × aJ} (h : sX10_nearest_23 d e x1 x3 x4 v5 = some p) (kc : Nat.beq p.1 100000 = false → Rn Γ (2) mX10_nearest p.1 p.2.1 [] p.2.2.1 p.2.2.2 r dF eF) (kr : p.1 = 100000 → r = a_rt p.2.1 ∧ dF = p.2.2.1 ∧ eF = p.2.2.2) : Rn Γ (2) mX10_nearest 23 [some (.ref 0), some (.int x1), some (.ref 2), some (.int x3), some (.int x4), v5] [] d e r dF eF := by
  unfold sX10_nearest_23 at h
  refine a_ite h (fun c1 h => ?_) (fun c1 h => ?_)
  · refine bX10_nearest_23 (fun _ => ?_) (fun z => absurd c1 z)
    cases h
    obtain ⟨k1, k2, k3⟩ := kr rfl
    exact bX10_nearest_84 k1 k2 k3
  · refine bX10_nearest_23 (fun z => absurd z c1) (fun _ => ?_)
    obtain ⟨q2, hq2, h⟩ := Option.bind_eq_some_iff.mp h
    refine bX10_nearest_32 (evX2_guest hq2) (by omega) ?_
    refine a_ite h (fun c3 h => ?_) (fun c3 h => ?_)
    · refine bX10_nearest_38 (fun z => absurd c3 z) (fun _ => ?_)
      refine bX10_nearest_42 ?_
      refine a_ite h (fun c4 h => ?_) (fun c4 h => ?_)
      · refine bX10_nearest_47 (fun _ => ?_) (fun z => absurd c4 z)
        refine bX10_nearest_78 ?_
        cases h
        exact kc rfl
      · refine bX10_nearest_47 (fun z => absurd z c4) (fun _ => ?_)
        refine a_ite h (fun c5 h => ?_) (fun c5 h => ?_)
        · refine bX10_nearest_54 (fun _ => ?_) (fun z => absurd c5 z)
          refine bX10_nearest_75 ?_
          refine bX10_nearest_78 ?_
          cases h
          exact kc rfl
        · refine bX10_nearest_54 (fun z => absurd z c5) (fun _ => ?_)
          obtain ⟨q6, hq6, h⟩ := Option.bind_eq_some_iff.mp h
          refine bX10_nearest_59 (evX2_away hq6) (by omega) ?_
          obtain ⟨q7, hq7, h⟩ := Option.bind_eq_some_iff.mp h
          refine bX10_nearest_66 (evX2_away hq7) (by omega) ?_
          refine a_ite h (fun c8 h => ?_) (fun c8 h => ?_)
          · refine bX10_nearest_72 (fun _ => ?_) (fun z => absurd c8 z)
            refine bX10_nearest_78 ?_
            cases h
            exact kc rfl
          · refine bX10_nearest_72 (fun z => absurd z c8) (fun _ => ?_)
            refine bX10_nearest_75 ?_
            refine bX10_nearest_78 ?_
            cases h
            exact kc rfl
    · refine bX10_nearest_38 (fun _ => ?_) (fun z => absurd z c3)
      refine bX10_nearest_46 ?_
      refine a_ite h (fun c9 h => ?_) (fun c9 h => ?_)
      · refine bX10_nearest_47 (fun _ => ?_) (fun z => absurd c9 z)
        refine bX10_nearest_78 ?_
        cases h
        exact kc rfl
      · refine bX10_nearest_47 (fun z => absurd z c9) (fun _ => ?_)
        refine a_ite h (fun c10 h => ?_) (fun c10 h => ?_)
        · refine bX10_nearest_54 (fun _ => ?_) (fun z => absurd c10 z)
          refine bX10_nearest_75 ?_
          refine bX10_nearest_78 ?_
          cases h
          exact kc rfl
        · refine bX10_nearest_54 (fun z => absurd z c10) (fun _ => ?_)
          obtain ⟨q11, hq11, h⟩ := Option.bind_eq_some_iff.mp h
          refine bX10_nearest_59 (evX2_away hq11) (by omega) ?_
          obtain ⟨q12, hq12, h⟩ := Option.bind_eq_some_iff.mp h
          refine bX10_nearest_66 (evX2_away hq12) (by omega) ?_
          refine a_ite h (fun c13 h => ?_) (fun c13 h => ?_)
          · refine bX10_nearest_72 (fun _ => ?_) (fun z => absurd c13 z)
            refine bX10_nearest_78 ?_
            cases h
            exact kc rfl
          · refine bX10_nearest_72 (fun z => absurd z c13) (fun _ => ?_)
            refine bX10_nearest_75 ?_
            refine bX10_nearest_78 ?_
            cases h
            exact kc rfl

noncomputable def stX10_nearest (p : Nat × aL × aI × aJ) : Option (Nat × aL × aI × aJ) := match p with
  | (0, [some (.ref 0), some (.int x1), none, none, none, none], d, e) => sX10_nearest_0 d e x1
  | (23, [some (.ref 0), some (.int x1), some (.ref 2), some (.int x3), some (.int x4), v5], d, e) => sX10_nearest_23 d e x1 x3 x4 v5
  | _ => none
theorem uX10_nearest {Γ : aG × Launch} {p p2 : Nat × aL × aI × aJ} {r : Option Value} {dF : aI} {eF : aJ} (h : stX10_nearest p = some p2) (kc : Nat.beq p2.1 100000 = false → Rn Γ (2) mX10_nearest p2.1 p2.2.1 [] p2.2.2.1 p2.2.2.2 r dF eF) (kr : p2.1 = 100000 → r = a_rt p2.2.1 ∧ dF = p2.2.2.1 ∧ eF = p2.2.2.2) : Rn Γ (2) mX10_nearest p.1 p.2.1 [] p.2.2.1 p.2.2.2 r dF eF := by
  unfold stX10_nearest at h
  split at h
  · exact tX10_nearest_0 h kc kr
  · exact tX10_nearest_23 h kc kr
  · cases h
noncomputable def FX10_nearest (d : aI) (e : aJ) (x1 : Int32) : Option (Int32 × aI × aJ) := (a_run (stX10_nearest) (0, [some (.ref 0), some (.int x1), none, none, none, none], d, e)).bind a_xI
theorem evX10_nearest {Γ : aG × Launch} {d : aI} {e : aJ} {x1 : Int32} {q : Int32 × aI × aJ} (h : FX10_nearest d e x1 = some q) : Ev Γ (2) mX10_nearest [.ref 0, .int x1] d e (some (.int q.1)) q.2.1 q.2.2 := by
  refine Ev.of (by decide) rfl (Nat.le_of_ble_eq_true rfl) (fun z => by cases z) ?_
  show Rn Γ (2) mX10_nearest 0 [some (.ref 0), some (.int x1), none, none, none, none] [] d e _ _ _
  obtain ⟨q1, h1, h2⟩ := Option.bind_eq_some_iff.mp h
  obtain ⟨e1, e2, e3⟩ := a_xI_rt h2
  exact Rn.cast (a_run_ok (uX10_nearest) rfl h1) e1.symm e2.symm e3.symm
noncomputable def FX10_at (d : aI) (e : aJ) (x1 : Int32) : Option (Int32 × aI × aJ) := ((FX10_within d e x1 (nI 0) (nI 9)).bind fun q1 => (if q1.1 = 0 then (some ((-(nI 1)), q1.2.1, q1.2.2)) else ((FX2_catsAt q1.2.1 q1.2.2 x1).bind fun q3 => (some (q3.1, q3.2.1, q3.2.2)))))
theorem evX10_at {Γ : aG × Launch} {d : aI} {e : aJ} {x1 : Int32} {q : Int32 × aI × aJ} (h : FX10_at d e x1 = some q) : Ev Γ (1) mX10_at [.ref 0, .int x1] d e (some (.int q.1)) q.2.1 q.2.2 := by
  refine Ev.of (by decide) rfl (Nat.le_of_ble_eq_true rfl) (fun z => by cases z) ?_
  show Rn Γ (1) mX10_at 0 [some (.ref 0), some (.int x1)] [] d e _ _ _
  unfold FX10_at at h
  obtain ⟨q1, hq1, h⟩ := Option.bind_eq_some_iff.mp h
  refine bX10_at_0 (evX10_within hq1) (by omega) ?_
  refine a_ite h (fun c2 h => ?_) (fun c2 h => ?_)
  · refine bX10_at_7 (fun z => absurd c2 z) (fun _ => ?_)
    cases h
    exact bX10_at_10
  · refine bX10_at_7 (fun _ => ?_) (fun z => absurd z c2)
    obtain ⟨q3, hq3, h⟩ := Option.bind_eq_some_iff.mp h
    refine bX10_at_12 (evX2_catsAt hq3) (by omega) ?_
    cases h
    exact bX10_at_23

noncomputable def FX10_share (d : aI) (e : aJ) (x1 : Int32) (x2 : Int32) : Option (Int32 × aI × aJ) := ((FX2_isCat d e x1).bind fun q1 => (if q1.1 = 0 then (some ((-(nI 1)), q1.2.1, q1.2.2)) else (bif ((a_inb x1 6)) then ((FX10_total q1.2.1 q1.2.2 9 (q1.2.1 2 9)).bind fun q4 => ((FX10_ratio q4.2.1 q4.2.2 (Int32.toInt64 (q1.2.1 9 (x1).toNatClampNeg)) (Int32.toInt64 q4.1) x2).bind fun q5 => (some ((Int64.toInt32 q5.1), q5.2.1, q5.2.2)))) else none)))
theorem evX10_share {Γ : aG × Launch} {d : aI} {e : aJ} {x1 : Int32} {x2 : Int32} {q : Int32 × aI × aJ} (h : FX10_share d e x1 x2 = some q) : Ev Γ (1) mX10_share [.ref 0, .int x1, .int x2] d e (some (.int q.1)) q.2.1 q.2.2 := by
  refine Ev.of (by decide) rfl (Nat.le_of_ble_eq_true rfl) (fun z => by cases z) ?_
  show Rn Γ (1) mX10_share 0 [some (.ref 0), some (.int x1), some (.int x2)] [] d e _ _ _
  unfold FX10_share at h
  obtain ⟨q1, hq1, h⟩ := Option.bind_eq_some_iff.mp h
  refine bX10_share_0 (evX2_isCat hq1) (by omega) ?_
  refine a_ite h (fun c2 h => ?_) (fun c2 h => ?_)
  · refine bX10_share_11 (fun z => absurd c2 z) (fun _ => ?_)
    cases h
    exact bX10_share_14
  · refine bX10_share_11 (fun _ => ?_) (fun z => absurd z c2)
    obtain ⟨g3, h⟩ := a_cond h
    obtain ⟨q4, hq4, h⟩ := Option.bind_eq_some_iff.mp h
    refine bX10_share_16 (a_inb_vp g3) (evX10_total hq4) (by omega) ?_
    obtain ⟨q5, hq5, h⟩ := Option.bind_eq_some_iff.mp h
    refine bX10_share_52 (evX10_ratio hq5) (by omega) ?_
    cases h
    exact bX10_share_57

noncomputable def sX10_ledger_0 (d : aI) (e : aJ) (x1 : Int32) : Option (Nat × aL × aI × aJ) := (if x1 = (-(nI 1)) then (some (100000, [some (.int (d 2 10))], d, e)) else ((FX2_isCat d e x1).bind fun q2 => (if q2.1 = 0 then (some (100000, [some (.int (-(nI 2)))], q2.2.1, q2.2.2)) else (some (37, [some (.ref 0), some (.int x1), some (.int (nI 0)), some (.int (nI 0))], q2.2.1, q2.2.2)))))
theorem tX10_ledger_0 {Γ : aG × Launch} {d dF : aI} {e eF : aJ} {x1 : Int32} {r : Option Value} {p : Nat × aL × aI × aJ} (h : sX10_ledger_0 d e x1 = some p) (kc : Nat.beq p.1 100000 = false → Rn Γ (1) mX10_ledger p.1 p.2.1 [] p.2.2.1 p.2.2.2 r dF eF) (kr : p.1 = 100000 → r = a_rt p.2.1 ∧ dF = p.2.2.1 ∧ eF = p.2.2.2) : Rn Γ (1) mX10_ledger 0 [some (.ref 0), some (.int x1), none, none] [] d e r dF eF := by
  unfold sX10_ledger_0 at h
  refine a_ite h (fun c1 h => ?_) (fun c1 h => ?_)
  · refine bX10_ledger_0 (fun z => absurd c1 z) (fun _ => ?_)
    cases h
    obtain ⟨k1, k2, k3⟩ := kr rfl
    exact bX10_ledger_5 k1 k2 k3
  · refine bX10_ledger_0 (fun _ => ?_) (fun z => absurd z c1)
    obtain ⟨q2, hq2, h⟩ := Option.bind_eq_some_iff.mp h
    refine bX10_ledger_16 (evX2_isCat hq2) (by omega) ?_
    refine a_ite h (fun c3 h => ?_) (fun c3 h => ?_)
    · refine bX10_ledger_27 (fun z => absurd c3 z) (fun _ => ?_)
      cases h
      obtain ⟨k1, k2, k3⟩ := kr rfl
      exact bX10_ledger_30 k1 k2 k3
    · refine bX10_ledger_27 (fun _ => ?_) (fun z => absurd z c3)
      refine bX10_ledger_33 ?_
      cases h
      exact kc rfl

noncomputable def sX10_ledger_37 (d : aI) (e : aJ) (x1 : Int32) (x2 : Int32) (x3 : Int32) : Option (Nat × aL × aI × aJ) := (if (d 2 10) ≤ x3 then (some (100000, [some (.int x2)], d, e)) else (bif ((a_inb x3 25)) then ((FX10_catOf d e (d 10 (x3).toNatClampNeg)).bind fun q3 => (if q3.1 = x1 then (some (37, [some (.ref 0), some (.int x1), some (.int (x2 + (nI 1))), some (.int (x3 + (nI 1)))], q3.2.1, q3.2.2)) else (some (37, [some (.ref 0), some (.int x1), some (.int (x2 + (nI 0))), some (.int (x3 + (nI 1)))], q3.2.1, q3.2.2)))) else none))
theorem tX10_ledger_37 {Γ : aG × Launch} {d dF : aI} {e eF : aJ} {x1 : Int32} {x2 : Int32} {x3 : Int32} {r : Option Value} {p : Nat × aL × aI × aJ} (h : sX10_ledger_37 d e x1 x2 x3 = some p) (kc : Nat.beq p.1 100000 = false → Rn Γ (1) mX10_ledger p.1 p.2.1 [] p.2.2.1 p.2.2.2 r dF eF) (kr : p.1 = 100000 → r = a_rt p.2.1 ∧ dF = p.2.2.1 ∧ eF = p.2.2.2) : Rn Γ (1) mX10_ledger 37 [some (.ref 0), some (.int x1), some (.int x2), some (.int x3)] [] d e r dF eF := by
  unfold sX10_ledger_37 at h
  refine a_ite h (fun c1 h => ?_) (fun c1 h => ?_)
  · refine bX10_ledger_37 (fun _ => ?_) (fun z => absurd c1 z)
    cases h
    obtain ⟨k1, k2, k3⟩ := kr rfl
    exact bX10_ledger_84 k1 k2 k3
  · refine bX10_ledger_37 (fun z => absurd z c1) (fun _ => ?_)
    obtain ⟨g2, h⟩ := a_cond h
    obtain ⟨q3, hq3, h⟩ := Option.bind_eq_some_iff.mp h
    refine bX10_ledger_51 (a_inb_vp g2) (evX10_catOf hq3) (by omega) ?_
    refine a_ite h (fun c4 h => ?_) (fun c4 h => ?_)
    · refine bX10_ledger_67 (fun z => absurd c4 z) (fun _ => ?_)
      refine bX10_ledger_71 ?_
      refine bX10_ledger_76 ?_
      cases h
      exact kc rfl
    · refine bX10_ledger_67 (fun _ => ?_) (fun z => absurd z c4)
      refine bX10_ledger_75 ?_
      refine bX10_ledger_76 ?_
      cases h
      exact kc rfl

noncomputable def stX10_ledger (p : Nat × aL × aI × aJ) : Option (Nat × aL × aI × aJ) := match p with
  | (0, [some (.ref 0), some (.int x1), none, none], d, e) => sX10_ledger_0 d e x1
  | (37, [some (.ref 0), some (.int x1), some (.int x2), some (.int x3)], d, e) => sX10_ledger_37 d e x1 x2 x3
  | _ => none
theorem uX10_ledger {Γ : aG × Launch} {p p2 : Nat × aL × aI × aJ} {r : Option Value} {dF : aI} {eF : aJ} (h : stX10_ledger p = some p2) (kc : Nat.beq p2.1 100000 = false → Rn Γ (1) mX10_ledger p2.1 p2.2.1 [] p2.2.2.1 p2.2.2.2 r dF eF) (kr : p2.1 = 100000 → r = a_rt p2.2.1 ∧ dF = p2.2.2.1 ∧ eF = p2.2.2.2) : Rn Γ (1) mX10_ledger p.1 p.2.1 [] p.2.2.1 p.2.2.2 r dF eF := by
  unfold stX10_ledger at h
  split at h
  · exact tX10_ledger_0 h kc kr
  · exact tX10_ledger_37 h kc kr
  · cases h
noncomputable def FX10_ledger (d : aI) (e : aJ) (x1 : Int32) : Option (Int32 × aI × aJ) := (a_run (stX10_ledger) (0, [some (.ref 0), some (.int x1), none, none], d, e)).bind a_xI
theorem evX10_ledger {Γ : aG × Launch} {d : aI} {e : aJ} {x1 : Int32} {q : Int32 × aI × aJ} (h : FX10_ledger d e x1 = some q) : Ev Γ (1) mX10_ledger [.ref 0, .int x1] d e (some (.int q.1)) q.2.1 q.2.2 := by
  refine Ev.of (by decide) rfl (Nat.le_of_ble_eq_true rfl) (fun z => by cases z) ?_
  show Rn Γ (1) mX10_ledger 0 [some (.ref 0), some (.int x1), none, none] [] d e _ _ _
  obtain ⟨q1, h1, h2⟩ := Option.bind_eq_some_iff.mp h
  obtain ⟨e1, e2, e3⟩ := a_xI_rt h2
  exact Rn.cast (a_run_ok (uX10_ledger) rfl h1) e1.symm e2.symm e3.symm
noncomputable def FX10_enter (d : aI) (e : aJ) (x1 : Int32) (x2 : Int32) (x3 : Int32) : Option (Int32 × aI × aJ) := ((FX2_canEnter d e x1 x2).bind fun q1 => (if q1.1 = 0 then (some ((nI 0), q1.2.1, q1.2.2)) else ((FX10_keepIf q1.2.1 q1.2.2 x3).bind fun q3 => ((FX2_enter q3.2.1 q3.2.2 x1 x2).bind fun q4 => (some ((nI 1), q4.2.1, q4.2.2))))))
theorem evX10_enter {Γ : aG × Launch} {d : aI} {e : aJ} {x1 : Int32} {x2 : Int32} {x3 : Int32} {q : Int32 × aI × aJ} (h : FX10_enter d e x1 x2 x3 = some q) : Ev Γ (3) mX10_enter [.ref 0, .int x1, .int x2, .int x3] d e (some (.int q.1)) q.2.1 q.2.2 := by
  refine Ev.of (by decide) rfl (Nat.le_of_ble_eq_true rfl) (fun z => by cases z) ?_
  show Rn Γ (3) mX10_enter 0 [some (.ref 0), some (.int x1), some (.int x2), some (.int x3)] [] d e _ _ _
  unfold FX10_enter at h
  obtain ⟨q1, hq1, h⟩ := Option.bind_eq_some_iff.mp h
  refine bX10_enter_0 (evX2_canEnter hq1) (by omega) ?_
  refine a_ite h (fun c2 h => ?_) (fun c2 h => ?_)
  · refine bX10_enter_12 (fun z => absurd c2 z) (fun _ => ?_)
    cases h
    exact bX10_enter_15
  · refine bX10_enter_12 (fun _ => ?_) (fun z => absurd z c2)
    obtain ⟨q3, hq3, h⟩ := Option.bind_eq_some_iff.mp h
    refine bX10_enter_17 (evX10_keepIf hq3) (by omega) ?_
    obtain ⟨q4, hq4, h⟩ := Option.bind_eq_some_iff.mp h
    refine bX10_enter_22 (evX2_enter hq4) (by omega) ?_
    cases h
    exact bX10_enter_34

noncomputable def FX10_leave (d : aI) (e : aJ) (x1 : Int32) (x2 : Int32) : Option (Int32 × aI × aJ) := ((FX2_guest d e x1).bind fun q1 => (if q1.1 = (-(nI 1)) then (some ((-(nI 1)), q1.2.1, q1.2.2)) else ((FX10_keepIf q1.2.1 q1.2.2 x2).bind fun q3 => ((FX2_leave q3.2.1 q3.2.2 q1.1 x1 (nI 1)).bind fun q4 => (some (q1.1, q4.2.1, q4.2.2))))))
theorem evX10_leave {Γ : aG × Launch} {d : aI} {e : aJ} {x1 : Int32} {x2 : Int32} {q : Int32 × aI × aJ} (h : FX10_leave d e x1 x2 = some q) : Ev Γ (3) mX10_leave [.ref 0, .int x1, .int x2] d e (some (.int q.1)) q.2.1 q.2.2 := by
  refine Ev.of (by decide) rfl (Nat.le_of_ble_eq_true rfl) (fun z => by cases z) ?_
  show Rn Γ (3) mX10_leave 0 [some (.ref 0), some (.int x1), some (.int x2), none] [] d e _ _ _
  unfold FX10_leave at h
  obtain ⟨q1, hq1, h⟩ := Option.bind_eq_some_iff.mp h
  refine bX10_leave_0 (evX2_guest hq1) (by omega) ?_
  refine a_ite h (fun c2 h => ?_) (fun c2 h => ?_)
  · refine bX10_leave_11 (fun z => absurd c2 z) (fun _ => ?_)
    cases h
    exact bX10_leave_17
  · refine bX10_leave_11 (fun _ => ?_) (fun z => absurd z c2)
    obtain ⟨q3, hq3, h⟩ := Option.bind_eq_some_iff.mp h
    refine bX10_leave_19 (evX10_keepIf hq3) (by omega) ?_
    obtain ⟨q4, hq4, h⟩ := Option.bind_eq_some_iff.mp h
    refine bX10_leave_24 (evX2_leave hq4) (by omega) ?_
    cases h
    exact bX10_leave_37

noncomputable def FX10_walk (d : aI) (e : aJ) (x1 : Int32) (x2 : Int32) (x3 : Int32) : Option (Int32 × aI × aJ) := ((FX2_isCat d e x1).bind fun q1 => (if q1.1 = 0 then (some ((nI 0), q1.2.1, q1.2.2)) else (bif ((a_inb x1 6)) then (if (q1.2.1 8 (x1).toNatClampNeg) = (-(nI 1)) then ((FX10_keepIf q1.2.1 q1.2.2 x3).bind fun q5 => (if x2 = 0 then ((FX2_move q5.2.1 q5.2.2 x1 (-(nI 1))).bind fun q7 => (some ((nI 1), q7.2.1, q7.2.2))) else ((FX2_move q5.2.1 q5.2.2 x1 (nI 1)).bind fun q8 => (some ((nI 1), q8.2.1, q8.2.2))))) else (some ((nI 0), q1.2.1, q1.2.2))) else none)))
theorem evX10_walk {Γ : aG × Launch} {d : aI} {e : aJ} {x1 : Int32} {x2 : Int32} {x3 : Int32} {q : Int32 × aI × aJ} (h : FX10_walk d e x1 x2 x3 = some q) : Ev Γ (3) mX10_walk [.ref 0, .int x1, .int x2, .int x3] d e (some (.int q.1)) q.2.1 q.2.2 := by
  refine Ev.of (by decide) rfl (Nat.le_of_ble_eq_true rfl) (fun z => by cases z) ?_
  show Rn Γ (3) mX10_walk 0 [some (.ref 0), some (.int x1), some (.int x2), some (.int x3)] [] d e _ _ _
  unfold FX10_walk at h
  obtain ⟨q1, hq1, h⟩ := Option.bind_eq_some_iff.mp h
  refine bX10_walk_0 (evX2_isCat hq1) (by omega) ?_
  refine a_ite h (fun c2 h => ?_) (fun c2 h => ?_)
  · refine bX10_walk_11 (fun _ => ?_) (fun z => absurd c2 z)
    cases h
    exact bX10_walk_30
  · refine bX10_walk_11 (fun z => absurd z c2) (fun _ => ?_)
    obtain ⟨g3, h⟩ := a_cond h
    refine a_ite h (fun c4 h => ?_) (fun c4 h => ?_)
    · refine bX10_walk_14 (a_inb_vp g3) (fun _ => ?_) (fun z => absurd c4 z)
      obtain ⟨q5, hq5, h⟩ := Option.bind_eq_some_iff.mp h
      refine bX10_walk_32 (evX10_keepIf hq5) (by omega) ?_
      refine a_ite h (fun c6 h => ?_) (fun c6 h => ?_)
      · refine bX10_walk_37 (fun _ => ?_) (fun z => absurd c6 z)
        refine bX10_walk_53 ?_
        obtain ⟨q7, hq7, h⟩ := Option.bind_eq_some_iff.mp h
        refine bX10_walk_54 (evX2_move hq7) (by omega) ?_
        cases h
        exact bX10_walk_57
      · refine bX10_walk_37 (fun z => absurd z c6) (fun _ => ?_)
        refine bX10_walk_49 ?_
        obtain ⟨q8, hq8, h⟩ := Option.bind_eq_some_iff.mp h
        refine bX10_walk_54 (evX2_move hq8) (by omega) ?_
        cases h
        exact bX10_walk_57
    · refine bX10_walk_14 (a_inb_vp g3) (fun z => absurd z c4) (fun _ => ?_)
      cases h
      exact bX10_walk_30

noncomputable def FX10_canBeOne (d : aI) (e : aJ) (x1 : Int32) (x2 : Int32) : Option (Int32 × aI × aJ) := (bif ((a_inb x1 10) && (a_inb x2 10) && (a_inb x1 10) && (a_inb x2 10)) then ((FX10_around d e (d 15 (x1).toNatClampNeg) (d 15 (x2).toNatClampNeg)).bind fun q2 => (if (a_abs ((d 14 (x1).toNatClampNeg) - (d 14 (x2).toNatClampNeg))) < q2.1 then (some ((nI 0), q2.2.1, q2.2.2)) else (some ((nI 1), q2.2.1, q2.2.2)))) else none)
theorem evX10_canBeOne {Γ : aG × Launch} {d : aI} {e : aJ} {x1 : Int32} {x2 : Int32} {q : Int32 × aI × aJ} (h : FX10_canBeOne d e x1 x2 = some q) : Ev Γ (1) mX10_canBeOne [.ref 13, .int x1, .int x2] d e (some (.int q.1)) q.2.1 q.2.2 := by
  refine Ev.of (by decide) rfl (Nat.le_of_ble_eq_true rfl) (fun z => by cases z) ?_
  show Rn Γ (1) mX10_canBeOne 0 [some (.ref 13), some (.int x1), some (.int x2), none] [] d e _ _ _
  unfold FX10_canBeOne at h
  obtain ⟨g1, h⟩ := a_cond h
  obtain ⟨g1x3, g1_3⟩ := a_and g1
  obtain ⟨g1x2, g1_2⟩ := a_and g1x3
  obtain ⟨g1x1, g1_1⟩ := a_and g1x2
  have g1_0 := g1x1
  obtain ⟨q2, hq2, h⟩ := Option.bind_eq_some_iff.mp h
  refine bX10_canBeOne_0 ⟨(a_inb_vp g1_0), (a_inb_vp g1_1), (a_inb_vp g1_2), (a_inb_vp g1_3)⟩ (evX10_around hq2) (by omega) ?_
  refine a_ite h (fun c3 h => ?_) (fun c3 h => ?_)
  · refine bX10_canBeOne_32 (fun _ => ?_) (fun z => absurd c3 z)
    refine bX10_canBeOne_40 ?_
    cases h
    exact bX10_canBeOne_41 (a_nz (Or.inl rfl))
  · refine bX10_canBeOne_32 (fun z => absurd z c3) (fun _ => ?_)
    refine bX10_canBeOne_36 ?_
    cases h
    exact bX10_canBeOne_41 (a_nz (Or.inr rfl))

noncomputable def FX11_house (d : aI) (e : aJ) (x1 : Int32) (x2 : Int32) : Option (Int32 × aI × aJ) := ((FX11_isPlace d e x1).bind fun q1 => (if q1.1 = 0 then (some ((-(nI 1)), q1.2.1, q1.2.2)) else ((FX11_isIn q1.2.1 q1.2.2 x2 (nI 0) (nI 999)).bind fun q3 => (if q3.1 = 0 then (some ((-(nI 1)), q3.2.1, q3.2.2)) else (bif ((a_inb (nI 0) 1961)) then (if (q3.2.1 109 0) = (nI 6) then (some ((-(nI 1)), q3.2.1, q3.2.2)) else (bif ((a_inb (nI 0) 1961) && (a_inb ((nI 42) + (q3.2.1 109 0)) 1961) && (a_inb ((nI 48) + (q3.2.1 109 0)) 1961)) then ((FX11_beginHouse (uI (uI q3.2.1 109 (((nI 42) + (q3.2.1 109 0))).toNatClampNeg x1) 109 (((nI 48) + (q3.2.1 109 0))).toNatClampNeg x2) q3.2.2 (q3.2.1 109 0)).bind fun q8 => (bif ((a_inb (nI 0) 1961) && (a_inb (nI 0) 1961)) then (some ((q3.2.1 109 0), (uI q8.2.1 109 0 ((q8.2.1 109 0) + (nI 1))), q8.2.2)) else none)) else none)) else none)))))
theorem evX11_house {Γ : aG × Launch} {d : aI} {e : aJ} {x1 : Int32} {x2 : Int32} {q : Int32 × aI × aJ} (h : FX11_house d e x1 x2 = some q) : Ev Γ (2) mX11_house [.ref 108, .int x1, .int x2] d e (some (.int q.1)) q.2.1 q.2.2 := by
  refine Ev.of (by decide) rfl (Nat.le_of_ble_eq_true rfl) (fun z => by cases z) ?_
  show Rn Γ (2) mX11_house 0 [some (.ref 108), some (.int x1), some (.int x2), none] [] d e _ _ _
  unfold FX11_house at h
  obtain ⟨q1, hq1, h⟩ := Option.bind_eq_some_iff.mp h
  refine bX11_house_0 (evX11_isPlace hq1) (by omega) ?_
  refine a_ite h (fun c2 h => ?_) (fun c2 h => ?_)
  · refine bX11_house_4 (fun _ => ?_) (fun z => absurd c2 z)
    cases h
    exact bX11_house_29
  · refine bX11_house_4 (fun z => absurd z c2) (fun _ => ?_)
    obtain ⟨q3, hq3, h⟩ := Option.bind_eq_some_iff.mp h
    refine bX11_house_7 (evX11_isIn hq3) (by omega) ?_
    refine a_ite h (fun c4 h => ?_) (fun c4 h => ?_)
    · refine bX11_house_15 (fun _ => ?_) (fun z => absurd c4 z)
      cases h
      exact bX11_house_29
    · refine bX11_house_15 (fun z => absurd z c4) (fun _ => ?_)
      obtain ⟨g5, h⟩ := a_cond h
      refine a_ite h (fun c6 h => ?_) (fun c6 h => ?_)
      · refine bX11_house_18 (a_inb_vp g5) (fun z => absurd c6 z) (fun _ => ?_)
        cases h
        exact bX11_house_29
      · refine bX11_house_18 (a_inb_vp g5) (fun _ => ?_) (fun z => absurd z c6)
        obtain ⟨g7, h⟩ := a_cond h
        obtain ⟨g7x2, g7_2⟩ := a_and g7
        obtain ⟨g7x1, g7_1⟩ := a_and g7x2
        have g7_0 := g7x1
        obtain ⟨q8, hq8, h⟩ := Option.bind_eq_some_iff.mp h
        refine bX11_house_31 ⟨(a_inb_vp g7_0), (a_inb_vp g7_1), (a_inb_vp g7_2)⟩ (evX11_beginHouse hq8) (by omega) ?_
        obtain ⟨g9, h⟩ := a_cond h
        obtain ⟨g9x1, g9_1⟩ := a_and g9
        have g9_0 := g9x1
        cases h
        exact bX11_house_63 ⟨(a_inb_vp g9_0), (a_inb_vp g9_1)⟩

noncomputable def FX11_cat (d : aI) (e : aJ) (x1 : Int32) (x2 : Int32) : Option (Int32 × aI × aJ) := ((FX11_isPlace d e x1).bind fun q1 => (if q1.1 = 0 then (some ((-(nI 1)), q1.2.1, q1.2.2)) else ((FX11_isIn q1.2.1 q1.2.2 x2 (nI 0) (nI 9)).bind fun q3 => (if q3.1 = 0 then (some ((-(nI 1)), q3.2.1, q3.2.2)) else (bif ((a_inb (nI 1) 1961)) then (if (q3.2.1 109 1) = (nI 6) then (some ((-(nI 1)), q3.2.1, q3.2.2)) else (bif ((a_inb (nI 1) 1961) && (a_inb ((nI 60) + (q3.2.1 109 1)) 1961) && (a_inb ((nI 54) + (q3.2.1 109 1)) 1961)) then ((FX11_beginCat (uI (uI q3.2.1 109 (((nI 60) + (q3.2.1 109 1))).toNatClampNeg x1) 109 (((nI 54) + (q3.2.1 109 1))).toNatClampNeg x2) q3.2.2 (q3.2.1 109 1)).bind fun q8 => (bif ((a_inb (nI 1) 1961) && (a_inb (nI 1) 1961)) then (some ((q3.2.1 109 1), (uI q8.2.1 109 1 ((q8.2.1 109 1) + (nI 1))), q8.2.2)) else none)) else none)) else none)))))
theorem evX11_cat {Γ : aG × Launch} {d : aI} {e : aJ} {x1 : Int32} {x2 : Int32} {q : Int32 × aI × aJ} (h : FX11_cat d e x1 x2 = some q) : Ev Γ (2) mX11_cat [.ref 108, .int x1, .int x2] d e (some (.int q.1)) q.2.1 q.2.2 := by
  refine Ev.of (by decide) rfl (Nat.le_of_ble_eq_true rfl) (fun z => by cases z) ?_
  show Rn Γ (2) mX11_cat 0 [some (.ref 108), some (.int x1), some (.int x2), none] [] d e _ _ _
  unfold FX11_cat at h
  obtain ⟨q1, hq1, h⟩ := Option.bind_eq_some_iff.mp h
  refine bX11_cat_0 (evX11_isPlace hq1) (by omega) ?_
  refine a_ite h (fun c2 h => ?_) (fun c2 h => ?_)
  · refine bX11_cat_4 (fun _ => ?_) (fun z => absurd c2 z)
    cases h
    exact bX11_cat_28
  · refine bX11_cat_4 (fun z => absurd z c2) (fun _ => ?_)
    obtain ⟨q3, hq3, h⟩ := Option.bind_eq_some_iff.mp h
    refine bX11_cat_7 (evX11_isIn hq3) (by omega) ?_
    refine a_ite h (fun c4 h => ?_) (fun c4 h => ?_)
    · refine bX11_cat_14 (fun _ => ?_) (fun z => absurd c4 z)
      cases h
      exact bX11_cat_28
    · refine bX11_cat_14 (fun z => absurd z c4) (fun _ => ?_)
      obtain ⟨g5, h⟩ := a_cond h
      refine a_ite h (fun c6 h => ?_) (fun c6 h => ?_)
      · refine bX11_cat_17 (a_inb_vp g5) (fun z => absurd c6 z) (fun _ => ?_)
        cases h
        exact bX11_cat_28
      · refine bX11_cat_17 (a_inb_vp g5) (fun _ => ?_) (fun z => absurd z c6)
        obtain ⟨g7, h⟩ := a_cond h
        obtain ⟨g7x2, g7_2⟩ := a_and g7
        obtain ⟨g7x1, g7_1⟩ := a_and g7x2
        have g7_0 := g7x1
        obtain ⟨q8, hq8, h⟩ := Option.bind_eq_some_iff.mp h
        refine bX11_cat_30 ⟨(a_inb_vp g7_0), (a_inb_vp g7_1), (a_inb_vp g7_2)⟩ (evX11_beginCat hq8) (by omega) ?_
        obtain ⟨g9, h⟩ := a_cond h
        obtain ⟨g9x1, g9_1⟩ := a_and g9
        have g9_0 := g9x1
        cases h
        exact bX11_cat_62 ⟨(a_inb_vp g9_0), (a_inb_vp g9_1)⟩

noncomputable def FX11_beginOne (d : aI) (e : aJ)  : Option (Int32 × aI × aJ) := (if (d 108 9) = (nI 1) then (if (d 108 10) ≤ (nI 9999) then ((FX11_nameOf d e).bind fun q3 => (if q3.1 < 0 then (if (q3.2.1 108 9) = (nI 1) then (if (q3.2.1 108 9) = (nI 1) then (if (q3.2.1 108 9) = (nI 1) then ((FX11_emit q3.2.1 q3.2.2 (nI 0) (q3.2.1 108 10)).bind fun q8 => ((FX11_nextToken q8.2.1 q8.2.2).bind fun q9 => ((FX11_endOne q9.2.1 q9.2.2).bind fun q10 => (some (q10.1, q10.2.1, q10.2.2))))) else ((FX11_emit q3.2.1 q3.2.2 (nI 0) q3.1).bind fun q11 => ((FX11_nextToken q11.2.1 q11.2.2).bind fun q12 => ((FX11_endOne q12.2.1 q12.2.2).bind fun q13 => (some (q13.1, q13.2.1, q13.2.2)))))) else (if (q3.2.1 108 9) = (nI 1) then ((FX11_emit q3.2.1 q3.2.2 (nI 1) (q3.2.1 108 10)).bind fun q15 => ((FX11_nextToken q15.2.1 q15.2.2).bind fun q16 => ((FX11_endOne q16.2.1 q16.2.2).bind fun q17 => (some (q17.1, q17.2.1, q17.2.2))))) else ((FX11_emit q3.2.1 q3.2.2 (nI 1) q3.1).bind fun q18 => ((FX11_nextToken q18.2.1 q18.2.2).bind fun q19 => ((FX11_endOne q19.2.1 q19.2.2).bind fun q20 => (some (q20.1, q20.2.1, q20.2.2))))))) else (if q3.1 < 0 then (if (q3.2.1 108 9) = (nI 40) then ((FX11_opened q3.2.1 q3.2.2 (nI 40)).bind fun q23 => (some (q23.1, q23.2.1, q23.2.2))) else (if (q3.2.1 108 9) = (nI 45) then ((FX11_opened q3.2.1 q3.2.2 (nI 5)).bind fun q25 => (some (q25.1, q25.2.1, q25.2.2))) else ((FX11_w4 q3.2.1 q3.2.2 (nI 116) (nI 117) (nI 114) (nI 110)).bind fun q26 => ((FX11_isWord q26.2.1 q26.2.2 q26.1).bind fun q27 => (if q27.1 = 0 then ((FX11_w5 q27.2.1 q27.2.2 (nI 99) (nI 104) (nI 105) (nI 108) (nI 108)).bind fun q29 => ((FX11_isWord q29.2.1 q29.2.2 q29.1).bind fun q30 => (if q30.1 = 0 then ((FX11_w2 q30.2.1 q30.2.2 (nI 105) (nI 102)).bind fun q32 => ((FX11_isWord q32.2.1 q32.2.2 q32.1).bind fun q33 => (if q33.1 = 0 then ((FX11_w3 q33.2.1 q33.2.2 (nI 110) (nI 111) (nI 116)).bind fun q35 => ((FX11_isWord q35.2.1 q35.2.2 q35.1).bind fun q36 => (if q36.1 = 0 then (some ((nI 1), q36.2.1, q36.2.2)) else ((FX11_isAskAhead q36.2.1 q36.2.2).bind fun q38 => (if q38.1 = 0 then (some ((nI 1), q38.2.1, q38.2.2)) else ((FX11_opened q38.2.1 q38.2.2 (nI 20)).bind fun q40 => (some (q40.1, q40.2.1, q40.2.2)))))))) else ((FX11_opened q33.2.1 q33.2.2 (nI 42)).bind fun q41 => (some (q41.1, q41.2.1, q41.2.2)))))) else ((FX11_opened q30.2.1 q30.2.2 (nI 2)).bind fun q42 => (some (q42.1, q42.2.1, q42.2.2)))))) else ((FX11_opened q27.2.1 q27.2.2 (nI 41)).bind fun q43 => (some (q43.1, q43.2.1, q43.2.2)))))))) else (if (q3.2.1 108 9) = (nI 1) then (if (q3.2.1 108 9) = (nI 1) then ((FX11_emit q3.2.1 q3.2.2 (nI 0) (q3.2.1 108 10)).bind fun q46 => ((FX11_nextToken q46.2.1 q46.2.2).bind fun q47 => ((FX11_endOne q47.2.1 q47.2.2).bind fun q48 => (some (q48.1, q48.2.1, q48.2.2))))) else ((FX11_emit q3.2.1 q3.2.2 (nI 0) q3.1).bind fun q49 => ((FX11_nextToken q49.2.1 q49.2.2).bind fun q50 => ((FX11_endOne q50.2.1 q50.2.2).bind fun q51 => (some (q51.1, q51.2.1, q51.2.2)))))) else (if (q3.2.1 108 9) = (nI 1) then ((FX11_emit q3.2.1 q3.2.2 (nI 1) (q3.2.1 108 10)).bind fun q53 => ((FX11_nextToken q53.2.1 q53.2.2).bind fun q54 => ((FX11_endOne q54.2.1 q54.2.2).bind fun q55 => (some (q55.1, q55.2.1, q55.2.2))))) else ((FX11_emit q3.2.1 q3.2.2 (nI 1) q3.1).bind fun q56 => ((FX11_nextToken q56.2.1 q56.2.2).bind fun q57 => ((FX11_endOne q57.2.1 q57.2.2).bind fun q58 => (some (q58.1, q58.2.1, q58.2.2))))))))) else ((FX11_isOf q3.2.1 q3.2.2 q3.1).bind fun q59 => (if q59.1 = 0 then (some ((nI 5), q59.2.1, q59.2.2)) else (if (q59.2.1 108 9) = (nI 1) then (if (q59.2.1 108 9) = (nI 1) then (if (q59.2.1 108 9) = (nI 1) then ((FX11_emit q59.2.1 q59.2.2 (nI 0) (q59.2.1 108 10)).bind fun q64 => ((FX11_nextToken q64.2.1 q64.2.2).bind fun q65 => ((FX11_endOne q65.2.1 q65.2.2).bind fun q66 => (some (q66.1, q66.2.1, q66.2.2))))) else ((FX11_emit q59.2.1 q59.2.2 (nI 0) q3.1).bind fun q67 => ((FX11_nextToken q67.2.1 q67.2.2).bind fun q68 => ((FX11_endOne q68.2.1 q68.2.2).bind fun q69 => (some (q69.1, q69.2.1, q69.2.2)))))) else (if (q59.2.1 108 9) = (nI 1) then ((FX11_emit q59.2.1 q59.2.2 (nI 1) (q59.2.1 108 10)).bind fun q71 => ((FX11_nextToken q71.2.1 q71.2.2).bind fun q72 => ((FX11_endOne q72.2.1 q72.2.2).bind fun q73 => (some (q73.1, q73.2.1, q73.2.2))))) else ((FX11_emit q59.2.1 q59.2.2 (nI 1) q3.1).bind fun q74 => ((FX11_nextToken q74.2.1 q74.2.2).bind fun q75 => ((FX11_endOne q75.2.1 q75.2.2).bind fun q76 => (some (q76.1, q76.2.1, q76.2.2))))))) else (if q3.1 < 0 then (if (q59.2.1 108 9) = (nI 40) then ((FX11_opened q59.2.1 q59.2.2 (nI 40)).bind fun q79 => (some (q79.1, q79.2.1, q79.2.2))) else (if (q59.2.1 108 9) = (nI 45) then ((FX11_opened q59.2.1 q59.2.2 (nI 5)).bind fun q81 => (some (q81.1, q81.2.1, q81.2.2))) else ((FX11_w4 q59.2.1 q59.2.2 (nI 116) (nI 117) (nI 114) (nI 110)).bind fun q82 => ((FX11_isWord q82.2.1 q82.2.2 q82.1).bind fun q83 => (if q83.1 = 0 then ((FX11_w5 q83.2.1 q83.2.2 (nI 99) (nI 104) (nI 105) (nI 108) (nI 108)).bind fun q85 => ((FX11_isWord q85.2.1 q85.2.2 q85.1).bind fun q86 => (if q86.1 = 0 then ((FX11_w2 q86.2.1 q86.2.2 (nI 105) (nI 102)).bind fun q88 => ((FX11_isWord q88.2.1 q88.2.2 q88.1).bind fun q89 => (if q89.1 = 0 then ((FX11_w3 q89.2.1 q89.2.2 (nI 110) (nI 111) (nI 116)).bind fun q91 => ((FX11_isWord q91.2.1 q91.2.2 q91.1).bind fun q92 => (if q92.1 = 0 then (some ((nI 1), q92.2.1, q92.2.2)) else ((FX11_isAskAhead q92.2.1 q92.2.2).bind fun q94 => (if q94.1 = 0 then (some ((nI 1), q94.2.1, q94.2.2)) else ((FX11_opened q94.2.1 q94.2.2 (nI 20)).bind fun q96 => (some (q96.1, q96.2.1, q96.2.2)))))))) else ((FX11_opened q89.2.1 q89.2.2 (nI 42)).bind fun q97 => (some (q97.1, q97.2.1, q97.2.2)))))) else ((FX11_opened q86.2.1 q86.2.2 (nI 2)).bind fun q98 => (some (q98.1, q98.2.1, q98.2.2)))))) else ((FX11_opened q83.2.1 q83.2.2 (nI 41)).bind fun q99 => (some (q99.1, q99.2.1, q99.2.2)))))))) else (if (q59.2.1 108 9) = (nI 1) then (if (q59.2.1 108 9) = (nI 1) then ((FX11_emit q59.2.1 q59.2.2 (nI 0) (q59.2.1 108 10)).bind fun q102 => ((FX11_nextToken q102.2.1 q102.2.2).bind fun q103 => ((FX11_endOne q103.2.1 q103.2.2).bind fun q104 => (some (q104.1, q104.2.1, q104.2.2))))) else ((FX11_emit q59.2.1 q59.2.2 (nI 0) q3.1).bind fun q105 => ((FX11_nextToken q105.2.1 q105.2.2).bind fun q106 => ((FX11_endOne q106.2.1 q106.2.2).bind fun q107 => (some (q107.1, q107.2.1, q107.2.2)))))) else (if (q59.2.1 108 9) = (nI 1) then ((FX11_emit q59.2.1 q59.2.2 (nI 1) (q59.2.1 108 10)).bind fun q109 => ((FX11_nextToken q109.2.1 q109.2.2).bind fun q110 => ((FX11_endOne q110.2.1 q110.2.2).bind fun q111 => (some (q111.1, q111.2.1, q111.2.2))))) else ((FX11_emit q59.2.1 q59.2.2 (nI 1) q3.1).bind fun q112 => ((FX11_nextToken q112.2.1 q112.2.2).bind fun q113 => ((FX11_endOne q113.2.1 q113.2.2).bind fun q114 => (some (q114.1, q114.2.1, q114.2.2))))))))))))) else (some ((nI 2), d, e))) else ((FX11_nameOf d e).bind fun q115 => (if q115.1 < 0 then (if (q115.2.1 108 9) = (nI 1) then (if (q115.2.1 108 9) = (nI 1) then (if (q115.2.1 108 9) = (nI 1) then ((FX11_emit q115.2.1 q115.2.2 (nI 0) (q115.2.1 108 10)).bind fun q120 => ((FX11_nextToken q120.2.1 q120.2.2).bind fun q121 => ((FX11_endOne q121.2.1 q121.2.2).bind fun q122 => (some (q122.1, q122.2.1, q122.2.2))))) else ((FX11_emit q115.2.1 q115.2.2 (nI 0) q115.1).bind fun q123 => ((FX11_nextToken q123.2.1 q123.2.2).bind fun q124 => ((FX11_endOne q124.2.1 q124.2.2).bind fun q125 => (some (q125.1, q125.2.1, q125.2.2)))))) else (if (q115.2.1 108 9) = (nI 1) then ((FX11_emit q115.2.1 q115.2.2 (nI 1) (q115.2.1 108 10)).bind fun q127 => ((FX11_nextToken q127.2.1 q127.2.2).bind fun q128 => ((FX11_endOne q128.2.1 q128.2.2).bind fun q129 => (some (q129.1, q129.2.1, q129.2.2))))) else ((FX11_emit q115.2.1 q115.2.2 (nI 1) q115.1).bind fun q130 => ((FX11_nextToken q130.2.1 q130.2.2).bind fun q131 => ((FX11_endOne q131.2.1 q131.2.2).bind fun q132 => (some (q132.1, q132.2.1, q132.2.2))))))) else (if q115.1 < 0 then (if (q115.2.1 108 9) = (nI 40) then ((FX11_opened q115.2.1 q115.2.2 (nI 40)).bind fun q135 => (some (q135.1, q135.2.1, q135.2.2))) else (if (q115.2.1 108 9) = (nI 45) then ((FX11_opened q115.2.1 q115.2.2 (nI 5)).bind fun q137 => (some (q137.1, q137.2.1, q137.2.2))) else ((FX11_w4 q115.2.1 q115.2.2 (nI 116) (nI 117) (nI 114) (nI 110)).bind fun q138 => ((FX11_isWord q138.2.1 q138.2.2 q138.1).bind fun q139 => (if q139.1 = 0 then ((FX11_w5 q139.2.1 q139.2.2 (nI 99) (nI 104) (nI 105) (nI 108) (nI 108)).bind fun q141 => ((FX11_isWord q141.2.1 q141.2.2 q141.1).bind fun q142 => (if q142.1 = 0 then ((FX11_w2 q142.2.1 q142.2.2 (nI 105) (nI 102)).bind fun q144 => ((FX11_isWord q144.2.1 q144.2.2 q144.1).bind fun q145 => (if q145.1 = 0 then ((FX11_w3 q145.2.1 q145.2.2 (nI 110) (nI 111) (nI 116)).bind fun q147 => ((FX11_isWord q147.2.1 q147.2.2 q147.1).bind fun q148 => (if q148.1 = 0 then (some ((nI 1), q148.2.1, q148.2.2)) else ((FX11_isAskAhead q148.2.1 q148.2.2).bind fun q150 => (if q150.1 = 0 then (some ((nI 1), q150.2.1, q150.2.2)) else ((FX11_opened q150.2.1 q150.2.2 (nI 20)).bind fun q152 => (some (q152.1, q152.2.1, q152.2.2)))))))) else ((FX11_opened q145.2.1 q145.2.2 (nI 42)).bind fun q153 => (some (q153.1, q153.2.1, q153.2.2)))))) else ((FX11_opened q142.2.1 q142.2.2 (nI 2)).bind fun q154 => (some (q154.1, q154.2.1, q154.2.2)))))) else ((FX11_opened q139.2.1 q139.2.2 (nI 41)).bind fun q155 => (some (q155.1, q155.2.1, q155.2.2)))))))) else (if (q115.2.1 108 9) = (nI 1) then (if (q115.2.1 108 9) = (nI 1) then ((FX11_emit q115.2.1 q115.2.2 (nI 0) (q115.2.1 108 10)).bind fun q158 => ((FX11_nextToken q158.2.1 q158.2.2).bind fun q159 => ((FX11_endOne q159.2.1 q159.2.2).bind fun q160 => (some (q160.1, q160.2.1, q160.2.2))))) else ((FX11_emit q115.2.1 q115.2.2 (nI 0) q115.1).bind fun q161 => ((FX11_nextToken q161.2.1 q161.2.2).bind fun q162 => ((FX11_endOne q162.2.1 q162.2.2).bind fun q163 => (some (q163.1, q163.2.1, q163.2.2)))))) else (if (q115.2.1 108 9) = (nI 1) then ((FX11_emit q115.2.1 q115.2.2 (nI 1) (q115.2.1 108 10)).bind fun q165 => ((FX11_nextToken q165.2.1 q165.2.2).bind fun q166 => ((FX11_endOne q166.2.1 q166.2.2).bind fun q167 => (some (q167.1, q167.2.1, q167.2.2))))) else ((FX11_emit q115.2.1 q115.2.2 (nI 1) q115.1).bind fun q168 => ((FX11_nextToken q168.2.1 q168.2.2).bind fun q169 => ((FX11_endOne q169.2.1 q169.2.2).bind fun q170 => (some (q170.1, q170.2.1, q170.2.2))))))))) else ((FX11_isOf q115.2.1 q115.2.2 q115.1).bind fun q171 => (if q171.1 = 0 then (some ((nI 5), q171.2.1, q171.2.2)) else (if (q171.2.1 108 9) = (nI 1) then (if (q171.2.1 108 9) = (nI 1) then (if (q171.2.1 108 9) = (nI 1) then ((FX11_emit q171.2.1 q171.2.2 (nI 0) (q171.2.1 108 10)).bind fun q176 => ((FX11_nextToken q176.2.1 q176.2.2).bind fun q177 => ((FX11_endOne q177.2.1 q177.2.2).bind fun q178 => (some (q178.1, q178.2.1, q178.2.2))))) else ((FX11_emit q171.2.1 q171.2.2 (nI 0) q115.1).bind fun q179 => ((FX11_nextToken q179.2.1 q179.2.2).bind fun q180 => ((FX11_endOne q180.2.1 q180.2.2).bind fun q181 => (some (q181.1, q181.2.1, q181.2.2)))))) else (if (q171.2.1 108 9) = (nI 1) then ((FX11_emit q171.2.1 q171.2.2 (nI 1) (q171.2.1 108 10)).bind fun q183 => ((FX11_nextToken q183.2.1 q183.2.2).bind fun q184 => ((FX11_endOne q184.2.1 q184.2.2).bind fun q185 => (some (q185.1, q185.2.1, q185.2.2))))) else ((FX11_emit q171.2.1 q171.2.2 (nI 1) q115.1).bind fun q186 => ((FX11_nextToken q186.2.1 q186.2.2).bind fun q187 => ((FX11_endOne q187.2.1 q187.2.2).bind fun q188 => (some (q188.1, q188.2.1, q188.2.2))))))) else (if q115.1 < 0 then (if (q171.2.1 108 9) = (nI 40) then ((FX11_opened q171.2.1 q171.2.2 (nI 40)).bind fun q191 => (some (q191.1, q191.2.1, q191.2.2))) else (if (q171.2.1 108 9) = (nI 45) then ((FX11_opened q171.2.1 q171.2.2 (nI 5)).bind fun q193 => (some (q193.1, q193.2.1, q193.2.2))) else ((FX11_w4 q171.2.1 q171.2.2 (nI 116) (nI 117) (nI 114) (nI 110)).bind fun q194 => ((FX11_isWord q194.2.1 q194.2.2 q194.1).bind fun q195 => (if q195.1 = 0 then ((FX11_w5 q195.2.1 q195.2.2 (nI 99) (nI 104) (nI 105) (nI 108) (nI 108)).bind fun q197 => ((FX11_isWord q197.2.1 q197.2.2 q197.1).bind fun q198 => (if q198.1 = 0 then ((FX11_w2 q198.2.1 q198.2.2 (nI 105) (nI 102)).bind fun q200 => ((FX11_isWord q200.2.1 q200.2.2 q200.1).bind fun q201 => (if q201.1 = 0 then ((FX11_w3 q201.2.1 q201.2.2 (nI 110) (nI 111) (nI 116)).bind fun q203 => ((FX11_isWord q203.2.1 q203.2.2 q203.1).bind fun q204 => (if q204.1 = 0 then (some ((nI 1), q204.2.1, q204.2.2)) else ((FX11_isAskAhead q204.2.1 q204.2.2).bind fun q206 => (if q206.1 = 0 then (some ((nI 1), q206.2.1, q206.2.2)) else ((FX11_opened q206.2.1 q206.2.2 (nI 20)).bind fun q208 => (some (q208.1, q208.2.1, q208.2.2)))))))) else ((FX11_opened q201.2.1 q201.2.2 (nI 42)).bind fun q209 => (some (q209.1, q209.2.1, q209.2.2)))))) else ((FX11_opened q198.2.1 q198.2.2 (nI 2)).bind fun q210 => (some (q210.1, q210.2.1, q210.2.2)))))) else ((FX11_opened q195.2.1 q195.2.2 (nI 41)).bind fun q211 => (some (q211.1, q211.2.1, q211.2.2)))))))) else (if (q171.2.1 108 9) = (nI 1) then (if (q171.2.1 108 9) = (nI 1) then ((FX11_emit q171.2.1 q171.2.2 (nI 0) (q171.2.1 108 10)).bind fun q214 => ((FX11_nextToken q214.2.1 q214.2.2).bind fun q215 => ((FX11_endOne q215.2.1 q215.2.2).bind fun q216 => (some (q216.1, q216.2.1, q216.2.2))))) else ((FX11_emit q171.2.1 q171.2.2 (nI 0) q115.1).bind fun q217 => ((FX11_nextToken q217.2.1 q217.2.2).bind fun q218 => ((FX11_endOne q218.2.1 q218.2.2).bind fun q219 => (some (q219.1, q219.2.1, q219.2.2)))))) else (if (q171.2.1 108 9) = (nI 1) then ((FX11_emit q171.2.1 q171.2.2 (nI 1) (q171.2.1 108 10)).bind fun q221 => ((FX11_nextToken q221.2.1 q221.2.2).bind fun q222 => ((FX11_endOne q222.2.1 q222.2.2).bind fun q223 => (some (q223.1, q223.2.1, q223.2.2))))) else ((FX11_emit q171.2.1 q171.2.2 (nI 1) q115.1).bind fun q224 => ((FX11_nextToken q224.2.1 q224.2.2).bind fun q225 => ((FX11_endOne q225.2.1 q225.2.2).bind fun q226 => (some (q226.1, q226.2.1, q226.2.2))))))))))))))
theorem evX11_beginOne {Γ : aG × Launch} {d : aI} {e : aJ}  {q : Int32 × aI × aJ} (h : FX11_beginOne d e  = some q) : Ev Γ (6) mX11_beginOne [.ref 108] d e (some (.int q.1)) q.2.1 q.2.2 := by
  refine Ev.of (by decide) rfl (Nat.le_of_ble_eq_true rfl) (fun z => by cases z) ?_
  show Rn Γ (6) mX11_beginOne 0 [some (.ref 108), none] [] d e _ _ _
  unfold FX11_beginOne at h
  refine a_ite h (fun c1 h => ?_) (fun c1 h => ?_)
  · refine bX11_beginOne_0 (fun z => absurd c1 z) (fun _ => ?_)
    refine a_ite h (fun c2 h => ?_) (fun c2 h => ?_)
    · refine bX11_beginOne_8 (fun _ => ?_) (fun z => absurd c2 z)
      obtain ⟨q3, hq3, h⟩ := Option.bind_eq_some_iff.mp h
      refine bX11_beginOne_20 (evX11_nameOf hq3) (by omega) ?_
      refine a_ite h (fun c4 h => ?_) (fun c4 h => ?_)
      · refine bX11_beginOne_24 (fun _ => ?_) (fun z => absurd c4 z)
        refine a_ite h (fun c5 h => ?_) (fun c5 h => ?_)
        · refine bX11_beginOne_39 (fun _ => ?_) (fun z => absurd c5 z)
          refine a_ite h (fun c6 h => ?_) (fun c6 h => ?_)
          · refine bX11_beginOne_51 (fun z => absurd c6 z) (fun _ => ?_)
            refine bX11_beginOne_60 ?_
            refine a_ite h (fun c7 h => ?_) (fun c7 h => ?_)
            · refine bX11_beginOne_65 (fun z => absurd c7 z) (fun _ => ?_)
              refine bX11_beginOne_73 ?_
              obtain ⟨q8, hq8, h⟩ := Option.bind_eq_some_iff.mp h
              refine bX11_beginOne_81 (evX11_emit hq8) (by omega) ?_
              obtain ⟨q9, hq9, h⟩ := Option.bind_eq_some_iff.mp h
              refine bX11_beginOne_84 (evX11_nextToken hq9) (by omega) ?_
              obtain ⟨q10, hq10, h⟩ := Option.bind_eq_some_iff.mp h
              refine bX11_beginOne_88 (evX11_endOne hq10) (by omega) ?_
              cases h
              exact bX11_beginOne_92
            · refine bX11_beginOne_65 (fun _ => ?_) (fun z => absurd z c7)
              refine bX11_beginOne_80 ?_
              obtain ⟨q11, hq11, h⟩ := Option.bind_eq_some_iff.mp h
              refine bX11_beginOne_81 (evX11_emit hq11) (by omega) ?_
              obtain ⟨q12, hq12, h⟩ := Option.bind_eq_some_iff.mp h
              refine bX11_beginOne_84 (evX11_nextToken hq12) (by omega) ?_
              obtain ⟨q13, hq13, h⟩ := Option.bind_eq_some_iff.mp h
              refine bX11_beginOne_88 (evX11_endOne hq13) (by omega) ?_
              cases h
              exact bX11_beginOne_92
          · refine bX11_beginOne_51 (fun _ => ?_) (fun z => absurd z c6)
            refine bX11_beginOne_64 ?_
            refine a_ite h (fun c14 h => ?_) (fun c14 h => ?_)
            · refine bX11_beginOne_65 (fun z => absurd c14 z) (fun _ => ?_)
              refine bX11_beginOne_73 ?_
              obtain ⟨q15, hq15, h⟩ := Option.bind_eq_some_iff.mp h
              refine bX11_beginOne_81 (evX11_emit hq15) (by omega) ?_
              obtain ⟨q16, hq16, h⟩ := Option.bind_eq_some_iff.mp h
              refine bX11_beginOne_84 (evX11_nextToken hq16) (by omega) ?_
              obtain ⟨q17, hq17, h⟩ := Option.bind_eq_some_iff.mp h
              refine bX11_beginOne_88 (evX11_endOne hq17) (by omega) ?_
              cases h
              exact bX11_beginOne_92
            · refine bX11_beginOne_65 (fun _ => ?_) (fun z => absurd z c14)
              refine bX11_beginOne_80 ?_
              obtain ⟨q18, hq18, h⟩ := Option.bind_eq_some_iff.mp h
              refine bX11_beginOne_81 (evX11_emit hq18) (by omega) ?_
              obtain ⟨q19, hq19, h⟩ := Option.bind_eq_some_iff.mp h
              refine bX11_beginOne_84 (evX11_nextToken hq19) (by omega) ?_
              obtain ⟨q20, hq20, h⟩ := Option.bind_eq_some_iff.mp h
              refine bX11_beginOne_88 (evX11_endOne hq20) (by omega) ?_
              cases h
              exact bX11_beginOne_92
        · refine bX11_beginOne_39 (fun z => absurd z c5) (fun _ => ?_)
          refine a_ite h (fun c21 h => ?_) (fun c21 h => ?_)
          · refine bX11_beginOne_47 (fun _ => ?_) (fun z => absurd c21 z)
            refine a_ite h (fun c22 h => ?_) (fun c22 h => ?_)
            · refine bX11_beginOne_93 (fun z => absurd c22 z) (fun _ => ?_)
              obtain ⟨q23, hq23, h⟩ := Option.bind_eq_some_iff.mp h
              refine bX11_beginOne_102 (evX11_opened hq23) (by omega) ?_
              cases h
              exact bX11_beginOne_108
            · refine bX11_beginOne_93 (fun _ => ?_) (fun z => absurd z c22)
              refine a_ite h (fun c24 h => ?_) (fun c24 h => ?_)
              · refine bX11_beginOne_109 (fun z => absurd c24 z) (fun _ => ?_)
                obtain ⟨q25, hq25, h⟩ := Option.bind_eq_some_iff.mp h
                refine bX11_beginOne_118 (evX11_opened hq25) (by omega) ?_
                cases h
                exact bX11_beginOne_123
              · refine bX11_beginOne_109 (fun _ => ?_) (fun z => absurd z c24)
                obtain ⟨q26, hq26, h⟩ := Option.bind_eq_some_iff.mp h
                refine bX11_beginOne_124 (evX11_w4 hq26) (by omega) ?_
                obtain ⟨q27, hq27, h⟩ := Option.bind_eq_some_iff.mp h
                refine bX11_beginOne_136 (evX11_isWord hq27) (by omega) ?_
                refine a_ite h (fun c28 h => ?_) (fun c28 h => ?_)
                · refine bX11_beginOne_139 (fun _ => ?_) (fun z => absurd c28 z)
                  obtain ⟨q29, hq29, h⟩ := Option.bind_eq_some_iff.mp h
                  refine bX11_beginOne_149 (evX11_w5 hq29) (by omega) ?_
                  obtain ⟨q30, hq30, h⟩ := Option.bind_eq_some_iff.mp h
                  refine bX11_beginOne_163 (evX11_isWord hq30) (by omega) ?_
                  refine a_ite h (fun c31 h => ?_) (fun c31 h => ?_)
                  · refine bX11_beginOne_166 (fun _ => ?_) (fun z => absurd c31 z)
                    obtain ⟨q32, hq32, h⟩ := Option.bind_eq_some_iff.mp h
                    refine bX11_beginOne_175 (evX11_w2 hq32) (by omega) ?_
                    obtain ⟨q33, hq33, h⟩ := Option.bind_eq_some_iff.mp h
                    refine bX11_beginOne_183 (evX11_isWord hq33) (by omega) ?_
                    refine a_ite h (fun c34 h => ?_) (fun c34 h => ?_)
                    · refine bX11_beginOne_186 (fun _ => ?_) (fun z => absurd c34 z)
                      obtain ⟨q35, hq35, h⟩ := Option.bind_eq_some_iff.mp h
                      refine bX11_beginOne_196 (evX11_w3 hq35) (by omega) ?_
                      obtain ⟨q36, hq36, h⟩ := Option.bind_eq_some_iff.mp h
                      refine bX11_beginOne_206 (evX11_isWord hq36) (by omega) ?_
                      refine a_ite h (fun c37 h => ?_) (fun c37 h => ?_)
                      · refine bX11_beginOne_209 (fun _ => ?_) (fun z => absurd c37 z)
                        refine bX11_beginOne_228 ?_
                        cases h
                        exact bX11_beginOne_229
                      · refine bX11_beginOne_209 (fun z => absurd z c37) (fun _ => ?_)
                        obtain ⟨q38, hq38, h⟩ := Option.bind_eq_some_iff.mp h
                        refine bX11_beginOne_212 (evX11_isAskAhead hq38) (by omega) ?_
                        refine a_ite h (fun c39 h => ?_) (fun c39 h => ?_)
                        · refine bX11_beginOne_216 (fun _ => ?_) (fun z => absurd c39 z)
                          refine bX11_beginOne_228 ?_
                          cases h
                          exact bX11_beginOne_229
                        · refine bX11_beginOne_216 (fun z => absurd z c39) (fun _ => ?_)
                          obtain ⟨q40, hq40, h⟩ := Option.bind_eq_some_iff.mp h
                          refine bX11_beginOne_219 (evX11_opened hq40) (by omega) ?_
                          refine bX11_beginOne_225 ?_
                          cases h
                          exact bX11_beginOne_229
                    · refine bX11_beginOne_186 (fun z => absurd z c34) (fun _ => ?_)
                      obtain ⟨q41, hq41, h⟩ := Option.bind_eq_some_iff.mp h
                      refine bX11_beginOne_189 (evX11_opened hq41) (by omega) ?_
                      cases h
                      exact bX11_beginOne_195
                  · refine bX11_beginOne_166 (fun z => absurd z c31) (fun _ => ?_)
                    obtain ⟨q42, hq42, h⟩ := Option.bind_eq_some_iff.mp h
                    refine bX11_beginOne_169 (evX11_opened hq42) (by omega) ?_
                    cases h
                    exact bX11_beginOne_174
                · refine bX11_beginOne_139 (fun z => absurd z c28) (fun _ => ?_)
                  obtain ⟨q43, hq43, h⟩ := Option.bind_eq_some_iff.mp h
                  refine bX11_beginOne_142 (evX11_opened hq43) (by omega) ?_
                  cases h
                  exact bX11_beginOne_148
          · refine bX11_beginOne_47 (fun z => absurd z c21) (fun _ => ?_)
            refine a_ite h (fun c44 h => ?_) (fun c44 h => ?_)
            · refine bX11_beginOne_51 (fun z => absurd c44 z) (fun _ => ?_)
              refine bX11_beginOne_60 ?_
              refine a_ite h (fun c45 h => ?_) (fun c45 h => ?_)
              · refine bX11_beginOne_65 (fun z => absurd c45 z) (fun _ => ?_)
                refine bX11_beginOne_73 ?_
                obtain ⟨q46, hq46, h⟩ := Option.bind_eq_some_iff.mp h
                refine bX11_beginOne_81 (evX11_emit hq46) (by omega) ?_
                obtain ⟨q47, hq47, h⟩ := Option.bind_eq_some_iff.mp h
                refine bX11_beginOne_84 (evX11_nextToken hq47) (by omega) ?_
                obtain ⟨q48, hq48, h⟩ := Option.bind_eq_some_iff.mp h
                refine bX11_beginOne_88 (evX11_endOne hq48) (by omega) ?_
                cases h
                exact bX11_beginOne_92
              · refine bX11_beginOne_65 (fun _ => ?_) (fun z => absurd z c45)
                refine bX11_beginOne_80 ?_
                obtain ⟨q49, hq49, h⟩ := Option.bind_eq_some_iff.mp h
                refine bX11_beginOne_81 (evX11_emit hq49) (by omega) ?_
                obtain ⟨q50, hq50, h⟩ := Option.bind_eq_some_iff.mp h
                refine bX11_beginOne_84 (evX11_nextToken hq50) (by omega) ?_
                obtain ⟨q51, hq51, h⟩ := Option.bind_eq_some_iff.mp h
                refine bX11_beginOne_88 (evX11_endOne hq51) (by omega) ?_
                cases h
                exact bX11_beginOne_92
            · refine bX11_beginOne_51 (fun _ => ?_) (fun z => absurd z c44)
              refine bX11_beginOne_64 ?_
              refine a_ite h (fun c52 h => ?_) (fun c52 h => ?_)
              · refine bX11_beginOne_65 (fun z => absurd c52 z) (fun _ => ?_)
                refine bX11_beginOne_73 ?_
                obtain ⟨q53, hq53, h⟩ := Option.bind_eq_some_iff.mp h
                refine bX11_beginOne_81 (evX11_emit hq53) (by omega) ?_
                obtain ⟨q54, hq54, h⟩ := Option.bind_eq_some_iff.mp h
                refine bX11_beginOne_84 (evX11_nextToken hq54) (by omega) ?_
                obtain ⟨q55, hq55, h⟩ := Option.bind_eq_some_iff.mp h
                refine bX11_beginOne_88 (evX11_endOne hq55) (by omega) ?_
                cases h
                exact bX11_beginOne_92
              · refine bX11_beginOne_65 (fun _ => ?_) (fun z => absurd z c52)
                refine bX11_beginOne_80 ?_
                obtain ⟨q56, hq56, h⟩ := Option.bind_eq_some_iff.mp h
                refine bX11_beginOne_81 (evX11_emit hq56) (by omega) ?_
                obtain ⟨q57, hq57, h⟩ := Option.bind_eq_some_iff.mp h
                refine bX11_beginOne_84 (evX11_nextToken hq57) (by omega) ?_
                obtain ⟨q58, hq58, h⟩ := Option.bind_eq_some_iff.mp h
                refine bX11_beginOne_88 (evX11_endOne hq58) (by omega) ?_
                cases h
                exact bX11_beginOne_92
      · refine bX11_beginOne_24 (fun z => absurd z c4) (fun _ => ?_)
        obtain ⟨q59, hq59, h⟩ := Option.bind_eq_some_iff.mp h
        refine bX11_beginOne_29 (evX11_isOf hq59) (by omega) ?_
        refine a_ite h (fun c60 h => ?_) (fun c60 h => ?_)
        · refine bX11_beginOne_34 (fun z => absurd c60 z) (fun _ => ?_)
          cases h
          exact bX11_beginOne_37
        · refine bX11_beginOne_34 (fun _ => ?_) (fun z => absurd z c60)
          refine a_ite h (fun c61 h => ?_) (fun c61 h => ?_)
          · refine bX11_beginOne_39 (fun _ => ?_) (fun z => absurd c61 z)
            refine a_ite h (fun c62 h => ?_) (fun c62 h => ?_)
            · refine bX11_beginOne_51 (fun z => absurd c62 z) (fun _ => ?_)
              refine bX11_beginOne_60 ?_
              refine a_ite h (fun c63 h => ?_) (fun c63 h => ?_)
              · refine bX11_beginOne_65 (fun z => absurd c63 z) (fun _ => ?_)
                refine bX11_beginOne_73 ?_
                obtain ⟨q64, hq64, h⟩ := Option.bind_eq_some_iff.mp h
                refine bX11_beginOne_81 (evX11_emit hq64) (by omega) ?_
                obtain ⟨q65, hq65, h⟩ := Option.bind_eq_some_iff.mp h
                refine bX11_beginOne_84 (evX11_nextToken hq65) (by omega) ?_
                obtain ⟨q66, hq66, h⟩ := Option.bind_eq_some_iff.mp h
                refine bX11_beginOne_88 (evX11_endOne hq66) (by omega) ?_
                cases h
                exact bX11_beginOne_92
              · refine bX11_beginOne_65 (fun _ => ?_) (fun z => absurd z c63)
                refine bX11_beginOne_80 ?_
                obtain ⟨q67, hq67, h⟩ := Option.bind_eq_some_iff.mp h
                refine bX11_beginOne_81 (evX11_emit hq67) (by omega) ?_
                obtain ⟨q68, hq68, h⟩ := Option.bind_eq_some_iff.mp h
                refine bX11_beginOne_84 (evX11_nextToken hq68) (by omega) ?_
                obtain ⟨q69, hq69, h⟩ := Option.bind_eq_some_iff.mp h
                refine bX11_beginOne_88 (evX11_endOne hq69) (by omega) ?_
                cases h
                exact bX11_beginOne_92
            · refine bX11_beginOne_51 (fun _ => ?_) (fun z => absurd z c62)
              refine bX11_beginOne_64 ?_
              refine a_ite h (fun c70 h => ?_) (fun c70 h => ?_)
              · refine bX11_beginOne_65 (fun z => absurd c70 z) (fun _ => ?_)
                refine bX11_beginOne_73 ?_
                obtain ⟨q71, hq71, h⟩ := Option.bind_eq_some_iff.mp h
                refine bX11_beginOne_81 (evX11_emit hq71) (by omega) ?_
                obtain ⟨q72, hq72, h⟩ := Option.bind_eq_some_iff.mp h
                refine bX11_beginOne_84 (evX11_nextToken hq72) (by omega) ?_
                obtain ⟨q73, hq73, h⟩ := Option.bind_eq_some_iff.mp h
                refine bX11_beginOne_88 (evX11_endOne hq73) (by omega) ?_
                cases h
                exact bX11_beginOne_92
              · refine bX11_beginOne_65 (fun _ => ?_) (fun z => absurd z c70)
                refine bX11_beginOne_80 ?_
                obtain ⟨q74, hq74, h⟩ := Option.bind_eq_some_iff.mp h
                refine bX11_beginOne_81 (evX11_emit hq74) (by omega) ?_
                obtain ⟨q75, hq75, h⟩ := Option.bind_eq_some_iff.mp h
                refine bX11_beginOne_84 (evX11_nextToken hq75) (by omega) ?_
                obtain ⟨q76, hq76, h⟩ := Option.bind_eq_some_iff.mp h
                refine bX11_beginOne_88 (evX11_endOne hq76) (by omega) ?_
                cases h
                exact bX11_beginOne_92
          · refine bX11_beginOne_39 (fun z => absurd z c61) (fun _ => ?_)
            refine a_ite h (fun c77 h => ?_) (fun c77 h => ?_)
            · refine bX11_beginOne_47 (fun _ => ?_) (fun z => absurd c77 z)
              refine a_ite h (fun c78 h => ?_) (fun c78 h => ?_)
              · refine bX11_beginOne_93 (fun z => absurd c78 z) (fun _ => ?_)
                obtain ⟨q79, hq79, h⟩ := Option.bind_eq_some_iff.mp h
                refine bX11_beginOne_102 (evX11_opened hq79) (by omega) ?_
                cases h
                exact bX11_beginOne_108
              · refine bX11_beginOne_93 (fun _ => ?_) (fun z => absurd z c78)
                refine a_ite h (fun c80 h => ?_) (fun c80 h => ?_)
                · refine bX11_beginOne_109 (fun z => absurd c80 z) (fun _ => ?_)
                  obtain ⟨q81, hq81, h⟩ := Option.bind_eq_some_iff.mp h
                  refine bX11_beginOne_118 (evX11_opened hq81) (by omega) ?_
                  cases h
                  exact bX11_beginOne_123
                · refine bX11_beginOne_109 (fun _ => ?_) (fun z => absurd z c80)
                  obtain ⟨q82, hq82, h⟩ := Option.bind_eq_some_iff.mp h
                  refine bX11_beginOne_124 (evX11_w4 hq82) (by omega) ?_
                  obtain ⟨q83, hq83, h⟩ := Option.bind_eq_some_iff.mp h
                  refine bX11_beginOne_136 (evX11_isWord hq83) (by omega) ?_
                  refine a_ite h (fun c84 h => ?_) (fun c84 h => ?_)
                  · refine bX11_beginOne_139 (fun _ => ?_) (fun z => absurd c84 z)
                    obtain ⟨q85, hq85, h⟩ := Option.bind_eq_some_iff.mp h
                    refine bX11_beginOne_149 (evX11_w5 hq85) (by omega) ?_
                    obtain ⟨q86, hq86, h⟩ := Option.bind_eq_some_iff.mp h
                    refine bX11_beginOne_163 (evX11_isWord hq86) (by omega) ?_
                    refine a_ite h (fun c87 h => ?_) (fun c87 h => ?_)
                    · refine bX11_beginOne_166 (fun _ => ?_) (fun z => absurd c87 z)
                      obtain ⟨q88, hq88, h⟩ := Option.bind_eq_some_iff.mp h
                      refine bX11_beginOne_175 (evX11_w2 hq88) (by omega) ?_
                      obtain ⟨q89, hq89, h⟩ := Option.bind_eq_some_iff.mp h
                      refine bX11_beginOne_183 (evX11_isWord hq89) (by omega) ?_
                      refine a_ite h (fun c90 h => ?_) (fun c90 h => ?_)
                      · refine bX11_beginOne_186 (fun _ => ?_) (fun z => absurd c90 z)
                        obtain ⟨q91, hq91, h⟩ := Option.bind_eq_some_iff.mp h
                        refine bX11_beginOne_196 (evX11_w3 hq91) (by omega) ?_
                        obtain ⟨q92, hq92, h⟩ := Option.bind_eq_some_iff.mp h
                        refine bX11_beginOne_206 (evX11_isWord hq92) (by omega) ?_
                        refine a_ite h (fun c93 h => ?_) (fun c93 h => ?_)
                        · refine bX11_beginOne_209 (fun _ => ?_) (fun z => absurd c93 z)
                          refine bX11_beginOne_228 ?_
                          cases h
                          exact bX11_beginOne_229
                        · refine bX11_beginOne_209 (fun z => absurd z c93) (fun _ => ?_)
                          obtain ⟨q94, hq94, h⟩ := Option.bind_eq_some_iff.mp h
                          refine bX11_beginOne_212 (evX11_isAskAhead hq94) (by omega) ?_
                          refine a_ite h (fun c95 h => ?_) (fun c95 h => ?_)
                          · refine bX11_beginOne_216 (fun _ => ?_) (fun z => absurd c95 z)
                            refine bX11_beginOne_228 ?_
                            cases h
                            exact bX11_beginOne_229
                          · refine bX11_beginOne_216 (fun z => absurd z c95) (fun _ => ?_)
                            obtain ⟨q96, hq96, h⟩ := Option.bind_eq_some_iff.mp h
                            refine bX11_beginOne_219 (evX11_opened hq96) (by omega) ?_
                            refine bX11_beginOne_225 ?_
                            cases h
                            exact bX11_beginOne_229
                      · refine bX11_beginOne_186 (fun z => absurd z c90) (fun _ => ?_)
                        obtain ⟨q97, hq97, h⟩ := Option.bind_eq_some_iff.mp h
                        refine bX11_beginOne_189 (evX11_opened hq97) (by omega) ?_
                        cases h
                        exact bX11_beginOne_195
                    · refine bX11_beginOne_166 (fun z => absurd z c87) (fun _ => ?_)
                      obtain ⟨q98, hq98, h⟩ := Option.bind_eq_some_iff.mp h
                      refine bX11_beginOne_169 (evX11_opened hq98) (by omega) ?_
                      cases h
                      exact bX11_beginOne_174
                  · refine bX11_beginOne_139 (fun z => absurd z c84) (fun _ => ?_)
                    obtain ⟨q99, hq99, h⟩ := Option.bind_eq_some_iff.mp h
                    refine bX11_beginOne_142 (evX11_opened hq99) (by omega) ?_
                    cases h
                    exact bX11_beginOne_148
            · refine bX11_beginOne_47 (fun z => absurd z c77) (fun _ => ?_)
              refine a_ite h (fun c100 h => ?_) (fun c100 h => ?_)
              · refine bX11_beginOne_51 (fun z => absurd c100 z) (fun _ => ?_)
                refine bX11_beginOne_60 ?_
                refine a_ite h (fun c101 h => ?_) (fun c101 h => ?_)
                · refine bX11_beginOne_65 (fun z => absurd c101 z) (fun _ => ?_)
                  refine bX11_beginOne_73 ?_
                  obtain ⟨q102, hq102, h⟩ := Option.bind_eq_some_iff.mp h
                  refine bX11_beginOne_81 (evX11_emit hq102) (by omega) ?_
                  obtain ⟨q103, hq103, h⟩ := Option.bind_eq_some_iff.mp h
                  refine bX11_beginOne_84 (evX11_nextToken hq103) (by omega) ?_
                  obtain ⟨q104, hq104, h⟩ := Option.bind_eq_some_iff.mp h
                  refine bX11_beginOne_88 (evX11_endOne hq104) (by omega) ?_
                  cases h
                  exact bX11_beginOne_92
                · refine bX11_beginOne_65 (fun _ => ?_) (fun z => absurd z c101)
                  refine bX11_beginOne_80 ?_
                  obtain ⟨q105, hq105, h⟩ := Option.bind_eq_some_iff.mp h
                  refine bX11_beginOne_81 (evX11_emit hq105) (by omega) ?_
                  obtain ⟨q106, hq106, h⟩ := Option.bind_eq_some_iff.mp h
                  refine bX11_beginOne_84 (evX11_nextToken hq106) (by omega) ?_
                  obtain ⟨q107, hq107, h⟩ := Option.bind_eq_some_iff.mp h
                  refine bX11_beginOne_88 (evX11_endOne hq107) (by omega) ?_
                  cases h
                  exact bX11_beginOne_92
              · refine bX11_beginOne_51 (fun _ => ?_) (fun z => absurd z c100)
                refine bX11_beginOne_64 ?_
                refine a_ite h (fun c108 h => ?_) (fun c108 h => ?_)
                · refine bX11_beginOne_65 (fun z => absurd c108 z) (fun _ => ?_)
                  refine bX11_beginOne_73 ?_
                  obtain ⟨q109, hq109, h⟩ := Option.bind_eq_some_iff.mp h
                  refine bX11_beginOne_81 (evX11_emit hq109) (by omega) ?_
                  obtain ⟨q110, hq110, h⟩ := Option.bind_eq_some_iff.mp h
                  refine bX11_beginOne_84 (evX11_nextToken hq110) (by omega) ?_
                  obtain ⟨q111, hq111, h⟩ := Option.bind_eq_some_iff.mp h
                  refine bX11_beginOne_88 (evX11_endOne hq111) (by omega) ?_
                  cases h
                  exact bX11_beginOne_92
                · refine bX11_beginOne_65 (fun _ => ?_) (fun z => absurd z c108)
                  refine bX11_beginOne_80 ?_
                  obtain ⟨q112, hq112, h⟩ := Option.bind_eq_some_iff.mp h
                  refine bX11_beginOne_81 (evX11_emit hq112) (by omega) ?_
                  obtain ⟨q113, hq113, h⟩ := Option.bind_eq_some_iff.mp h
                  refine bX11_beginOne_84 (evX11_nextToken hq113) (by omega) ?_
                  obtain ⟨q114, hq114, h⟩ := Option.bind_eq_some_iff.mp h
                  refine bX11_beginOne_88 (evX11_endOne hq114) (by omega) ?_
                  cases h
                  exact bX11_beginOne_92
    · refine bX11_beginOne_8 (fun z => absurd z c2) (fun _ => ?_)
      cases h
      exact bX11_beginOne_18
  · refine bX11_beginOne_0 (fun _ => ?_) (fun z => absurd z c1)
    obtain ⟨q115, hq115, h⟩ := Option.bind_eq_some_iff.mp h
    refine bX11_beginOne_20 (evX11_nameOf hq115) (by omega) ?_
    refine a_ite h (fun c116 h => ?_) (fun c116 h => ?_)
    · refine bX11_beginOne_24 (fun _ => ?_) (fun z => absurd c116 z)
      refine a_ite h (fun c117 h => ?_) (fun c117 h => ?_)
      · refine bX11_beginOne_39 (fun _ => ?_) (fun z => absurd c117 z)
        refine a_ite h (fun c118 h => ?_) (fun c118 h => ?_)
        · refine bX11_beginOne_51 (fun z => absurd c118 z) (fun _ => ?_)
          refine bX11_beginOne_60 ?_
          refine a_ite h (fun c119 h => ?_) (fun c119 h => ?_)
          · refine bX11_beginOne_65 (fun z => absurd c119 z) (fun _ => ?_)
            refine bX11_beginOne_73 ?_
            obtain ⟨q120, hq120, h⟩ := Option.bind_eq_some_iff.mp h
            refine bX11_beginOne_81 (evX11_emit hq120) (by omega) ?_
            obtain ⟨q121, hq121, h⟩ := Option.bind_eq_some_iff.mp h
            refine bX11_beginOne_84 (evX11_nextToken hq121) (by omega) ?_
            obtain ⟨q122, hq122, h⟩ := Option.bind_eq_some_iff.mp h
            refine bX11_beginOne_88 (evX11_endOne hq122) (by omega) ?_
            cases h
            exact bX11_beginOne_92
          · refine bX11_beginOne_65 (fun _ => ?_) (fun z => absurd z c119)
            refine bX11_beginOne_80 ?_
            obtain ⟨q123, hq123, h⟩ := Option.bind_eq_some_iff.mp h
            refine bX11_beginOne_81 (evX11_emit hq123) (by omega) ?_
            obtain ⟨q124, hq124, h⟩ := Option.bind_eq_some_iff.mp h
            refine bX11_beginOne_84 (evX11_nextToken hq124) (by omega) ?_
            obtain ⟨q125, hq125, h⟩ := Option.bind_eq_some_iff.mp h
            refine bX11_beginOne_88 (evX11_endOne hq125) (by omega) ?_
            cases h
            exact bX11_beginOne_92
        · refine bX11_beginOne_51 (fun _ => ?_) (fun z => absurd z c118)
          refine bX11_beginOne_64 ?_
          refine a_ite h (fun c126 h => ?_) (fun c126 h => ?_)
          · refine bX11_beginOne_65 (fun z => absurd c126 z) (fun _ => ?_)
            refine bX11_beginOne_73 ?_
            obtain ⟨q127, hq127, h⟩ := Option.bind_eq_some_iff.mp h
            refine bX11_beginOne_81 (evX11_emit hq127) (by omega) ?_
            obtain ⟨q128, hq128, h⟩ := Option.bind_eq_some_iff.mp h
            refine bX11_beginOne_84 (evX11_nextToken hq128) (by omega) ?_
            obtain ⟨q129, hq129, h⟩ := Option.bind_eq_some_iff.mp h
            refine bX11_beginOne_88 (evX11_endOne hq129) (by omega) ?_
            cases h
            exact bX11_beginOne_92
          · refine bX11_beginOne_65 (fun _ => ?_) (fun z => absurd z c126)
            refine bX11_beginOne_80 ?_
            obtain ⟨q130, hq130, h⟩ := Option.bind_eq_some_iff.mp h
            refine bX11_beginOne_81 (evX11_emit hq130) (by omega) ?_
            obtain ⟨q131, hq131, h⟩ := Option.bind_eq_some_iff.mp h
            refine bX11_beginOne_84 (evX11_nextToken hq131) (by omega) ?_
            obtain ⟨q132, hq132, h⟩ := Option.bind_eq_some_iff.mp h
            refine bX11_beginOne_88 (evX11_endOne hq132) (by omega) ?_
            cases h
            exact bX11_beginOne_92
      · refine bX11_beginOne_39 (fun z => absurd z c117) (fun _ => ?_)
        refine a_ite h (fun c133 h => ?_) (fun c133 h => ?_)
        · refine bX11_beginOne_47 (fun _ => ?_) (fun z => absurd c133 z)
          refine a_ite h (fun c134 h => ?_) (fun c134 h => ?_)
          · refine bX11_beginOne_93 (fun z => absurd c134 z) (fun _ => ?_)
            obtain ⟨q135, hq135, h⟩ := Option.bind_eq_some_iff.mp h
            refine bX11_beginOne_102 (evX11_opened hq135) (by omega) ?_
            cases h
            exact bX11_beginOne_108
          · refine bX11_beginOne_93 (fun _ => ?_) (fun z => absurd z c134)
            refine a_ite h (fun c136 h => ?_) (fun c136 h => ?_)
            · refine bX11_beginOne_109 (fun z => absurd c136 z) (fun _ => ?_)
              obtain ⟨q137, hq137, h⟩ := Option.bind_eq_some_iff.mp h
              refine bX11_beginOne_118 (evX11_opened hq137) (by omega) ?_
              cases h
              exact bX11_beginOne_123
            · refine bX11_beginOne_109 (fun _ => ?_) (fun z => absurd z c136)
              obtain ⟨q138, hq138, h⟩ := Option.bind_eq_some_iff.mp h
              refine bX11_beginOne_124 (evX11_w4 hq138) (by omega) ?_
              obtain ⟨q139, hq139, h⟩ := Option.bind_eq_some_iff.mp h
              refine bX11_beginOne_136 (evX11_isWord hq139) (by omega) ?_
              refine a_ite h (fun c140 h => ?_) (fun c140 h => ?_)
              · refine bX11_beginOne_139 (fun _ => ?_) (fun z => absurd c140 z)
                obtain ⟨q141, hq141, h⟩ := Option.bind_eq_some_iff.mp h
                refine bX11_beginOne_149 (evX11_w5 hq141) (by omega) ?_
                obtain ⟨q142, hq142, h⟩ := Option.bind_eq_some_iff.mp h
                refine bX11_beginOne_163 (evX11_isWord hq142) (by omega) ?_
                refine a_ite h (fun c143 h => ?_) (fun c143 h => ?_)
                · refine bX11_beginOne_166 (fun _ => ?_) (fun z => absurd c143 z)
                  obtain ⟨q144, hq144, h⟩ := Option.bind_eq_some_iff.mp h
                  refine bX11_beginOne_175 (evX11_w2 hq144) (by omega) ?_
                  obtain ⟨q145, hq145, h⟩ := Option.bind_eq_some_iff.mp h
                  refine bX11_beginOne_183 (evX11_isWord hq145) (by omega) ?_
                  refine a_ite h (fun c146 h => ?_) (fun c146 h => ?_)
                  · refine bX11_beginOne_186 (fun _ => ?_) (fun z => absurd c146 z)
                    obtain ⟨q147, hq147, h⟩ := Option.bind_eq_some_iff.mp h
                    refine bX11_beginOne_196 (evX11_w3 hq147) (by omega) ?_
                    obtain ⟨q148, hq148, h⟩ := Option.bind_eq_some_iff.mp h
                    refine bX11_beginOne_206 (evX11_isWord hq148) (by omega) ?_
                    refine a_ite h (fun c149 h => ?_) (fun c149 h => ?_)
                    · refine bX11_beginOne_209 (fun _ => ?_) (fun z => absurd c149 z)
                      refine bX11_beginOne_228 ?_
                      cases h
                      exact bX11_beginOne_229
                    · refine bX11_beginOne_209 (fun z => absurd z c149) (fun _ => ?_)
                      obtain ⟨q150, hq150, h⟩ := Option.bind_eq_some_iff.mp h
                      refine bX11_beginOne_212 (evX11_isAskAhead hq150) (by omega) ?_
                      refine a_ite h (fun c151 h => ?_) (fun c151 h => ?_)
                      · refine bX11_beginOne_216 (fun _ => ?_) (fun z => absurd c151 z)
                        refine bX11_beginOne_228 ?_
                        cases h
                        exact bX11_beginOne_229
                      · refine bX11_beginOne_216 (fun z => absurd z c151) (fun _ => ?_)
                        obtain ⟨q152, hq152, h⟩ := Option.bind_eq_some_iff.mp h
                        refine bX11_beginOne_219 (evX11_opened hq152) (by omega) ?_
                        refine bX11_beginOne_225 ?_
                        cases h
                        exact bX11_beginOne_229
                  · refine bX11_beginOne_186 (fun z => absurd z c146) (fun _ => ?_)
                    obtain ⟨q153, hq153, h⟩ := Option.bind_eq_some_iff.mp h
                    refine bX11_beginOne_189 (evX11_opened hq153) (by omega) ?_
                    cases h
                    exact bX11_beginOne_195
                · refine bX11_beginOne_166 (fun z => absurd z c143) (fun _ => ?_)
                  obtain ⟨q154, hq154, h⟩ := Option.bind_eq_some_iff.mp h
                  refine bX11_beginOne_169 (evX11_opened hq154) (by omega) ?_
                  cases h
                  exact bX11_beginOne_174
              · refine bX11_beginOne_139 (fun z => absurd z c140) (fun _ => ?_)
                obtain ⟨q155, hq155, h⟩ := Option.bind_eq_some_iff.mp h
                refine bX11_beginOne_142 (evX11_opened hq155) (by omega) ?_
                cases h
                exact bX11_beginOne_148
        · refine bX11_beginOne_47 (fun z => absurd z c133) (fun _ => ?_)
          refine a_ite h (fun c156 h => ?_) (fun c156 h => ?_)
          · refine bX11_beginOne_51 (fun z => absurd c156 z) (fun _ => ?_)
            refine bX11_beginOne_60 ?_
            refine a_ite h (fun c157 h => ?_) (fun c157 h => ?_)
            · refine bX11_beginOne_65 (fun z => absurd c157 z) (fun _ => ?_)
              refine bX11_beginOne_73 ?_
              obtain ⟨q158, hq158, h⟩ := Option.bind_eq_some_iff.mp h
              refine bX11_beginOne_81 (evX11_emit hq158) (by omega) ?_
              obtain ⟨q159, hq159, h⟩ := Option.bind_eq_some_iff.mp h
              refine bX11_beginOne_84 (evX11_nextToken hq159) (by omega) ?_
              obtain ⟨q160, hq160, h⟩ := Option.bind_eq_some_iff.mp h
              refine bX11_beginOne_88 (evX11_endOne hq160) (by omega) ?_
              cases h
              exact bX11_beginOne_92
            · refine bX11_beginOne_65 (fun _ => ?_) (fun z => absurd z c157)
              refine bX11_beginOne_80 ?_
              obtain ⟨q161, hq161, h⟩ := Option.bind_eq_some_iff.mp h
              refine bX11_beginOne_81 (evX11_emit hq161) (by omega) ?_
              obtain ⟨q162, hq162, h⟩ := Option.bind_eq_some_iff.mp h
              refine bX11_beginOne_84 (evX11_nextToken hq162) (by omega) ?_
              obtain ⟨q163, hq163, h⟩ := Option.bind_eq_some_iff.mp h
              refine bX11_beginOne_88 (evX11_endOne hq163) (by omega) ?_
              cases h
              exact bX11_beginOne_92
          · refine bX11_beginOne_51 (fun _ => ?_) (fun z => absurd z c156)
            refine bX11_beginOne_64 ?_
            refine a_ite h (fun c164 h => ?_) (fun c164 h => ?_)
            · refine bX11_beginOne_65 (fun z => absurd c164 z) (fun _ => ?_)
              refine bX11_beginOne_73 ?_
              obtain ⟨q165, hq165, h⟩ := Option.bind_eq_some_iff.mp h
              refine bX11_beginOne_81 (evX11_emit hq165) (by omega) ?_
              obtain ⟨q166, hq166, h⟩ := Option.bind_eq_some_iff.mp h
              refine bX11_beginOne_84 (evX11_nextToken hq166) (by omega) ?_
              obtain ⟨q167, hq167, h⟩ := Option.bind_eq_some_iff.mp h
              refine bX11_beginOne_88 (evX11_endOne hq167) (by omega) ?_
              cases h
              exact bX11_beginOne_92
            · refine bX11_beginOne_65 (fun _ => ?_) (fun z => absurd z c164)
              refine bX11_beginOne_80 ?_
              obtain ⟨q168, hq168, h⟩ := Option.bind_eq_some_iff.mp h
              refine bX11_beginOne_81 (evX11_emit hq168) (by omega) ?_
              obtain ⟨q169, hq169, h⟩ := Option.bind_eq_some_iff.mp h
              refine bX11_beginOne_84 (evX11_nextToken hq169) (by omega) ?_
              obtain ⟨q170, hq170, h⟩ := Option.bind_eq_some_iff.mp h
              refine bX11_beginOne_88 (evX11_endOne hq170) (by omega) ?_
              cases h
              exact bX11_beginOne_92
    · refine bX11_beginOne_24 (fun z => absurd z c116) (fun _ => ?_)
      obtain ⟨q171, hq171, h⟩ := Option.bind_eq_some_iff.mp h
      refine bX11_beginOne_29 (evX11_isOf hq171) (by omega) ?_
      refine a_ite h (fun c172 h => ?_) (fun c172 h => ?_)
      · refine bX11_beginOne_34 (fun z => absurd c172 z) (fun _ => ?_)
        cases h
        exact bX11_beginOne_37
      · refine bX11_beginOne_34 (fun _ => ?_) (fun z => absurd z c172)
        refine a_ite h (fun c173 h => ?_) (fun c173 h => ?_)
        · refine bX11_beginOne_39 (fun _ => ?_) (fun z => absurd c173 z)
          refine a_ite h (fun c174 h => ?_) (fun c174 h => ?_)
          · refine bX11_beginOne_51 (fun z => absurd c174 z) (fun _ => ?_)
            refine bX11_beginOne_60 ?_
            refine a_ite h (fun c175 h => ?_) (fun c175 h => ?_)
            · refine bX11_beginOne_65 (fun z => absurd c175 z) (fun _ => ?_)
              refine bX11_beginOne_73 ?_
              obtain ⟨q176, hq176, h⟩ := Option.bind_eq_some_iff.mp h
              refine bX11_beginOne_81 (evX11_emit hq176) (by omega) ?_
              obtain ⟨q177, hq177, h⟩ := Option.bind_eq_some_iff.mp h
              refine bX11_beginOne_84 (evX11_nextToken hq177) (by omega) ?_
              obtain ⟨q178, hq178, h⟩ := Option.bind_eq_some_iff.mp h
              refine bX11_beginOne_88 (evX11_endOne hq178) (by omega) ?_
              cases h
              exact bX11_beginOne_92
            · refine bX11_beginOne_65 (fun _ => ?_) (fun z => absurd z c175)
              refine bX11_beginOne_80 ?_
              obtain ⟨q179, hq179, h⟩ := Option.bind_eq_some_iff.mp h
              refine bX11_beginOne_81 (evX11_emit hq179) (by omega) ?_
              obtain ⟨q180, hq180, h⟩ := Option.bind_eq_some_iff.mp h
              refine bX11_beginOne_84 (evX11_nextToken hq180) (by omega) ?_
              obtain ⟨q181, hq181, h⟩ := Option.bind_eq_some_iff.mp h
              refine bX11_beginOne_88 (evX11_endOne hq181) (by omega) ?_
              cases h
              exact bX11_beginOne_92
          · refine bX11_beginOne_51 (fun _ => ?_) (fun z => absurd z c174)
            refine bX11_beginOne_64 ?_
            refine a_ite h (fun c182 h => ?_) (fun c182 h => ?_)
            · refine bX11_beginOne_65 (fun z => absurd c182 z) (fun _ => ?_)
              refine bX11_beginOne_73 ?_
              obtain ⟨q183, hq183, h⟩ := Option.bind_eq_some_iff.mp h
              refine bX11_beginOne_81 (evX11_emit hq183) (by omega) ?_
              obtain ⟨q184, hq184, h⟩ := Option.bind_eq_some_iff.mp h
              refine bX11_beginOne_84 (evX11_nextToken hq184) (by omega) ?_
              obtain ⟨q185, hq185, h⟩ := Option.bind_eq_some_iff.mp h
              refine bX11_beginOne_88 (evX11_endOne hq185) (by omega) ?_
              cases h
              exact bX11_beginOne_92
            · refine bX11_beginOne_65 (fun _ => ?_) (fun z => absurd z c182)
              refine bX11_beginOne_80 ?_
              obtain ⟨q186, hq186, h⟩ := Option.bind_eq_some_iff.mp h
              refine bX11_beginOne_81 (evX11_emit hq186) (by omega) ?_
              obtain ⟨q187, hq187, h⟩ := Option.bind_eq_some_iff.mp h
              refine bX11_beginOne_84 (evX11_nextToken hq187) (by omega) ?_
              obtain ⟨q188, hq188, h⟩ := Option.bind_eq_some_iff.mp h
              refine bX11_beginOne_88 (evX11_endOne hq188) (by omega) ?_
              cases h
              exact bX11_beginOne_92
        · refine bX11_beginOne_39 (fun z => absurd z c173) (fun _ => ?_)
          refine a_ite h (fun c189 h => ?_) (fun c189 h => ?_)
          · refine bX11_beginOne_47 (fun _ => ?_) (fun z => absurd c189 z)
            refine a_ite h (fun c190 h => ?_) (fun c190 h => ?_)
            · refine bX11_beginOne_93 (fun z => absurd c190 z) (fun _ => ?_)
              obtain ⟨q191, hq191, h⟩ := Option.bind_eq_some_iff.mp h
              refine bX11_beginOne_102 (evX11_opened hq191) (by omega) ?_
              cases h
              exact bX11_beginOne_108
            · refine bX11_beginOne_93 (fun _ => ?_) (fun z => absurd z c190)
              refine a_ite h (fun c192 h => ?_) (fun c192 h => ?_)
              · refine bX11_beginOne_109 (fun z => absurd c192 z) (fun _ => ?_)
                obtain ⟨q193, hq193, h⟩ := Option.bind_eq_some_iff.mp h
                refine bX11_beginOne_118 (evX11_opened hq193) (by omega) ?_
                cases h
                exact bX11_beginOne_123
              · refine bX11_beginOne_109 (fun _ => ?_) (fun z => absurd z c192)
                obtain ⟨q194, hq194, h⟩ := Option.bind_eq_some_iff.mp h
                refine bX11_beginOne_124 (evX11_w4 hq194) (by omega) ?_
                obtain ⟨q195, hq195, h⟩ := Option.bind_eq_some_iff.mp h
                refine bX11_beginOne_136 (evX11_isWord hq195) (by omega) ?_
                refine a_ite h (fun c196 h => ?_) (fun c196 h => ?_)
                · refine bX11_beginOne_139 (fun _ => ?_) (fun z => absurd c196 z)
                  obtain ⟨q197, hq197, h⟩ := Option.bind_eq_some_iff.mp h
                  refine bX11_beginOne_149 (evX11_w5 hq197) (by omega) ?_
                  obtain ⟨q198, hq198, h⟩ := Option.bind_eq_some_iff.mp h
                  refine bX11_beginOne_163 (evX11_isWord hq198) (by omega) ?_
                  refine a_ite h (fun c199 h => ?_) (fun c199 h => ?_)
                  · refine bX11_beginOne_166 (fun _ => ?_) (fun z => absurd c199 z)
                    obtain ⟨q200, hq200, h⟩ := Option.bind_eq_some_iff.mp h
                    refine bX11_beginOne_175 (evX11_w2 hq200) (by omega) ?_
                    obtain ⟨q201, hq201, h⟩ := Option.bind_eq_some_iff.mp h
                    refine bX11_beginOne_183 (evX11_isWord hq201) (by omega) ?_
                    refine a_ite h (fun c202 h => ?_) (fun c202 h => ?_)
                    · refine bX11_beginOne_186 (fun _ => ?_) (fun z => absurd c202 z)
                      obtain ⟨q203, hq203, h⟩ := Option.bind_eq_some_iff.mp h
                      refine bX11_beginOne_196 (evX11_w3 hq203) (by omega) ?_
                      obtain ⟨q204, hq204, h⟩ := Option.bind_eq_some_iff.mp h
                      refine bX11_beginOne_206 (evX11_isWord hq204) (by omega) ?_
                      refine a_ite h (fun c205 h => ?_) (fun c205 h => ?_)
                      · refine bX11_beginOne_209 (fun _ => ?_) (fun z => absurd c205 z)
                        refine bX11_beginOne_228 ?_
                        cases h
                        exact bX11_beginOne_229
                      · refine bX11_beginOne_209 (fun z => absurd z c205) (fun _ => ?_)
                        obtain ⟨q206, hq206, h⟩ := Option.bind_eq_some_iff.mp h
                        refine bX11_beginOne_212 (evX11_isAskAhead hq206) (by omega) ?_
                        refine a_ite h (fun c207 h => ?_) (fun c207 h => ?_)
                        · refine bX11_beginOne_216 (fun _ => ?_) (fun z => absurd c207 z)
                          refine bX11_beginOne_228 ?_
                          cases h
                          exact bX11_beginOne_229
                        · refine bX11_beginOne_216 (fun z => absurd z c207) (fun _ => ?_)
                          obtain ⟨q208, hq208, h⟩ := Option.bind_eq_some_iff.mp h
                          refine bX11_beginOne_219 (evX11_opened hq208) (by omega) ?_
                          refine bX11_beginOne_225 ?_
                          cases h
                          exact bX11_beginOne_229
                    · refine bX11_beginOne_186 (fun z => absurd z c202) (fun _ => ?_)
                      obtain ⟨q209, hq209, h⟩ := Option.bind_eq_some_iff.mp h
                      refine bX11_beginOne_189 (evX11_opened hq209) (by omega) ?_
                      cases h
                      exact bX11_beginOne_195
                  · refine bX11_beginOne_166 (fun z => absurd z c199) (fun _ => ?_)
                    obtain ⟨q210, hq210, h⟩ := Option.bind_eq_some_iff.mp h
                    refine bX11_beginOne_169 (evX11_opened hq210) (by omega) ?_
                    cases h
                    exact bX11_beginOne_174
                · refine bX11_beginOne_139 (fun z => absurd z c196) (fun _ => ?_)
                  obtain ⟨q211, hq211, h⟩ := Option.bind_eq_some_iff.mp h
                  refine bX11_beginOne_142 (evX11_opened hq211) (by omega) ?_
                  cases h
                  exact bX11_beginOne_148
          · refine bX11_beginOne_47 (fun z => absurd z c189) (fun _ => ?_)
            refine a_ite h (fun c212 h => ?_) (fun c212 h => ?_)
            · refine bX11_beginOne_51 (fun z => absurd c212 z) (fun _ => ?_)
              refine bX11_beginOne_60 ?_
              refine a_ite h (fun c213 h => ?_) (fun c213 h => ?_)
              · refine bX11_beginOne_65 (fun z => absurd c213 z) (fun _ => ?_)
                refine bX11_beginOne_73 ?_
                obtain ⟨q214, hq214, h⟩ := Option.bind_eq_some_iff.mp h
                refine bX11_beginOne_81 (evX11_emit hq214) (by omega) ?_
                obtain ⟨q215, hq215, h⟩ := Option.bind_eq_some_iff.mp h
                refine bX11_beginOne_84 (evX11_nextToken hq215) (by omega) ?_
                obtain ⟨q216, hq216, h⟩ := Option.bind_eq_some_iff.mp h
                refine bX11_beginOne_88 (evX11_endOne hq216) (by omega) ?_
                cases h
                exact bX11_beginOne_92
              · refine bX11_beginOne_65 (fun _ => ?_) (fun z => absurd z c213)
                refine bX11_beginOne_80 ?_
                obtain ⟨q217, hq217, h⟩ := Option.bind_eq_some_iff.mp h
                refine bX11_beginOne_81 (evX11_emit hq217) (by omega) ?_
                obtain ⟨q218, hq218, h⟩ := Option.bind_eq_some_iff.mp h
                refine bX11_beginOne_84 (evX11_nextToken hq218) (by omega) ?_
                obtain ⟨q219, hq219, h⟩ := Option.bind_eq_some_iff.mp h
                refine bX11_beginOne_88 (evX11_endOne hq219) (by omega) ?_
                cases h
                exact bX11_beginOne_92
            · refine bX11_beginOne_51 (fun _ => ?_) (fun z => absurd z c212)
              refine bX11_beginOne_64 ?_
              refine a_ite h (fun c220 h => ?_) (fun c220 h => ?_)
              · refine bX11_beginOne_65 (fun z => absurd c220 z) (fun _ => ?_)
                refine bX11_beginOne_73 ?_
                obtain ⟨q221, hq221, h⟩ := Option.bind_eq_some_iff.mp h
                refine bX11_beginOne_81 (evX11_emit hq221) (by omega) ?_
                obtain ⟨q222, hq222, h⟩ := Option.bind_eq_some_iff.mp h
                refine bX11_beginOne_84 (evX11_nextToken hq222) (by omega) ?_
                obtain ⟨q223, hq223, h⟩ := Option.bind_eq_some_iff.mp h
                refine bX11_beginOne_88 (evX11_endOne hq223) (by omega) ?_
                cases h
                exact bX11_beginOne_92
              · refine bX11_beginOne_65 (fun _ => ?_) (fun z => absurd z c220)
                refine bX11_beginOne_80 ?_
                obtain ⟨q224, hq224, h⟩ := Option.bind_eq_some_iff.mp h
                refine bX11_beginOne_81 (evX11_emit hq224) (by omega) ?_
                obtain ⟨q225, hq225, h⟩ := Option.bind_eq_some_iff.mp h
                refine bX11_beginOne_84 (evX11_nextToken hq225) (by omega) ?_
                obtain ⟨q226, hq226, h⟩ := Option.bind_eq_some_iff.mp h
                refine bX11_beginOne_88 (evX11_endOne hq226) (by omega) ?_
                cases h
                exact bX11_beginOne_92

noncomputable def sX11_summed_0 (d : aI) (e : aJ)  : Option (Nat × aL × aI × aJ) := (bif ((decide ((nI 0) = 0 ∨ (nI 0) = 1))) then (some (15, [some (.ref 108), none], (uI (uI (uI d 108 16 (nI 0)) 108 17 (nI 0)) 108 18 (nI 0)), e)) else none)
theorem tX11_summed_0 {Γ : aG × Launch} {d dF : aI} {e eF : aJ}  {r : Option Value} {p : Nat × aL × aI × aJ} (h : sX11_summed_0 d e  = some p) (kc : Nat.beq p.1 100000 = false → Rn Γ (7) mX11_summed p.1 p.2.1 [] p.2.2.1 p.2.2.2 r dF eF) (kr : p.1 = 100000 → r = a_rt p.2.1 ∧ dF = p.2.2.1 ∧ eF = p.2.2.2) : Rn Γ (7) mX11_summed 0 [some (.ref 108), none] [] d e r dF eF := by
  unfold sX11_summed_0 at h
  obtain ⟨g1, h⟩ := a_cond h
  refine bX11_summed_0 (of_decide_eq_true g1) ?_
  cases h
  exact kc rfl

noncomputable def sX11_summed_15 (d : aI) (e : aJ) (v1 : Option Value) : Option (Nat × aL × aI × aJ) := (if (d 108 18) = 0 then ((FX11_beginOne d e).bind fun q2 => (if q2.1 ≤ 0 then (if q2.1 = 0 then (some (15, [some (.ref 108), some (.int q2.1)], q2.2.1, q2.2.2)) else ((FX11_openNow q2.2.1 q2.2.2).bind fun q5 => (if q5.1 < 0 then ((FX11_settle q5.2.1 q5.2.2 (nI 1)).bind fun q7 => (some (100000, [some (.int (nI 0))], q7.2.1, q7.2.2))) else (some (100000, [some (.int (nI 1))], q5.2.1, q5.2.2))))) else (some (100000, [some (.int q2.1)], q2.2.1, q2.2.2)))) else ((FX11_behindOne d e).bind fun q8 => (if q8.1 ≤ 0 then (if q8.1 = 0 then (some (15, [some (.ref 108), some (.int q8.1)], q8.2.1, q8.2.2)) else ((FX11_openNow q8.2.1 q8.2.2).bind fun q11 => (if q11.1 < 0 then ((FX11_settle q11.2.1 q11.2.2 (nI 1)).bind fun q13 => (some (100000, [some (.int (nI 0))], q13.2.1, q13.2.2))) else (some (100000, [some (.int (nI 1))], q11.2.1, q11.2.2))))) else (some (100000, [some (.int q8.1)], q8.2.1, q8.2.2)))))
theorem tX11_summed_15 {Γ : aG × Launch} {d dF : aI} {e eF : aJ} {v1 : Option Value} {r : Option Value} {p : Nat × aL × aI × aJ} (h : sX11_summed_15 d e v1 = some p) (kc : Nat.beq p.1 100000 = false → Rn Γ (7) mX11_summed p.1 p.2.1 [] p.2.2.1 p.2.2.2 r dF eF) (kr : p.1 = 100000 → r = a_rt p.2.1 ∧ dF = p.2.2.1 ∧ eF = p.2.2.2) : Rn Γ (7) mX11_summed 15 [some (.ref 108), v1] [] d e r dF eF := by
  unfold sX11_summed_15 at h
  refine a_ite h (fun c1 h => ?_) (fun c1 h => ?_)
  · refine bX11_summed_15 (fun _ => ?_) (fun z => absurd c1 z)
    obtain ⟨q2, hq2, h⟩ := Option.bind_eq_some_iff.mp h
    refine bX11_summed_29 (evX11_beginOne hq2) (by omega) ?_
    refine a_ite h (fun c3 h => ?_) (fun c3 h => ?_)
    · refine bX11_summed_33 (fun _ => ?_) (fun z => absurd c3 z)
      refine a_ite h (fun c4 h => ?_) (fun c4 h => ?_)
      · refine bX11_summed_40 (fun z => absurd c4 z) (fun _ => ?_)
        refine bX11_summed_44 ?_
        cases h
        exact kc rfl
      · refine bX11_summed_40 (fun _ => ?_) (fun z => absurd z c4)
        obtain ⟨q5, hq5, h⟩ := Option.bind_eq_some_iff.mp h
        refine bX11_summed_47 (evX11_openNow hq5) (by omega) ?_
        refine a_ite h (fun c6 h => ?_) (fun c6 h => ?_)
        · refine bX11_summed_51 (fun _ => ?_) (fun z => absurd c6 z)
          obtain ⟨q7, hq7, h⟩ := Option.bind_eq_some_iff.mp h
          refine bX11_summed_56 (evX11_settle hq7) (by omega) ?_
          cases h
          obtain ⟨k1, k2, k3⟩ := kr rfl
          exact bX11_summed_61 k1 k2 k3
        · refine bX11_summed_51 (fun z => absurd z c6) (fun _ => ?_)
          cases h
          obtain ⟨k1, k2, k3⟩ := kr rfl
          exact bX11_summed_54 k1 k2 k3
    · refine bX11_summed_33 (fun z => absurd z c3) (fun _ => ?_)
      cases h
      obtain ⟨k1, k2, k3⟩ := kr rfl
      exact bX11_summed_38 k1 k2 k3
  · refine bX11_summed_15 (fun z => absurd z c1) (fun _ => ?_)
    obtain ⟨q8, hq8, h⟩ := Option.bind_eq_some_iff.mp h
    refine bX11_summed_22 (evX11_behindOne hq8) (by omega) ?_
    refine bX11_summed_26 ?_
    refine a_ite h (fun c9 h => ?_) (fun c9 h => ?_)
    · refine bX11_summed_33 (fun _ => ?_) (fun z => absurd c9 z)
      refine a_ite h (fun c10 h => ?_) (fun c10 h => ?_)
      · refine bX11_summed_40 (fun z => absurd c10 z) (fun _ => ?_)
        refine bX11_summed_44 ?_
        cases h
        exact kc rfl
      · refine bX11_summed_40 (fun _ => ?_) (fun z => absurd z c10)
        obtain ⟨q11, hq11, h⟩ := Option.bind_eq_some_iff.mp h
        refine bX11_summed_47 (evX11_openNow hq11) (by omega) ?_
        refine a_ite h (fun c12 h => ?_) (fun c12 h => ?_)
        · refine bX11_summed_51 (fun _ => ?_) (fun z => absurd c12 z)
          obtain ⟨q13, hq13, h⟩ := Option.bind_eq_some_iff.mp h
          refine bX11_summed_56 (evX11_settle hq13) (by omega) ?_
          cases h
          obtain ⟨k1, k2, k3⟩ := kr rfl
          exact bX11_summed_61 k1 k2 k3
        · refine bX11_summed_51 (fun z => absurd z c12) (fun _ => ?_)
          cases h
          obtain ⟨k1, k2, k3⟩ := kr rfl
          exact bX11_summed_54 k1 k2 k3
    · refine bX11_summed_33 (fun z => absurd z c9) (fun _ => ?_)
      cases h
      obtain ⟨k1, k2, k3⟩ := kr rfl
      exact bX11_summed_38 k1 k2 k3

noncomputable def stX11_summed (p : Nat × aL × aI × aJ) : Option (Nat × aL × aI × aJ) := match p with
  | (0, [some (.ref 108), none], d, e) => sX11_summed_0 d e 
  | (15, [some (.ref 108), v1], d, e) => sX11_summed_15 d e v1
  | _ => none
theorem uX11_summed {Γ : aG × Launch} {p p2 : Nat × aL × aI × aJ} {r : Option Value} {dF : aI} {eF : aJ} (h : stX11_summed p = some p2) (kc : Nat.beq p2.1 100000 = false → Rn Γ (7) mX11_summed p2.1 p2.2.1 [] p2.2.2.1 p2.2.2.2 r dF eF) (kr : p2.1 = 100000 → r = a_rt p2.2.1 ∧ dF = p2.2.2.1 ∧ eF = p2.2.2.2) : Rn Γ (7) mX11_summed p.1 p.2.1 [] p.2.2.1 p.2.2.2 r dF eF := by
  unfold stX11_summed at h
  split at h
  · exact tX11_summed_0 h kc kr
  · exact tX11_summed_15 h kc kr
  · cases h
noncomputable def FX11_summed (d : aI) (e : aJ)  : Option (Int32 × aI × aJ) := (a_run (stX11_summed) (0, [some (.ref 108), none], d, e)).bind a_xI
theorem evX11_summed {Γ : aG × Launch} {d : aI} {e : aJ}  {q : Int32 × aI × aJ} (h : FX11_summed d e  = some q) : Ev Γ (7) mX11_summed [.ref 108] d e (some (.int q.1)) q.2.1 q.2.2 := by
  refine Ev.of (by decide) rfl (Nat.le_of_ble_eq_true rfl) (fun z => by cases z) ?_
  show Rn Γ (7) mX11_summed 0 [some (.ref 108), none] [] d e _ _ _
  obtain ⟨q1, h1, h2⟩ := Option.bind_eq_some_iff.mp h
  obtain ⟨e1, e2, e3⟩ := a_xI_rt h2
  exact Rn.cast (a_run_ok (uX11_summed) rfl h1) e1.symm e2.symm e3.symm
noncomputable def FX11_lawClause (d : aI) (e : aJ) (x1 : Int32) : Option (Int32 × aI × aJ) := (bif ((a_inb (x1 + (nI 1)) 2724)) then ((FX11_summed (uI d 111 ((x1 + (nI 1))).toNatClampNeg (d 108 13)) e).bind fun q2 => (bif ((a_inb (x1 + (nI 2)) 2724)) then (some (q2.1, (uI q2.2.1 111 ((x1 + (nI 2))).toNatClampNeg (q2.2.1 108 13)), q2.2.2)) else none)) else none)
theorem evX11_lawClause {Γ : aG × Launch} {d : aI} {e : aJ} {x1 : Int32} {q : Int32 × aI × aJ} (h : FX11_lawClause d e x1 = some q) : Ev Γ (8) mX11_lawClause [.ref 108, .int x1] d e (some (.int q.1)) q.2.1 q.2.2 := by
  refine Ev.of (by decide) rfl (Nat.le_of_ble_eq_true rfl) (fun z => by cases z) ?_
  show Rn Γ (8) mX11_lawClause 0 [some (.ref 108), some (.int x1), none] [] d e _ _ _
  unfold FX11_lawClause at h
  obtain ⟨g1, h⟩ := a_cond h
  obtain ⟨q2, hq2, h⟩ := Option.bind_eq_some_iff.mp h
  refine bX11_lawClause_0 (a_inb_vp g1) (evX11_summed hq2) (by omega) ?_
  obtain ⟨g3, h⟩ := a_cond h
  cases h
  exact bX11_lawClause_16 (a_inb_vp g3)

noncomputable def FX11_body (d : aI) (e : aJ) (x1 : Int32) (x2 : Int32) : Option (Int32 × aI × aJ) := (if x1 = (nI 2) then ((FX11_w5 d e (nI 100) (nI 114) (nI 101) (nI 97) (nI 109)).bind fun q2 => ((FX11_pair q2.2.1 q2.2.2 x2 (nI 9) q2.1 (nI 999)).bind fun q3 => (some (q3.1, q3.2.1, q3.2.2)))) else (if x1 = (nI 3) then ((FX11_w4 d e (nI 99) (nI 111) (nI 108) (nI 100)).bind fun q5 => ((FX11_pair q5.2.1 q5.2.2 x2 (nI 9) q5.1 (nI 9)).bind fun q6 => (some (q6.1, q6.2.1, q6.2.2)))) else (if x1 = (nI 4) then ((FX11_w2 d e (nI 116) (nI 111)).bind fun q8 => ((FX11_pair q8.2.1 q8.2.2 x2 (nI 5) q8.1 (nI 5)).bind fun q9 => (some (q9.1, q9.2.1, q9.2.2)))) else (if x1 = (nI 5) then ((FX11_figure d e (x2 + (nI 1)) (nI 0) (nI 5)).bind fun q11 => (some (q11.1, q11.2.1, q11.2.2))) else (if x1 = (nI 6) then ((FX11_figure d e (x2 + (nI 1)) (nI 0) (nI 5)).bind fun q13 => (some (q13.1, q13.2.1, q13.2.2))) else (if x1 = (nI 7) then ((FX11_figure d e (x2 + (nI 1)) (nI 0) (nI 5)).bind fun q15 => (some (q15.1, q15.2.1, q15.2.2))) else (if x1 = (nI 8) then ((FX11_figure d e (x2 + (nI 1)) (nI 1) (nI 60)).bind fun q17 => (some (q17.1, q17.2.1, q17.2.2))) else ((FX11_lawClause d e x2).bind fun q18 => (some (q18.1, q18.2.1, q18.2.2))))))))))
theorem evX11_body {Γ : aG × Launch} {d : aI} {e : aJ} {x1 : Int32} {x2 : Int32} {q : Int32 × aI × aJ} (h : FX11_body d e x1 x2 = some q) : Ev Γ (9) mX11_body [.ref 108, .int x1, .int x2] d e (some (.int q.1)) q.2.1 q.2.2 := by
  refine Ev.of (by decide) rfl (Nat.le_of_ble_eq_true rfl) (fun z => by cases z) ?_
  show Rn Γ (9) mX11_body 0 [some (.ref 108), some (.int x1), some (.int x2)] [] d e _ _ _
  unfold FX11_body at h
  refine a_ite h (fun c1 h => ?_) (fun c1 h => ?_)
  · refine bX11_body_0 (fun n0 _ _ _ _ _ _ => absurd c1 n0) (fun _ => ?_) (fun z => absurd (c1.symm.trans z) (by decide)) (fun z => absurd (c1.symm.trans z) (by decide)) (fun z => absurd (c1.symm.trans z) (by decide)) (fun z => absurd (c1.symm.trans z) (by decide)) (fun z => absurd (c1.symm.trans z) (by decide)) (fun z => absurd (c1.symm.trans z) (by decide))
    obtain ⟨q2, hq2, h⟩ := Option.bind_eq_some_iff.mp h
    refine bX11_body_44 (evX11_w5 hq2) (by omega) ?_
    obtain ⟨q3, hq3, h⟩ := Option.bind_eq_some_iff.mp h
    refine bX11_body_61 (evX11_pair hq3) (by omega) ?_
    cases h
    exact bX11_body_67
  · skip
    refine a_ite h (fun c4 h => ?_) (fun c4 h => ?_)
    · refine bX11_body_0 (fun _ n1 _ _ _ _ _ => absurd c4 n1) (fun z => absurd z c1) (fun _ => ?_) (fun z => absurd (c4.symm.trans z) (by decide)) (fun z => absurd (c4.symm.trans z) (by decide)) (fun z => absurd (c4.symm.trans z) (by decide)) (fun z => absurd (c4.symm.trans z) (by decide)) (fun z => absurd (c4.symm.trans z) (by decide))
      obtain ⟨q5, hq5, h⟩ := Option.bind_eq_some_iff.mp h
      refine bX11_body_68 (evX11_w4 hq5) (by omega) ?_
      obtain ⟨q6, hq6, h⟩ := Option.bind_eq_some_iff.mp h
      refine bX11_body_83 (evX11_pair hq6) (by omega) ?_
      cases h
      exact bX11_body_88
    · skip
      refine a_ite h (fun c7 h => ?_) (fun c7 h => ?_)
      · refine bX11_body_0 (fun _ _ n2 _ _ _ _ => absurd c7 n2) (fun z => absurd z c1) (fun z => absurd z c4) (fun _ => ?_) (fun z => absurd (c7.symm.trans z) (by decide)) (fun z => absurd (c7.symm.trans z) (by decide)) (fun z => absurd (c7.symm.trans z) (by decide)) (fun z => absurd (c7.symm.trans z) (by decide))
        obtain ⟨q8, hq8, h⟩ := Option.bind_eq_some_iff.mp h
        refine bX11_body_89 (evX11_w2 hq8) (by omega) ?_
        obtain ⟨q9, hq9, h⟩ := Option.bind_eq_some_iff.mp h
        refine bX11_body_99 (evX11_pair hq9) (by omega) ?_
        cases h
        exact bX11_body_103
      · skip
        refine a_ite h (fun c10 h => ?_) (fun c10 h => ?_)
        · refine bX11_body_0 (fun _ _ _ n3 _ _ _ => absurd c10 n3) (fun z => absurd z c1) (fun z => absurd z c4) (fun z => absurd z c7) (fun _ => ?_) (fun z => absurd (c10.symm.trans z) (by decide)) (fun z => absurd (c10.symm.trans z) (by decide)) (fun z => absurd (c10.symm.trans z) (by decide))
          obtain ⟨q11, hq11, h⟩ := Option.bind_eq_some_iff.mp h
          refine bX11_body_104 (evX11_figure hq11) (by omega) ?_
          cases h
          exact bX11_body_113
        · skip
          refine a_ite h (fun c12 h => ?_) (fun c12 h => ?_)
          · refine bX11_body_0 (fun _ _ _ _ n4 _ _ => absurd c12 n4) (fun z => absurd z c1) (fun z => absurd z c4) (fun z => absurd z c7) (fun z => absurd z c10) (fun _ => ?_) (fun z => absurd (c12.symm.trans z) (by decide)) (fun z => absurd (c12.symm.trans z) (by decide))
            obtain ⟨q13, hq13, h⟩ := Option.bind_eq_some_iff.mp h
            refine bX11_body_114 (evX11_figure hq13) (by omega) ?_
            cases h
            exact bX11_body_123
          · skip
            refine a_ite h (fun c14 h => ?_) (fun c14 h => ?_)
            · refine bX11_body_0 (fun _ _ _ _ _ n5 _ => absurd c14 n5) (fun z => absurd z c1) (fun z => absurd z c4) (fun z => absurd z c7) (fun z => absurd z c10) (fun z => absurd z c12) (fun _ => ?_) (fun z => absurd (c14.symm.trans z) (by decide))
              obtain ⟨q15, hq15, h⟩ := Option.bind_eq_some_iff.mp h
              refine bX11_body_124 (evX11_figure hq15) (by omega) ?_
              cases h
              exact bX11_body_133
            · skip
              refine a_ite h (fun c16 h => ?_) (fun c16 h => ?_)
              · refine bX11_body_0 (fun _ _ _ _ _ _ n6 => absurd c16 n6) (fun z => absurd z c1) (fun z => absurd z c4) (fun z => absurd z c7) (fun z => absurd z c10) (fun z => absurd z c12) (fun z => absurd z c14) (fun _ => ?_)
                obtain ⟨q17, hq17, h⟩ := Option.bind_eq_some_iff.mp h
                refine bX11_body_134 (evX11_figure hq17) (by omega) ?_
                cases h
                exact bX11_body_144
              · skip
                refine bX11_body_0 (fun _ _ _ _ _ _ _ => ?_) (fun z => absurd z c1) (fun z => absurd z c4) (fun z => absurd z c7) (fun z => absurd z c10) (fun z => absurd z c12) (fun z => absurd z c14) (fun z => absurd z c16)
                obtain ⟨q18, hq18, h⟩ := Option.bind_eq_some_iff.mp h
                refine bX11_body_145 (evX11_lawClause hq18) (by omega) ?_
                cases h
                exact bX11_body_150

noncomputable def FX11_clause (d : aI) (e : aJ)  : Option (Int32 × aI × aJ) := ((FX11_sortOf d e).bind fun q1 => (if 0 ≤ q1.1 then (if (nI 1) < q1.1 then (bif ((a_inb (q1.2.1 108 12) 2724)) then (if (q1.2.1 111 ((q1.2.1 108 12)).toNatClampNeg) = (nI 24) then (some ((nI 6), q1.2.1, q1.2.2)) else (if (nI 1) < q1.1 then ((FX11_nextToken (uI q1.2.1 108 14 q1.1) q1.2.2).bind fun q7 => (bif ((a_inb (((q7.2.1 108 12) + (nI 1)) + ((nI 3) * (q1.2.1 111 ((q1.2.1 108 12)).toNatClampNeg))) 2724)) then ((FX11_body (uI q7.2.1 111 ((((q7.2.1 108 12) + (nI 1)) + ((nI 3) * (q1.2.1 111 ((q1.2.1 108 12)).toNatClampNeg)))).toNatClampNeg q1.1) q7.2.2 q1.1 (((q7.2.1 108 12) + (nI 1)) + ((nI 3) * (q1.2.1 111 ((q1.2.1 108 12)).toNatClampNeg)))).bind fun q9 => (if q9.1 = 0 then (bif ((a_inb (q9.2.1 108 12) 2724) && (a_inb (q9.2.1 108 12) 2724)) then (if (q9.2.1 108 9) = (nI 59) then ((FX11_nextToken (uI q9.2.1 111 ((q9.2.1 108 12)).toNatClampNeg ((q9.2.1 111 ((q9.2.1 108 12)).toNatClampNeg) + (nI 1))) q9.2.2).bind fun q13 => (some ((nI 0), q13.2.1, q13.2.2))) else (some ((nI 1), (uI q9.2.1 111 ((q9.2.1 108 12)).toNatClampNeg ((q9.2.1 111 ((q9.2.1 108 12)).toNatClampNeg) + (nI 1))), q9.2.2))) else none) else (some (q9.1, q9.2.1, q9.2.2)))) else none)) else ((FX11_nextToken (uI (uI q1.2.1 108 19 ((q1.2.1 108 19) ||| (a_shl (nI 1) q1.1))) 108 14 q1.1) q1.2.2).bind fun q14 => (bif ((a_inb (((q14.2.1 108 12) + (nI 1)) + ((nI 3) * (q1.2.1 111 ((q1.2.1 108 12)).toNatClampNeg))) 2724)) then ((FX11_body (uI q14.2.1 111 ((((q14.2.1 108 12) + (nI 1)) + ((nI 3) * (q1.2.1 111 ((q1.2.1 108 12)).toNatClampNeg)))).toNatClampNeg q1.1) q14.2.2 q1.1 (((q14.2.1 108 12) + (nI 1)) + ((nI 3) * (q1.2.1 111 ((q1.2.1 108 12)).toNatClampNeg)))).bind fun q16 => (if q16.1 = 0 then (bif ((a_inb (q16.2.1 108 12) 2724) && (a_inb (q16.2.1 108 12) 2724)) then (if (q16.2.1 108 9) = (nI 59) then ((FX11_nextToken (uI q16.2.1 111 ((q16.2.1 108 12)).toNatClampNeg ((q16.2.1 111 ((q16.2.1 108 12)).toNatClampNeg) + (nI 1))) q16.2.2).bind fun q20 => (some ((nI 0), q20.2.1, q20.2.2))) else (some ((nI 1), (uI q16.2.1 111 ((q16.2.1 108 12)).toNatClampNeg ((q16.2.1 111 ((q16.2.1 108 12)).toNatClampNeg) + (nI 1))), q16.2.2))) else none) else (some (q16.1, q16.2.1, q16.2.2)))) else none)))) else none) else ((FX11_has q1.2.1 q1.2.2 (q1.2.1 108 19) q1.1).bind fun q21 => (if q21.1 = 0 then (bif ((a_inb (q21.2.1 108 12) 2724)) then (if (q21.2.1 111 ((q21.2.1 108 12)).toNatClampNeg) = (nI 24) then (some ((nI 6), q21.2.1, q21.2.2)) else (if (nI 1) < q1.1 then ((FX11_nextToken (uI q21.2.1 108 14 q1.1) q21.2.2).bind fun q26 => (bif ((a_inb (((q26.2.1 108 12) + (nI 1)) + ((nI 3) * (q21.2.1 111 ((q21.2.1 108 12)).toNatClampNeg))) 2724)) then ((FX11_body (uI q26.2.1 111 ((((q26.2.1 108 12) + (nI 1)) + ((nI 3) * (q21.2.1 111 ((q21.2.1 108 12)).toNatClampNeg)))).toNatClampNeg q1.1) q26.2.2 q1.1 (((q26.2.1 108 12) + (nI 1)) + ((nI 3) * (q21.2.1 111 ((q21.2.1 108 12)).toNatClampNeg)))).bind fun q28 => (if q28.1 = 0 then (bif ((a_inb (q28.2.1 108 12) 2724) && (a_inb (q28.2.1 108 12) 2724)) then (if (q28.2.1 108 9) = (nI 59) then ((FX11_nextToken (uI q28.2.1 111 ((q28.2.1 108 12)).toNatClampNeg ((q28.2.1 111 ((q28.2.1 108 12)).toNatClampNeg) + (nI 1))) q28.2.2).bind fun q32 => (some ((nI 0), q32.2.1, q32.2.2))) else (some ((nI 1), (uI q28.2.1 111 ((q28.2.1 108 12)).toNatClampNeg ((q28.2.1 111 ((q28.2.1 108 12)).toNatClampNeg) + (nI 1))), q28.2.2))) else none) else (some (q28.1, q28.2.1, q28.2.2)))) else none)) else ((FX11_nextToken (uI (uI q21.2.1 108 19 ((q21.2.1 108 19) ||| (a_shl (nI 1) q1.1))) 108 14 q1.1) q21.2.2).bind fun q33 => (bif ((a_inb (((q33.2.1 108 12) + (nI 1)) + ((nI 3) * (q21.2.1 111 ((q21.2.1 108 12)).toNatClampNeg))) 2724)) then ((FX11_body (uI q33.2.1 111 ((((q33.2.1 108 12) + (nI 1)) + ((nI 3) * (q21.2.1 111 ((q21.2.1 108 12)).toNatClampNeg)))).toNatClampNeg q1.1) q33.2.2 q1.1 (((q33.2.1 108 12) + (nI 1)) + ((nI 3) * (q21.2.1 111 ((q21.2.1 108 12)).toNatClampNeg)))).bind fun q35 => (if q35.1 = 0 then (bif ((a_inb (q35.2.1 108 12) 2724) && (a_inb (q35.2.1 108 12) 2724)) then (if (q35.2.1 108 9) = (nI 59) then ((FX11_nextToken (uI q35.2.1 111 ((q35.2.1 108 12)).toNatClampNeg ((q35.2.1 111 ((q35.2.1 108 12)).toNatClampNeg) + (nI 1))) q35.2.2).bind fun q39 => (some ((nI 0), q39.2.1, q39.2.2))) else (some ((nI 1), (uI q35.2.1 111 ((q35.2.1 108 12)).toNatClampNeg ((q35.2.1 111 ((q35.2.1 108 12)).toNatClampNeg) + (nI 1))), q35.2.2))) else none) else (some (q35.1, q35.2.1, q35.2.2)))) else none)))) else none) else (some ((nI 4), q21.2.1, q21.2.2))))) else (some ((nI 1), q1.2.1, q1.2.2))))
theorem evX11_clause {Γ : aG × Launch} {d : aI} {e : aJ}  {q : Int32 × aI × aJ} (h : FX11_clause d e  = some q) : Ev Γ (10) mX11_clause [.ref 108] d e (some (.int q.1)) q.2.1 q.2.2 := by
  refine Ev.of (by decide) rfl (Nat.le_of_ble_eq_true rfl) (fun z => by cases z) ?_
  show Rn Γ (10) mX11_clause 0 [some (.ref 108), none, none, none, none] [] d e _ _ _
  unfold FX11_clause at h
  obtain ⟨q1, hq1, h⟩ := Option.bind_eq_some_iff.mp h
  refine bX11_clause_0 (evX11_sortOf hq1) (by omega) ?_
  refine a_ite h (fun c2 h => ?_) (fun c2 h => ?_)
  · refine bX11_clause_4 (fun _ => ?_) (fun z => absurd c2 z)
    refine a_ite h (fun c3 h => ?_) (fun c3 h => ?_)
    · refine bX11_clause_11 (fun _ => ?_) (fun z => absurd c3 z)
      obtain ⟨g4, h⟩ := a_cond h
      refine a_ite h (fun c5 h => ?_) (fun c5 h => ?_)
      · refine bX11_clause_29 (a_inb_vp g4) (fun z => absurd c5 z) (fun _ => ?_)
        cases h
        exact bX11_clause_45
      · refine bX11_clause_29 (a_inb_vp g4) (fun _ => ?_) (fun z => absurd z c5)
        refine a_ite h (fun c6 h => ?_) (fun c6 h => ?_)
        · refine bX11_clause_48 (fun _ => ?_) (fun z => absurd c6 z)
          obtain ⟨q7, hq7, h⟩ := Option.bind_eq_some_iff.mp h
          refine bX11_clause_65 (evX11_nextToken hq7) (by omega) ?_
          obtain ⟨g8, h⟩ := a_cond h
          obtain ⟨q9, hq9, h⟩ := Option.bind_eq_some_iff.mp h
          refine bX11_clause_74 (a_inb_vp g8) (evX11_body hq9) (by omega) ?_
          refine a_ite h (fun c10 h => ?_) (fun c10 h => ?_)
          · refine bX11_clause_98 (fun _ => ?_) (fun z => absurd c10 z)
            obtain ⟨g11, h⟩ := a_cond h
            obtain ⟨g11x1, g11_1⟩ := a_and g11
            have g11_0 := g11x1
            refine a_ite h (fun c12 h => ?_) (fun c12 h => ?_)
            · refine bX11_clause_108 ⟨(a_inb_vp g11_0), (a_inb_vp g11_1)⟩ (fun _ => ?_) (fun z => absurd c12 z)
              obtain ⟨q13, hq13, h⟩ := Option.bind_eq_some_iff.mp h
              refine bX11_clause_132 (evX11_nextToken hq13) (by omega) ?_
              cases h
              exact bX11_clause_136
            · refine bX11_clause_108 ⟨(a_inb_vp g11_0), (a_inb_vp g11_1)⟩ (fun z => absurd z c12) (fun _ => ?_)
              cases h
              exact bX11_clause_130
          · refine bX11_clause_98 (fun z => absurd z c10) (fun _ => ?_)
            cases h
            exact bX11_clause_105
        · refine bX11_clause_48 (fun z => absurd z c6) (fun _ => ?_)
          refine bX11_clause_53 ?_
          obtain ⟨q14, hq14, h⟩ := Option.bind_eq_some_iff.mp h
          refine bX11_clause_65 (evX11_nextToken hq14) (by omega) ?_
          obtain ⟨g15, h⟩ := a_cond h
          obtain ⟨q16, hq16, h⟩ := Option.bind_eq_some_iff.mp h
          refine bX11_clause_74 (a_inb_vp g15) (evX11_body hq16) (by omega) ?_
          refine a_ite h (fun c17 h => ?_) (fun c17 h => ?_)
          · refine bX11_clause_98 (fun _ => ?_) (fun z => absurd c17 z)
            obtain ⟨g18, h⟩ := a_cond h
            obtain ⟨g18x1, g18_1⟩ := a_and g18
            have g18_0 := g18x1
            refine a_ite h (fun c19 h => ?_) (fun c19 h => ?_)
            · refine bX11_clause_108 ⟨(a_inb_vp g18_0), (a_inb_vp g18_1)⟩ (fun _ => ?_) (fun z => absurd c19 z)
              obtain ⟨q20, hq20, h⟩ := Option.bind_eq_some_iff.mp h
              refine bX11_clause_132 (evX11_nextToken hq20) (by omega) ?_
              cases h
              exact bX11_clause_136
            · refine bX11_clause_108 ⟨(a_inb_vp g18_0), (a_inb_vp g18_1)⟩ (fun z => absurd z c19) (fun _ => ?_)
              cases h
              exact bX11_clause_130
          · refine bX11_clause_98 (fun z => absurd z c17) (fun _ => ?_)
            cases h
            exact bX11_clause_105
    · refine bX11_clause_11 (fun z => absurd z c3) (fun _ => ?_)
      obtain ⟨q21, hq21, h⟩ := Option.bind_eq_some_iff.mp h
      refine bX11_clause_16 (evX11_has hq21) (by omega) ?_
      refine a_ite h (fun c22 h => ?_) (fun c22 h => ?_)
      · refine bX11_clause_24 (fun _ => ?_) (fun z => absurd c22 z)
        obtain ⟨g23, h⟩ := a_cond h
        refine a_ite h (fun c24 h => ?_) (fun c24 h => ?_)
        · refine bX11_clause_29 (a_inb_vp g23) (fun z => absurd c24 z) (fun _ => ?_)
          cases h
          exact bX11_clause_45
        · refine bX11_clause_29 (a_inb_vp g23) (fun _ => ?_) (fun z => absurd z c24)
          refine a_ite h (fun c25 h => ?_) (fun c25 h => ?_)
          · refine bX11_clause_48 (fun _ => ?_) (fun z => absurd c25 z)
            obtain ⟨q26, hq26, h⟩ := Option.bind_eq_some_iff.mp h
            refine bX11_clause_65 (evX11_nextToken hq26) (by omega) ?_
            obtain ⟨g27, h⟩ := a_cond h
            obtain ⟨q28, hq28, h⟩ := Option.bind_eq_some_iff.mp h
            refine bX11_clause_74 (a_inb_vp g27) (evX11_body hq28) (by omega) ?_
            refine a_ite h (fun c29 h => ?_) (fun c29 h => ?_)
            · refine bX11_clause_98 (fun _ => ?_) (fun z => absurd c29 z)
              obtain ⟨g30, h⟩ := a_cond h
              obtain ⟨g30x1, g30_1⟩ := a_and g30
              have g30_0 := g30x1
              refine a_ite h (fun c31 h => ?_) (fun c31 h => ?_)
              · refine bX11_clause_108 ⟨(a_inb_vp g30_0), (a_inb_vp g30_1)⟩ (fun _ => ?_) (fun z => absurd c31 z)
                obtain ⟨q32, hq32, h⟩ := Option.bind_eq_some_iff.mp h
                refine bX11_clause_132 (evX11_nextToken hq32) (by omega) ?_
                cases h
                exact bX11_clause_136
              · refine bX11_clause_108 ⟨(a_inb_vp g30_0), (a_inb_vp g30_1)⟩ (fun z => absurd z c31) (fun _ => ?_)
                cases h
                exact bX11_clause_130
            · refine bX11_clause_98 (fun z => absurd z c29) (fun _ => ?_)
              cases h
              exact bX11_clause_105
          · refine bX11_clause_48 (fun z => absurd z c25) (fun _ => ?_)
            refine bX11_clause_53 ?_
            obtain ⟨q33, hq33, h⟩ := Option.bind_eq_some_iff.mp h
            refine bX11_clause_65 (evX11_nextToken hq33) (by omega) ?_
            obtain ⟨g34, h⟩ := a_cond h
            obtain ⟨q35, hq35, h⟩ := Option.bind_eq_some_iff.mp h
            refine bX11_clause_74 (a_inb_vp g34) (evX11_body hq35) (by omega) ?_
            refine a_ite h (fun c36 h => ?_) (fun c36 h => ?_)
            · refine bX11_clause_98 (fun _ => ?_) (fun z => absurd c36 z)
              obtain ⟨g37, h⟩ := a_cond h
              obtain ⟨g37x1, g37_1⟩ := a_and g37
              have g37_0 := g37x1
              refine a_ite h (fun c38 h => ?_) (fun c38 h => ?_)
              · refine bX11_clause_108 ⟨(a_inb_vp g37_0), (a_inb_vp g37_1)⟩ (fun _ => ?_) (fun z => absurd c38 z)
                obtain ⟨q39, hq39, h⟩ := Option.bind_eq_some_iff.mp h
                refine bX11_clause_132 (evX11_nextToken hq39) (by omega) ?_
                cases h
                exact bX11_clause_136
              · refine bX11_clause_108 ⟨(a_inb_vp g37_0), (a_inb_vp g37_1)⟩ (fun z => absurd z c38) (fun _ => ?_)
                cases h
                exact bX11_clause_130
            · refine bX11_clause_98 (fun z => absurd z c36) (fun _ => ?_)
              cases h
              exact bX11_clause_105
      · refine bX11_clause_24 (fun z => absurd z c22) (fun _ => ?_)
        cases h
        exact bX11_clause_27
  · refine bX11_clause_4 (fun z => absurd z c2) (fun _ => ?_)
    cases h
    exact bX11_clause_9

noncomputable def sX11_readText_0 (d : aI) (e : aJ)  : Option (Nat × aL × aI × aJ) := (bif ((a_inb (nI 2) 1961) && (a_inb ((nI 681) * (d 109 2)) 2724)) then ((FX11_nextToken (uI (uI (uI (uI (uI d 108 12 ((nI 681) * (d 109 2))) 111 (((nI 681) * (d 109 2))).toNatClampNeg (nI 0)) 108 13 (nI 0)) 108 19 (nI 0)) 108 7 (nI 0)) e).bind fun q2 => (some (43, [some (.ref 108), none], q2.2.1, q2.2.2))) else none)
theorem tX11_readText_0 {Γ : aG × Launch} {d dF : aI} {e eF : aJ}  {r : Option Value} {p : Nat × aL × aI × aJ} (h : sX11_readText_0 d e  = some p) (kc : Nat.beq p.1 100000 = false → Rn Γ (11) mX11_readText p.1 p.2.1 [] p.2.2.1 p.2.2.2 r dF eF) (kr : p.1 = 100000 → r = a_rt p.2.1 ∧ dF = p.2.2.1 ∧ eF = p.2.2.2) : Rn Γ (11) mX11_readText 0 [some (.ref 108), none] [] d e r dF eF := by
  unfold sX11_readText_0 at h
  obtain ⟨g1, h⟩ := a_cond h
  obtain ⟨g1x1, g1_1⟩ := a_and g1
  have g1_0 := g1x1
  obtain ⟨q2, hq2, h⟩ := Option.bind_eq_some_iff.mp h
  refine bX11_readText_0 ⟨(a_inb_vp g1_0), (a_inb_vp g1_1)⟩ (evX11_nextToken hq2) (by omega) ?_
  cases h
  exact kc rfl

noncomputable def sX11_readText_43 (d : aI) (e : aJ) (v1 : Option Value) : Option (Nat × aL × aI × aJ) := (if (d 108 9) = 0 then (some (100000, [some (.int (nI 0))], d, e)) else ((FX11_clause d e).bind fun q2 => (if q2.1 = 0 then (some (43, [some (.ref 108), some (.int q2.1)], q2.2.1, q2.2.2)) else (some (100000, [some (.int q2.1)], q2.2.1, q2.2.2)))))
theorem tX11_readText_43 {Γ : aG × Launch} {d dF : aI} {e eF : aJ} {v1 : Option Value} {r : Option Value} {p : Nat × aL × aI × aJ} (h : sX11_readText_43 d e v1 = some p) (kc : Nat.beq p.1 100000 = false → Rn Γ (11) mX11_readText p.1 p.2.1 [] p.2.2.1 p.2.2.2 r dF eF) (kr : p.1 = 100000 → r = a_rt p.2.1 ∧ dF = p.2.2.1 ∧ eF = p.2.2.2) : Rn Γ (11) mX11_readText 43 [some (.ref 108), v1] [] d e r dF eF := by
  unfold sX11_readText_43 at h
  refine a_ite h (fun c1 h => ?_) (fun c1 h => ?_)
  · refine bX11_readText_43 (fun _ => ?_) (fun z => absurd c1 z)
    cases h
    obtain ⟨k1, k2, k3⟩ := kr rfl
    exact bX11_readText_64 k1 k2 k3
  · refine bX11_readText_43 (fun z => absurd z c1) (fun _ => ?_)
    obtain ⟨q2, hq2, h⟩ := Option.bind_eq_some_iff.mp h
    refine bX11_readText_50 (evX11_clause hq2) (by omega) ?_
    refine a_ite h (fun c3 h => ?_) (fun c3 h => ?_)
    · refine bX11_readText_54 (fun _ => ?_) (fun z => absurd c3 z)
      refine bX11_readText_61 ?_
      cases h
      exact kc rfl
    · refine bX11_readText_54 (fun z => absurd z c3) (fun _ => ?_)
      cases h
      obtain ⟨k1, k2, k3⟩ := kr rfl
      exact bX11_readText_59 k1 k2 k3

noncomputable def stX11_readText (p : Nat × aL × aI × aJ) : Option (Nat × aL × aI × aJ) := match p with
  | (0, [some (.ref 108), none], d, e) => sX11_readText_0 d e 
  | (43, [some (.ref 108), v1], d, e) => sX11_readText_43 d e v1
  | _ => none
theorem uX11_readText {Γ : aG × Launch} {p p2 : Nat × aL × aI × aJ} {r : Option Value} {dF : aI} {eF : aJ} (h : stX11_readText p = some p2) (kc : Nat.beq p2.1 100000 = false → Rn Γ (11) mX11_readText p2.1 p2.2.1 [] p2.2.2.1 p2.2.2.2 r dF eF) (kr : p2.1 = 100000 → r = a_rt p2.2.1 ∧ dF = p2.2.2.1 ∧ eF = p2.2.2.2) : Rn Γ (11) mX11_readText p.1 p.2.1 [] p.2.2.1 p.2.2.2 r dF eF := by
  unfold stX11_readText at h
  split at h
  · exact tX11_readText_0 h kc kr
  · exact tX11_readText_43 h kc kr
  · cases h
noncomputable def FX11_readText (d : aI) (e : aJ)  : Option (Int32 × aI × aJ) := (a_run (stX11_readText) (0, [some (.ref 108), none], d, e)).bind a_xI
theorem evX11_readText {Γ : aG × Launch} {d : aI} {e : aJ}  {q : Int32 × aI × aJ} (h : FX11_readText d e  = some q) : Ev Γ (11) mX11_readText [.ref 108] d e (some (.int q.1)) q.2.1 q.2.2 := by
  refine Ev.of (by decide) rfl (Nat.le_of_ble_eq_true rfl) (fun z => by cases z) ?_
  show Rn Γ (11) mX11_readText 0 [some (.ref 108), none] [] d e _ _ _
  obtain ⟨q1, h1, h2⟩ := Option.bind_eq_some_iff.mp h
  obtain ⟨e1, e2, e3⟩ := a_xI_rt h2
  exact Rn.cast (a_run_ok (uX11_readText) rfl h1) e1.symm e2.symm e3.symm
noncomputable def FX11_text (d : aI) (e : aJ)  : Option (Int32 × aI × aJ) := (bif ((a_inb (nI 2) 1961)) then (if (d 109 2) = (nI 4) then (some ((-(nI 1)), d, e)) else ((FX11_readText d e).bind fun q3 => (if q3.1 = 0 then (if ((uI q3.2.1 108 5 q3.1) 108 5) = 0 then (bif ((a_inb (nI 2) 1961) && (a_inb (nI 2) 1961) && (a_inb (nI 2) 1961)) then (some (((((uI (uI (uI q3.2.1 108 5 q3.1) 108 6 (-(nI 1))) 108 4 (nI 0)) 109 2) + (nI 1)) - (nI 1)), (uI (uI (uI (uI q3.2.1 108 5 q3.1) 108 6 (-(nI 1))) 108 4 (nI 0)) 109 2 (((uI (uI (uI q3.2.1 108 5 q3.1) 108 6 (-(nI 1))) 108 4 (nI 0)) 109 2) + (nI 1))), q3.2.2)) else none) else (some ((-(nI 1)), (uI (uI (uI q3.2.1 108 5 q3.1) 108 6 (-(nI 1))) 108 4 (nI 0)), q3.2.2))) else (if ((uI q3.2.1 108 5 q3.1) 108 5) = 0 then (bif ((a_inb (nI 2) 1961) && (a_inb (nI 2) 1961) && (a_inb (nI 2) 1961)) then (some (((((uI (uI (uI q3.2.1 108 5 q3.1) 108 6 ((uI q3.2.1 108 5 q3.1) 108 8)) 108 4 (nI 0)) 109 2) + (nI 1)) - (nI 1)), (uI (uI (uI (uI q3.2.1 108 5 q3.1) 108 6 ((uI q3.2.1 108 5 q3.1) 108 8)) 108 4 (nI 0)) 109 2 (((uI (uI (uI q3.2.1 108 5 q3.1) 108 6 ((uI q3.2.1 108 5 q3.1) 108 8)) 108 4 (nI 0)) 109 2) + (nI 1))), q3.2.2)) else none) else (some ((-(nI 1)), (uI (uI (uI q3.2.1 108 5 q3.1) 108 6 ((uI q3.2.1 108 5 q3.1) 108 8)) 108 4 (nI 0)), q3.2.2)))))) else none)
theorem evX11_text {Γ : aG × Launch} {d : aI} {e : aJ}  {q : Int32 × aI × aJ} (h : FX11_text d e  = some q) : Ev Γ (12) mX11_text [.ref 108] d e (some (.int q.1)) q.2.1 q.2.2 := by
  refine Ev.of (by decide) rfl (Nat.le_of_ble_eq_true rfl) (fun z => by cases z) ?_
  show Rn Γ (12) mX11_text 0 [some (.ref 108)] [] d e _ _ _
  unfold FX11_text at h
  obtain ⟨g1, h⟩ := a_cond h
  refine a_ite h (fun c2 h => ?_) (fun c2 h => ?_)
  · refine bX11_text_0 (a_inb_vp g1) (fun z => absurd c2 z) (fun _ => ?_)
    cases h
    exact bX11_text_10
  · refine bX11_text_0 (a_inb_vp g1) (fun _ => ?_) (fun z => absurd z c2)
    obtain ⟨q3, hq3, h⟩ := Option.bind_eq_some_iff.mp h
    refine bX11_text_12 (evX11_readText hq3) (by omega) ?_
    refine a_ite h (fun c4 h => ?_) (fun c4 h => ?_)
    · refine bX11_text_17 (fun z => absurd c4 z) (fun _ => ?_)
      refine bX11_text_28 ?_
      refine a_ite h (fun c5 h => ?_) (fun c5 h => ?_)
      · refine bX11_text_36 (fun _ => ?_) (fun z => absurd c5 z)
        obtain ⟨g6, h⟩ := a_cond h
        obtain ⟨g6x2, g6_2⟩ := a_and g6
        obtain ⟨g6x1, g6_1⟩ := a_and g6x2
        have g6_0 := g6x1
        cases h
        exact bX11_text_53 ⟨(a_inb_vp g6_0), (a_inb_vp g6_1), (a_inb_vp g6_2)⟩
      · refine bX11_text_36 (fun z => absurd z c5) (fun _ => ?_)
        cases h
        exact bX11_text_51
    · refine bX11_text_17 (fun _ => ?_) (fun z => absurd z c4)
      refine bX11_text_32 ?_
      refine a_ite h (fun c7 h => ?_) (fun c7 h => ?_)
      · refine bX11_text_36 (fun _ => ?_) (fun z => absurd c7 z)
        obtain ⟨g8, h⟩ := a_cond h
        obtain ⟨g8x2, g8_2⟩ := a_and g8
        obtain ⟨g8x1, g8_1⟩ := a_and g8x2
        have g8_0 := g8x1
        cases h
        exact bX11_text_53 ⟨(a_inb_vp g8_0), (a_inb_vp g8_1), (a_inb_vp g8_2)⟩
      · refine bX11_text_36 (fun z => absurd z c7) (fun _ => ?_)
        cases h
        exact bX11_text_51

noncomputable def FX11_drawnBy (d : aI) (e : aJ) (x1 : Int32) : Option (Int32 × aI × aJ) := (bif ((a_inb (nI 10) 1961) && (decide (¬ x1 = 0))) then ((FX11_anew d e).bind fun q2 => (some ((a_irm (d 109 10) x1), q2.2.1, q2.2.2))) else none)
theorem evX11_drawnBy {Γ : aG × Launch} {d : aI} {e : aJ} {x1 : Int32} {q : Int32 × aI × aJ} (h : FX11_drawnBy d e x1 = some q) : Ev Γ (1) mX11_drawnBy [.ref 108, .int x1] d e (some (.int q.1)) q.2.1 q.2.2 := by
  refine Ev.of (by decide) rfl (Nat.le_of_ble_eq_true rfl) (fun z => by cases z) ?_
  show Rn Γ (1) mX11_drawnBy 0 [some (.ref 108), some (.int x1), none] [] d e _ _ _
  unfold FX11_drawnBy at h
  obtain ⟨g1, h⟩ := a_cond h
  obtain ⟨g1x1, g1_1⟩ := a_and g1
  have g1_0 := g1x1
  obtain ⟨q2, hq2, h⟩ := Option.bind_eq_some_iff.mp h
  refine bX11_drawnBy_0 ⟨(a_inb_vp g1_0), (of_decide_eq_true g1_1)⟩ (evX11_anew hq2) (by omega) ?_
  cases h
  exact bX11_drawnBy_14

noncomputable def sX11_pass_0 (d : aI) (e : aJ)  : Option (Nat × aL × aI × aJ) := (some (2, [some (.ref 108), some (.int (nI 0)), none], d, e))
theorem tX11_pass_0 {Γ : aG × Launch} {d dF : aI} {e eF : aJ}  {r : Option Value} {p : Nat × aL × aI × aJ} (h : sX11_pass_0 d e  = some p) (kc : Nat.beq p.1 100000 = false → Rn Γ (6) mX11_pass p.1 p.2.1 [] p.2.2.1 p.2.2.2 r dF eF) (kr : p.1 = 100000 → r = a_rt p.2.1 ∧ dF = p.2.2.1 ∧ eF = p.2.2.2) : Rn Γ (6) mX11_pass 0 [some (.ref 108), none, none] [] d e r dF eF := by
  unfold sX11_pass_0 at h
  refine bX11_pass_0 ?_
  cases h
  exact kc rfl

noncomputable def sX11_pass_2 (d : aI) (e : aJ) (x1 : Int32) (v2 : Option Value) : Option (Nat × aL × aI × aJ) := (bif ((a_inb (nI 1) 1961)) then (if (d 109 1) ≤ x1 then (bif ((a_inb (nI 9) 1961) && (a_inb (nI 9) 1961)) then (some (100000, [], (uI d 109 9 ((d 109 9) + (nI 1))), e)) else none) else ((FX11_isWithout d e x1).bind fun q4 => (if q4.1 = 0 then ((FX11_takeNow q4.2.1 q4.2.2 x1).bind fun q6 => (some (2, [some (.ref 108), some (.int (x1 + (nI 1))), v2], q6.2.1, q6.2.2))) else ((FX11_drawnBy q4.2.1 q4.2.2 (nI 3)).bind fun q7 => (if q7.1 ≤ 0 then (some (2, [some (.ref 108), some (.int (x1 + (nI 1))), some (.int q7.1)], q7.2.1, q7.2.2)) else (if q7.1 = (nI 1) then ((FX11_goNow q7.2.1 q7.2.2 x1 (nI 1)).bind fun q10 => (some (2, [some (.ref 108), some (.int (x1 + (nI 1))), some (.int q7.1)], q10.2.1, q10.2.2))) else ((FX11_goNow q7.2.1 q7.2.2 x1 (nI 0)).bind fun q11 => (some (2, [some (.ref 108), some (.int (x1 + (nI 1))), some (.int q7.1)], q11.2.1, q11.2.2))))))))) else none)
theorem tX11_pass_2 {Γ : aG × Launch} {d dF : aI} {e eF : aJ} {x1 : Int32} {v2 : Option Value} {r : Option Value} {p : Nat × aL × aI × aJ} (h : sX11_pass_2 d e x1 v2 = some p) (kc : Nat.beq p.1 100000 = false → Rn Γ (6) mX11_pass p.1 p.2.1 [] p.2.2.1 p.2.2.2 r dF eF) (kr : p.1 = 100000 → r = a_rt p.2.1 ∧ dF = p.2.2.1 ∧ eF = p.2.2.2) : Rn Γ (6) mX11_pass 2 [some (.ref 108), some (.int x1), v2] [] d e r dF eF := by
  unfold sX11_pass_2 at h
  obtain ⟨g1, h⟩ := a_cond h
  refine a_ite h (fun c2 h => ?_) (fun c2 h => ?_)
  · refine bX11_pass_2 (a_inb_vp g1) (fun _ => ?_) (fun z => absurd c2 z)
    obtain ⟨g3, h⟩ := a_cond h
    obtain ⟨g3x1, g3_1⟩ := a_and g3
    have g3_0 := g3x1
    cases h
    obtain ⟨k1, k2, k3⟩ := kr rfl
    exact bX11_pass_59 ⟨(a_inb_vp g3_0), (a_inb_vp g3_1)⟩ k1 k2 k3
  · refine bX11_pass_2 (a_inb_vp g1) (fun z => absurd z c2) (fun _ => ?_)
    obtain ⟨q4, hq4, h⟩ := Option.bind_eq_some_iff.mp h
    refine bX11_pass_12 (evX11_isWithout hq4) (by omega) ?_
    refine a_ite h (fun c5 h => ?_) (fun c5 h => ?_)
    · refine bX11_pass_17 (fun z => absurd c5 z) (fun _ => ?_)
      obtain ⟨q6, hq6, h⟩ := Option.bind_eq_some_iff.mp h
      refine bX11_pass_20 (evX11_takeNow hq6) (by omega) ?_
      refine bX11_pass_25 ?_
      refine bX11_pass_53 ?_
      cases h
      exact kc rfl
    · refine bX11_pass_17 (fun _ => ?_) (fun z => absurd z c5)
      obtain ⟨q7, hq7, h⟩ := Option.bind_eq_some_iff.mp h
      refine bX11_pass_28 (evX11_drawnBy hq7) (by omega) ?_
      refine a_ite h (fun c8 h => ?_) (fun c8 h => ?_)
      · refine bX11_pass_33 (fun _ => ?_) (fun z => absurd c8 z)
        refine bX11_pass_53 ?_
        cases h
        exact kc rfl
      · refine bX11_pass_33 (fun z => absurd z c8) (fun _ => ?_)
        refine a_ite h (fun c9 h => ?_) (fun c9 h => ?_)
        · refine bX11_pass_38 (fun z => absurd c9 z) (fun _ => ?_)
          refine bX11_pass_45 ?_
          obtain ⟨q10, hq10, h⟩ := Option.bind_eq_some_iff.mp h
          refine bX11_pass_50 (evX11_goNow hq10) (by omega) ?_
          refine bX11_pass_53 ?_
          cases h
          exact kc rfl
        · refine bX11_pass_38 (fun _ => ?_) (fun z => absurd z c9)
          refine bX11_pass_49 ?_
          obtain ⟨q11, hq11, h⟩ := Option.bind_eq_some_iff.mp h
          refine bX11_pass_50 (evX11_goNow hq11) (by omega) ?_
          refine bX11_pass_53 ?_
          cases h
          exact kc rfl

noncomputable def stX11_pass (p : Nat × aL × aI × aJ) : Option (Nat × aL × aI × aJ) := match p with
  | (0, [some (.ref 108), none, none], d, e) => sX11_pass_0 d e 
  | (2, [some (.ref 108), some (.int x1), v2], d, e) => sX11_pass_2 d e x1 v2
  | _ => none
theorem uX11_pass {Γ : aG × Launch} {p p2 : Nat × aL × aI × aJ} {r : Option Value} {dF : aI} {eF : aJ} (h : stX11_pass p = some p2) (kc : Nat.beq p2.1 100000 = false → Rn Γ (6) mX11_pass p2.1 p2.2.1 [] p2.2.2.1 p2.2.2.2 r dF eF) (kr : p2.1 = 100000 → r = a_rt p2.2.1 ∧ dF = p2.2.2.1 ∧ eF = p2.2.2.2) : Rn Γ (6) mX11_pass p.1 p.2.1 [] p.2.2.1 p.2.2.2 r dF eF := by
  unfold stX11_pass at h
  split at h
  · exact tX11_pass_0 h kc kr
  · exact tX11_pass_2 h kc kr
  · cases h
noncomputable def FX11_pass (d : aI) (e : aJ)  : Option (Unit × aI × aJ) := (a_run (stX11_pass) (0, [some (.ref 108), none, none], d, e)).bind a_xV
theorem evX11_pass {Γ : aG × Launch} {d : aI} {e : aJ}  {q : Unit × aI × aJ} (h : FX11_pass d e  = some q) : Ev Γ (6) mX11_pass [.ref 108] d e none q.2.1 q.2.2 := by
  refine Ev.of (by decide) rfl (Nat.le_of_ble_eq_true rfl) (fun z => by cases z) ?_
  show Rn Γ (6) mX11_pass 0 [some (.ref 108), none, none] [] d e _ _ _
  obtain ⟨q1, h1, h2⟩ := Option.bind_eq_some_iff.mp h
  obtain ⟨e1, e2, e3⟩ := a_xV_rt h2
  exact Rn.cast (a_run_ok (uX11_pass) rfl h1) e1.symm e2.symm e3.symm
noncomputable def sX11_arePassed_0 (d : aI) (e : aJ) (x1 : Int32) : Option (Nat × aL × aI × aJ) := (some (7, [some (.ref 108), some (.int x1), some (.int (nI 0))], (uI d 108 24 (nI 0)), e))
theorem tX11_arePassed_0 {Γ : aG × Launch} {d dF : aI} {e eF : aJ} {x1 : Int32} {r : Option Value} {p : Nat × aL × aI × aJ} (h : sX11_arePassed_0 d e x1 = some p) (kc : Nat.beq p.1 100000 = false → Rn Γ (7) mX11_arePassed p.1 p.2.1 [] p.2.2.1 p.2.2.2 r dF eF) (kr : p.1 = 100000 → r = a_rt p.2.1 ∧ dF = p.2.2.1 ∧ eF = p.2.2.2) : Rn Γ (7) mX11_arePassed 0 [some (.ref 108), some (.int x1), none] [] d e r dF eF := by
  unfold sX11_arePassed_0 at h
  refine bX11_arePassed_0 ?_
  cases h
  exact kc rfl

noncomputable def sX11_arePassed_7 (d : aI) (e : aJ) (x1 : Int32) (x2 : Int32) : Option (Nat × aL × aI × aJ) := (if x1 ≤ x2 then (some (100000, [some (.int (nI 1))], d, e)) else (bif ((a_inb (nI 9) 1961)) then (if (d 109 9) = (nI 9999) then (some (100000, [some (.int (nI 0))], d, e)) else ((FX11_keep d e).bind fun q4 => ((FX11_pass q4.2.1 q4.2.2).bind fun q5 => (some (7, [some (.ref 108), some (.int x1), some (.int (x2 + (nI 1)))], q5.2.1, q5.2.2))))) else none))
theorem tX11_arePassed_7 {Γ : aG × Launch} {d dF : aI} {e eF : aJ} {x1 : Int32} {x2 : Int32} {r : Option Value} {p : Nat × aL × aI × aJ} (h : sX11_arePassed_7 d e x1 x2 = some p) (kc : Nat.beq p.1 100000 = false → Rn Γ (7) mX11_arePassed p.1 p.2.1 [] p.2.2.1 p.2.2.2 r dF eF) (kr : p.1 = 100000 → r = a_rt p.2.1 ∧ dF = p.2.2.1 ∧ eF = p.2.2.2) : Rn Γ (7) mX11_arePassed 7 [some (.ref 108), some (.int x1), some (.int x2)] [] d e r dF eF := by
  unfold sX11_arePassed_7 at h
  refine a_ite h (fun c1 h => ?_) (fun c1 h => ?_)
  · refine bX11_arePassed_7 (fun _ => ?_) (fun z => absurd c1 z)
    cases h
    obtain ⟨k1, k2, k3⟩ := kr rfl
    exact bX11_arePassed_41 k1 k2 k3
  · refine bX11_arePassed_7 (fun z => absurd z c1) (fun _ => ?_)
    obtain ⟨g2, h⟩ := a_cond h
    refine a_ite h (fun c3 h => ?_) (fun c3 h => ?_)
    · refine bX11_arePassed_12 (a_inb_vp g2) (fun z => absurd c3 z) (fun _ => ?_)
      cases h
      obtain ⟨k1, k2, k3⟩ := kr rfl
      exact bX11_arePassed_25 k1 k2 k3
    · refine bX11_arePassed_12 (a_inb_vp g2) (fun _ => ?_) (fun z => absurd z c3)
      obtain ⟨q4, hq4, h⟩ := Option.bind_eq_some_iff.mp h
      refine bX11_arePassed_27 (evX11_keep hq4) (by omega) ?_
      obtain ⟨q5, hq5, h⟩ := Option.bind_eq_some_iff.mp h
      refine bX11_arePassed_31 (evX11_pass hq5) (by omega) ?_
      refine bX11_arePassed_35 ?_
      cases h
      exact kc rfl

noncomputable def stX11_arePassed (p : Nat × aL × aI × aJ) : Option (Nat × aL × aI × aJ) := match p with
  | (0, [some (.ref 108), some (.int x1), none], d, e) => sX11_arePassed_0 d e x1
  | (7, [some (.ref 108), some (.int x1), some (.int x2)], d, e) => sX11_arePassed_7 d e x1 x2
  | _ => none
theorem uX11_arePassed {Γ : aG × Launch} {p p2 : Nat × aL × aI × aJ} {r : Option Value} {dF : aI} {eF : aJ} (h : stX11_arePassed p = some p2) (kc : Nat.beq p2.1 100000 = false → Rn Γ (7) mX11_arePassed p2.1 p2.2.1 [] p2.2.2.1 p2.2.2.2 r dF eF) (kr : p2.1 = 100000 → r = a_rt p2.2.1 ∧ dF = p2.2.2.1 ∧ eF = p2.2.2.2) : Rn Γ (7) mX11_arePassed p.1 p.2.1 [] p.2.2.1 p.2.2.2 r dF eF := by
  unfold stX11_arePassed at h
  split at h
  · exact tX11_arePassed_0 h kc kr
  · exact tX11_arePassed_7 h kc kr
  · cases h
noncomputable def FX11_arePassed (d : aI) (e : aJ) (x1 : Int32) : Option (Int32 × aI × aJ) := (a_run (stX11_arePassed) (0, [some (.ref 108), some (.int x1), none], d, e)).bind a_xI
theorem evX11_arePassed {Γ : aG × Launch} {d : aI} {e : aJ} {x1 : Int32} {q : Int32 × aI × aJ} (h : FX11_arePassed d e x1 = some q) : Ev Γ (7) mX11_arePassed [.ref 108, .int x1] d e (some (.int q.1)) q.2.1 q.2.2 := by
  refine Ev.of (by decide) rfl (Nat.le_of_ble_eq_true rfl) (fun z => by cases z) ?_
  show Rn Γ (7) mX11_arePassed 0 [some (.ref 108), some (.int x1), none] [] d e _ _ _
  obtain ⟨q1, h1, h2⟩ := Option.bind_eq_some_iff.mp h
  obtain ⟨e1, e2, e3⟩ := a_xI_rt h2
  exact Rn.cast (a_run_ok (uX11_arePassed) rfl h1) e1.symm e2.symm e3.symm
noncomputable def FX11_hour (d : aI) (e : aJ) (x1 : Int32) : Option (Int32 × aI × aJ) := ((FX11_isIn d e x1 (nI 1) (nI 60)).bind fun q1 => (if q1.1 = 0 then (some ((-(nI 1)), q1.2.1, q1.2.2)) else (bif ((a_inb (nI 9) 1961)) then (if (nI 9999) < ((q1.2.1 109 9) + x1) then (some ((-(nI 1)), q1.2.1, q1.2.2)) else ((FX11_arePassed q1.2.1 q1.2.2 x1).bind fun q5 => (if q5.1 = 0 then (some ((-(nI 1)), q5.2.1, q5.2.2)) else (some ((q5.2.1 108 24), q5.2.1, q5.2.2))))) else none)))
theorem evX11_hour {Γ : aG × Launch} {d : aI} {e : aJ} {x1 : Int32} {q : Int32 × aI × aJ} (h : FX11_hour d e x1 = some q) : Ev Γ (8) mX11_hour [.ref 108, .int x1] d e (some (.int q.1)) q.2.1 q.2.2 := by
  refine Ev.of (by decide) rfl (Nat.le_of_ble_eq_true rfl) (fun z => by cases z) ?_
  show Rn Γ (8) mX11_hour 0 [some (.ref 108), some (.int x1)] [] d e _ _ _
  unfold FX11_hour at h
  obtain ⟨q1, hq1, h⟩ := Option.bind_eq_some_iff.mp h
  refine bX11_hour_0 (evX11_isIn hq1) (by omega) ?_
  refine a_ite h (fun c2 h => ?_) (fun c2 h => ?_)
  · refine bX11_hour_7 (fun _ => ?_) (fun z => absurd c2 z)
    refine bX11_hour_40 ?_
    cases h
    exact bX11_hour_41
  · refine bX11_hour_7 (fun z => absurd z c2) (fun _ => ?_)
    obtain ⟨g3, h⟩ := a_cond h
    refine a_ite h (fun c4 h => ?_) (fun c4 h => ?_)
    · refine bX11_hour_10 (a_inb_vp g3) (fun _ => ?_) (fun z => absurd c4 z)
      refine bX11_hour_40 ?_
      cases h
      exact bX11_hour_41
    · refine bX11_hour_10 (a_inb_vp g3) (fun z => absurd z c4) (fun _ => ?_)
      obtain ⟨q5, hq5, h⟩ := Option.bind_eq_some_iff.mp h
      refine bX11_hour_25 (evX11_arePassed hq5) (by omega) ?_
      refine a_ite h (fun c6 h => ?_) (fun c6 h => ?_)
      · refine bX11_hour_30 (fun _ => ?_) (fun z => absurd c6 z)
        refine bX11_hour_40 ?_
        cases h
        exact bX11_hour_41
      · refine bX11_hour_30 (fun z => absurd z c6) (fun _ => ?_)
        refine bX11_hour_33 ?_
        cases h
        exact bX11_hour_41

noncomputable def FX11_isPlayed (d : aI) (e : aJ) (x1 : Int32) : Option (Int32 × aI × aJ) := (bif ((a_inb (x1 + (nI 1)) 2724) && (a_inb (x1 + (nI 2)) 2724) && (a_inb x1 2724)) then (if (d 111 (x1).toNatClampNeg) = (nI 2) then ((FX11_house d e (d 111 ((x1 + (nI 1))).toNatClampNeg) (d 111 ((x1 + (nI 2))).toNatClampNeg)).bind fun q3 => (if q3.1 < 0 then (some ((nI 0), q3.2.1, q3.2.2)) else (some ((nI 1), q3.2.1, q3.2.2)))) else (if (d 111 (x1).toNatClampNeg) = (nI 3) then ((FX11_cat d e (d 111 ((x1 + (nI 1))).toNatClampNeg) (d 111 ((x1 + (nI 2))).toNatClampNeg)).bind fun q6 => (if q6.1 < 0 then (some ((nI 0), q6.2.1, q6.2.2)) else (some ((nI 1), q6.2.1, q6.2.2)))) else (if (d 111 (x1).toNatClampNeg) = (nI 4) then ((FX11_let d e (d 111 ((x1 + (nI 1))).toNatClampNeg) (d 111 ((x1 + (nI 2))).toNatClampNeg)).bind fun q9 => (bif (decide (q9.1 = 0 ∨ q9.1 = 1)) then (some (q9.1, q9.2.1, q9.2.2)) else none)) else (if (d 111 (x1).toNatClampNeg) = (nI 5) then ((FX11_out d e (d 111 ((x1 + (nI 1))).toNatClampNeg)).bind fun q12 => (if q12.1 < 0 then (some ((nI 0), q12.2.1, q12.2.2)) else (some ((nI 1), q12.2.1, q12.2.2)))) else (if (d 111 (x1).toNatClampNeg) = (nI 6) then ((FX11_go d e (d 111 ((x1 + (nI 1))).toNatClampNeg) (nI 1)).bind fun q15 => (bif (decide (q15.1 = 0 ∨ q15.1 = 1)) then (some (q15.1, q15.2.1, q15.2.2)) else none)) else (if (d 111 (x1).toNatClampNeg) = (nI 7) then ((FX11_go d e (d 111 ((x1 + (nI 1))).toNatClampNeg) (nI 0)).bind fun q18 => (bif (decide (q18.1 = 0 ∨ q18.1 = 1)) then (some (q18.1, q18.2.1, q18.2.2)) else none)) else (if (d 111 (x1).toNatClampNeg) = (nI 8) then ((FX11_arePassed d e (d 111 ((x1 + (nI 1))).toNatClampNeg)).bind fun q21 => (bif (decide (q21.1 = 0 ∨ q21.1 = 1)) then (some (q21.1, q21.2.1, q21.2.2)) else none)) else (some ((nI 1), d, e))))))))) else none)
theorem evX11_isPlayed {Γ : aG × Launch} {d : aI} {e : aJ} {x1 : Int32} {q : Int32 × aI × aJ} (h : FX11_isPlayed d e x1 = some q) : Ev Γ (8) mX11_isPlayed [.ref 108, .int x1] d e (some (.int q.1)) q.2.1 q.2.2 := by
  refine Ev.of (by decide) rfl (Nat.le_of_ble_eq_true rfl) (fun z => by cases z) ?_
  show Rn Γ (8) mX11_isPlayed 0 [some (.ref 108), some (.int x1), none, none] [] d e _ _ _
  unfold FX11_isPlayed at h
  obtain ⟨g1, h⟩ := a_cond h
  obtain ⟨g1x2, g1_2⟩ := a_and g1
  obtain ⟨g1x1, g1_1⟩ := a_and g1x2
  have g1_0 := g1x1
  refine a_ite h (fun c2 h => ?_) (fun c2 h => ?_)
  · refine bX11_isPlayed_0 ⟨(a_inb_vp g1_0), (a_inb_vp g1_1), (a_inb_vp g1_2)⟩ (fun n0 _ _ _ _ _ _ => absurd c2 n0) (fun _ => ?_) (fun z => absurd (c2.symm.trans z) (by decide)) (fun z => absurd (c2.symm.trans z) (by decide)) (fun z => absurd (c2.symm.trans z) (by decide)) (fun z => absurd (c2.symm.trans z) (by decide)) (fun z => absurd (c2.symm.trans z) (by decide)) (fun z => absurd (c2.symm.trans z) (by decide))
    obtain ⟨q3, hq3, h⟩ := Option.bind_eq_some_iff.mp h
    refine bX11_isPlayed_68 (evX11_house hq3) (by omega) ?_
    refine a_ite h (fun c4 h => ?_) (fun c4 h => ?_)
    · refine bX11_isPlayed_74 (fun _ => ?_) (fun z => absurd c4 z)
      refine bX11_isPlayed_81 ?_
      cases h
      exact bX11_isPlayed_82 (a_nz (Or.inl rfl))
    · refine bX11_isPlayed_74 (fun z => absurd z c4) (fun _ => ?_)
      refine bX11_isPlayed_77 ?_
      cases h
      exact bX11_isPlayed_82 (a_nz (Or.inr rfl))
  · skip
    refine a_ite h (fun c5 h => ?_) (fun c5 h => ?_)
    · refine bX11_isPlayed_0 ⟨(a_inb_vp g1_0), (a_inb_vp g1_1), (a_inb_vp g1_2)⟩ (fun _ n1 _ _ _ _ _ => absurd c5 n1) (fun z => absurd z c2) (fun _ => ?_) (fun z => absurd (c5.symm.trans z) (by decide)) (fun z => absurd (c5.symm.trans z) (by decide)) (fun z => absurd (c5.symm.trans z) (by decide)) (fun z => absurd (c5.symm.trans z) (by decide)) (fun z => absurd (c5.symm.trans z) (by decide))
      obtain ⟨q6, hq6, h⟩ := Option.bind_eq_some_iff.mp h
      refine bX11_isPlayed_83 (evX11_cat hq6) (by omega) ?_
      refine a_ite h (fun c7 h => ?_) (fun c7 h => ?_)
      · refine bX11_isPlayed_89 (fun _ => ?_) (fun z => absurd c7 z)
        refine bX11_isPlayed_96 ?_
        cases h
        exact bX11_isPlayed_97 (a_nz (Or.inl rfl))
      · refine bX11_isPlayed_89 (fun z => absurd z c7) (fun _ => ?_)
        refine bX11_isPlayed_92 ?_
        cases h
        exact bX11_isPlayed_97 (a_nz (Or.inr rfl))
    · skip
      refine a_ite h (fun c8 h => ?_) (fun c8 h => ?_)
      · refine bX11_isPlayed_0 ⟨(a_inb_vp g1_0), (a_inb_vp g1_1), (a_inb_vp g1_2)⟩ (fun _ _ n2 _ _ _ _ => absurd c8 n2) (fun z => absurd z c2) (fun z => absurd z c5) (fun _ => ?_) (fun z => absurd (c8.symm.trans z) (by decide)) (fun z => absurd (c8.symm.trans z) (by decide)) (fun z => absurd (c8.symm.trans z) (by decide)) (fun z => absurd (c8.symm.trans z) (by decide))
        obtain ⟨q9, hq9, h⟩ := Option.bind_eq_some_iff.mp h
        refine bX11_isPlayed_98 (evX11_let hq9) (by omega) ?_
        obtain ⟨z10, h⟩ := a_cond h
        cases h
        exact bX11_isPlayed_104 (a_nz (of_decide_eq_true z10))
      · skip
        refine a_ite h (fun c11 h => ?_) (fun c11 h => ?_)
        · refine bX11_isPlayed_0 ⟨(a_inb_vp g1_0), (a_inb_vp g1_1), (a_inb_vp g1_2)⟩ (fun _ _ _ n3 _ _ _ => absurd c11 n3) (fun z => absurd z c2) (fun z => absurd z c5) (fun z => absurd z c8) (fun _ => ?_) (fun z => absurd (c11.symm.trans z) (by decide)) (fun z => absurd (c11.symm.trans z) (by decide)) (fun z => absurd (c11.symm.trans z) (by decide))
          obtain ⟨q12, hq12, h⟩ := Option.bind_eq_some_iff.mp h
          refine bX11_isPlayed_105 (evX11_out hq12) (by omega) ?_
          refine a_ite h (fun c13 h => ?_) (fun c13 h => ?_)
          · refine bX11_isPlayed_110 (fun _ => ?_) (fun z => absurd c13 z)
            refine bX11_isPlayed_117 ?_
            cases h
            exact bX11_isPlayed_118 (a_nz (Or.inl rfl))
          · refine bX11_isPlayed_110 (fun z => absurd z c13) (fun _ => ?_)
            refine bX11_isPlayed_113 ?_
            cases h
            exact bX11_isPlayed_118 (a_nz (Or.inr rfl))
        · skip
          refine a_ite h (fun c14 h => ?_) (fun c14 h => ?_)
          · refine bX11_isPlayed_0 ⟨(a_inb_vp g1_0), (a_inb_vp g1_1), (a_inb_vp g1_2)⟩ (fun _ _ _ _ n4 _ _ => absurd c14 n4) (fun z => absurd z c2) (fun z => absurd z c5) (fun z => absurd z c8) (fun z => absurd z c11) (fun _ => ?_) (fun z => absurd (c14.symm.trans z) (by decide)) (fun z => absurd (c14.symm.trans z) (by decide))
            obtain ⟨q15, hq15, h⟩ := Option.bind_eq_some_iff.mp h
            refine bX11_isPlayed_119 (evX11_go hq15) (by omega) ?_
            obtain ⟨z16, h⟩ := a_cond h
            cases h
            exact bX11_isPlayed_125 (a_nz (of_decide_eq_true z16))
          · skip
            refine a_ite h (fun c17 h => ?_) (fun c17 h => ?_)
            · refine bX11_isPlayed_0 ⟨(a_inb_vp g1_0), (a_inb_vp g1_1), (a_inb_vp g1_2)⟩ (fun _ _ _ _ _ n5 _ => absurd c17 n5) (fun z => absurd z c2) (fun z => absurd z c5) (fun z => absurd z c8) (fun z => absurd z c11) (fun z => absurd z c14) (fun _ => ?_) (fun z => absurd (c17.symm.trans z) (by decide))
              obtain ⟨q18, hq18, h⟩ := Option.bind_eq_some_iff.mp h
              refine bX11_isPlayed_126 (evX11_go hq18) (by omega) ?_
              obtain ⟨z19, h⟩ := a_cond h
              cases h
              exact bX11_isPlayed_132 (a_nz (of_decide_eq_true z19))
            · skip
              refine a_ite h (fun c20 h => ?_) (fun c20 h => ?_)
              · refine bX11_isPlayed_0 ⟨(a_inb_vp g1_0), (a_inb_vp g1_1), (a_inb_vp g1_2)⟩ (fun _ _ _ _ _ _ n6 => absurd c20 n6) (fun z => absurd z c2) (fun z => absurd z c5) (fun z => absurd z c8) (fun z => absurd z c11) (fun z => absurd z c14) (fun z => absurd z c17) (fun _ => ?_)
                obtain ⟨q21, hq21, h⟩ := Option.bind_eq_some_iff.mp h
                refine bX11_isPlayed_133 (evX11_arePassed hq21) (by omega) ?_
                obtain ⟨z22, h⟩ := a_cond h
                cases h
                exact bX11_isPlayed_138 (a_nz (of_decide_eq_true z22))
              · skip
                refine bX11_isPlayed_0 ⟨(a_inb_vp g1_0), (a_inb_vp g1_1), (a_inb_vp g1_2)⟩ (fun _ _ _ _ _ _ _ => ?_) (fun z => absurd z c2) (fun z => absurd z c5) (fun z => absurd z c8) (fun z => absurd z c11) (fun z => absurd z c14) (fun z => absurd z c17) (fun z => absurd z c20)
                cases h
                exact bX11_isPlayed_139

noncomputable def sX11_played_0 (d : aI) (e : aJ) (x1 : Int32) : Option (Nat × aL × aI × aJ) := (bif ((a_inb (nI 2) 1961)) then ((FX11_isIn d e x1 (nI 0) ((d 109 2) - (nI 1))).bind fun q2 => (if q2.1 = 0 then (some (100000, [some (.int (-(nI 2)))], q2.2.1, q2.2.2)) else (some (21, [some (.ref 108), some (.int x1), some (.int (nI 0))], q2.2.1, q2.2.2)))) else none)
theorem tX11_played_0 {Γ : aG × Launch} {d dF : aI} {e eF : aJ} {x1 : Int32} {r : Option Value} {p : Nat × aL × aI × aJ} (h : sX11_played_0 d e x1 = some p) (kc : Nat.beq p.1 100000 = false → Rn Γ (9) mX11_played p.1 p.2.1 [] p.2.2.1 p.2.2.2 r dF eF) (kr : p.1 = 100000 → r = a_rt p.2.1 ∧ dF = p.2.2.1 ∧ eF = p.2.2.2) : Rn Γ (9) mX11_played 0 [some (.ref 108), some (.int x1), none] [] d e r dF eF := by
  unfold sX11_played_0 at h
  obtain ⟨g1, h⟩ := a_cond h
  obtain ⟨q2, hq2, h⟩ := Option.bind_eq_some_iff.mp h
  refine bX11_played_0 (a_inb_vp g1) (evX11_isIn hq2) (by omega) ?_
  refine a_ite h (fun c3 h => ?_) (fun c3 h => ?_)
  · refine bX11_played_13 (fun z => absurd c3 z) (fun _ => ?_)
    cases h
    obtain ⟨k1, k2, k3⟩ := kr rfl
    exact bX11_played_16 k1 k2 k3
  · refine bX11_played_13 (fun _ => ?_) (fun z => absurd z c3)
    refine bX11_played_19 ?_
    cases h
    exact kc rfl

noncomputable def sX11_played_21 (d : aI) (e : aJ) (x1 : Int32) (x2 : Int32) : Option (Nat × aL × aI × aJ) := (bif ((a_inb ((nI 681) * x1) 2724)) then (if (d 111 (((nI 681) * x1)).toNatClampNeg) ≤ x2 then (some (100000, [some (.int (-(nI 1)))], d, e)) else ((FX11_isPlayed d e ((((nI 681) * x1) + (nI 1)) + ((nI 3) * x2))).bind fun q3 => (if q3.1 = 0 then (some (100000, [some (.int x2)], q3.2.1, q3.2.2)) else (some (21, [some (.ref 108), some (.int x1), some (.int (x2 + (nI 1)))], q3.2.1, q3.2.2))))) else none)
theorem tX11_played_21 {Γ : aG × Launch} {d dF : aI} {e eF : aJ} {x1 : Int32} {x2 : Int32} {r : Option Value} {p : Nat × aL × aI × aJ} (h : sX11_played_21 d e x1 x2 = some p) (kc : Nat.beq p.1 100000 = false → Rn Γ (9) mX11_played p.1 p.2.1 [] p.2.2.1 p.2.2.2 r dF eF) (kr : p.1 = 100000 → r = a_rt p.2.1 ∧ dF = p.2.2.1 ∧ eF = p.2.2.2) : Rn Γ (9) mX11_played 21 [some (.ref 108), some (.int x1), some (.int x2)] [] d e r dF eF := by
  unfold sX11_played_21 at h
  obtain ⟨g1, h⟩ := a_cond h
  refine a_ite h (fun c2 h => ?_) (fun c2 h => ?_)
  · refine bX11_played_21 (a_inb_vp g1) (fun _ => ?_) (fun z => absurd c2 z)
    cases h
    obtain ⟨k1, k2, k3⟩ := kr rfl
    exact bX11_played_61 k1 k2 k3
  · refine bX11_played_21 (a_inb_vp g1) (fun z => absurd z c2) (fun _ => ?_)
    obtain ⟨q3, hq3, h⟩ := Option.bind_eq_some_iff.mp h
    refine bX11_played_35 (evX11_isPlayed hq3) (by omega) ?_
    refine a_ite h (fun c4 h => ?_) (fun c4 h => ?_)
    · refine bX11_played_50 (fun z => absurd c4 z) (fun _ => ?_)
      cases h
      obtain ⟨k1, k2, k3⟩ := kr rfl
      exact bX11_played_53 k1 k2 k3
    · refine bX11_played_50 (fun _ => ?_) (fun z => absurd z c4)
      refine bX11_played_55 ?_
      cases h
      exact kc rfl

noncomputable def stX11_played (p : Nat × aL × aI × aJ) : Option (Nat × aL × aI × aJ) := match p with
  | (0, [some (.ref 108), some (.int x1), none], d, e) => sX11_played_0 d e x1
  | (21, [some (.ref 108), some (.int x1), some (.int x2)], d, e) => sX11_played_21 d e x1 x2
  | _ => none
theorem uX11_played {Γ : aG × Launch} {p p2 : Nat × aL × aI × aJ} {r : Option Value} {dF : aI} {eF : aJ} (h : stX11_played p = some p2) (kc : Nat.beq p2.1 100000 = false → Rn Γ (9) mX11_played p2.1 p2.2.1 [] p2.2.2.1 p2.2.2.2 r dF eF) (kr : p2.1 = 100000 → r = a_rt p2.2.1 ∧ dF = p2.2.2.1 ∧ eF = p2.2.2.2) : Rn Γ (9) mX11_played p.1 p.2.1 [] p.2.2.1 p.2.2.2 r dF eF := by
  unfold stX11_played at h
  split at h
  · exact tX11_played_0 h kc kr
  · exact tX11_played_21 h kc kr
  · cases h
noncomputable def FX11_played (d : aI) (e : aJ) (x1 : Int32) : Option (Int32 × aI × aJ) := (a_run (stX11_played) (0, [some (.ref 108), some (.int x1), none], d, e)).bind a_xI
theorem evX11_played {Γ : aG × Launch} {d : aI} {e : aJ} {x1 : Int32} {q : Int32 × aI × aJ} (h : FX11_played d e x1 = some q) : Ev Γ (9) mX11_played [.ref 108, .int x1] d e (some (.int q.1)) q.2.1 q.2.2 := by
  refine Ev.of (by decide) rfl (Nat.le_of_ble_eq_true rfl) (fun z => by cases z) ?_
  show Rn Γ (9) mX11_played 0 [some (.ref 108), some (.int x1), none] [] d e _ _ _
  obtain ⟨q1, h1, h2⟩ := Option.bind_eq_some_iff.mp h
  obtain ⟨e1, e2, e3⟩ := a_xI_rt h2
  exact Rn.cast (a_run_ok (uX11_played) rfl h1) e1.symm e2.symm e3.symm
noncomputable def FX11_happens (d : aI) (e : aJ) (x1 : Int32) : Option (Unit × aI × aJ) := (bif ((a_inb (nI 1) 1961)) then (if (d 109 1) = 0 then (bif ((a_inb (nI 0) 1961)) then (if (d 109 0) = 0 then (bif ((decide (¬ (nI 6) = 0))) then (if (a_irm x1 (nI 6)) = (nI 0) then ((FX11_canLet d e (-(nI 1)) (-(nI 1))).bind fun q7 => (if q7.1 = 0 then (some ((), q7.2.1, q7.2.2)) else ((FX11_letNow q7.2.1 q7.2.2 (-(nI 1)) (-(nI 1))).bind fun q9 => (some ((), q9.2.1, q9.2.2))))) else (if (a_irm x1 (nI 6)) = (nI 1) then ((FX11_canLet d e (-(nI 1)) (-(nI 1))).bind fun q11 => (if q11.1 = 0 then (some ((), q11.2.1, q11.2.2)) else ((FX11_letNow q11.2.1 q11.2.2 (-(nI 1)) (-(nI 1))).bind fun q13 => (some ((), q13.2.1, q13.2.2))))) else (if (a_irm x1 (nI 6)) = (nI 2) then (if (-(nI 1)) = (-(nI 1)) then (some ((), d, e)) else ((FX11_catIn d e (-(nI 1))).bind fun q16 => (if q16.1 = (-(nI 1)) then (some ((), q16.2.1, q16.2.2)) else ((FX11_catIn q16.2.1 q16.2.2 (-(nI 1))).bind fun q18 => ((FX11_outNow q18.2.1 q18.2.2 q18.1 (nI 1)).bind fun q19 => (some ((), q19.2.1, q19.2.2))))))) else (if (a_irm x1 (nI 6)) = (nI 3) then ((FX11_canGo d e (-(nI 1))).bind fun q21 => (if q21.1 = 0 then (some ((), q21.2.1, q21.2.2)) else (bif ((decide (¬ (nI 6) = 0)) && (decide (¬ (nI 2) = 0))) then (if (a_irm (x1 / (nI 6)) (nI 2)) = 0 then ((FX11_goNow q21.2.1 q21.2.2 (-(nI 1)) (nI 1)).bind fun q25 => (some ((), q25.2.1, q25.2.2))) else ((FX11_goNow q21.2.1 q21.2.2 (-(nI 1)) (nI 0)).bind fun q26 => (some ((), q26.2.1, q26.2.2)))) else none))) else (bif ((a_inb (nI 9) 1961)) then (if (nI 9999) ≤ (d 109 9) then (some ((), d, e)) else ((FX11_pass d e).bind fun q29 => (some ((), q29.2.1, q29.2.2)))) else none))))) else none) else (bif ((a_inb (nI 0) 1961) && (decide (¬ (d 109 0) = 0))) then (bif ((decide (¬ (nI 6) = 0))) then (if (a_irm x1 (nI 6)) = (nI 0) then ((FX11_canLet d e (-(nI 1)) (a_irm x1 (d 109 0))).bind fun q33 => (if q33.1 = 0 then (some ((), q33.2.1, q33.2.2)) else ((FX11_letNow q33.2.1 q33.2.2 (-(nI 1)) (a_irm x1 (d 109 0))).bind fun q35 => (some ((), q35.2.1, q35.2.2))))) else (if (a_irm x1 (nI 6)) = (nI 1) then ((FX11_canLet d e (-(nI 1)) (a_irm x1 (d 109 0))).bind fun q37 => (if q37.1 = 0 then (some ((), q37.2.1, q37.2.2)) else ((FX11_letNow q37.2.1 q37.2.2 (-(nI 1)) (a_irm x1 (d 109 0))).bind fun q39 => (some ((), q39.2.1, q39.2.2))))) else (if (a_irm x1 (nI 6)) = (nI 2) then (if (a_irm x1 (d 109 0)) = (-(nI 1)) then (some ((), d, e)) else ((FX11_catIn d e (a_irm x1 (d 109 0))).bind fun q42 => (if q42.1 = (-(nI 1)) then (some ((), q42.2.1, q42.2.2)) else ((FX11_catIn q42.2.1 q42.2.2 (a_irm x1 (d 109 0))).bind fun q44 => ((FX11_outNow q44.2.1 q44.2.2 q44.1 (nI 1)).bind fun q45 => (some ((), q45.2.1, q45.2.2))))))) else (if (a_irm x1 (nI 6)) = (nI 3) then ((FX11_canGo d e (-(nI 1))).bind fun q47 => (if q47.1 = 0 then (some ((), q47.2.1, q47.2.2)) else (bif ((decide (¬ (nI 6) = 0)) && (decide (¬ (nI 2) = 0))) then (if (a_irm (x1 / (nI 6)) (nI 2)) = 0 then ((FX11_goNow q47.2.1 q47.2.2 (-(nI 1)) (nI 1)).bind fun q51 => (some ((), q51.2.1, q51.2.2))) else ((FX11_goNow q47.2.1 q47.2.2 (-(nI 1)) (nI 0)).bind fun q52 => (some ((), q52.2.1, q52.2.2)))) else none))) else (bif ((a_inb (nI 9) 1961)) then (if (nI 9999) ≤ (d 109 9) then (some ((), d, e)) else ((FX11_pass d e).bind fun q55 => (some ((), q55.2.1, q55.2.2)))) else none))))) else none) else none)) else none) else (bif ((decide (¬ (nI 6) = 0)) && (a_inb (nI 1) 1961) && (decide (¬ (d 109 1) = 0))) then (bif ((a_inb (nI 0) 1961)) then (if (d 109 0) = 0 then (bif ((decide (¬ (nI 6) = 0))) then (if (a_irm x1 (nI 6)) = (nI 0) then ((FX11_canLet d e (a_irm (x1 / (nI 6)) (d 109 1)) (-(nI 1))).bind fun q61 => (if q61.1 = 0 then (some ((), q61.2.1, q61.2.2)) else ((FX11_letNow q61.2.1 q61.2.2 (a_irm (x1 / (nI 6)) (d 109 1)) (-(nI 1))).bind fun q63 => (some ((), q63.2.1, q63.2.2))))) else (if (a_irm x1 (nI 6)) = (nI 1) then ((FX11_canLet d e (a_irm (x1 / (nI 6)) (d 109 1)) (-(nI 1))).bind fun q65 => (if q65.1 = 0 then (some ((), q65.2.1, q65.2.2)) else ((FX11_letNow q65.2.1 q65.2.2 (a_irm (x1 / (nI 6)) (d 109 1)) (-(nI 1))).bind fun q67 => (some ((), q67.2.1, q67.2.2))))) else (if (a_irm x1 (nI 6)) = (nI 2) then (if (-(nI 1)) = (-(nI 1)) then (some ((), d, e)) else ((FX11_catIn d e (-(nI 1))).bind fun q70 => (if q70.1 = (-(nI 1)) then (some ((), q70.2.1, q70.2.2)) else ((FX11_catIn q70.2.1 q70.2.2 (-(nI 1))).bind fun q72 => ((FX11_outNow q72.2.1 q72.2.2 q72.1 (nI 1)).bind fun q73 => (some ((), q73.2.1, q73.2.2))))))) else (if (a_irm x1 (nI 6)) = (nI 3) then ((FX11_canGo d e (a_irm (x1 / (nI 6)) (d 109 1))).bind fun q75 => (if q75.1 = 0 then (some ((), q75.2.1, q75.2.2)) else (bif ((decide (¬ (nI 6) = 0)) && (decide (¬ (nI 2) = 0))) then (if (a_irm (x1 / (nI 6)) (nI 2)) = 0 then ((FX11_goNow q75.2.1 q75.2.2 (a_irm (x1 / (nI 6)) (d 109 1)) (nI 1)).bind fun q79 => (some ((), q79.2.1, q79.2.2))) else ((FX11_goNow q75.2.1 q75.2.2 (a_irm (x1 / (nI 6)) (d 109 1)) (nI 0)).bind fun q80 => (some ((), q80.2.1, q80.2.2)))) else none))) else (bif ((a_inb (nI 9) 1961)) then (if (nI 9999) ≤ (d 109 9) then (some ((), d, e)) else ((FX11_pass d e).bind fun q83 => (some ((), q83.2.1, q83.2.2)))) else none))))) else none) else (bif ((a_inb (nI 0) 1961) && (decide (¬ (d 109 0) = 0))) then (bif ((decide (¬ (nI 6) = 0))) then (if (a_irm x1 (nI 6)) = (nI 0) then ((FX11_canLet d e (a_irm (x1 / (nI 6)) (d 109 1)) (a_irm x1 (d 109 0))).bind fun q87 => (if q87.1 = 0 then (some ((), q87.2.1, q87.2.2)) else ((FX11_letNow q87.2.1 q87.2.2 (a_irm (x1 / (nI 6)) (d 109 1)) (a_irm x1 (d 109 0))).bind fun q89 => (some ((), q89.2.1, q89.2.2))))) else (if (a_irm x1 (nI 6)) = (nI 1) then ((FX11_canLet d e (a_irm (x1 / (nI 6)) (d 109 1)) (a_irm x1 (d 109 0))).bind fun q91 => (if q91.1 = 0 then (some ((), q91.2.1, q91.2.2)) else ((FX11_letNow q91.2.1 q91.2.2 (a_irm (x1 / (nI 6)) (d 109 1)) (a_irm x1 (d 109 0))).bind fun q93 => (some ((), q93.2.1, q93.2.2))))) else (if (a_irm x1 (nI 6)) = (nI 2) then (if (a_irm x1 (d 109 0)) = (-(nI 1)) then (some ((), d, e)) else ((FX11_catIn d e (a_irm x1 (d 109 0))).bind fun q96 => (if q96.1 = (-(nI 1)) then (some ((), q96.2.1, q96.2.2)) else ((FX11_catIn q96.2.1 q96.2.2 (a_irm x1 (d 109 0))).bind fun q98 => ((FX11_outNow q98.2.1 q98.2.2 q98.1 (nI 1)).bind fun q99 => (some ((), q99.2.1, q99.2.2))))))) else (if (a_irm x1 (nI 6)) = (nI 3) then ((FX11_canGo d e (a_irm (x1 / (nI 6)) (d 109 1))).bind fun q101 => (if q101.1 = 0 then (some ((), q101.2.1, q101.2.2)) else (bif ((decide (¬ (nI 6) = 0)) && (decide (¬ (nI 2) = 0))) then (if (a_irm (x1 / (nI 6)) (nI 2)) = 0 then ((FX11_goNow q101.2.1 q101.2.2 (a_irm (x1 / (nI 6)) (d 109 1)) (nI 1)).bind fun q105 => (some ((), q105.2.1, q105.2.2))) else ((FX11_goNow q101.2.1 q101.2.2 (a_irm (x1 / (nI 6)) (d 109 1)) (nI 0)).bind fun q106 => (some ((), q106.2.1, q106.2.2)))) else none))) else (bif ((a_inb (nI 9) 1961)) then (if (nI 9999) ≤ (d 109 9) then (some ((), d, e)) else ((FX11_pass d e).bind fun q109 => (some ((), q109.2.1, q109.2.2)))) else none))))) else none) else none)) else none) else none)) else none)
theorem evX11_happens {Γ : aG × Launch} {d : aI} {e : aJ} {x1 : Int32} {q : Unit × aI × aJ} (h : FX11_happens d e x1 = some q) : Ev Γ (7) mX11_happens [.ref 108, .int x1] d e none q.2.1 q.2.2 := by
  refine Ev.of (by decide) rfl (Nat.le_of_ble_eq_true rfl) (fun z => by cases z) ?_
  show Rn Γ (7) mX11_happens 0 [some (.ref 108), some (.int x1), none, none] [] d e _ _ _
  unfold FX11_happens at h
  obtain ⟨g1, h⟩ := a_cond h
  refine a_ite h (fun c2 h => ?_) (fun c2 h => ?_)
  · refine bX11_happens_0 (a_inb_vp g1) (fun z => absurd c2 z) (fun _ => ?_)
    refine bX11_happens_9 ?_
    obtain ⟨g3, h⟩ := a_cond h
    refine a_ite h (fun c4 h => ?_) (fun c4 h => ?_)
    · refine bX11_happens_24 (a_inb_vp g3) (fun z => absurd c4 z) (fun _ => ?_)
      refine bX11_happens_34 ?_
      obtain ⟨g5, h⟩ := a_cond h
      refine a_ite h (fun c6 h => ?_) (fun c6 h => ?_)
      · refine bX11_happens_46 (of_decide_eq_true g5) (fun n0 _ _ _ => absurd c6 n0) (fun _ => ?_) (fun z => absurd (c6.symm.trans z) (by decide)) (fun z => absurd (c6.symm.trans z) (by decide)) (fun z => absurd (c6.symm.trans z) (by decide))
        obtain ⟨q7, hq7, h⟩ := Option.bind_eq_some_iff.mp h
        refine bX11_happens_80 (evX11_canLet hq7) (by omega) ?_
        refine a_ite h (fun c8 h => ?_) (fun c8 h => ?_)
        · refine bX11_happens_86 (fun _ => ?_) (fun z => absurd c8 z)
          cases h
          exact bX11_happens_172
        · refine bX11_happens_86 (fun z => absurd z c8) (fun _ => ?_)
          obtain ⟨q9, hq9, h⟩ := Option.bind_eq_some_iff.mp h
          refine bX11_happens_89 (evX11_letNow hq9) (by omega) ?_
          refine bX11_happens_95 ?_
          cases h
          exact bX11_happens_172
      · skip
        refine a_ite h (fun c10 h => ?_) (fun c10 h => ?_)
        · refine bX11_happens_46 (of_decide_eq_true g5) (fun _ n1 _ _ => absurd c10 n1) (fun z => absurd z c6) (fun _ => ?_) (fun z => absurd (c10.symm.trans z) (by decide)) (fun z => absurd (c10.symm.trans z) (by decide))
          obtain ⟨q11, hq11, h⟩ := Option.bind_eq_some_iff.mp h
          refine bX11_happens_80 (evX11_canLet hq11) (by omega) ?_
          refine a_ite h (fun c12 h => ?_) (fun c12 h => ?_)
          · refine bX11_happens_86 (fun _ => ?_) (fun z => absurd c12 z)
            cases h
            exact bX11_happens_172
          · refine bX11_happens_86 (fun z => absurd z c12) (fun _ => ?_)
            obtain ⟨q13, hq13, h⟩ := Option.bind_eq_some_iff.mp h
            refine bX11_happens_89 (evX11_letNow hq13) (by omega) ?_
            refine bX11_happens_95 ?_
            cases h
            exact bX11_happens_172
        · skip
          refine a_ite h (fun c14 h => ?_) (fun c14 h => ?_)
          · refine bX11_happens_46 (of_decide_eq_true g5) (fun _ _ n2 _ => absurd c14 n2) (fun z => absurd z c6) (fun z => absurd z c10) (fun _ => ?_) (fun z => absurd (c14.symm.trans z) (by decide))
            refine a_ite h (fun c15 h => ?_) (fun c15 h => ?_)
            · refine bX11_happens_98 (fun _ => ?_) (fun z => absurd c15 z)
              cases h
              exact bX11_happens_172
            · refine bX11_happens_98 (fun z => absurd z c15) (fun _ => ?_)
              obtain ⟨q16, hq16, h⟩ := Option.bind_eq_some_iff.mp h
              refine bX11_happens_103 (evX11_catIn hq16) (by omega) ?_
              refine a_ite h (fun c17 h => ?_) (fun c17 h => ?_)
              · refine bX11_happens_108 (fun _ => ?_) (fun z => absurd c17 z)
                cases h
                exact bX11_happens_172
              · refine bX11_happens_108 (fun z => absurd z c17) (fun _ => ?_)
                obtain ⟨q18, hq18, h⟩ := Option.bind_eq_some_iff.mp h
                refine bX11_happens_112 (evX11_catIn hq18) (by omega) ?_
                obtain ⟨q19, hq19, h⟩ := Option.bind_eq_some_iff.mp h
                refine bX11_happens_118 (evX11_outNow hq19) (by omega) ?_
                refine bX11_happens_122 ?_
                cases h
                exact bX11_happens_172
          · skip
            refine a_ite h (fun c20 h => ?_) (fun c20 h => ?_)
            · refine bX11_happens_46 (of_decide_eq_true g5) (fun _ _ _ n3 => absurd c20 n3) (fun z => absurd z c6) (fun z => absurd z c10) (fun z => absurd z c14) (fun _ => ?_)
              obtain ⟨q21, hq21, h⟩ := Option.bind_eq_some_iff.mp h
              refine bX11_happens_125 (evX11_canGo hq21) (by omega) ?_
              refine a_ite h (fun c22 h => ?_) (fun c22 h => ?_)
              · refine bX11_happens_130 (fun _ => ?_) (fun z => absurd c22 z)
                cases h
                exact bX11_happens_172
              · refine bX11_happens_130 (fun z => absurd z c22) (fun _ => ?_)
                obtain ⟨g23, h⟩ := a_cond h
                obtain ⟨g23x1, g23_1⟩ := a_and g23
                have g23_0 := g23x1
                refine a_ite h (fun c24 h => ?_) (fun c24 h => ?_)
                · refine bX11_happens_133 ⟨(of_decide_eq_true g23_0), (of_decide_eq_true g23_1)⟩ (fun z => absurd c24 z) (fun _ => ?_)
                  refine bX11_happens_144 ?_
                  obtain ⟨q25, hq25, h⟩ := Option.bind_eq_some_iff.mp h
                  refine bX11_happens_149 (evX11_goNow hq25) (by omega) ?_
                  refine bX11_happens_152 ?_
                  cases h
                  exact bX11_happens_172
                · refine bX11_happens_133 ⟨(of_decide_eq_true g23_0), (of_decide_eq_true g23_1)⟩ (fun _ => ?_) (fun z => absurd z c24)
                  refine bX11_happens_148 ?_
                  obtain ⟨q26, hq26, h⟩ := Option.bind_eq_some_iff.mp h
                  refine bX11_happens_149 (evX11_goNow hq26) (by omega) ?_
                  refine bX11_happens_152 ?_
                  cases h
                  exact bX11_happens_172
            · skip
              refine bX11_happens_46 (of_decide_eq_true g5) (fun _ _ _ _ => ?_) (fun z => absurd z c6) (fun z => absurd z c10) (fun z => absurd z c14) (fun z => absurd z c20)
              obtain ⟨g27, h⟩ := a_cond h
              refine a_ite h (fun c28 h => ?_) (fun c28 h => ?_)
              · refine bX11_happens_155 (a_inb_vp g27) (fun _ => ?_) (fun z => absurd c28 z)
                cases h
                exact bX11_happens_172
              · refine bX11_happens_155 (a_inb_vp g27) (fun z => absurd z c28) (fun _ => ?_)
                obtain ⟨q29, hq29, h⟩ := Option.bind_eq_some_iff.mp h
                refine bX11_happens_168 (evX11_pass hq29) (by omega) ?_
                cases h
                exact bX11_happens_172
    · refine bX11_happens_24 (a_inb_vp g3) (fun _ => ?_) (fun z => absurd z c4)
      obtain ⟨g30, h⟩ := a_cond h
      obtain ⟨g30x1, g30_1⟩ := a_and g30
      have g30_0 := g30x1
      refine bX11_happens_38 ⟨(a_inb_vp g30_0), (of_decide_eq_true g30_1)⟩ ?_
      obtain ⟨g31, h⟩ := a_cond h
      refine a_ite h (fun c32 h => ?_) (fun c32 h => ?_)
      · refine bX11_happens_46 (of_decide_eq_true g31) (fun n0 _ _ _ => absurd c32 n0) (fun _ => ?_) (fun z => absurd (c32.symm.trans z) (by decide)) (fun z => absurd (c32.symm.trans z) (by decide)) (fun z => absurd (c32.symm.trans z) (by decide))
        obtain ⟨q33, hq33, h⟩ := Option.bind_eq_some_iff.mp h
        refine bX11_happens_80 (evX11_canLet hq33) (by omega) ?_
        refine a_ite h (fun c34 h => ?_) (fun c34 h => ?_)
        · refine bX11_happens_86 (fun _ => ?_) (fun z => absurd c34 z)
          cases h
          exact bX11_happens_172
        · refine bX11_happens_86 (fun z => absurd z c34) (fun _ => ?_)
          obtain ⟨q35, hq35, h⟩ := Option.bind_eq_some_iff.mp h
          refine bX11_happens_89 (evX11_letNow hq35) (by omega) ?_
          refine bX11_happens_95 ?_
          cases h
          exact bX11_happens_172
      · skip
        refine a_ite h (fun c36 h => ?_) (fun c36 h => ?_)
        · refine bX11_happens_46 (of_decide_eq_true g31) (fun _ n1 _ _ => absurd c36 n1) (fun z => absurd z c32) (fun _ => ?_) (fun z => absurd (c36.symm.trans z) (by decide)) (fun z => absurd (c36.symm.trans z) (by decide))
          obtain ⟨q37, hq37, h⟩ := Option.bind_eq_some_iff.mp h
          refine bX11_happens_80 (evX11_canLet hq37) (by omega) ?_
          refine a_ite h (fun c38 h => ?_) (fun c38 h => ?_)
          · refine bX11_happens_86 (fun _ => ?_) (fun z => absurd c38 z)
            cases h
            exact bX11_happens_172
          · refine bX11_happens_86 (fun z => absurd z c38) (fun _ => ?_)
            obtain ⟨q39, hq39, h⟩ := Option.bind_eq_some_iff.mp h
            refine bX11_happens_89 (evX11_letNow hq39) (by omega) ?_
            refine bX11_happens_95 ?_
            cases h
            exact bX11_happens_172
        · skip
          refine a_ite h (fun c40 h => ?_) (fun c40 h => ?_)
          · refine bX11_happens_46 (of_decide_eq_true g31) (fun _ _ n2 _ => absurd c40 n2) (fun z => absurd z c32) (fun z => absurd z c36) (fun _ => ?_) (fun z => absurd (c40.symm.trans z) (by decide))
            refine a_ite h (fun c41 h => ?_) (fun c41 h => ?_)
            · refine bX11_happens_98 (fun _ => ?_) (fun z => absurd c41 z)
              cases h
              exact bX11_happens_172
            · refine bX11_happens_98 (fun z => absurd z c41) (fun _ => ?_)
              obtain ⟨q42, hq42, h⟩ := Option.bind_eq_some_iff.mp h
              refine bX11_happens_103 (evX11_catIn hq42) (by omega) ?_
              refine a_ite h (fun c43 h => ?_) (fun c43 h => ?_)
              · refine bX11_happens_108 (fun _ => ?_) (fun z => absurd c43 z)
                cases h
                exact bX11_happens_172
              · refine bX11_happens_108 (fun z => absurd z c43) (fun _ => ?_)
                obtain ⟨q44, hq44, h⟩ := Option.bind_eq_some_iff.mp h
                refine bX11_happens_112 (evX11_catIn hq44) (by omega) ?_
                obtain ⟨q45, hq45, h⟩ := Option.bind_eq_some_iff.mp h
                refine bX11_happens_118 (evX11_outNow hq45) (by omega) ?_
                refine bX11_happens_122 ?_
                cases h
                exact bX11_happens_172
          · skip
            refine a_ite h (fun c46 h => ?_) (fun c46 h => ?_)
            · refine bX11_happens_46 (of_decide_eq_true g31) (fun _ _ _ n3 => absurd c46 n3) (fun z => absurd z c32) (fun z => absurd z c36) (fun z => absurd z c40) (fun _ => ?_)
              obtain ⟨q47, hq47, h⟩ := Option.bind_eq_some_iff.mp h
              refine bX11_happens_125 (evX11_canGo hq47) (by omega) ?_
              refine a_ite h (fun c48 h => ?_) (fun c48 h => ?_)
              · refine bX11_happens_130 (fun _ => ?_) (fun z => absurd c48 z)
                cases h
                exact bX11_happens_172
              · refine bX11_happens_130 (fun z => absurd z c48) (fun _ => ?_)
                obtain ⟨g49, h⟩ := a_cond h
                obtain ⟨g49x1, g49_1⟩ := a_and g49
                have g49_0 := g49x1
                refine a_ite h (fun c50 h => ?_) (fun c50 h => ?_)
                · refine bX11_happens_133 ⟨(of_decide_eq_true g49_0), (of_decide_eq_true g49_1)⟩ (fun z => absurd c50 z) (fun _ => ?_)
                  refine bX11_happens_144 ?_
                  obtain ⟨q51, hq51, h⟩ := Option.bind_eq_some_iff.mp h
                  refine bX11_happens_149 (evX11_goNow hq51) (by omega) ?_
                  refine bX11_happens_152 ?_
                  cases h
                  exact bX11_happens_172
                · refine bX11_happens_133 ⟨(of_decide_eq_true g49_0), (of_decide_eq_true g49_1)⟩ (fun _ => ?_) (fun z => absurd z c50)
                  refine bX11_happens_148 ?_
                  obtain ⟨q52, hq52, h⟩ := Option.bind_eq_some_iff.mp h
                  refine bX11_happens_149 (evX11_goNow hq52) (by omega) ?_
                  refine bX11_happens_152 ?_
                  cases h
                  exact bX11_happens_172
            · skip
              refine bX11_happens_46 (of_decide_eq_true g31) (fun _ _ _ _ => ?_) (fun z => absurd z c32) (fun z => absurd z c36) (fun z => absurd z c40) (fun z => absurd z c46)
              obtain ⟨g53, h⟩ := a_cond h
              refine a_ite h (fun c54 h => ?_) (fun c54 h => ?_)
              · refine bX11_happens_155 (a_inb_vp g53) (fun _ => ?_) (fun z => absurd c54 z)
                cases h
                exact bX11_happens_172
              · refine bX11_happens_155 (a_inb_vp g53) (fun z => absurd z c54) (fun _ => ?_)
                obtain ⟨q55, hq55, h⟩ := Option.bind_eq_some_iff.mp h
                refine bX11_happens_168 (evX11_pass hq55) (by omega) ?_
                cases h
                exact bX11_happens_172
  · refine bX11_happens_0 (a_inb_vp g1) (fun _ => ?_) (fun z => absurd z c2)
    obtain ⟨g56, h⟩ := a_cond h
    obtain ⟨g56x2, g56_2⟩ := a_and g56
    obtain ⟨g56x1, g56_1⟩ := a_and g56x2
    have g56_0 := g56x1
    refine bX11_happens_13 ⟨(of_decide_eq_true g56_0), (a_inb_vp g56_1), (of_decide_eq_true g56_2)⟩ ?_
    obtain ⟨g57, h⟩ := a_cond h
    refine a_ite h (fun c58 h => ?_) (fun c58 h => ?_)
    · refine bX11_happens_24 (a_inb_vp g57) (fun z => absurd c58 z) (fun _ => ?_)
      refine bX11_happens_34 ?_
      obtain ⟨g59, h⟩ := a_cond h
      refine a_ite h (fun c60 h => ?_) (fun c60 h => ?_)
      · refine bX11_happens_46 (of_decide_eq_true g59) (fun n0 _ _ _ => absurd c60 n0) (fun _ => ?_) (fun z => absurd (c60.symm.trans z) (by decide)) (fun z => absurd (c60.symm.trans z) (by decide)) (fun z => absurd (c60.symm.trans z) (by decide))
        obtain ⟨q61, hq61, h⟩ := Option.bind_eq_some_iff.mp h
        refine bX11_happens_80 (evX11_canLet hq61) (by omega) ?_
        refine a_ite h (fun c62 h => ?_) (fun c62 h => ?_)
        · refine bX11_happens_86 (fun _ => ?_) (fun z => absurd c62 z)
          cases h
          exact bX11_happens_172
        · refine bX11_happens_86 (fun z => absurd z c62) (fun _ => ?_)
          obtain ⟨q63, hq63, h⟩ := Option.bind_eq_some_iff.mp h
          refine bX11_happens_89 (evX11_letNow hq63) (by omega) ?_
          refine bX11_happens_95 ?_
          cases h
          exact bX11_happens_172
      · skip
        refine a_ite h (fun c64 h => ?_) (fun c64 h => ?_)
        · refine bX11_happens_46 (of_decide_eq_true g59) (fun _ n1 _ _ => absurd c64 n1) (fun z => absurd z c60) (fun _ => ?_) (fun z => absurd (c64.symm.trans z) (by decide)) (fun z => absurd (c64.symm.trans z) (by decide))
          obtain ⟨q65, hq65, h⟩ := Option.bind_eq_some_iff.mp h
          refine bX11_happens_80 (evX11_canLet hq65) (by omega) ?_
          refine a_ite h (fun c66 h => ?_) (fun c66 h => ?_)
          · refine bX11_happens_86 (fun _ => ?_) (fun z => absurd c66 z)
            cases h
            exact bX11_happens_172
          · refine bX11_happens_86 (fun z => absurd z c66) (fun _ => ?_)
            obtain ⟨q67, hq67, h⟩ := Option.bind_eq_some_iff.mp h
            refine bX11_happens_89 (evX11_letNow hq67) (by omega) ?_
            refine bX11_happens_95 ?_
            cases h
            exact bX11_happens_172
        · skip
          refine a_ite h (fun c68 h => ?_) (fun c68 h => ?_)
          · refine bX11_happens_46 (of_decide_eq_true g59) (fun _ _ n2 _ => absurd c68 n2) (fun z => absurd z c60) (fun z => absurd z c64) (fun _ => ?_) (fun z => absurd (c68.symm.trans z) (by decide))
            refine a_ite h (fun c69 h => ?_) (fun c69 h => ?_)
            · refine bX11_happens_98 (fun _ => ?_) (fun z => absurd c69 z)
              cases h
              exact bX11_happens_172
            · refine bX11_happens_98 (fun z => absurd z c69) (fun _ => ?_)
              obtain ⟨q70, hq70, h⟩ := Option.bind_eq_some_iff.mp h
              refine bX11_happens_103 (evX11_catIn hq70) (by omega) ?_
              refine a_ite h (fun c71 h => ?_) (fun c71 h => ?_)
              · refine bX11_happens_108 (fun _ => ?_) (fun z => absurd c71 z)
                cases h
                exact bX11_happens_172
              · refine bX11_happens_108 (fun z => absurd z c71) (fun _ => ?_)
                obtain ⟨q72, hq72, h⟩ := Option.bind_eq_some_iff.mp h
                refine bX11_happens_112 (evX11_catIn hq72) (by omega) ?_
                obtain ⟨q73, hq73, h⟩ := Option.bind_eq_some_iff.mp h
                refine bX11_happens_118 (evX11_outNow hq73) (by omega) ?_
                refine bX11_happens_122 ?_
                cases h
                exact bX11_happens_172
          · skip
            refine a_ite h (fun c74 h => ?_) (fun c74 h => ?_)
            · refine bX11_happens_46 (of_decide_eq_true g59) (fun _ _ _ n3 => absurd c74 n3) (fun z => absurd z c60) (fun z => absurd z c64) (fun z => absurd z c68) (fun _ => ?_)
              obtain ⟨q75, hq75, h⟩ := Option.bind_eq_some_iff.mp h
              refine bX11_happens_125 (evX11_canGo hq75) (by omega) ?_
              refine a_ite h (fun c76 h => ?_) (fun c76 h => ?_)
              · refine bX11_happens_130 (fun _ => ?_) (fun z => absurd c76 z)
                cases h
                exact bX11_happens_172
              · refine bX11_happens_130 (fun z => absurd z c76) (fun _ => ?_)
                obtain ⟨g77, h⟩ := a_cond h
                obtain ⟨g77x1, g77_1⟩ := a_and g77
                have g77_0 := g77x1
                refine a_ite h (fun c78 h => ?_) (fun c78 h => ?_)
                · refine bX11_happens_133 ⟨(of_decide_eq_true g77_0), (of_decide_eq_true g77_1)⟩ (fun z => absurd c78 z) (fun _ => ?_)
                  refine bX11_happens_144 ?_
                  obtain ⟨q79, hq79, h⟩ := Option.bind_eq_some_iff.mp h
                  refine bX11_happens_149 (evX11_goNow hq79) (by omega) ?_
                  refine bX11_happens_152 ?_
                  cases h
                  exact bX11_happens_172
                · refine bX11_happens_133 ⟨(of_decide_eq_true g77_0), (of_decide_eq_true g77_1)⟩ (fun _ => ?_) (fun z => absurd z c78)
                  refine bX11_happens_148 ?_
                  obtain ⟨q80, hq80, h⟩ := Option.bind_eq_some_iff.mp h
                  refine bX11_happens_149 (evX11_goNow hq80) (by omega) ?_
                  refine bX11_happens_152 ?_
                  cases h
                  exact bX11_happens_172
            · skip
              refine bX11_happens_46 (of_decide_eq_true g59) (fun _ _ _ _ => ?_) (fun z => absurd z c60) (fun z => absurd z c64) (fun z => absurd z c68) (fun z => absurd z c74)
              obtain ⟨g81, h⟩ := a_cond h
              refine a_ite h (fun c82 h => ?_) (fun c82 h => ?_)
              · refine bX11_happens_155 (a_inb_vp g81) (fun _ => ?_) (fun z => absurd c82 z)
                cases h
                exact bX11_happens_172
              · refine bX11_happens_155 (a_inb_vp g81) (fun z => absurd z c82) (fun _ => ?_)
                obtain ⟨q83, hq83, h⟩ := Option.bind_eq_some_iff.mp h
                refine bX11_happens_168 (evX11_pass hq83) (by omega) ?_
                cases h
                exact bX11_happens_172
    · refine bX11_happens_24 (a_inb_vp g57) (fun _ => ?_) (fun z => absurd z c58)
      obtain ⟨g84, h⟩ := a_cond h
      obtain ⟨g84x1, g84_1⟩ := a_and g84
      have g84_0 := g84x1
      refine bX11_happens_38 ⟨(a_inb_vp g84_0), (of_decide_eq_true g84_1)⟩ ?_
      obtain ⟨g85, h⟩ := a_cond h
      refine a_ite h (fun c86 h => ?_) (fun c86 h => ?_)
      · refine bX11_happens_46 (of_decide_eq_true g85) (fun n0 _ _ _ => absurd c86 n0) (fun _ => ?_) (fun z => absurd (c86.symm.trans z) (by decide)) (fun z => absurd (c86.symm.trans z) (by decide)) (fun z => absurd (c86.symm.trans z) (by decide))
        obtain ⟨q87, hq87, h⟩ := Option.bind_eq_some_iff.mp h
        refine bX11_happens_80 (evX11_canLet hq87) (by omega) ?_
        refine a_ite h (fun c88 h => ?_) (fun c88 h => ?_)
        · refine bX11_happens_86 (fun _ => ?_) (fun z => absurd c88 z)
          cases h
          exact bX11_happens_172
        · refine bX11_happens_86 (fun z => absurd z c88) (fun _ => ?_)
          obtain ⟨q89, hq89, h⟩ := Option.bind_eq_some_iff.mp h
          refine bX11_happens_89 (evX11_letNow hq89) (by omega) ?_
          refine bX11_happens_95 ?_
          cases h
          exact bX11_happens_172
      · skip
        refine a_ite h (fun c90 h => ?_) (fun c90 h => ?_)
        · refine bX11_happens_46 (of_decide_eq_true g85) (fun _ n1 _ _ => absurd c90 n1) (fun z => absurd z c86) (fun _ => ?_) (fun z => absurd (c90.symm.trans z) (by decide)) (fun z => absurd (c90.symm.trans z) (by decide))
          obtain ⟨q91, hq91, h⟩ := Option.bind_eq_some_iff.mp h
          refine bX11_happens_80 (evX11_canLet hq91) (by omega) ?_
          refine a_ite h (fun c92 h => ?_) (fun c92 h => ?_)
          · refine bX11_happens_86 (fun _ => ?_) (fun z => absurd c92 z)
            cases h
            exact bX11_happens_172
          · refine bX11_happens_86 (fun z => absurd z c92) (fun _ => ?_)
            obtain ⟨q93, hq93, h⟩ := Option.bind_eq_some_iff.mp h
            refine bX11_happens_89 (evX11_letNow hq93) (by omega) ?_
            refine bX11_happens_95 ?_
            cases h
            exact bX11_happens_172
        · skip
          refine a_ite h (fun c94 h => ?_) (fun c94 h => ?_)
          · refine bX11_happens_46 (of_decide_eq_true g85) (fun _ _ n2 _ => absurd c94 n2) (fun z => absurd z c86) (fun z => absurd z c90) (fun _ => ?_) (fun z => absurd (c94.symm.trans z) (by decide))
            refine a_ite h (fun c95 h => ?_) (fun c95 h => ?_)
            · refine bX11_happens_98 (fun _ => ?_) (fun z => absurd c95 z)
              cases h
              exact bX11_happens_172
            · refine bX11_happens_98 (fun z => absurd z c95) (fun _ => ?_)
              obtain ⟨q96, hq96, h⟩ := Option.bind_eq_some_iff.mp h
              refine bX11_happens_103 (evX11_catIn hq96) (by omega) ?_
              refine a_ite h (fun c97 h => ?_) (fun c97 h => ?_)
              · refine bX11_happens_108 (fun _ => ?_) (fun z => absurd c97 z)
                cases h
                exact bX11_happens_172
              · refine bX11_happens_108 (fun z => absurd z c97) (fun _ => ?_)
                obtain ⟨q98, hq98, h⟩ := Option.bind_eq_some_iff.mp h
                refine bX11_happens_112 (evX11_catIn hq98) (by omega) ?_
                obtain ⟨q99, hq99, h⟩ := Option.bind_eq_some_iff.mp h
                refine bX11_happens_118 (evX11_outNow hq99) (by omega) ?_
                refine bX11_happens_122 ?_
                cases h
                exact bX11_happens_172
          · skip
            refine a_ite h (fun c100 h => ?_) (fun c100 h => ?_)
            · refine bX11_happens_46 (of_decide_eq_true g85) (fun _ _ _ n3 => absurd c100 n3) (fun z => absurd z c86) (fun z => absurd z c90) (fun z => absurd z c94) (fun _ => ?_)
              obtain ⟨q101, hq101, h⟩ := Option.bind_eq_some_iff.mp h
              refine bX11_happens_125 (evX11_canGo hq101) (by omega) ?_
              refine a_ite h (fun c102 h => ?_) (fun c102 h => ?_)
              · refine bX11_happens_130 (fun _ => ?_) (fun z => absurd c102 z)
                cases h
                exact bX11_happens_172
              · refine bX11_happens_130 (fun z => absurd z c102) (fun _ => ?_)
                obtain ⟨g103, h⟩ := a_cond h
                obtain ⟨g103x1, g103_1⟩ := a_and g103
                have g103_0 := g103x1
                refine a_ite h (fun c104 h => ?_) (fun c104 h => ?_)
                · refine bX11_happens_133 ⟨(of_decide_eq_true g103_0), (of_decide_eq_true g103_1)⟩ (fun z => absurd c104 z) (fun _ => ?_)
                  refine bX11_happens_144 ?_
                  obtain ⟨q105, hq105, h⟩ := Option.bind_eq_some_iff.mp h
                  refine bX11_happens_149 (evX11_goNow hq105) (by omega) ?_
                  refine bX11_happens_152 ?_
                  cases h
                  exact bX11_happens_172
                · refine bX11_happens_133 ⟨(of_decide_eq_true g103_0), (of_decide_eq_true g103_1)⟩ (fun _ => ?_) (fun z => absurd z c104)
                  refine bX11_happens_148 ?_
                  obtain ⟨q106, hq106, h⟩ := Option.bind_eq_some_iff.mp h
                  refine bX11_happens_149 (evX11_goNow hq106) (by omega) ?_
                  refine bX11_happens_152 ?_
                  cases h
                  exact bX11_happens_172
            · skip
              refine bX11_happens_46 (of_decide_eq_true g85) (fun _ _ _ _ => ?_) (fun z => absurd z c86) (fun z => absurd z c90) (fun z => absurd z c94) (fun z => absurd z c100)
              obtain ⟨g107, h⟩ := a_cond h
              refine a_ite h (fun c108 h => ?_) (fun c108 h => ?_)
              · refine bX11_happens_155 (a_inb_vp g107) (fun _ => ?_) (fun z => absurd c108 z)
                cases h
                exact bX11_happens_172
              · refine bX11_happens_155 (a_inb_vp g107) (fun z => absurd z c108) (fun _ => ?_)
                obtain ⟨q109, hq109, h⟩ := Option.bind_eq_some_iff.mp h
                refine bX11_happens_168 (evX11_pass hq109) (by omega) ?_
                cases h
                exact bX11_happens_172

