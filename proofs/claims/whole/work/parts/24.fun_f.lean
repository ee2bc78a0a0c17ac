/-! ===== functions out of the methods ===== -/
noncomputable def FX5_openedB (Fo : aI → aJ → Int32 → Option (Unit × aI × aJ)) (d : aI) (e : aJ) (x1 : Int32) : Option (Unit × aI × aJ) := ((FX5_next d e).bind fun q1 => (if (d 83 10) = (nI 40) then ((FX5_sum Fo q1.2.1 q1.2.2 x1).bind fun q3 => ((FX5_expect q3.2.1 q3.2.2 (nI 41)).bind fun q4 => (some ((), q4.2.1, q4.2.2)))) else (if (d 83 10) = (nI 45) then ((FX5_one Fo q1.2.1 q1.2.2 x1).bind fun q6 => ((FX7_put q6.2.1 q6.2.2 (nI 5)).bind fun q7 => (some ((), q7.2.1, q7.2.2)))) else (if (d 83 10) = (nI 312) then ((FX5_one Fo q1.2.1 q1.2.2 x1).bind fun q9 => ((FX5_expect q9.2.1 q9.2.2 (nI 311)).bind fun q10 => ((FX5_one Fo q10.2.1 q10.2.2 x1).bind fun q11 => ((FX7_put q11.2.1 q11.2.2 (nI 312)).bind fun q12 => (some ((), q12.2.1, q12.2.2)))))) else (if (d 83 10) = (nI 313) then ((FX5_one Fo q1.2.1 q1.2.2 x1).bind fun q14 => ((FX7_put q14.2.1 q14.2.2 (nI 313)).bind fun q15 => (some ((), q15.2.1, q15.2.2)))) else ((FX5_choice Fo q1.2.1 q1.2.2 x1).bind fun q16 => (some ((), q16.2.1, q16.2.2))))))))
theorem evX5_openedB {Γ : aG × Launch} {Fo : aI → aJ → Int32 → Option (Unit × aI × aJ)} {dc : Nat} (hFo : ∀ {d : aI} {e : aJ} {z0 : Int32} {q : Unit × aI × aJ}, Fo d e z0 = some q → Ev Γ dc mX5_opened [.ref 83, .int z0] d e none q.2.1 q.2.2) {d : aI} {e : aJ} {x1 : Int32} {q : Unit × aI × aJ} (h : FX5_openedB Fo d e x1 = some q) : Ev Γ (dc + 10) mX5_opened [.ref 83, .int x1] d e none q.2.1 q.2.2 := by
  refine Ev.of (by decide) rfl (Nat.le_of_ble_eq_true rfl) (fun z => by cases z) ?_
  show Rn Γ (dc + 10) mX5_opened 0 [some (.ref 83), some (.int x1), none] [] d e _ _ _
  unfold FX5_openedB at h
  obtain ⟨q1, hq1, h⟩ := Option.bind_eq_some_iff.mp h
  refine bX5_opened_0 (evX5_next hq1) (by omega) ?_
  refine a_ite h (fun c2 h => ?_) (fun c2 h => ?_)
  · refine bX5_opened_9 (fun n0 _ _ _ => absurd c2 n0) (fun _ => ?_) (fun z => absurd (c2.symm.trans z) (by decide)) (fun z => absurd (c2.symm.trans z) (by decide)) (fun z => absurd (c2.symm.trans z) (by decide))
    obtain ⟨q3, hq3, h⟩ := Option.bind_eq_some_iff.mp h
    refine bX5_opened_52 (evX5_sum hFo hq3) (by omega) ?_
    obtain ⟨q4, hq4, h⟩ := Option.bind_eq_some_iff.mp h
    refine bX5_opened_57 (evX5_expect hq4) (by omega) ?_
    refine bX5_opened_63 ?_
    cases h
    exact bX5_opened_138
  · skip
    refine a_ite h (fun c5 h => ?_) (fun c5 h => ?_)
    · refine bX5_opened_9 (fun _ n1 _ _ => absurd c5 n1) (fun z => absurd z c2) (fun _ => ?_) (fun z => absurd (c5.symm.trans z) (by decide)) (fun z => absurd (c5.symm.trans z) (by decide))
      obtain ⟨q6, hq6, h⟩ := Option.bind_eq_some_iff.mp h
      refine bX5_opened_66 (evX5_one hFo hq6) (by omega) ?_
      obtain ⟨q7, hq7, h⟩ := Option.bind_eq_some_iff.mp h
      refine bX5_opened_71 (evX7_put hq7) (by omega) ?_
      refine bX5_opened_79 ?_
      cases h
      exact bX5_opened_138
    · skip
      refine a_ite h (fun c8 h => ?_) (fun c8 h => ?_)
      · refine bX5_opened_9 (fun _ _ n2 _ => absurd c8 n2) (fun z => absurd z c2) (fun z => absurd z c5) (fun _ => ?_) (fun z => absurd (c8.symm.trans z) (by decide))
        obtain ⟨q9, hq9, h⟩ := Option.bind_eq_some_iff.mp h
        refine bX5_opened_83 (evX5_one hFo hq9) (by omega) ?_
        obtain ⟨q10, hq10, h⟩ := Option.bind_eq_some_iff.mp h
        refine bX5_opened_88 (evX5_expect hq10) (by omega) ?_
        obtain ⟨q11, hq11, h⟩ := Option.bind_eq_some_iff.mp h
        refine bX5_opened_95 (evX5_one hFo hq11) (by omega) ?_
        obtain ⟨q12, hq12, h⟩ := Option.bind_eq_some_iff.mp h
        refine bX5_opened_100 (evX7_put hq12) (by omega) ?_
        refine bX5_opened_110 ?_
        cases h
        exact bX5_opened_138
      · skip
        refine a_ite h (fun c13 h => ?_) (fun c13 h => ?_)
        · refine bX5_opened_9 (fun _ _ _ n3 => absurd c13 n3) (fun z => absurd z c2) (fun z => absurd z c5) (fun z => absurd z c8) (fun _ => ?_)
          obtain ⟨q14, hq14, h⟩ := Option.bind_eq_some_iff.mp h
          refine bX5_opened_114 (evX5_one hFo hq14) (by omega) ?_
          obtain ⟨q15, hq15, h⟩ := Option.bind_eq_some_iff.mp h
          refine bX5_opened_119 (evX7_put hq15) (by omega) ?_
          refine bX5_opened_129 ?_
          cases h
          exact bX5_opened_138
        · skip
          refine bX5_opened_9 (fun _ _ _ _ => ?_) (fun z => absurd z c2) (fun z => absurd z c5) (fun z => absurd z c8) (fun z => absurd z c13)
          obtain ⟨q16, hq16, h⟩ := Option.bind_eq_some_iff.mp h
          refine bX5_opened_133 (evX5_choice hFo hq16) (by omega) ?_
          cases h
          exact bX5_opened_138

noncomputable def FX5_opened : Nat → aI → aJ → Int32 → Option (Unit × aI × aJ)
  | 0 => fun _ _ _ => none
  | n + 1 => FX5_openedB (FX5_opened n)
theorem evX5_opened {Γ : aG × Launch} : ∀ (n : Nat) {d : aI} {e : aJ} {x1 : Int32} {q : Unit × aI × aJ}, FX5_opened n d e x1 = some q → Ev Γ (n * 10) mX5_opened [.ref 83, .int x1] d e none q.2.1 q.2.2
  | 0, _, _, _, _, h => by cases h
  | n + 1, _, _, _, _, h => by
    have h1 := evX5_openedB (Γ := Γ) (dc := n * 10) (fun {d e z0 q} hz => evX5_opened n hz) h
    rw [Nat.succ_mul]
    exact h1
noncomputable def FX5_lawOf (d : aI) (e : aJ) (x1 : Int32) : Option (Unit × aI × aJ) := ((FX5_sum (FX5_opened 12) (uI d 83 11 x1) e (nI 0)).bind fun q1 => (if x1 = (nI 300) then ((FX7_add (uI (uI q1.2.1 88 6 (d 88 5)) 88 7 (q1.2.1 88 5)) q1.2.2 x1 (nI 0) (nI 0)).bind fun q3 => (some ((), q3.2.1, q3.2.2))) else ((FX7_add (uI (uI q1.2.1 88 8 (d 88 5)) 88 9 (q1.2.1 88 5)) q1.2.2 x1 (nI 0) (nI 0)).bind fun q4 => (some ((), q4.2.1, q4.2.2)))))
theorem evX5_lawOf {Γ : aG × Launch} {d : aI} {e : aJ} {x1 : Int32} {q : Unit × aI × aJ} (h : FX5_lawOf d e x1 = some q) : Ev Γ (126) mX5_lawOf [.ref 83, .int x1] d e none q.2.1 q.2.2 := by
  refine Ev.of (by decide) rfl (Nat.le_of_ble_eq_true rfl) (fun z => by cases z) ?_
  show Rn Γ (126) mX5_lawOf 0 [some (.ref 83), some (.int x1), none] [] d e _ _ _
  unfold FX5_lawOf at h
  obtain ⟨q1, hq1, h⟩ := Option.bind_eq_some_iff.mp h
  refine bX5_lawOf_0 (evX5_sum (dc := 120) (evX5_opened 12) hq1) (by omega) ?_
  refine a_ite h (fun c2 h => ?_) (fun c2 h => ?_)
  · refine bX5_lawOf_18 (fun z => absurd c2 z) (fun _ => ?_)
    refine bX5_lawOf_25 ?_
    obtain ⟨q3, hq3, h⟩ := Option.bind_eq_some_iff.mp h
    refine bX5_lawOf_72 (evX7_add hq3) (by omega) ?_
    cases h
    exact bX5_lawOf_82
  · refine bX5_lawOf_18 (fun _ => ?_) (fun z => absurd z c2)
    refine bX5_lawOf_50 ?_
    obtain ⟨q4, hq4, h⟩ := Option.bind_eq_some_iff.mp h
    refine bX5_lawOf_72 (evX7_add hq4) (by omega) ?_
    cases h
    exact bX5_lawOf_82

noncomputable def FX5_clause (d : aI) (e : aJ)  : Option (Unit × aI × aJ) := (if (d 83 10) < (nI 300) then ((FX5_blame d e (nI 1)).bind fun q2 => (some ((), q2.2.1, q2.2.2))) else (if (d 83 10) ≤ (nI 308) then (if (d 83 10) = (nI 300) then ((FX7_hasTakes d e 88).bind fun q5 => (if q5.1 = 0 then (if (d 83 10) = (nI 301) then ((FX7_hasGoes q5.2.1 q5.2.2 88).bind fun q8 => (if q8.1 = 0 then (if (q8.2.1 88 4) < (nI 24) then ((FX5_next q8.2.1 q8.2.2).bind fun q11 => (if (d 83 10) = (nI 300) then ((FX5_lawOf q11.2.1 q11.2.2 (d 83 10)).bind fun q13 => ((FX5_expect q13.2.1 q13.2.2 (nI 59)).bind fun q14 => (some ((), q14.2.1, q14.2.2)))) else (if (d 83 10) = (nI 301) then ((FX5_lawOf q11.2.1 q11.2.2 (d 83 10)).bind fun q16 => ((FX5_expect q16.2.1 q16.2.2 (nI 59)).bind fun q17 => (some ((), q17.2.1, q17.2.2)))) else ((FX5_deed q11.2.1 q11.2.2 (d 83 10)).bind fun q18 => ((FX5_expect q18.2.1 q18.2.2 (nI 59)).bind fun q19 => (some ((), q19.2.1, q19.2.2))))))) else ((FX5_blame q8.2.1 q8.2.2 (nI 6)).bind fun q20 => (some ((), q20.2.1, q20.2.2)))) else ((FX5_blame q8.2.1 q8.2.2 (nI 4)).bind fun q21 => (some ((), q21.2.1, q21.2.2))))) else (if (q5.2.1 88 4) < (nI 24) then ((FX5_next q5.2.1 q5.2.2).bind fun q23 => (if (d 83 10) = (nI 300) then ((FX5_lawOf q23.2.1 q23.2.2 (d 83 10)).bind fun q25 => ((FX5_expect q25.2.1 q25.2.2 (nI 59)).bind fun q26 => (some ((), q26.2.1, q26.2.2)))) else (if (d 83 10) = (nI 301) then ((FX5_lawOf q23.2.1 q23.2.2 (d 83 10)).bind fun q28 => ((FX5_expect q28.2.1 q28.2.2 (nI 59)).bind fun q29 => (some ((), q29.2.1, q29.2.2)))) else ((FX5_deed q23.2.1 q23.2.2 (d 83 10)).bind fun q30 => ((FX5_expect q30.2.1 q30.2.2 (nI 59)).bind fun q31 => (some ((), q31.2.1, q31.2.2))))))) else ((FX5_blame q5.2.1 q5.2.2 (nI 6)).bind fun q32 => (some ((), q32.2.1, q32.2.2))))) else ((FX5_blame q5.2.1 q5.2.2 (nI 4)).bind fun q33 => (some ((), q33.2.1, q33.2.2))))) else (if (d 83 10) = (nI 301) then ((FX7_hasGoes d e 88).bind fun q35 => (if q35.1 = 0 then (if (q35.2.1 88 4) < (nI 24) then ((FX5_next q35.2.1 q35.2.2).bind fun q38 => (if (d 83 10) = (nI 300) then ((FX5_lawOf q38.2.1 q38.2.2 (d 83 10)).bind fun q40 => ((FX5_expect q40.2.1 q40.2.2 (nI 59)).bind fun q41 => (some ((), q41.2.1, q41.2.2)))) else (if (d 83 10) = (nI 301) then ((FX5_lawOf q38.2.1 q38.2.2 (d 83 10)).bind fun q43 => ((FX5_expect q43.2.1 q43.2.2 (nI 59)).bind fun q44 => (some ((), q44.2.1, q44.2.2)))) else ((FX5_deed q38.2.1 q38.2.2 (d 83 10)).bind fun q45 => ((FX5_expect q45.2.1 q45.2.2 (nI 59)).bind fun q46 => (some ((), q46.2.1, q46.2.2))))))) else ((FX5_blame q35.2.1 q35.2.2 (nI 6)).bind fun q47 => (some ((), q47.2.1, q47.2.2)))) else ((FX5_blame q35.2.1 q35.2.2 (nI 4)).bind fun q48 => (some ((), q48.2.1, q48.2.2))))) else (if (d 88 4) < (nI 24) then ((FX5_next d e).bind fun q50 => (if (d 83 10) = (nI 300) then ((FX5_lawOf q50.2.1 q50.2.2 (d 83 10)).bind fun q52 => ((FX5_expect q52.2.1 q52.2.2 (nI 59)).bind fun q53 => (some ((), q53.2.1, q53.2.2)))) else (if (d 83 10) = (nI 301) then ((FX5_lawOf q50.2.1 q50.2.2 (d 83 10)).bind fun q55 => ((FX5_expect q55.2.1 q55.2.2 (nI 59)).bind fun q56 => (some ((), q56.2.1, q56.2.2)))) else ((FX5_deed q50.2.1 q50.2.2 (d 83 10)).bind fun q57 => ((FX5_expect q57.2.1 q57.2.2 (nI 59)).bind fun q58 => (some ((), q58.2.1, q58.2.2))))))) else ((FX5_blame d e (nI 6)).bind fun q59 => (some ((), q59.2.1, q59.2.2)))))) else ((FX5_blame d e (nI 1)).bind fun q60 => (some ((), q60.2.1, q60.2.2)))))
theorem evX5_clause {Γ : aG × Launch} {d : aI} {e : aJ}  {q : Unit × aI × aJ} (h : FX5_clause d e  = some q) : Ev Γ (127) mX5_clause [.ref 83] d e none q.2.1 q.2.2 := by
  refine Ev.of (by decide) rfl (Nat.le_of_ble_eq_true rfl) (fun z => by cases z) ?_
  show Rn Γ (127) mX5_clause 0 [some (.ref 83), none] [] d e _ _ _
  unfold FX5_clause at h
  refine a_ite h (fun c1 h => ?_) (fun c1 h => ?_)
  · refine bX5_clause_0 (fun _ => ?_) (fun z => absurd c1 z)
    obtain ⟨q2, hq2, h⟩ := Option.bind_eq_some_iff.mp h
    refine bX5_clause_19 (evX5_blame hq2) (by omega) ?_
    refine bX5_clause_24 ?_
    cases h
    exact bX5_clause_127
  · refine bX5_clause_0 (fun z => absurd z c1) (fun _ => ?_)
    refine a_ite h (fun c3 h => ?_) (fun c3 h => ?_)
    · refine bX5_clause_12 (fun _ => ?_) (fun z => absurd c3 z)
      refine a_ite h (fun c4 h => ?_) (fun c4 h => ?_)
      · refine bX5_clause_27 (fun z => absurd c4 z) (fun _ => ?_)
        obtain ⟨q5, hq5, h⟩ := Option.bind_eq_some_iff.mp h
        refine bX5_clause_34 (evX7_hasTakes hq5) (by omega) ?_
        refine a_ite h (fun c6 h => ?_) (fun c6 h => ?_)
        · refine bX5_clause_41 (fun z => absurd c6 z) (fun _ => ?_)
          refine a_ite h (fun c7 h => ?_) (fun c7 h => ?_)
          · refine bX5_clause_44 (fun z => absurd c7 z) (fun _ => ?_)
            obtain ⟨q8, hq8, h⟩ := Option.bind_eq_some_iff.mp h
            refine bX5_clause_51 (evX7_hasGoes hq8) (by omega) ?_
            refine a_ite h (fun c9 h => ?_) (fun c9 h => ?_)
            · refine bX5_clause_58 (fun _ => ?_) (fun z => absurd c9 z)
              refine a_ite h (fun c10 h => ?_) (fun c10 h => ?_)
              · refine bX5_clause_69 (fun _ => ?_) (fun z => absurd c10 z)
                obtain ⟨q11, hq11, h⟩ := Option.bind_eq_some_iff.mp h
                refine bX5_clause_90 (evX5_next hq11) (by omega) ?_
                refine a_ite h (fun c12 h => ?_) (fun c12 h => ?_)
                · refine bX5_clause_94 (fun _ => ?_) (fun z => absurd c12 z)
                  obtain ⟨q13, hq13, h⟩ := Option.bind_eq_some_iff.mp h
                  refine bX5_clause_108 (evX5_lawOf hq13) (by omega) ?_
                  refine bX5_clause_113 ?_
                  obtain ⟨q14, hq14, h⟩ := Option.bind_eq_some_iff.mp h
                  refine bX5_clause_121 (evX5_expect hq14) (by omega) ?_
                  cases h
                  exact bX5_clause_127
                · refine bX5_clause_94 (fun z => absurd z c12) (fun _ => ?_)
                  refine a_ite h (fun c15 h => ?_) (fun c15 h => ?_)
                  · refine bX5_clause_101 (fun z => absurd c15 z) (fun _ => ?_)
                    obtain ⟨q16, hq16, h⟩ := Option.bind_eq_some_iff.mp h
                    refine bX5_clause_108 (evX5_lawOf hq16) (by omega) ?_
                    refine bX5_clause_113 ?_
                    obtain ⟨q17, hq17, h⟩ := Option.bind_eq_some_iff.mp h
                    refine bX5_clause_121 (evX5_expect hq17) (by omega) ?_
                    cases h
                    exact bX5_clause_127
                  · refine bX5_clause_101 (fun _ => ?_) (fun z => absurd z c15)
                    obtain ⟨q18, hq18, h⟩ := Option.bind_eq_some_iff.mp h
                    refine bX5_clause_116 (evX5_deed hq18) (by omega) ?_
                    obtain ⟨q19, hq19, h⟩ := Option.bind_eq_some_iff.mp h
                    refine bX5_clause_121 (evX5_expect hq19) (by omega) ?_
                    cases h
                    exact bX5_clause_127
              · refine bX5_clause_69 (fun z => absurd z c10) (fun _ => ?_)
                obtain ⟨q20, hq20, h⟩ := Option.bind_eq_some_iff.mp h
                refine bX5_clause_81 (evX5_blame hq20) (by omega) ?_
                refine bX5_clause_87 ?_
                cases h
                exact bX5_clause_127
            · refine bX5_clause_58 (fun z => absurd z c9) (fun _ => ?_)
              obtain ⟨q21, hq21, h⟩ := Option.bind_eq_some_iff.mp h
              refine bX5_clause_61 (evX5_blame hq21) (by omega) ?_
              refine bX5_clause_66 ?_
              cases h
              exact bX5_clause_127
          · refine bX5_clause_44 (fun _ => ?_) (fun z => absurd z c7)
            refine a_ite h (fun c22 h => ?_) (fun c22 h => ?_)
            · refine bX5_clause_69 (fun _ => ?_) (fun z => absurd c22 z)
              obtain ⟨q23, hq23, h⟩ := Option.bind_eq_some_iff.mp h
              refine bX5_clause_90 (evX5_next hq23) (by omega) ?_
              refine a_ite h (fun c24 h => ?_) (fun c24 h => ?_)
              · refine bX5_clause_94 (fun _ => ?_) (fun z => absurd c24 z)
                obtain ⟨q25, hq25, h⟩ := Option.bind_eq_some_iff.mp h
                refine bX5_clause_108 (evX5_lawOf hq25) (by omega) ?_
                refine bX5_clause_113 ?_
                obtain ⟨q26, hq26, h⟩ := Option.bind_eq_some_iff.mp h
                refine bX5_clause_121 (evX5_expect hq26) (by omega) ?_
                cases h
                exact bX5_clause_127
              · refine bX5_clause_94 (fun z => absurd z c24) (fun _ => ?_)
                refine a_ite h (fun c27 h => ?_) (fun c27 h => ?_)
                · refine bX5_clause_101 (fun z => absurd c27 z) (fun _ => ?_)
                  obtain ⟨q28, hq28, h⟩ := Option.bind_eq_some_iff.mp h
                  refine bX5_clause_108 (evX5_lawOf hq28) (by omega) ?_
                  refine bX5_clause_113 ?_
                  obtain ⟨q29, hq29, h⟩ := Option.bind_eq_some_iff.mp h
                  refine bX5_clause_121 (evX5_expect hq29) (by omega) ?_
                  cases h
                  exact bX5_clause_127
                · refine bX5_clause_101 (fun _ => ?_) (fun z => absurd z c27)
                  obtain ⟨q30, hq30, h⟩ := Option.bind_eq_some_iff.mp h
                  refine bX5_clause_116 (evX5_deed hq30) (by omega) ?_
                  obtain ⟨q31, hq31, h⟩ := Option.bind_eq_some_iff.mp h
                  refine bX5_clause_121 (evX5_expect hq31) (by omega) ?_
                  cases h
                  exact bX5_clause_127
            · refine bX5_clause_69 (fun z => absurd z c22) (fun _ => ?_)
              obtain ⟨q32, hq32, h⟩ := Option.bind_eq_some_iff.mp h
              refine bX5_clause_81 (evX5_blame hq32) (by omega) ?_
              refine bX5_clause_87 ?_
              cases h
              exact bX5_clause_127
        · refine bX5_clause_41 (fun _ => ?_) (fun z => absurd z c6)
          obtain ⟨q33, hq33, h⟩ := Option.bind_eq_some_iff.mp h
          refine bX5_clause_61 (evX5_blame hq33) (by omega) ?_
          refine bX5_clause_66 ?_
          cases h
          exact bX5_clause_127
      · refine bX5_clause_27 (fun _ => ?_) (fun z => absurd z c4)
        refine a_ite h (fun c34 h => ?_) (fun c34 h => ?_)
        · refine bX5_clause_44 (fun z => absurd c34 z) (fun _ => ?_)
          obtain ⟨q35, hq35, h⟩ := Option.bind_eq_some_iff.mp h
          refine bX5_clause_51 (evX7_hasGoes hq35) (by omega) ?_
          refine a_ite h (fun c36 h => ?_) (fun c36 h => ?_)
          · refine bX5_clause_58 (fun _ => ?_) (fun z => absurd c36 z)
            refine a_ite h (fun c37 h => ?_) (fun c37 h => ?_)
            · refine bX5_clause_69 (fun _ => ?_) (fun z => absurd c37 z)
              obtain ⟨q38, hq38, h⟩ := Option.bind_eq_some_iff.mp h
              refine bX5_clause_90 (evX5_next hq38) (by omega) ?_
              refine a_ite h (fun c39 h => ?_) (fun c39 h => ?_)
              · refine bX5_clause_94 (fun _ => ?_) (fun z => absurd c39 z)
                obtain ⟨q40, hq40, h⟩ := Option.bind_eq_some_iff.mp h
                refine bX5_clause_108 (evX5_lawOf hq40) (by omega) ?_
                refine bX5_clause_113 ?_
                obtain ⟨q41, hq41, h⟩ := Option.bind_eq_some_iff.mp h
                refine bX5_clause_121 (evX5_expect hq41) (by omega) ?_
                cases h
                exact bX5_clause_127
              · refine bX5_clause_94 (fun z => absurd z c39) (fun _ => ?_)
                refine a_ite h (fun c42 h => ?_) (fun c42 h => ?_)
                · refine bX5_clause_101 (fun z => absurd c42 z) (fun _ => ?_)
                  obtain ⟨q43, hq43, h⟩ := Option.bind_eq_some_iff.mp h
                  refine bX5_clause_108 (evX5_lawOf hq43) (by omega) ?_
                  refine bX5_clause_113 ?_
                  obtain ⟨q44, hq44, h⟩ := Option.bind_eq_some_iff.mp h
                  refine bX5_clause_121 (evX5_expect hq44) (by omega) ?_
                  cases h
                  exact bX5_clause_127
                · refine bX5_clause_101 (fun _ => ?_) (fun z => absurd z c42)
                  obtain ⟨q45, hq45, h⟩ := Option.bind_eq_some_iff.mp h
                  refine bX5_clause_116 (evX5_deed hq45) (by omega) ?_
                  obtain ⟨q46, hq46, h⟩ := Option.bind_eq_some_iff.mp h
                  refine bX5_clause_121 (evX5_expect hq46) (by omega) ?_
                  cases h
                  exact bX5_clause_127
            · refine bX5_clause_69 (fun z => absurd z c37) (fun _ => ?_)
              obtain ⟨q47, hq47, h⟩ := Option.bind_eq_some_iff.mp h
              refine bX5_clause_81 (evX5_blame hq47) (by omega) ?_
              refine bX5_clause_87 ?_
              cases h
              exact bX5_clause_127
          · refine bX5_clause_58 (fun z => absurd z c36) (fun _ => ?_)
            obtain ⟨q48, hq48, h⟩ := Option.bind_eq_some_iff.mp h
            refine bX5_clause_61 (evX5_blame hq48) (by omega) ?_
            refine bX5_clause_66 ?_
            cases h
            exact bX5_clause_127
        · refine bX5_clause_44 (fun _ => ?_) (fun z => absurd z c34)
          refine a_ite h (fun c49 h => ?_) (fun c49 h => ?_)
          · refine bX5_clause_69 (fun _ => ?_) (fun z => absurd c49 z)
            obtain ⟨q50, hq50, h⟩ := Option.bind_eq_some_iff.mp h
            refine bX5_clause_90 (evX5_next hq50) (by omega) ?_
            refine a_ite h (fun c51 h => ?_) (fun c51 h => ?_)
            · refine bX5_clause_94 (fun _ => ?_) (fun z => absurd c51 z)
              obtain ⟨q52, hq52, h⟩ := Option.bind_eq_some_iff.mp h
              refine bX5_clause_108 (evX5_lawOf hq52) (by omega) ?_
              refine bX5_clause_113 ?_
              obtain ⟨q53, hq53, h⟩ := Option.bind_eq_some_iff.mp h
              refine bX5_clause_121 (evX5_expect hq53) (by omega) ?_
              cases h
              exact bX5_clause_127
            · refine bX5_clause_94 (fun z => absurd z c51) (fun _ => ?_)
              refine a_ite h (fun c54 h => ?_) (fun c54 h => ?_)
              · refine bX5_clause_101 (fun z => absurd c54 z) (fun _ => ?_)
                obtain ⟨q55, hq55, h⟩ := Option.bind_eq_some_iff.mp h
                refine bX5_clause_108 (evX5_lawOf hq55) (by omega) ?_
                refine bX5_clause_113 ?_
                obtain ⟨q56, hq56, h⟩ := Option.bind_eq_some_iff.mp h
                refine bX5_clause_121 (evX5_expect hq56) (by omega) ?_
                cases h
                exact bX5_clause_127
              · refine bX5_clause_101 (fun _ => ?_) (fun z => absurd z c54)
                obtain ⟨q57, hq57, h⟩ := Option.bind_eq_some_iff.mp h
                refine bX5_clause_116 (evX5_deed hq57) (by omega) ?_
                obtain ⟨q58, hq58, h⟩ := Option.bind_eq_some_iff.mp h
                refine bX5_clause_121 (evX5_expect hq58) (by omega) ?_
                cases h
                exact bX5_clause_127
          · refine bX5_clause_69 (fun z => absurd z c49) (fun _ => ?_)
            obtain ⟨q59, hq59, h⟩ := Option.bind_eq_some_iff.mp h
            refine bX5_clause_81 (evX5_blame hq59) (by omega) ?_
            refine bX5_clause_87 ?_
            cases h
            exact bX5_clause_127
    · refine bX5_clause_12 (fun z => absurd z c3) (fun _ => ?_)
      obtain ⟨q60, hq60, h⟩ := Option.bind_eq_some_iff.mp h
      refine bX5_clause_19 (evX5_blame hq60) (by omega) ?_
      refine bX5_clause_24 ?_
      cases h
      exact bX5_clause_127

noncomputable def sX5_read_0 (d : aI) (e : aJ)  : Option (Nat × aL × aI × aJ) := ((FX7_wipe d e).bind fun q1 => ((FX5_scan (uI (uI q1.2.1 83 3 (nI 0)) 83 4 (-(nI 1))) q1.2.2).bind fun q2 => (some (23, [some (.ref 83), some (.int (nI 0))], q2.2.1, q2.2.2))))
theorem tX5_read_0 {Γ : aG × Launch} {d dF : aI} {e eF : aJ}  {r : Option Value} {p : Nat × aL × aI × aJ} (h : sX5_read_0 d e  = some p) (kc : Nat.beq p.1 100000 = false → Rn Γ (128) mX5_read p.1 p.2.1 [] p.2.2.1 p.2.2.2 r dF eF) (kr : p.1 = 100000 → r = a_rt p.2.1 ∧ dF = p.2.2.1 ∧ eF = p.2.2.2) : Rn Γ (128) mX5_read 0 [some (.ref 83), none] [] d e r dF eF := by
  unfold sX5_read_0 at h
  obtain ⟨q1, hq1, h⟩ := Option.bind_eq_some_iff.mp h
  refine bX5_read_0 (evX7_wipe hq1) (by omega) ?_
  obtain ⟨q2, hq2, h⟩ := Option.bind_eq_some_iff.mp h
  refine bX5_read_7 (evX5_scan hq2) (by omega) ?_
  refine bX5_read_21 ?_
  cases h
  exact kc rfl

noncomputable def sX5_read_23 (d : aI) (e : aJ) (x1 : Int32) : Option (Nat × aL × aI × aJ) := (if (nI 300) ≤ x1 then (if (d 83 3) = 0 then (some (100000, [some (.int (nI 1))], d, e)) else (some (100000, [some (.int (nI 0))], d, e))) else (if (d 83 3) = 0 then (if (d 83 10) = 0 then (if (d 83 3) = 0 then (some (100000, [some (.int (nI 1))], d, e)) else (some (100000, [some (.int (nI 0))], d, e))) else ((FX5_clause d e).bind fun q6 => (some (23, [some (.ref 83), some (.int (x1 + (nI 1)))], q6.2.1, q6.2.2)))) else (if (d 83 3) = 0 then (some (100000, [some (.int (nI 1))], d, e)) else (some (100000, [some (.int (nI 0))], d, e)))))
theorem tX5_read_23 {Γ : aG × Launch} {d dF : aI} {e eF : aJ} {x1 : Int32} {r : Option Value} {p : Nat × aL × aI × aJ} (h : sX5_read_23 d e x1 = some p) (kc : Nat.beq p.1 100000 = false → Rn Γ (128) mX5_read p.1 p.2.1 [] p.2.2.1 p.2.2.2 r dF eF) (kr : p.1 = 100000 → r = a_rt p.2.1 ∧ dF = p.2.2.1 ∧ eF = p.2.2.2) : Rn Γ (128) mX5_read 23 [some (.ref 83), some (.int x1)] [] d e r dF eF := by
  unfold sX5_read_23 at h
  refine a_ite h (fun c1 h => ?_) (fun c1 h => ?_)
  · refine bX5_read_23 (fun _ => ?_) (fun z => absurd c1 z)
    refine a_ite h (fun c2 h => ?_) (fun c2 h => ?_)
    · refine bX5_read_54 (fun z => absurd c2 z) (fun _ => ?_)
      refine bX5_read_61 ?_
      cases h
      obtain ⟨k1, k2, k3⟩ := kr rfl
      exact bX5_read_66 (a_nz (Or.inr rfl)) k1 k2 k3
    · refine bX5_read_54 (fun _ => ?_) (fun z => absurd z c2)
      refine bX5_read_65 ?_
      cases h
      obtain ⟨k1, k2, k3⟩ := kr rfl
      exact bX5_read_66 (a_nz (Or.inl rfl)) k1 k2 k3
  · refine bX5_read_23 (fun z => absurd z c1) (fun _ => ?_)
    refine a_ite h (fun c3 h => ?_) (fun c3 h => ?_)
    · refine bX5_read_30 (fun z => absurd c3 z) (fun _ => ?_)
      refine a_ite h (fun c4 h => ?_) (fun c4 h => ?_)
      · refine bX5_read_37 (fun _ => ?_) (fun z => absurd c4 z)
        refine a_ite h (fun c5 h => ?_) (fun c5 h => ?_)
        · refine bX5_read_54 (fun z => absurd c5 z) (fun _ => ?_)
          refine bX5_read_61 ?_
          cases h
          obtain ⟨k1, k2, k3⟩ := kr rfl
          exact bX5_read_66 (a_nz (Or.inr rfl)) k1 k2 k3
        · refine bX5_read_54 (fun _ => ?_) (fun z => absurd z c5)
          refine bX5_read_65 ?_
          cases h
          obtain ⟨k1, k2, k3⟩ := kr rfl
          exact bX5_read_66 (a_nz (Or.inl rfl)) k1 k2 k3
      · refine bX5_read_37 (fun z => absurd z c4) (fun _ => ?_)
        obtain ⟨q6, hq6, h⟩ := Option.bind_eq_some_iff.mp h
        refine bX5_read_44 (evX5_clause hq6) (by omega) ?_
        refine bX5_read_48 ?_
        cases h
        exact kc rfl
    · refine bX5_read_30 (fun _ => ?_) (fun z => absurd z c3)
      refine a_ite h (fun c7 h => ?_) (fun c7 h => ?_)
      · refine bX5_read_54 (fun z => absurd c7 z) (fun _ => ?_)
        refine bX5_read_61 ?_
        cases h
        obtain ⟨k1, k2, k3⟩ := kr rfl
        exact bX5_read_66 (a_nz (Or.inr rfl)) k1 k2 k3
      · refine bX5_read_54 (fun _ => ?_) (fun z => absurd z c7)
        refine bX5_read_65 ?_
        cases h
        obtain ⟨k1, k2, k3⟩ := kr rfl
        exact bX5_read_66 (a_nz (Or.inl rfl)) k1 k2 k3

noncomputable def stX5_read (p : Nat × aL × aI × aJ) : Option (Nat × aL × aI × aJ) := match p with
  | (0, [some (.ref 83), none], d, e) => sX5_read_0 d e 
  | (23, [some (.ref 83), some (.int x1)], d, e) => sX5_read_23 d e x1
  | _ => none
theorem uX5_read {Γ : aG × Launch} {p p2 : Nat × aL × aI × aJ} {r : Option Value} {dF : aI} {eF : aJ} (h : stX5_read p = some p2) (kc : Nat.beq p2.1 100000 = false → Rn Γ (128) mX5_read p2.1 p2.2.1 [] p2.2.2.1 p2.2.2.2 r dF eF) (kr : p2.1 = 100000 → r = a_rt p2.2.1 ∧ dF = p2.2.2.1 ∧ eF = p2.2.2.2) : Rn Γ (128) mX5_read p.1 p.2.1 [] p.2.2.1 p.2.2.2 r dF eF := by
  unfold stX5_read at h
  split at h
  · exact tX5_read_0 h kc kr
  · exact tX5_read_23 h kc kr
  · cases h
noncomputable def FX5_read (d : aI) (e : aJ)  : Option (Int32 × aI × aJ) := (a_run (stX5_read) (0, [some (.ref 83), none], d, e)).bind a_xI
theorem evX5_read {Γ : aG × Launch} {d : aI} {e : aJ}  {q : Int32 × aI × aJ} (h : FX5_read d e  = some q) : Ev Γ (128) mX5_read [.ref 83] d e (some (.int q.1)) q.2.1 q.2.2 := by
  refine Ev.of (by decide) rfl (Nat.le_of_ble_eq_true rfl) (fun z => by cases z) ?_
  show Rn Γ (128) mX5_read 0 [some (.ref 83), none] [] d e _ _ _
  obtain ⟨q1, h1, h2⟩ := Option.bind_eq_some_iff.mp h
  obtain ⟨e1, e2, e3⟩ := a_xI_rt h2
  exact Rn.cast (a_run_ok (uX5_read) rfl h1) e1.symm e2.symm e3.symm
noncomputable def FX10_text (d : aI) (e : aJ)  : Option (Int32 × aI × aJ) := (if (d 1 6) < (nI 4) then ((FX5_read d e).bind fun q2 => (if q2.1 = 0 then (some ((-(nI 1)), (uI q2.2.1 83 2 (nI 0)), q2.2.2)) else (bif (a_inb ((uI q2.2.1 83 2 (nI 0)) 1 6) 4) then ((FX7_become (uI q2.2.1 83 2 (nI 0)) q2.2.2 (58 + 5 * (((uI q2.2.1 83 2 (nI 0)) 1 6)).toNatClampNeg)).bind fun q5 => (some ((((q5.2.1 1 6) + (nI 1)) - (nI 1)), (uI q5.2.1 1 6 ((q5.2.1 1 6) + (nI 1))), q5.2.2))) else none))) else (some ((-(nI 1)), d, e)))
theorem evX10_text {Γ : aG × Launch} {d : aI} {e : aJ}  {q : Int32 × aI × aJ} (h : FX10_text d e  = some q) : Ev Γ (129) mX10_text [.ref 0] d e (some (.int q.1)) q.2.1 q.2.2 := by
  refine Ev.of (by decide) rfl (Nat.le_of_ble_eq_true rfl) (fun z => by cases z) ?_
  show Rn Γ (129) mX10_text 0 [some (.ref 0), none] [] d e _ _ _
  unfold FX10_text at h
  refine a_ite h (fun c1 h => ?_) (fun c1 h => ?_)
  · refine bX10_text_0 (fun _ => ?_) (fun z => absurd c1 z)
    obtain ⟨q2, hq2, h⟩ := Option.bind_eq_some_iff.mp h
    refine bX10_text_13 (evX5_read hq2) (by omega) ?_
    refine a_ite h (fun c3 h => ?_) (fun c3 h => ?_)
    · refine bX10_text_20 (fun z => absurd c3 z) (fun _ => ?_)
      cases h
      exact bX10_text_33
    · refine bX10_text_20 (fun _ => ?_) (fun z => absurd z c3)
      obtain ⟨g4, h⟩ := a_cond h
      refine bX10_text_35 (a_inb_lt g4) (a_inb_nI g4) ?_
      obtain ⟨q5, hq5, h⟩ := Option.bind_eq_some_iff.mp h
      refine bX10_text_47 (a_dom4 g4) (evX7_become hq5) (by omega) ?_
      cases h
      exact bX10_text_57
  · refine bX10_text_0 (fun z => absurd z c1) (fun _ => ?_)
    cases h
    exact bX10_text_11

