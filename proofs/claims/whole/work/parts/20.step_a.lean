/-! ===== steps of the methods with loops ===== -/
def sX0_whole_0 (d : aI) (e : aJ)  : Option (Nat × aL × aI × aJ) := (some (5, [some (.ref 103), some (.ref 21), some (.long (lN 0)), none, some (.int (nI 0)), none, none], d, e))
theorem tX0_whole_0 {Γ : aG × Launch} {dp : Nat} {d dF : aI} {e eF : aJ}  {r : Option Value} {p : Nat × aL × aI × aJ} (h : sX0_whole_0 d e  = some p) (kc : Nat.beq p.1 100000 = false → Rn Γ (dp + 0) mX0_whole p.1 p.2.1 [] p.2.2.1 p.2.2.2 r dF eF) (kr : p.1 = 100000 → r = a_rt p.2.1 ∧ dF = p.2.2.1 ∧ eF = p.2.2.2) : Rn Γ (dp + 0) mX0_whole 0 [some (.ref 103), some (.ref 21), none, none, none, none, none] [] d e r dF eF := by
  unfold sX0_whole_0 at h
  refine bX0_whole_0 ?_
  cases h
  exact kc rfl

def sX0_whole_5 (d : aI) (e : aJ) (y2 : Int64) (x4 : Int32) (v5 : Option Value) (v6 : Option Value) : Option (Nat × aL × aI × aJ) := (if (d 21 4) ≤ x4 then (some (100000, [some (.long y2)], d, e)) else (bif ((a_inb x4 5)) then (if x4 = 0 then (bif ((a_inb (d 104 (x4).toNatClampNeg) 5)) then (bif ((a_inb (d 104 (x4).toNatClampNeg) 5)) then (some (5, [some (.ref 103), some (.ref 21), some (.long ((a_jshl y2 (d 22 ((d 104 (x4).toNatClampNeg)).toNatClampNeg)) ||| (Int32.toInt64 ((d 23 ((d 104 (x4).toNatClampNeg)).toNatClampNeg) &&& ((a_shl (nI 1) (d 22 ((d 104 (x4).toNatClampNeg)).toNatClampNeg)) - (nI 1)))))), none, some (.int (x4 + (nI 1))), some (.int (d 104 (x4).toNatClampNeg)), some (.int (d 22 ((d 104 (x4).toNatClampNeg)).toNatClampNeg))], d, e)) else none) else none) else (bif ((a_inb (d 104 (x4).toNatClampNeg) 5)) then (bif ((a_inb (d 104 (x4).toNatClampNeg) 5)) then (some (5, [some (.ref 103), some (.ref 21), some (.long ((a_jshl y2 ((d 22 ((d 104 (x4).toNatClampNeg)).toNatClampNeg) - (nI 1))) ||| (Int32.toInt64 ((d 23 ((d 104 (x4).toNatClampNeg)).toNatClampNeg) &&& ((a_shl (nI 1) ((d 22 ((d 104 (x4).toNatClampNeg)).toNatClampNeg) - (nI 1))) - (nI 1)))))), none, some (.int (x4 + (nI 1))), some (.int (d 104 (x4).toNatClampNeg)), some (.int ((d 22 ((d 104 (x4).toNatClampNeg)).toNatClampNeg) - (nI 1)))], d, e)) else none) else none)) else none))
theorem tX0_whole_5 {Γ : aG × Launch} {dp : Nat} {d dF : aI} {e eF : aJ} {y2 : Int64} {x4 : Int32} {v5 : Option Value} {v6 : Option Value} {r : Option Value} {p : Nat × aL × aI × aJ} (h : sX0_whole_5 d e y2 x4 v5 v6 = some p) (kc : Nat.beq p.1 100000 = false → Rn Γ (dp + 0) mX0_whole p.1 p.2.1 [] p.2.2.1 p.2.2.2 r dF eF) (kr : p.1 = 100000 → r = a_rt p.2.1 ∧ dF = p.2.2.1 ∧ eF = p.2.2.2) : Rn Γ (dp + 0) mX0_whole 5 [some (.ref 103), some (.ref 21), some (.long y2), none, some (.int x4), v5, v6] [] d e r dF eF := by
  unfold sX0_whole_5 at h
  refine a_ite h (fun c1 h => ?_) (fun c1 h => ?_)
  · refine bX0_whole_5 (fun _ => ?_) (fun z => absurd c1 z)
    cases h
    obtain ⟨k1, k2, k3⟩ := kr rfl
    exact bX0_whole_76 k1 k2 k3
  · refine bX0_whole_5 (fun z => absurd z c1) (fun _ => ?_)
    obtain ⟨g2, h⟩ := a_cond h
    refine a_ite h (fun c3 h => ?_) (fun c3 h => ?_)
    · refine bX0_whole_14 (a_inb_vp g2) (fun z => absurd c3 z) (fun _ => ?_)
      obtain ⟨g4, h⟩ := a_cond h
      refine bX0_whole_28 (a_inb_vp g4) ?_
      obtain ⟨g5, h⟩ := a_cond h
      refine bX0_whole_47 (a_inb_vp g5) ?_
      cases h
      exact kc rfl
    · refine bX0_whole_14 (a_inb_vp g2) (fun _ => ?_) (fun z => absurd z c3)
      obtain ⟨g6, h⟩ := a_cond h
      refine bX0_whole_38 (a_inb_vp g6) ?_
      obtain ⟨g7, h⟩ := a_cond h
      refine bX0_whole_47 (a_inb_vp g7) ?_
      cases h
      exact kc rfl

def sX1_run_0 (d : aI) (e : aJ) (o1 : Nat) (x2 : Int32) (x3 : Int32) (x5 : Int32) (x6 : Int32) : Option (Nat × aL × aI × aJ) := (bif (decide (o1 = 62 ∨ o1 = 67 ∨ o1 = 72 ∨ o1 = 77 ∨ o1 = 82)) then (some (23, [some (.ref 93), some (.ref o1), some (.int x2), some (.int x3), some (.ref 2), some (.int x5), some (.int x6), some (.int (a_min x3 (nI 300))), some (.int (a_max x2 (nI 0))), some (.int (nI 0)), none, none], (uI d 93 1 (nI 0)), e)) else none)
theorem tX1_run_0 {Γ : aG × Launch} {dp : Nat} {d dF : aI} {e eF : aJ} {o1 : Nat} {x2 : Int32} {x3 : Int32} {x5 : Int32} {x6 : Int32} {r : Option Value} {p : Nat × aL × aI × aJ} (h : sX1_run_0 d e o1 x2 x3 x5 x6 = some p) (kc : Nat.beq p.1 100000 = false → Rn Γ (dp + 2) mX1_run p.1 p.2.1 [] p.2.2.1 p.2.2.2 r dF eF) (kr : p.1 = 100000 → r = a_rt p.2.1 ∧ dF = p.2.2.1 ∧ eF = p.2.2.2) : Rn Γ (dp + 2) mX1_run 0 [some (.ref 93), some (.ref o1), some (.int x2), some (.int x3), some (.ref 2), some (.int x5), some (.int x6), none, none, none, none, none] [] d e r dF eF := by
  unfold sX1_run_0 at h
  obtain ⟨ho1x, h⟩ := a_cond h
  have ho1 := of_decide_eq_true ho1x
  refine bX1_run_0 ho1 ?_
  cases h
  exact kc rfl

def sX1_run_23 (d : aI) (e : aJ) (o1 : Nat) (x2 : Int32) (x3 : Int32) (x5 : Int32) (x6 : Int32) (x7 : Int32) (x8 : Int32) (x9 : Int32) (v10 : Option Value) (v11 : Option Value) : Option (Nat × aL × aI × aJ) := (bif (decide (o1 = 62 ∨ o1 = 67 ∨ o1 = 72 ∨ o1 = 77 ∨ o1 = 82)) then (if (nI 300) ≤ x9 then ((FX1_pop d e).bind fun q2 => (some (100000, [some (.int q2.1)], q2.2.1, q2.2.2))) else (if x7 ≤ x8 then ((FX1_pop d e).bind fun q4 => (some (100000, [some (.int q4.1)], q4.2.1, q4.2.2))) else (bif ((a_inb x8 300)) then (if 0 ≤ (d o1 (x8).toNatClampNeg) then (if (d o1 (x8).toNatClampNeg) = (nI 314) then (if (d o1 (x8).toNatClampNeg) = (nI 316) then (if (nI 1) = 0 then (some (23, [some (.ref 93), some (.ref o1), some (.int x2), some (.int x3), some (.ref 2), some (.int x5), some (.int x6), some (.int x7), some (.int ((x8 + (nI 1)) + (nI 1))), some (.int (x9 + (nI 1))), some (.int (d o1 (x8).toNatClampNeg)), some (.int (nI 1))], d, e)) else (if x7 ≤ (x8 + (nI 1)) then (some (23, [some (.ref 93), some (.ref o1), some (.int x2), some (.int x3), some (.ref 2), some (.int x5), some (.int x6), some (.int x7), some (.int ((x8 + (nI 1)) + (nI 1))), some (.int (x9 + (nI 1))), some (.int (d o1 (x8).toNatClampNeg)), some (.int (nI 1))], d, e)) else (bif ((a_inb (x8 + (nI 1)) 300)) then (some (23, [some (.ref 93), some (.ref o1), some (.int x2), some (.int x3), some (.ref 2), some (.int x5), some (.int x6), some (.int x7), some (.int (a_max (x8 + (nI 1)) (d o1 ((x8 + (nI 1))).toNatClampNeg))), some (.int (x9 + (nI 1))), some (.int (d o1 (x8).toNatClampNeg)), some (.int (nI 1))], d, e)) else none))) else ((FX1_pop d e).bind fun q12 => (if q12.1 = 0 then (if (nI 1) = 0 then (some (23, [some (.ref 93), some (.ref o1), some (.int x2), some (.int x3), some (.ref 2), some (.int x5), some (.int x6), some (.int x7), some (.int ((x8 + (nI 1)) + (nI 1))), some (.int (x9 + (nI 1))), some (.int (d o1 (x8).toNatClampNeg)), some (.int (nI 1))], q12.2.1, q12.2.2)) else (if x7 ≤ (x8 + (nI 1)) then (some (23, [some (.ref 93), some (.ref o1), some (.int x2), some (.int x3), some (.ref 2), some (.int x5), some (.int x6), some (.int x7), some (.int ((x8 + (nI 1)) + (nI 1))), some (.int (x9 + (nI 1))), some (.int (d o1 (x8).toNatClampNeg)), some (.int (nI 1))], q12.2.1, q12.2.2)) else (bif ((a_inb (x8 + (nI 1)) 300)) then (some (23, [some (.ref 93), some (.ref o1), some (.int x2), some (.int x3), some (.ref 2), some (.int x5), some (.int x6), some (.int x7), some (.int (a_max (x8 + (nI 1)) (q12.2.1 o1 ((x8 + (nI 1))).toNatClampNeg))), some (.int (x9 + (nI 1))), some (.int (d o1 (x8).toNatClampNeg)), some (.int (nI 1))], q12.2.1, q12.2.2)) else none))) else (if (nI 0) = 0 then (some (23, [some (.ref 93), some (.ref o1), some (.int x2), some (.int x3), some (.ref 2), some (.int x5), some (.int x6), some (.int x7), some (.int ((x8 + (nI 1)) + (nI 1))), some (.int (x9 + (nI 1))), some (.int (d o1 (x8).toNatClampNeg)), some (.int (nI 0))], q12.2.1, q12.2.2)) else (if x7 ≤ (x8 + (nI 1)) then (some (23, [some (.ref 93), some (.ref o1), some (.int x2), some (.int x3), some (.ref 2), some (.int x5), some (.int x6), some (.int x7), some (.int ((x8 + (nI 1)) + (nI 1))), some (.int (x9 + (nI 1))), some (.int (d o1 (x8).toNatClampNeg)), some (.int (nI 0))], q12.2.1, q12.2.2)) else (bif ((a_inb (x8 + (nI 1)) 300)) then (some (23, [some (.ref 93), some (.ref o1), some (.int x2), some (.int x3), some (.ref 2), some (.int x5), some (.int x6), some (.int x7), some (.int (a_max (x8 + (nI 1)) (q12.2.1 o1 ((x8 + (nI 1))).toNatClampNeg))), some (.int (x9 + (nI 1))), some (.int (d o1 (x8).toNatClampNeg)), some (.int (nI 0))], q12.2.1, q12.2.2)) else none)))))) else (if (d o1 (x8).toNatClampNeg) = (nI 316) then (if (d o1 (x8).toNatClampNeg) = (nI 316) then (if (nI 1) = 0 then (some (23, [some (.ref 93), some (.ref o1), some (.int x2), some (.int x3), some (.ref 2), some (.int x5), some (.int x6), some (.int x7), some (.int ((x8 + (nI 1)) + (nI 1))), some (.int (x9 + (nI 1))), some (.int (d o1 (x8).toNatClampNeg)), some (.int (nI 1))], d, e)) else (if x7 ≤ (x8 + (nI 1)) then (some (23, [some (.ref 93), some (.ref o1), some (.int x2), some (.int x3), some (.ref 2), some (.int x5), some (.int x6), some (.int x7), some (.int ((x8 + (nI 1)) + (nI 1))), some (.int (x9 + (nI 1))), some (.int (d o1 (x8).toNatClampNeg)), some (.int (nI 1))], d, e)) else (bif ((a_inb (x8 + (nI 1)) 300)) then (some (23, [some (.ref 93), some (.ref o1), some (.int x2), some (.int x3), some (.ref 2), some (.int x5), some (.int x6), some (.int x7), some (.int (a_max (x8 + (nI 1)) (d o1 ((x8 + (nI 1))).toNatClampNeg))), some (.int (x9 + (nI 1))), some (.int (d o1 (x8).toNatClampNeg)), some (.int (nI 1))], d, e)) else none))) else ((FX1_pop d e).bind fun q25 => (if q25.1 = 0 then (if (nI 1) = 0 then (some (23, [some (.ref 93), some (.ref o1), some (.int x2), some (.int x3), some (.ref 2), some (.int x5), some (.int x6), some (.int x7), some (.int ((x8 + (nI 1)) + (nI 1))), some (.int (x9 + (nI 1))), some (.int (d o1 (x8).toNatClampNeg)), some (.int (nI 1))], q25.2.1, q25.2.2)) else (if x7 ≤ (x8 + (nI 1)) then (some (23, [some (.ref 93), some (.ref o1), some (.int x2), some (.int x3), some (.ref 2), some (.int x5), some (.int x6), some (.int x7), some (.int ((x8 + (nI 1)) + (nI 1))), some (.int (x9 + (nI 1))), some (.int (d o1 (x8).toNatClampNeg)), some (.int (nI 1))], q25.2.1, q25.2.2)) else (bif ((a_inb (x8 + (nI 1)) 300)) then (some (23, [some (.ref 93), some (.ref o1), some (.int x2), some (.int x3), some (.ref 2), some (.int x5), some (.int x6), some (.int x7), some (.int (a_max (x8 + (nI 1)) (q25.2.1 o1 ((x8 + (nI 1))).toNatClampNeg))), some (.int (x9 + (nI 1))), some (.int (d o1 (x8).toNatClampNeg)), some (.int (nI 1))], q25.2.1, q25.2.2)) else none))) else (if (nI 0) = 0 then (some (23, [some (.ref 93), some (.ref o1), some (.int x2), some (.int x3), some (.ref 2), some (.int x5), some (.int x6), some (.int x7), some (.int ((x8 + (nI 1)) + (nI 1))), some (.int (x9 + (nI 1))), some (.int (d o1 (x8).toNatClampNeg)), some (.int (nI 0))], q25.2.1, q25.2.2)) else (if x7 ≤ (x8 + (nI 1)) then (some (23, [some (.ref 93), some (.ref o1), some (.int x2), some (.int x3), some (.ref 2), some (.int x5), some (.int x6), some (.int x7), some (.int ((x8 + (nI 1)) + (nI 1))), some (.int (x9 + (nI 1))), some (.int (d o1 (x8).toNatClampNeg)), some (.int (nI 0))], q25.2.1, q25.2.2)) else (bif ((a_inb (x8 + (nI 1)) 300)) then (some (23, [some (.ref 93), some (.ref o1), some (.int x2), some (.int x3), some (.ref 2), some (.int x5), some (.int x6), some (.int x7), some (.int (a_max (x8 + (nI 1)) (q25.2.1 o1 ((x8 + (nI 1))).toNatClampNeg))), some (.int (x9 + (nI 1))), some (.int (d o1 (x8).toNatClampNeg)), some (.int (nI 0))], q25.2.1, q25.2.2)) else none)))))) else ((FX1_isName d e (d o1 (x8).toNatClampNeg)).bind fun q33 => (if q33.1 = 0 then (if (d o1 (x8).toNatClampNeg) = (nI 5) then ((FX1_pop q33.2.1 q33.2.2).bind fun q36 => ((FX1_ofOne q36.2.1 q36.2.2 (d o1 (x8).toNatClampNeg) q36.1).bind fun q37 => ((FX1_push q37.2.1 q37.2.2 q37.1).bind fun q38 => (some (23, [some (.ref 93), some (.ref o1), some (.int x2), some (.int x3), some (.ref 2), some (.int x5), some (.int x6), some (.int x7), some (.int (x8 + (nI 1))), some (.int (x9 + (nI 1))), some (.int (d o1 (x8).toNatClampNeg)), v11], q38.2.1, q38.2.2))))) else (if (d o1 (x8).toNatClampNeg) = (nI 320) then ((FX1_pop q33.2.1 q33.2.2).bind fun q40 => ((FX1_ofOne q40.2.1 q40.2.2 (d o1 (x8).toNatClampNeg) q40.1).bind fun q41 => ((FX1_push q41.2.1 q41.2.2 q41.1).bind fun q42 => (some (23, [some (.ref 93), some (.ref o1), some (.int x2), some (.int x3), some (.ref 2), some (.int x5), some (.int x6), some (.int x7), some (.int (x8 + (nI 1))), some (.int (x9 + (nI 1))), some (.int (d o1 (x8).toNatClampNeg)), v11], q42.2.1, q42.2.2))))) else (if (d o1 (x8).toNatClampNeg) = (nI 313) then ((FX1_pop q33.2.1 q33.2.2).bind fun q44 => ((FX1_ofOne q44.2.1 q44.2.2 (d o1 (x8).toNatClampNeg) q44.1).bind fun q45 => ((FX1_push q45.2.1 q45.2.2 q45.1).bind fun q46 => (some (23, [some (.ref 93), some (.ref o1), some (.int x2), some (.int x3), some (.ref 2), some (.int x5), some (.int x6), some (.int x7), some (.int (x8 + (nI 1))), some (.int (x9 + (nI 1))), some (.int (d o1 (x8).toNatClampNeg)), v11], q46.2.1, q46.2.2))))) else ((FX1_pop q33.2.1 q33.2.2).bind fun q47 => ((FX1_pop q47.2.1 q47.2.2).bind fun q48 => ((FX1_ofTwo q48.2.1 q48.2.2 (d o1 (x8).toNatClampNeg) (Int32.toInt64 q48.1) (Int32.toInt64 q47.1)).bind fun q49 => ((FX1_limited q49.2.1 q49.2.2 q49.1).bind fun q50 => ((FX1_push q50.2.1 q50.2.2 q50.1).bind fun q51 => (some (23, [some (.ref 93), some (.ref o1), some (.int x2), some (.int x3), some (.ref 2), some (.int x5), some (.int x6), some (.int x7), some (.int (x8 + (nI 1))), some (.int (x9 + (nI 1))), some (.int (d o1 (x8).toNatClampNeg)), some (.int q47.1)], q51.2.1, q51.2.2)))))))))) else ((FX1_named q33.2.1 q33.2.2 (d o1 (x8).toNatClampNeg) x5 x6).bind fun q52 => ((FX1_push q52.2.1 q52.2.2 q52.1).bind fun q53 => (some (23, [some (.ref 93), some (.ref o1), some (.int x2), some (.int x3), some (.ref 2), some (.int x5), some (.int x6), some (.int x7), some (.int (x8 + (nI 1))), some (.int (x9 + (nI 1))), some (.int (d o1 (x8).toNatClampNeg)), v11], q53.2.1, q53.2.2)))))))) else ((FX1_push d e ((-(nI 1)) - (d o1 (x8).toNatClampNeg))).bind fun q54 => (some (23, [some (.ref 93), some (.ref o1), some (.int x2), some (.int x3), some (.ref 2), some (.int x5), some (.int x6), some (.int x7), some (.int (x8 + (nI 1))), some (.int (x9 + (nI 1))), some (.int (d o1 (x8).toNatClampNeg)), v11], q54.2.1, q54.2.2)))) else none))) else none)
theorem tX1_run_23 {Γ : aG × Launch} {dp : Nat} {d dF : aI} {e eF : aJ} {o1 : Nat} {x2 : Int32} {x3 : Int32} {x5 : Int32} {x6 : Int32} {x7 : Int32} {x8 : Int32} {x9 : Int32} {v10 : Option Value} {v11 : Option Value} {r : Option Value} {p : Nat × aL × aI × aJ} (h : sX1_run_23 d e o1 x2 x3 x5 x6 x7 x8 x9 v10 v11 = some p) (kc : Nat.beq p.1 100000 = false → Rn Γ (dp + 2) mX1_run p.1 p.2.1 [] p.2.2.1 p.2.2.2 r dF eF) (kr : p.1 = 100000 → r = a_rt p.2.1 ∧ dF = p.2.2.1 ∧ eF = p.2.2.2) : Rn Γ (dp + 2) mX1_run 23 [some (.ref 93), some (.ref o1), some (.int x2), some (.int x3), some (.ref 2), some (.int x5), some (.int x6), some (.int x7), some (.int x8), some (.int x9), v10, v11] [] d e r dF eF := by
  unfold sX1_run_23 at h
  obtain ⟨ho1x, h⟩ := a_cond h
  have ho1 := of_decide_eq_true ho1x
  refine a_ite h (fun c1 h => ?_) (fun c1 h => ?_)
  · refine bX1_run_23 (fun _ => ?_) (fun z => absurd c1 z)
    obtain ⟨q2, hq2, h⟩ := Option.bind_eq_some_iff.mp h
    refine bX1_run_232 (evX1_pop hq2) (by omega) ?_
    cases h
    obtain ⟨k1, k2, k3⟩ := kr rfl
    exact bX1_run_236 k1 k2 k3
  · refine bX1_run_23 (fun z => absurd z c1) (fun _ => ?_)
    refine a_ite h (fun c3 h => ?_) (fun c3 h => ?_)
    · refine bX1_run_31 (fun _ => ?_) (fun z => absurd c3 z)
      obtain ⟨q4, hq4, h⟩ := Option.bind_eq_some_iff.mp h
      refine bX1_run_232 (evX1_pop hq4) (by omega) ?_
      cases h
      obtain ⟨k1, k2, k3⟩ := kr rfl
      exact bX1_run_236 k1 k2 k3
    · refine bX1_run_31 (fun z => absurd z c3) (fun _ => ?_)
      obtain ⟨g5, h⟩ := a_cond h
      refine a_ite h (fun c6 h => ?_) (fun c6 h => ?_)
      · refine bX1_run_38 ho1 (a_inb_vp g5) (fun _ => ?_) (fun z => absurd c6 z)
        refine a_ite h (fun c7 h => ?_) (fun c7 h => ?_)
        · refine bX1_run_63 (fun _ => ?_) (fun z => absurd c7 z)
          refine a_ite h (fun c8 h => ?_) (fun c8 h => ?_)
          · refine bX1_run_79 (fun _ => ?_) (fun z => absurd c8 z)
            refine bX1_run_94 ?_
            refine a_ite h (fun c9 h => ?_) (fun c9 h => ?_)
            · refine bX1_run_99 (fun _ => ?_) (fun z => absurd c9 z)
              refine bX1_run_125 ?_
              refine bX1_run_129 ?_
              refine bX1_run_226 ?_
              cases h
              exact kc rfl
            · refine bX1_run_99 (fun z => absurd z c9) (fun _ => ?_)
              refine a_ite h (fun c10 h => ?_) (fun c10 h => ?_)
              · refine bX1_run_106 (fun _ => ?_) (fun z => absurd c10 z)
                refine bX1_run_125 ?_
                refine bX1_run_129 ?_
                refine bX1_run_226 ?_
                cases h
                exact kc rfl
              · refine bX1_run_106 (fun z => absurd z c10) (fun _ => ?_)
                obtain ⟨g11, h⟩ := a_cond h
                refine bX1_run_113 ho1 (a_inb_vp g11) ?_
                refine bX1_run_129 ?_
                refine bX1_run_226 ?_
                cases h
                exact kc rfl
          · refine bX1_run_79 (fun z => absurd z c8) (fun _ => ?_)
            obtain ⟨q12, hq12, h⟩ := Option.bind_eq_some_iff.mp h
            refine bX1_run_87 (evX1_pop hq12) (by omega) ?_
            refine a_ite h (fun c13 h => ?_) (fun c13 h => ?_)
            · refine bX1_run_91 (fun z => absurd c13 z) (fun _ => ?_)
              refine bX1_run_94 ?_
              refine a_ite h (fun c14 h => ?_) (fun c14 h => ?_)
              · refine bX1_run_99 (fun _ => ?_) (fun z => absurd c14 z)
                refine bX1_run_125 ?_
                refine bX1_run_129 ?_
                refine bX1_run_226 ?_
                cases h
                exact kc rfl
              · refine bX1_run_99 (fun z => absurd z c14) (fun _ => ?_)
                refine a_ite h (fun c15 h => ?_) (fun c15 h => ?_)
                · refine bX1_run_106 (fun _ => ?_) (fun z => absurd c15 z)
                  refine bX1_run_125 ?_
                  refine bX1_run_129 ?_
                  refine bX1_run_226 ?_
                  cases h
                  exact kc rfl
                · refine bX1_run_106 (fun z => absurd z c15) (fun _ => ?_)
                  obtain ⟨g16, h⟩ := a_cond h
                  refine bX1_run_113 ho1 (a_inb_vp g16) ?_
                  refine bX1_run_129 ?_
                  refine bX1_run_226 ?_
                  cases h
                  exact kc rfl
            · refine bX1_run_91 (fun _ => ?_) (fun z => absurd z c13)
              refine bX1_run_98 ?_
              refine a_ite h (fun c17 h => ?_) (fun c17 h => ?_)
              · refine bX1_run_99 (fun _ => ?_) (fun z => absurd c17 z)
                refine bX1_run_125 ?_
                refine bX1_run_129 ?_
                refine bX1_run_226 ?_
                cases h
                exact kc rfl
              · refine bX1_run_99 (fun z => absurd z c17) (fun _ => ?_)
                refine a_ite h (fun c18 h => ?_) (fun c18 h => ?_)
                · refine bX1_run_106 (fun _ => ?_) (fun z => absurd c18 z)
                  refine bX1_run_125 ?_
                  refine bX1_run_129 ?_
                  refine bX1_run_226 ?_
                  cases h
                  exact kc rfl
                · refine bX1_run_106 (fun z => absurd z c18) (fun _ => ?_)
                  obtain ⟨g19, h⟩ := a_cond h
                  refine bX1_run_113 ho1 (a_inb_vp g19) ?_
                  refine bX1_run_129 ?_
                  refine bX1_run_226 ?_
                  cases h
                  exact kc rfl
        · refine bX1_run_63 (fun z => absurd z c7) (fun _ => ?_)
          refine a_ite h (fun c20 h => ?_) (fun c20 h => ?_)
          · refine bX1_run_71 (fun z => absurd c20 z) (fun _ => ?_)
            refine a_ite h (fun c21 h => ?_) (fun c21 h => ?_)
            · refine bX1_run_79 (fun _ => ?_) (fun z => absurd c21 z)
              refine bX1_run_94 ?_
              refine a_ite h (fun c22 h => ?_) (fun c22 h => ?_)
              · refine bX1_run_99 (fun _ => ?_) (fun z => absurd c22 z)
                refine bX1_run_125 ?_
                refine bX1_run_129 ?_
                refine bX1_run_226 ?_
                cases h
                exact kc rfl
              · refine bX1_run_99 (fun z => absurd z c22) (fun _ => ?_)
                refine a_ite h (fun c23 h => ?_) (fun c23 h => ?_)
                · refine bX1_run_106 (fun _ => ?_) (fun z => absurd c23 z)
                  refine bX1_run_125 ?_
                  refine bX1_run_129 ?_
                  refine bX1_run_226 ?_
                  cases h
                  exact kc rfl
                · refine bX1_run_106 (fun z => absurd z c23) (fun _ => ?_)
                  obtain ⟨g24, h⟩ := a_cond h
                  refine bX1_run_113 ho1 (a_inb_vp g24) ?_
                  refine bX1_run_129 ?_
                  refine bX1_run_226 ?_
                  cases h
                  exact kc rfl
            · refine bX1_run_79 (fun z => absurd z c21) (fun _ => ?_)
              obtain ⟨q25, hq25, h⟩ := Option.bind_eq_some_iff.mp h
              refine bX1_run_87 (evX1_pop hq25) (by omega) ?_
              refine a_ite h (fun c26 h => ?_) (fun c26 h => ?_)
              · refine bX1_run_91 (fun z => absurd c26 z) (fun _ => ?_)
                refine bX1_run_94 ?_
                refine a_ite h (fun c27 h => ?_) (fun c27 h => ?_)
                · refine bX1_run_99 (fun _ => ?_) (fun z => absurd c27 z)
                  refine bX1_run_125 ?_
                  refine bX1_run_129 ?_
                  refine bX1_run_226 ?_
                  cases h
                  exact kc rfl
                · refine bX1_run_99 (fun z => absurd z c27) (fun _ => ?_)
                  refine a_ite h (fun c28 h => ?_) (fun c28 h => ?_)
                  · refine bX1_run_106 (fun _ => ?_) (fun z => absurd c28 z)
                    refine bX1_run_125 ?_
                    refine bX1_run_129 ?_
                    refine bX1_run_226 ?_
                    cases h
                    exact kc rfl
                  · refine bX1_run_106 (fun z => absurd z c28) (fun _ => ?_)
                    obtain ⟨g29, h⟩ := a_cond h
                    refine bX1_run_113 ho1 (a_inb_vp g29) ?_
                    refine bX1_run_129 ?_
                    refine bX1_run_226 ?_
                    cases h
                    exact kc rfl
              · refine bX1_run_91 (fun _ => ?_) (fun z => absurd z c26)
                refine bX1_run_98 ?_
                refine a_ite h (fun c30 h => ?_) (fun c30 h => ?_)
                · refine bX1_run_99 (fun _ => ?_) (fun z => absurd c30 z)
                  refine bX1_run_125 ?_
                  refine bX1_run_129 ?_
                  refine bX1_run_226 ?_
                  cases h
                  exact kc rfl
                · refine bX1_run_99 (fun z => absurd z c30) (fun _ => ?_)
                  refine a_ite h (fun c31 h => ?_) (fun c31 h => ?_)
                  · refine bX1_run_106 (fun _ => ?_) (fun z => absurd c31 z)
                    refine bX1_run_125 ?_
                    refine bX1_run_129 ?_
                    refine bX1_run_226 ?_
                    cases h
                    exact kc rfl
                  · refine bX1_run_106 (fun z => absurd z c31) (fun _ => ?_)
                    obtain ⟨g32, h⟩ := a_cond h
                    refine bX1_run_113 ho1 (a_inb_vp g32) ?_
                    refine bX1_run_129 ?_
                    refine bX1_run_226 ?_
                    cases h
                    exact kc rfl
          · refine bX1_run_71 (fun _ => ?_) (fun z => absurd z c20)
            obtain ⟨q33, hq33, h⟩ := Option.bind_eq_some_iff.mp h
            refine bX1_run_134 (evX1_isName hq33) (by omega) ?_
            refine a_ite h (fun c34 h => ?_) (fun c34 h => ?_)
            · refine bX1_run_139 (fun _ => ?_) (fun z => absurd c34 z)
              refine a_ite h (fun c35 h => ?_) (fun c35 h => ?_)
              · refine bX1_run_160 (fun _ => ?_) (fun z => absurd c35 z)
                obtain ⟨q36, hq36, h⟩ := Option.bind_eq_some_iff.mp h
                refine bX1_run_182 (evX1_pop hq36) (by omega) ?_
                obtain ⟨q37, hq37, h⟩ := Option.bind_eq_some_iff.mp h
                refine bX1_run_189 (evX1_ofOne hq37) (by omega) ?_
                obtain ⟨q38, hq38, h⟩ := Option.bind_eq_some_iff.mp h
                refine bX1_run_194 (evX1_push hq38) (by omega) ?_
                refine bX1_run_197 ?_
                refine bX1_run_226 ?_
                cases h
                exact kc rfl
              · refine bX1_run_160 (fun z => absurd z c35) (fun _ => ?_)
                refine a_ite h (fun c39 h => ?_) (fun c39 h => ?_)
                · refine bX1_run_166 (fun _ => ?_) (fun z => absurd c39 z)
                  obtain ⟨q40, hq40, h⟩ := Option.bind_eq_some_iff.mp h
                  refine bX1_run_182 (evX1_pop hq40) (by omega) ?_
                  obtain ⟨q41, hq41, h⟩ := Option.bind_eq_some_iff.mp h
                  refine bX1_run_189 (evX1_ofOne hq41) (by omega) ?_
                  obtain ⟨q42, hq42, h⟩ := Option.bind_eq_some_iff.mp h
                  refine bX1_run_194 (evX1_push hq42) (by omega) ?_
                  refine bX1_run_197 ?_
                  refine bX1_run_226 ?_
                  cases h
                  exact kc rfl
                · refine bX1_run_166 (fun z => absurd z c39) (fun _ => ?_)
                  refine a_ite h (fun c43 h => ?_) (fun c43 h => ?_)
                  · refine bX1_run_174 (fun z => absurd c43 z) (fun _ => ?_)
                    obtain ⟨q44, hq44, h⟩ := Option.bind_eq_some_iff.mp h
                    refine bX1_run_182 (evX1_pop hq44) (by omega) ?_
                    obtain ⟨q45, hq45, h⟩ := Option.bind_eq_some_iff.mp h
                    refine bX1_run_189 (evX1_ofOne hq45) (by omega) ?_
                    obtain ⟨q46, hq46, h⟩ := Option.bind_eq_some_iff.mp h
                    refine bX1_run_194 (evX1_push hq46) (by omega) ?_
                    refine bX1_run_197 ?_
                    refine bX1_run_226 ?_
                    cases h
                    exact kc rfl
                  · refine bX1_run_174 (fun _ => ?_) (fun z => absurd z c43)
                    obtain ⟨q47, hq47, h⟩ := Option.bind_eq_some_iff.mp h
                    refine bX1_run_200 (evX1_pop hq47) (by omega) ?_
                    obtain ⟨q48, hq48, h⟩ := Option.bind_eq_some_iff.mp h
                    refine bX1_run_204 (evX1_pop hq48) (by omega) ?_
                    obtain ⟨q49, hq49, h⟩ := Option.bind_eq_some_iff.mp h
                    refine bX1_run_213 (evX1_ofTwo hq49) (by omega) ?_
                    obtain ⟨q50, hq50, h⟩ := Option.bind_eq_some_iff.mp h
                    refine bX1_run_220 (evX1_limited hq50) (by omega) ?_
                    obtain ⟨q51, hq51, h⟩ := Option.bind_eq_some_iff.mp h
                    refine bX1_run_223 (evX1_push hq51) (by omega) ?_
                    refine bX1_run_226 ?_
                    cases h
                    exact kc rfl
            · refine bX1_run_139 (fun z => absurd z c34) (fun _ => ?_)
              obtain ⟨q52, hq52, h⟩ := Option.bind_eq_some_iff.mp h
              refine bX1_run_142 (evX1_named hq52) (by omega) ?_
              obtain ⟨q53, hq53, h⟩ := Option.bind_eq_some_iff.mp h
              refine bX1_run_154 (evX1_push hq53) (by omega) ?_
              refine bX1_run_157 ?_
              refine bX1_run_226 ?_
              cases h
              exact kc rfl
      · refine bX1_run_38 ho1 (a_inb_vp g5) (fun z => absurd z c6) (fun _ => ?_)
        obtain ⟨q54, hq54, h⟩ := Option.bind_eq_some_iff.mp h
        refine bX1_run_52 (evX1_push hq54) (by omega) ?_
        refine bX1_run_60 ?_
        refine bX1_run_226 ?_
        cases h
        exact kc rfl

def sX2_guest_0 (d : aI) (e : aJ) (x1 : Int32) : Option (Nat × aL × aI × aJ) := (some (2, [some (.ref 2), some (.int x1), some (.int (nI 0))], d, e))
theorem tX2_guest_0 {Γ : aG × Launch} {dp : Nat} {d dF : aI} {e eF : aJ} {x1 : Int32} {r : Option Value} {p : Nat × aL × aI × aJ} (h : sX2_guest_0 d e x1 = some p) (kc : Nat.beq p.1 100000 = false → Rn Γ (dp + 1) mX2_guest p.1 p.2.1 [] p.2.2.1 p.2.2.2 r dF eF) (kr : p.1 = 100000 → r = a_rt p.2.1 ∧ dF = p.2.2.1 ∧ eF = p.2.2.2) : Rn Γ (dp + 1) mX2_guest 0 [some (.ref 2), some (.int x1), none] [] d e r dF eF := by
  unfold sX2_guest_0 at h
  refine bX2_guest_0 ?_
  cases h
  exact kc rfl

def sX2_guest_2 (d : aI) (e : aJ) (x1 : Int32) (x2 : Int32) : Option (Nat × aL × aI × aJ) := (if (d 2 9) ≤ x2 then (some (100000, [some (.int (-(nI 1)))], d, e)) else ((FX2_isHouse d e x1).bind fun q2 => (if q2.1 = 0 then (some (100000, [some (.int (-(nI 1)))], q2.2.1, q2.2.2)) else (bif ((a_inb x2 6)) then (if (q2.2.1 8 (x2).toNatClampNeg) = x1 then (some (100000, [some (.int x2)], q2.2.1, q2.2.2)) else (some (2, [some (.ref 2), some (.int x1), some (.int (x2 + (nI 1)))], q2.2.1, q2.2.2))) else none))))
theorem tX2_guest_2 {Γ : aG × Launch} {dp : Nat} {d dF : aI} {e eF : aJ} {x1 : Int32} {x2 : Int32} {r : Option Value} {p : Nat × aL × aI × aJ} (h : sX2_guest_2 d e x1 x2 = some p) (kc : Nat.beq p.1 100000 = false → Rn Γ (dp + 1) mX2_guest p.1 p.2.1 [] p.2.2.1 p.2.2.2 r dF eF) (kr : p.1 = 100000 → r = a_rt p.2.1 ∧ dF = p.2.2.1 ∧ eF = p.2.2.2) : Rn Γ (dp + 1) mX2_guest 2 [some (.ref 2), some (.int x1), some (.int x2)] [] d e r dF eF := by
  unfold sX2_guest_2 at h
  refine a_ite h (fun c1 h => ?_) (fun c1 h => ?_)
  · refine bX2_guest_2 (fun _ => ?_) (fun z => absurd c1 z)
    cases h
    obtain ⟨k1, k2, k3⟩ := kr rfl
    exact bX2_guest_36 k1 k2 k3
  · refine bX2_guest_2 (fun z => absurd z c1) (fun _ => ?_)
    obtain ⟨q2, hq2, h⟩ := Option.bind_eq_some_iff.mp h
    refine bX2_guest_10 (evX2_isHouse hq2) (by omega) ?_
    refine a_ite h (fun c3 h => ?_) (fun c3 h => ?_)
    · refine bX2_guest_15 (fun _ => ?_) (fun z => absurd c3 z)
      cases h
      obtain ⟨k1, k2, k3⟩ := kr rfl
      exact bX2_guest_36 k1 k2 k3
    · refine bX2_guest_15 (fun z => absurd z c3) (fun _ => ?_)
      obtain ⟨g4, h⟩ := a_cond h
      refine a_ite h (fun c5 h => ?_) (fun c5 h => ?_)
      · refine bX2_guest_18 (a_inb_vp g4) (fun z => absurd c5 z) (fun _ => ?_)
        cases h
        obtain ⟨k1, k2, k3⟩ := kr rfl
        exact bX2_guest_28 k1 k2 k3
      · refine bX2_guest_18 (a_inb_vp g4) (fun _ => ?_) (fun z => absurd z c5)
        refine bX2_guest_30 ?_
        cases h
        exact kc rfl

def sX2_catsAt_0 (d : aI) (e : aJ) (x1 : Int32) : Option (Nat × aL × aI × aJ) := (some (4, [some (.ref 2), some (.int x1), some (.int (nI 0)), some (.int (nI 0))], d, e))
theorem tX2_catsAt_0 {Γ : aG × Launch} {dp : Nat} {d dF : aI} {e eF : aJ} {x1 : Int32} {r : Option Value} {p : Nat × aL × aI × aJ} (h : sX2_catsAt_0 d e x1 = some p) (kc : Nat.beq p.1 100000 = false → Rn Γ (dp + 0) mX2_catsAt p.1 p.2.1 [] p.2.2.1 p.2.2.2 r dF eF) (kr : p.1 = 100000 → r = a_rt p.2.1 ∧ dF = p.2.2.1 ∧ eF = p.2.2.2) : Rn Γ (dp + 0) mX2_catsAt 0 [some (.ref 2), some (.int x1), none, none] [] d e r dF eF := by
  unfold sX2_catsAt_0 at h
  refine bX2_catsAt_0 ?_
  cases h
  exact kc rfl

def sX2_catsAt_4 (d : aI) (e : aJ) (x1 : Int32) (x2 : Int32) (x3 : Int32) : Option (Nat × aL × aI × aJ) := (if (d 2 9) ≤ x3 then (some (100000, [some (.int x2)], d, e)) else (bif ((a_inb x3 6)) then (if (d 8 (x3).toNatClampNeg) = (-(nI 1)) then (bif ((a_inb x3 6)) then (if (d 7 (x3).toNatClampNeg) = x1 then (some (4, [some (.ref 2), some (.int x1), some (.int (x2 ||| (a_shl (nI 1) x3))), some (.int (x3 + (nI 1)))], d, e)) else (some (4, [some (.ref 2), some (.int x1), some (.int (x2 ||| (nI 0))), some (.int (x3 + (nI 1)))], d, e))) else none) else (some (4, [some (.ref 2), some (.int x1), some (.int (x2 ||| (nI 0))), some (.int (x3 + (nI 1)))], d, e))) else none))
theorem tX2_catsAt_4 {Γ : aG × Launch} {dp : Nat} {d dF : aI} {e eF : aJ} {x1 : Int32} {x2 : Int32} {x3 : Int32} {r : Option Value} {p : Nat × aL × aI × aJ} (h : sX2_catsAt_4 d e x1 x2 x3 = some p) (kc : Nat.beq p.1 100000 = false → Rn Γ (dp + 0) mX2_catsAt p.1 p.2.1 [] p.2.2.1 p.2.2.2 r dF eF) (kr : p.1 = 100000 → r = a_rt p.2.1 ∧ dF = p.2.2.1 ∧ eF = p.2.2.2) : Rn Γ (dp + 0) mX2_catsAt 4 [some (.ref 2), some (.int x1), some (.int x2), some (.int x3)] [] d e r dF eF := by
  unfold sX2_catsAt_4 at h
  refine a_ite h (fun c1 h => ?_) (fun c1 h => ?_)
  · refine bX2_catsAt_4 (fun _ => ?_) (fun z => absurd c1 z)
    cases h
    obtain ⟨k1, k2, k3⟩ := kr rfl
    exact bX2_catsAt_48 k1 k2 k3
  · refine bX2_catsAt_4 (fun z => absurd z c1) (fun _ => ?_)
    obtain ⟨g2, h⟩ := a_cond h
    refine a_ite h (fun c3 h => ?_) (fun c3 h => ?_)
    · refine bX2_catsAt_12 (a_inb_vp g2) (fun z => absurd c3 z) (fun _ => ?_)
      obtain ⟨g4, h⟩ := a_cond h
      refine a_ite h (fun c5 h => ?_) (fun c5 h => ?_)
      · refine bX2_catsAt_23 (a_inb_vp g4) (fun z => absurd c5 z) (fun _ => ?_)
        refine bX2_catsAt_33 ?_
        refine bX2_catsAt_40 ?_
        cases h
        exact kc rfl
      · refine bX2_catsAt_23 (a_inb_vp g4) (fun _ => ?_) (fun z => absurd z c5)
        refine bX2_catsAt_39 ?_
        refine bX2_catsAt_40 ?_
        cases h
        exact kc rfl
    · refine bX2_catsAt_12 (a_inb_vp g2) (fun _ => ?_) (fun z => absurd z c3)
      refine bX2_catsAt_39 ?_
      refine bX2_catsAt_40 ?_
      cases h
      exact kc rfl

def sX2_rank_0 (d : aI) (e : aJ) (x1 : Int32) : Option (Nat × aL × aI × aJ) := (some (4, [some (.ref 2), some (.int x1), some (.int (nI 0)), some (.int (nI 0)), none], d, e))
theorem tX2_rank_0 {Γ : aG × Launch} {dp : Nat} {d dF : aI} {e eF : aJ} {x1 : Int32} {r : Option Value} {p : Nat × aL × aI × aJ} (h : sX2_rank_0 d e x1 = some p) (kc : Nat.beq p.1 100000 = false → Rn Γ (dp + 0) mX2_rank p.1 p.2.1 [] p.2.2.1 p.2.2.2 r dF eF) (kr : p.1 = 100000 → r = a_rt p.2.1 ∧ dF = p.2.2.1 ∧ eF = p.2.2.2) : Rn Γ (dp + 0) mX2_rank 0 [some (.ref 2), some (.int x1), none, none, none] [] d e r dF eF := by
  unfold sX2_rank_0 at h
  refine bX2_rank_0 ?_
  cases h
  exact kc rfl

def sX2_rank_4 (d : aI) (e : aJ) (x1 : Int32) (x2 : Int32) (x3 : Int32) (v4 : Option Value) : Option (Nat × aL × aI × aJ) := (if (d 2 9) ≤ x3 then (some (100000, [some (.int x2)], d, e)) else (bif ((a_inb x3 6) && (a_inb x1 6)) then (if (d 6 (x3).toNatClampNeg) < (d 6 (x1).toNatClampNeg) then (if (nI 1) = 0 then (some (4, [some (.ref 2), some (.int x1), some (.int (x2 + (nI 0))), some (.int (x3 + (nI 1))), some (.int (nI 1))], d, e)) else (some (4, [some (.ref 2), some (.int x1), some (.int (x2 + (nI 1))), some (.int (x3 + (nI 1))), some (.int (nI 1))], d, e))) else (bif ((a_inb x3 6) && (a_inb x1 6)) then (if (d 6 (x3).toNatClampNeg) = (d 6 (x1).toNatClampNeg) then (if x1 ≤ x3 then (if (nI 0) = 0 then (some (4, [some (.ref 2), some (.int x1), some (.int (x2 + (nI 0))), some (.int (x3 + (nI 1))), some (.int (nI 0))], d, e)) else (some (4, [some (.ref 2), some (.int x1), some (.int (x2 + (nI 1))), some (.int (x3 + (nI 1))), some (.int (nI 0))], d, e))) else (if (nI 1) = 0 then (some (4, [some (.ref 2), some (.int x1), some (.int (x2 + (nI 0))), some (.int (x3 + (nI 1))), some (.int (nI 1))], d, e)) else (some (4, [some (.ref 2), some (.int x1), some (.int (x2 + (nI 1))), some (.int (x3 + (nI 1))), some (.int (nI 1))], d, e)))) else (if (nI 0) = 0 then (some (4, [some (.ref 2), some (.int x1), some (.int (x2 + (nI 0))), some (.int (x3 + (nI 1))), some (.int (nI 0))], d, e)) else (some (4, [some (.ref 2), some (.int x1), some (.int (x2 + (nI 1))), some (.int (x3 + (nI 1))), some (.int (nI 0))], d, e)))) else none)) else none))
theorem tX2_rank_4 {Γ : aG × Launch} {dp : Nat} {d dF : aI} {e eF : aJ} {x1 : Int32} {x2 : Int32} {x3 : Int32} {v4 : Option Value} {r : Option Value} {p : Nat × aL × aI × aJ} (h : sX2_rank_4 d e x1 x2 x3 v4 = some p) (kc : Nat.beq p.1 100000 = false → Rn Γ (dp + 0) mX2_rank p.1 p.2.1 [] p.2.2.1 p.2.2.2 r dF eF) (kr : p.1 = 100000 → r = a_rt p.2.1 ∧ dF = p.2.2.1 ∧ eF = p.2.2.2) : Rn Γ (dp + 0) mX2_rank 4 [some (.ref 2), some (.int x1), some (.int x2), some (.int x3), v4] [] d e r dF eF := by
  unfold sX2_rank_4 at h
  refine a_ite h (fun c1 h => ?_) (fun c1 h => ?_)
  · refine bX2_rank_4 (fun _ => ?_) (fun z => absurd c1 z)
    cases h
    obtain ⟨k1, k2, k3⟩ := kr rfl
    exact bX2_rank_73 k1 k2 k3
  · refine bX2_rank_4 (fun z => absurd z c1) (fun _ => ?_)
    obtain ⟨g2, h⟩ := a_cond h
    obtain ⟨g2x1, g2_1⟩ := a_and g2
    have g2_0 := g2x1
    refine a_ite h (fun c3 h => ?_) (fun c3 h => ?_)
    · refine bX2_rank_12 ⟨(a_inb_vp g2_0), (a_inb_vp g2_1)⟩ (fun _ => ?_) (fun z => absurd c3 z)
      refine bX2_rank_47 ?_
      refine a_ite h (fun c4 h => ?_) (fun c4 h => ?_)
      · refine bX2_rank_52 (fun _ => ?_) (fun z => absurd c4 z)
        refine bX2_rank_64 ?_
        refine bX2_rank_65 ?_
        cases h
        exact kc rfl
      · refine bX2_rank_52 (fun z => absurd z c4) (fun _ => ?_)
        refine bX2_rank_60 ?_
        refine bX2_rank_65 ?_
        cases h
        exact kc rfl
    · refine bX2_rank_12 ⟨(a_inb_vp g2_0), (a_inb_vp g2_1)⟩ (fun z => absurd z c3) (fun _ => ?_)
      obtain ⟨g5, h⟩ := a_cond h
      obtain ⟨g5x1, g5_1⟩ := a_and g5
      have g5_0 := g5x1
      refine a_ite h (fun c6 h => ?_) (fun c6 h => ?_)
      · refine bX2_rank_27 ⟨(a_inb_vp g5_0), (a_inb_vp g5_1)⟩ (fun z => absurd c6 z) (fun _ => ?_)
        refine a_ite h (fun c7 h => ?_) (fun c7 h => ?_)
        · refine bX2_rank_42 (fun _ => ?_) (fun z => absurd c7 z)
          refine bX2_rank_51 ?_
          refine a_ite h (fun c8 h => ?_) (fun c8 h => ?_)
          · refine bX2_rank_52 (fun _ => ?_) (fun z => absurd c8 z)
            refine bX2_rank_64 ?_
            refine bX2_rank_65 ?_
            cases h
            exact kc rfl
          · refine bX2_rank_52 (fun z => absurd z c8) (fun _ => ?_)
            refine bX2_rank_60 ?_
            refine bX2_rank_65 ?_
            cases h
            exact kc rfl
        · refine bX2_rank_42 (fun z => absurd z c7) (fun _ => ?_)
          refine bX2_rank_47 ?_
          refine a_ite h (fun c9 h => ?_) (fun c9 h => ?_)
          · refine bX2_rank_52 (fun _ => ?_) (fun z => absurd c9 z)
            refine bX2_rank_64 ?_
            refine bX2_rank_65 ?_
            cases h
            exact kc rfl
          · refine bX2_rank_52 (fun z => absurd z c9) (fun _ => ?_)
            refine bX2_rank_60 ?_
            refine bX2_rank_65 ?_
            cases h
            exact kc rfl
      · refine bX2_rank_27 ⟨(a_inb_vp g5_0), (a_inb_vp g5_1)⟩ (fun _ => ?_) (fun z => absurd z c6)
        refine bX2_rank_51 ?_
        refine a_ite h (fun c10 h => ?_) (fun c10 h => ?_)
        · refine bX2_rank_52 (fun _ => ?_) (fun z => absurd c10 z)
          refine bX2_rank_64 ?_
          refine bX2_rank_65 ?_
          cases h
          exact kc rfl
        · refine bX2_rank_52 (fun z => absurd z c10) (fun _ => ?_)
          refine bX2_rank_60 ?_
          refine bX2_rank_65 ?_
          cases h
          exact kc rfl

def sX4_chosen_0 (d : aI) (e : aJ) (x2 : Int32) (x3 : Int32) : Option (Nat × aL × aI × aJ) := ((FX4_cell d e x2 x3).bind fun q1 => (bif ((a_inb q1.1 448)) then ((FX4_cell q1.2.1 q1.2.2 (x2 + (nI 1)) x3).bind fun q3 => (bif ((a_inb q3.1 448)) then (if (q3.2.1 96 (q3.1).toNatClampNeg) = (q1.2.1 96 (q1.1).toNatClampNeg) then (some (100000, [some (.int (-(nI 1)))], q3.2.1, q3.2.2)) else (some (34, [some (.ref 95), some (.ref 2), some (.int x2), some (.int x3), some (.int (q1.2.1 96 (q1.1).toNatClampNeg)), some (.int (nI 0))], q3.2.1, q3.2.2))) else none)) else none))
theorem tX4_chosen_0 {Γ : aG × Launch} {dp : Nat} {d dF : aI} {e eF : aJ} {x2 : Int32} {x3 : Int32} {r : Option Value} {p : Nat × aL × aI × aJ} (h : sX4_chosen_0 d e x2 x3 = some p) (kc : Nat.beq p.1 100000 = false → Rn Γ (dp + 3) mX4_chosen p.1 p.2.1 [] p.2.2.1 p.2.2.2 r dF eF) (kr : p.1 = 100000 → r = a_rt p.2.1 ∧ dF = p.2.2.1 ∧ eF = p.2.2.2) : Rn Γ (dp + 3) mX4_chosen 0 [some (.ref 95), some (.ref 2), some (.int x2), some (.int x3), none, none] [] d e r dF eF := by
  unfold sX4_chosen_0 at h
  obtain ⟨q1, hq1, h⟩ := Option.bind_eq_some_iff.mp h
  refine bX4_chosen_0 (evX4_cell hq1) (by omega) ?_
  obtain ⟨g2, h⟩ := a_cond h
  obtain ⟨q3, hq3, h⟩ := Option.bind_eq_some_iff.mp h
  refine bX4_chosen_9 (a_inb_vp g2) (evX4_cell hq3) (by omega) ?_
  obtain ⟨g4, h⟩ := a_cond h
  refine a_ite h (fun c5 h => ?_) (fun c5 h => ?_)
  · refine bX4_chosen_23 (a_inb_vp g4) (fun z => absurd c5 z) (fun _ => ?_)
    cases h
    obtain ⟨k1, k2, k3⟩ := kr rfl
    exact bX4_chosen_29 k1 k2 k3
  · refine bX4_chosen_23 (a_inb_vp g4) (fun _ => ?_) (fun z => absurd z c5)
    refine bX4_chosen_31 ?_
    cases h
    exact kc rfl

def sX4_chosen_34 (d : aI) (e : aJ) (x2 : Int32) (x3 : Int32) (x4 : Int32) (x5 : Int32) : Option (Nat × aL × aI × aJ) := (if (d 95 3) ≤ x5 then (some (100000, [some (.int (-(nI 1)))], d, e)) else ((FX10_hasBit d e x3 x5).bind fun q2 => (if q2.1 = 0 then ((FX4_paired q2.2.1 q2.2.2 x2 x3 x5).bind fun q4 => (if q4.1 = x4 then (some (100000, [some (.int x5)], q4.2.1, q4.2.2)) else (some (34, [some (.ref 95), some (.ref 2), some (.int x2), some (.int x3), some (.int x4), some (.int (x5 + (nI 1)))], q4.2.1, q4.2.2)))) else (some (34, [some (.ref 95), some (.ref 2), some (.int x2), some (.int x3), some (.int x4), some (.int (x5 + (nI 1)))], q2.2.1, q2.2.2)))))
theorem tX4_chosen_34 {Γ : aG × Launch} {dp : Nat} {d dF : aI} {e eF : aJ} {x2 : Int32} {x3 : Int32} {x4 : Int32} {x5 : Int32} {r : Option Value} {p : Nat × aL × aI × aJ} (h : sX4_chosen_34 d e x2 x3 x4 x5 = some p) (kc : Nat.beq p.1 100000 = false → Rn Γ (dp + 3) mX4_chosen p.1 p.2.1 [] p.2.2.1 p.2.2.2 r dF eF) (kr : p.1 = 100000 → r = a_rt p.2.1 ∧ dF = p.2.2.1 ∧ eF = p.2.2.2) : Rn Γ (dp + 3) mX4_chosen 34 [some (.ref 95), some (.ref 2), some (.int x2), some (.int x3), some (.int x4), some (.int x5)] [] d e r dF eF := by
  unfold sX4_chosen_34 at h
  refine a_ite h (fun c1 h => ?_) (fun c1 h => ?_)
  · refine bX4_chosen_34 (fun _ => ?_) (fun z => absurd c1 z)
    cases h
    obtain ⟨k1, k2, k3⟩ := kr rfl
    exact bX4_chosen_75 k1 k2 k3
  · refine bX4_chosen_34 (fun z => absurd z c1) (fun _ => ?_)
    obtain ⟨q2, hq2, h⟩ := Option.bind_eq_some_iff.mp h
    refine bX4_chosen_43 (evX10_hasBit hq2) (by omega) ?_
    refine a_ite h (fun c3 h => ?_) (fun c3 h => ?_)
    · refine bX4_chosen_49 (fun z => absurd c3 z) (fun _ => ?_)
      obtain ⟨q4, hq4, h⟩ := Option.bind_eq_some_iff.mp h
      refine bX4_chosen_52 (evX4_paired hq4) (by omega) ?_
      refine a_ite h (fun c5 h => ?_) (fun c5 h => ?_)
      · refine bX4_chosen_61 (fun z => absurd c5 z) (fun _ => ?_)
        cases h
        obtain ⟨k1, k2, k3⟩ := kr rfl
        exact bX4_chosen_66 k1 k2 k3
      · refine bX4_chosen_61 (fun _ => ?_) (fun z => absurd z c5)
        refine bX4_chosen_69 ?_
        cases h
        exact kc rfl
    · refine bX4_chosen_49 (fun _ => ?_) (fun z => absurd z c3)
      refine bX4_chosen_69 ?_
      cases h
      exact kc rfl

def sX5_append_0 (d : aI) (e : aJ) (x1 : Int32) : Option (Nat × aL × aI × aJ) := (some (3, [some (.ref 83), some (.int x1), some (.int (nI 24))], d, e))
theorem tX5_append_0 {Γ : aG × Launch} {dp : Nat} {d dF : aI} {e eF : aJ} {x1 : Int32} {r : Option Value} {p : Nat × aL × aI × aJ} (h : sX5_append_0 d e x1 = some p) (kc : Nat.beq p.1 100000 = false → Rn Γ (dp + 0) mX5_append p.1 p.2.1 [] p.2.2.1 p.2.2.2 r dF eF) (kr : p.1 = 100000 → r = a_rt p.2.1 ∧ dF = p.2.2.1 ∧ eF = p.2.2.2) : Rn Γ (dp + 0) mX5_append 0 [some (.ref 83), some (.int x1), none] [] d e r dF eF := by
  unfold sX5_append_0 at h
  refine bX5_append_0 ?_
  cases h
  exact kc rfl

def sX5_append_3 (d : aI) (e : aJ) (x1 : Int32) (x2 : Int32) : Option (Nat × aL × aI × aJ) := (if x2 < 0 then (some (100000, [], d, e)) else (if (nI 300) ≤ (d 83 2) then (some (100000, [], d, e)) else (bif ((a_inb (d 83 2) 300)) then (some (3, [some (.ref 83), some (.int x1), some (.int (x2 + (-(nI 8))))], (uI (uI d 84 ((d 83 2)).toNatClampNeg ((a_ushr x1 x2) &&& (nI 255))) 83 2 ((d 83 2) + (nI 1))), e)) else none)))
theorem tX5_append_3 {Γ : aG × Launch} {dp : Nat} {d dF : aI} {e eF : aJ} {x1 : Int32} {x2 : Int32} {r : Option Value} {p : Nat × aL × aI × aJ} (h : sX5_append_3 d e x1 x2 = some p) (kc : Nat.beq p.1 100000 = false → Rn Γ (dp + 0) mX5_append p.1 p.2.1 [] p.2.2.1 p.2.2.2 r dF eF) (kr : p.1 = 100000 → r = a_rt p.2.1 ∧ dF = p.2.2.1 ∧ eF = p.2.2.2) : Rn Γ (dp + 0) mX5_append 3 [some (.ref 83), some (.int x1), some (.int x2)] [] d e r dF eF := by
  unfold sX5_append_3 at h
  refine a_ite h (fun c1 h => ?_) (fun c1 h => ?_)
  · refine bX5_append_3 (fun _ => ?_) (fun z => absurd c1 z)
    cases h
    obtain ⟨k1, k2, k3⟩ := kr rfl
    exact bX5_append_49 k1 k2 k3
  · refine bX5_append_3 (fun z => absurd z c1) (fun _ => ?_)
    refine a_ite h (fun c2 h => ?_) (fun c2 h => ?_)
    · refine bX5_append_7 (fun _ => ?_) (fun z => absurd c2 z)
      cases h
      obtain ⟨k1, k2, k3⟩ := kr rfl
      exact bX5_append_49 k1 k2 k3
    · refine bX5_append_7 (fun z => absurd z c2) (fun _ => ?_)
      obtain ⟨g3, h⟩ := a_cond h
      refine bX5_append_17 (a_inb_vp g3) ?_
      cases h
      exact kc rfl

def sX5_scanNumber_0 (d : aI) (e : aJ) (x1 : Int32) : Option (Nat × aL × aI × aJ) := (some (4, [some (.ref 83), some (.int x1), some (.int x1), some (.int (nI 0))], d, e))
theorem tX5_scanNumber_0 {Γ : aG × Launch} {dp : Nat} {d dF : aI} {e eF : aJ} {x1 : Int32} {r : Option Value} {p : Nat × aL × aI × aJ} (h : sX5_scanNumber_0 d e x1 = some p) (kc : Nat.beq p.1 100000 = false → Rn Γ (dp + 1) mX5_scanNumber p.1 p.2.1 [] p.2.2.1 p.2.2.2 r dF eF) (kr : p.1 = 100000 → r = a_rt p.2.1 ∧ dF = p.2.2.1 ∧ eF = p.2.2.2) : Rn Γ (dp + 1) mX5_scanNumber 0 [some (.ref 83), some (.int x1), none, none] [] d e r dF eF := by
  unfold sX5_scanNumber_0 at h
  refine bX5_scanNumber_0 ?_
  cases h
  exact kc rfl

def sX5_scanNumber_4 (d : aI) (e : aJ) (x1 : Int32) (x2 : Int32) (x3 : Int32) : Option (Nat × aL × aI × aJ) := (if (d 83 2) ≤ x2 then (bif ((a_inb (d 83 8) 301) && (a_inb (d 83 8) 301)) then (some (100000, [some (.int x2)], (uI (uI d 85 ((d 83 8)).toNatClampNeg (nI 1)) 87 ((d 83 8)).toNatClampNeg x3), e)) else none) else (bif ((a_inb x2 300)) then ((FX5_isDigit d e (d 84 (x2).toNatClampNeg)).bind fun q4 => (if q4.1 = 0 then (bif ((a_inb (q4.2.1 83 8) 301) && (a_inb (q4.2.1 83 8) 301)) then (some (100000, [some (.int x2)], (uI (uI q4.2.1 85 ((q4.2.1 83 8)).toNatClampNeg (nI 1)) 87 ((q4.2.1 83 8)).toNatClampNeg x3), q4.2.2)) else none) else (bif ((a_inb x2 300)) then (some (4, [some (.ref 83), some (.int x1), some (.int (x2 + (nI 1))), some (.int (a_min (((x3 * (nI 10)) + (q4.2.1 84 (x2).toNatClampNeg)) - (nI 48)) (nI 10000)))], q4.2.1, q4.2.2)) else none))) else none))
theorem tX5_scanNumber_4 {Γ : aG × Launch} {dp : Nat} {d dF : aI} {e eF : aJ} {x1 : Int32} {x2 : Int32} {x3 : Int32} {r : Option Value} {p : Nat × aL × aI × aJ} (h : sX5_scanNumber_4 d e x1 x2 x3 = some p) (kc : Nat.beq p.1 100000 = false → Rn Γ (dp + 1) mX5_scanNumber p.1 p.2.1 [] p.2.2.1 p.2.2.2 r dF eF) (kr : p.1 = 100000 → r = a_rt p.2.1 ∧ dF = p.2.2.1 ∧ eF = p.2.2.2) : Rn Γ (dp + 1) mX5_scanNumber 4 [some (.ref 83), some (.int x1), some (.int x2), some (.int x3)] [] d e r dF eF := by
  unfold sX5_scanNumber_4 at h
  refine a_ite h (fun c1 h => ?_) (fun c1 h => ?_)
  · refine bX5_scanNumber_4 (fun _ => ?_) (fun z => absurd c1 z)
    obtain ⟨g2, h⟩ := a_cond h
    obtain ⟨g2x1, g2_1⟩ := a_and g2
    have g2_0 := g2x1
    cases h
    obtain ⟨k1, k2, k3⟩ := kr rfl
    exact bX5_scanNumber_51 ⟨(a_inb_vp g2_0), (a_inb_vp g2_1)⟩ k1 k2 k3
  · refine bX5_scanNumber_4 (fun z => absurd z c1) (fun _ => ?_)
    obtain ⟨g3, h⟩ := a_cond h
    obtain ⟨q4, hq4, h⟩ := Option.bind_eq_some_iff.mp h
    refine bX5_scanNumber_12 (a_inb_vp g3) (evX5_isDigit hq4) (by omega) ?_
    refine a_ite h (fun c5 h => ?_) (fun c5 h => ?_)
    · refine bX5_scanNumber_21 (fun _ => ?_) (fun z => absurd c5 z)
      obtain ⟨g6, h⟩ := a_cond h
      obtain ⟨g6x1, g6_1⟩ := a_and g6
      have g6_0 := g6x1
      cases h
      obtain ⟨k1, k2, k3⟩ := kr rfl
      exact bX5_scanNumber_51 ⟨(a_inb_vp g6_0), (a_inb_vp g6_1)⟩ k1 k2 k3
    · refine bX5_scanNumber_21 (fun z => absurd z c5) (fun _ => ?_)
      obtain ⟨g7, h⟩ := a_cond h
      refine bX5_scanNumber_24 (a_inb_vp g7) ?_
      cases h
      exact kc rfl

def sX8_friendsOf_0 (d : aI) (e : aJ) (x1 : Int32) : Option (Nat × aL × aI × aJ) := (some (4, [some (.ref 13), some (.int x1), some (.int (nI 0)), some (.int (nI 0))], d, e))
theorem tX8_friendsOf_0 {Γ : aG × Launch} {dp : Nat} {d dF : aI} {e eF : aJ} {x1 : Int32} {r : Option Value} {p : Nat × aL × aI × aJ} (h : sX8_friendsOf_0 d e x1 = some p) (kc : Nat.beq p.1 100000 = false → Rn Γ (dp + 2) mX8_friendsOf p.1 p.2.1 [] p.2.2.1 p.2.2.2 r dF eF) (kr : p.1 = 100000 → r = a_rt p.2.1 ∧ dF = p.2.2.1 ∧ eF = p.2.2.2) : Rn Γ (dp + 2) mX8_friendsOf 0 [some (.ref 13), some (.int x1), none, none] [] d e r dF eF := by
  unfold sX8_friendsOf_0 at h
  refine bX8_friendsOf_0 ?_
  cases h
  exact kc rfl

def sX8_friendsOf_4 (d : aI) (e : aJ) (x1 : Int32) (x2 : Int32) (x3 : Int32) : Option (Nat × aL × aI × aJ) := (if (d 13 4) ≤ x3 then (some (100000, [some (.int x2)], d, e)) else ((FX10_canBeOne d e x1 x3).bind fun q2 => (if q2.1 = 0 then (some (4, [some (.ref 13), some (.int x1), some (.int (x2 ||| (nI 0))), some (.int (x3 + (nI 1)))], q2.2.1, q2.2.2)) else (some (4, [some (.ref 13), some (.int x1), some (.int (x2 ||| (a_shl (nI 1) x3))), some (.int (x3 + (nI 1)))], q2.2.1, q2.2.2)))))
theorem tX8_friendsOf_4 {Γ : aG × Launch} {dp : Nat} {d dF : aI} {e eF : aJ} {x1 : Int32} {x2 : Int32} {x3 : Int32} {r : Option Value} {p : Nat × aL × aI × aJ} (h : sX8_friendsOf_4 d e x1 x2 x3 = some p) (kc : Nat.beq p.1 100000 = false → Rn Γ (dp + 2) mX8_friendsOf p.1 p.2.1 [] p.2.2.1 p.2.2.2 r dF eF) (kr : p.1 = 100000 → r = a_rt p.2.1 ∧ dF = p.2.2.1 ∧ eF = p.2.2.2) : Rn Γ (dp + 2) mX8_friendsOf 4 [some (.ref 13), some (.int x1), some (.int x2), some (.int x3)] [] d e r dF eF := by
  unfold sX8_friendsOf_4 at h
  refine a_ite h (fun c1 h => ?_) (fun c1 h => ?_)
  · refine bX8_friendsOf_4 (fun _ => ?_) (fun z => absurd c1 z)
    cases h
    obtain ⟨k1, k2, k3⟩ := kr rfl
    exact bX8_friendsOf_37 k1 k2 k3
  · refine bX8_friendsOf_4 (fun z => absurd z c1) (fun _ => ?_)
    obtain ⟨q2, hq2, h⟩ := Option.bind_eq_some_iff.mp h
    refine bX8_friendsOf_12 (evX10_canBeOne hq2) (by omega) ?_
    refine a_ite h (fun c3 h => ?_) (fun c3 h => ?_)
    · refine bX8_friendsOf_19 (fun _ => ?_) (fun z => absurd c3 z)
      refine bX8_friendsOf_28 ?_
      refine bX8_friendsOf_29 ?_
      cases h
      exact kc rfl
    · refine bX8_friendsOf_19 (fun z => absurd z c3) (fun _ => ?_)
      refine bX8_friendsOf_22 ?_
      refine bX8_friendsOf_29 ?_
      cases h
      exact kc rfl

def sX10_orders_0 (d : aI) (e : aJ)  : Option (Nat × aL × aI × aJ) := (some (4, [some (.ref 0), some (.long (lN 1)), none, some (.int (nI 0)), none, none], d, e))
theorem tX10_orders_0 {Γ : aG × Launch} {dp : Nat} {d dF : aI} {e eF : aJ}  {r : Option Value} {p : Nat × aL × aI × aJ} (h : sX10_orders_0 d e  = some p) (kc : Nat.beq p.1 100000 = false → Rn Γ (dp + 0) mX10_orders p.1 p.2.1 [] p.2.2.1 p.2.2.2 r dF eF) (kr : p.1 = 100000 → r = a_rt p.2.1 ∧ dF = p.2.2.1 ∧ eF = p.2.2.2) : Rn Γ (dp + 0) mX10_orders 0 [some (.ref 0), none, none, none, none, none] [] d e r dF eF := by
  unfold sX10_orders_0 at h
  refine bX10_orders_0 ?_
  cases h
  exact kc rfl

def sX10_orders_4 (d : aI) (e : aJ) (y1 : Int64) (x3 : Int32) (v4 : Option Value) (v5 : Option Value) : Option (Nat × aL × aI × aJ) := (if (d 2 9) ≤ x3 then (some (100000, [some (.long y1)], d, e)) else (some (24, [some (.ref 0), some (.long y1), none, some (.int x3), some (.int (nI 1)), some (.int (nI 0))], d, e)))
theorem tX10_orders_4 {Γ : aG × Launch} {dp : Nat} {d dF : aI} {e eF : aJ} {y1 : Int64} {x3 : Int32} {v4 : Option Value} {v5 : Option Value} {r : Option Value} {p : Nat × aL × aI × aJ} (h : sX10_orders_4 d e y1 x3 v4 v5 = some p) (kc : Nat.beq p.1 100000 = false → Rn Γ (dp + 0) mX10_orders p.1 p.2.1 [] p.2.2.1 p.2.2.2 r dF eF) (kr : p.1 = 100000 → r = a_rt p.2.1 ∧ dF = p.2.2.1 ∧ eF = p.2.2.2) : Rn Γ (dp + 0) mX10_orders 4 [some (.ref 0), some (.long y1), none, some (.int x3), v4, v5] [] d e r dF eF := by
  unfold sX10_orders_4 at h
  refine a_ite h (fun c1 h => ?_) (fun c1 h => ?_)
  · refine bX10_orders_4 (fun _ => ?_) (fun z => absurd c1 z)
    cases h
    obtain ⟨k1, k2, k3⟩ := kr rfl
    exact bX10_orders_86 k1 k2 k3
  · refine bX10_orders_4 (fun z => absurd z c1) (fun _ => ?_)
    refine bX10_orders_18 ?_
    cases h
    exact kc rfl

def sX10_orders_24 (d : aI) (e : aJ) (y1 : Int64) (x3 : Int32) (x4 : Int32) (x5 : Int32) : Option (Nat × aL × aI × aJ) := (if x3 ≤ x5 then (some (4, [some (.ref 0), some (.long (y1 * (Int32.toInt64 x4))), none, some (.int (x3 + (nI 1))), some (.int x4), some (.int x5)], d, e)) else (bif ((a_inb x5 6) && (a_inb x3 6)) then (if (d 6 (x5).toNatClampNeg) = (d 6 (x3).toNatClampNeg) then (some (24, [some (.ref 0), some (.long y1), none, some (.int x3), some (.int (x4 + (nI 1))), some (.int (x5 + (nI 1)))], d, e)) else (some (24, [some (.ref 0), some (.long y1), none, some (.int x3), some (.int (x4 + (nI 0))), some (.int (x5 + (nI 1)))], d, e))) else none))
theorem tX10_orders_24 {Γ : aG × Launch} {dp : Nat} {d dF : aI} {e eF : aJ} {y1 : Int64} {x3 : Int32} {x4 : Int32} {x5 : Int32} {r : Option Value} {p : Nat × aL × aI × aJ} (h : sX10_orders_24 d e y1 x3 x4 x5 = some p) (kc : Nat.beq p.1 100000 = false → Rn Γ (dp + 0) mX10_orders p.1 p.2.1 [] p.2.2.1 p.2.2.2 r dF eF) (kr : p.1 = 100000 → r = a_rt p.2.1 ∧ dF = p.2.2.1 ∧ eF = p.2.2.2) : Rn Γ (dp + 0) mX10_orders 24 [some (.ref 0), some (.long y1), none, some (.int x3), some (.int x4), some (.int x5)] [] d e r dF eF := by
  unfold sX10_orders_24 at h
  refine a_ite h (fun c1 h => ?_) (fun c1 h => ?_)
  · refine bX10_orders_24 (fun _ => ?_) (fun z => absurd c1 z)
    refine bX10_orders_74 ?_
    cases h
    exact kc rfl
  · refine bX10_orders_24 (fun z => absurd z c1) (fun _ => ?_)
    obtain ⟨g2, h⟩ := a_cond h
    obtain ⟨g2x1, g2_1⟩ := a_and g2
    have g2_0 := g2x1
    refine a_ite h (fun c3 h => ?_) (fun c3 h => ?_)
    · refine bX10_orders_30 ⟨(a_inb_vp g2_0), (a_inb_vp g2_1)⟩ (fun z => absurd c3 z) (fun _ => ?_)
      refine bX10_orders_60 ?_
      refine bX10_orders_65 ?_
      cases h
      exact kc rfl
    · refine bX10_orders_30 ⟨(a_inb_vp g2_0), (a_inb_vp g2_1)⟩ (fun _ => ?_) (fun z => absurd z c3)
      refine bX10_orders_64 ?_
      refine bX10_orders_65 ?_
      cases h
      exact kc rfl

def sX10_price_0 (d : aI) (e : aJ) (x1 : Int32) : Option (Nat × aL × aI × aJ) := ((FX10_within d e x1 (nI 0) (nI 12)).bind fun q1 => (if q1.1 = 0 then (some (100000, [some (.int (-(nI 1)))], q1.2.1, q1.2.2)) else (some (16, [some (.ref 0), some (.int x1), some (.int (nI 0)), some (.int (nI 0))], q1.2.1, q1.2.2))))
theorem tX10_price_0 {Γ : aG × Launch} {dp : Nat} {d dF : aI} {e eF : aJ} {x1 : Int32} {r : Option Value} {p : Nat × aL × aI × aJ} (h : sX10_price_0 d e x1 = some p) (kc : Nat.beq p.1 100000 = false → Rn Γ (dp + 1) mX10_price p.1 p.2.1 [] p.2.2.1 p.2.2.2 r dF eF) (kr : p.1 = 100000 → r = a_rt p.2.1 ∧ dF = p.2.2.1 ∧ eF = p.2.2.2) : Rn Γ (dp + 1) mX10_price 0 [some (.ref 0), some (.int x1), none, none] [] d e r dF eF := by
  unfold sX10_price_0 at h
  obtain ⟨q1, hq1, h⟩ := Option.bind_eq_some_iff.mp h
  refine bX10_price_0 (evX10_within hq1) (by omega) ?_
  refine a_ite h (fun c2 h => ?_) (fun c2 h => ?_)
  · refine bX10_price_7 (fun z => absurd c2 z) (fun _ => ?_)
    cases h
    obtain ⟨k1, k2, k3⟩ := kr rfl
    exact bX10_price_10 k1 k2 k3
  · refine bX10_price_7 (fun _ => ?_) (fun z => absurd z c2)
    refine bX10_price_12 ?_
    cases h
    exact kc rfl

def sX10_price_16 (d : aI) (e : aJ) (x1 : Int32) (x2 : Int32) (x3 : Int32) : Option (Nat × aL × aI × aJ) := (if x1 ≤ x3 then (some (100000, [some (.int x2)], d, e)) else (bif ((decide (¬ (nI 3) = 0))) then (some (16, [some (.ref 0), some (.int x1), some (.int (a_max (nI 0) ((((nI 540) + ((nI 2) * x2)) / (nI 3)) - (nI 60)))), some (.int (x3 + (nI 1)))], d, e)) else none))
theorem tX10_price_16 {Γ : aG × Launch} {dp : Nat} {d dF : aI} {e eF : aJ} {x1 : Int32} {x2 : Int32} {x3 : Int32} {r : Option Value} {p : Nat × aL × aI × aJ} (h : sX10_price_16 d e x1 x2 x3 = some p) (kc : Nat.beq p.1 100000 = false → Rn Γ (dp + 1) mX10_price p.1 p.2.1 [] p.2.2.1 p.2.2.2 r dF eF) (kr : p.1 = 100000 → r = a_rt p.2.1 ∧ dF = p.2.2.1 ∧ eF = p.2.2.2) : Rn Γ (dp + 1) mX10_price 16 [some (.ref 0), some (.int x1), some (.int x2), some (.int x3)] [] d e r dF eF := by
  unfold sX10_price_16 at h
  refine a_ite h (fun c1 h => ?_) (fun c1 h => ?_)
  · refine bX10_price_16 (fun _ => ?_) (fun z => absurd c1 z)
    cases h
    obtain ⟨k1, k2, k3⟩ := kr rfl
    exact bX10_price_44 k1 k2 k3
  · refine bX10_price_16 (fun z => absurd z c1) (fun _ => ?_)
    obtain ⟨g2, h⟩ := a_cond h
    refine bX10_price_21 (of_decide_eq_true g2) ?_
    cases h
    exact kc rfl

def sX10_play_0 (d : aI) (e : aJ) (x1 : Int32) (x2 : Int32) : Option (Nat × aL × aI × aJ) := ((FX10_within d e x1 (nI 0) (nI 12)).bind fun q1 => (if q1.1 = 0 then (some (100000, [some (.int (-(nI 1)))], q1.2.1, q1.2.2)) else ((FX10_within q1.2.1 q1.2.2 x2 (nI 0) (nI 12)).bind fun q3 => (if q3.1 = 0 then (some (100000, [some (.int (-(nI 1)))], q3.2.1, q3.2.2)) else (some (24, [some (.ref 0), some (.int x1), some (.int x2), some (.int (nI 0)), none], q3.2.1, q3.2.2))))))
theorem tX10_play_0 {Γ : aG × Launch} {dp : Nat} {d dF : aI} {e eF : aJ} {x1 : Int32} {x2 : Int32} {r : Option Value} {p : Nat × aL × aI × aJ} (h : sX10_play_0 d e x1 x2 = some p) (kc : Nat.beq p.1 100000 = false → Rn Γ (dp + 1) mX10_play p.1 p.2.1 [] p.2.2.1 p.2.2.2 r dF eF) (kr : p.1 = 100000 → r = a_rt p.2.1 ∧ dF = p.2.2.1 ∧ eF = p.2.2.2) : Rn Γ (dp + 1) mX10_play 0 [some (.ref 0), some (.int x1), some (.int x2), none, none] [] d e r dF eF := by
  unfold sX10_play_0 at h
  obtain ⟨q1, hq1, h⟩ := Option.bind_eq_some_iff.mp h
  refine bX10_play_0 (evX10_within hq1) (by omega) ?_
  refine a_ite h (fun c2 h => ?_) (fun c2 h => ?_)
  · refine bX10_play_7 (fun _ => ?_) (fun z => absurd c2 z)
    cases h
    obtain ⟨k1, k2, k3⟩ := kr rfl
    exact bX10_play_20 k1 k2 k3
  · refine bX10_play_7 (fun z => absurd z c2) (fun _ => ?_)
    obtain ⟨q3, hq3, h⟩ := Option.bind_eq_some_iff.mp h
    refine bX10_play_10 (evX10_within hq3) (by omega) ?_
    refine a_ite h (fun c4 h => ?_) (fun c4 h => ?_)
    · refine bX10_play_17 (fun z => absurd c4 z) (fun _ => ?_)
      cases h
      obtain ⟨k1, k2, k3⟩ := kr rfl
      exact bX10_play_20 k1 k2 k3
    · refine bX10_play_17 (fun _ => ?_) (fun z => absurd z c4)
      refine bX10_play_22 ?_
      cases h
      exact kc rfl

def sX10_play_24 (d : aI) (e : aJ) (x1 : Int32) (x2 : Int32) (x3 : Int32) (v4 : Option Value) : Option (Nat × aL × aI × aJ) := (if (a_min (nI 2) x1) < x3 then (some (100000, [some (.int (-(nI 1)))], d, e)) else (some (36, [some (.ref 0), some (.int x1), some (.int x2), some (.int x3), some (.int (nI 0))], d, e)))
theorem tX10_play_24 {Γ : aG × Launch} {dp : Nat} {d dF : aI} {e eF : aJ} {x1 : Int32} {x2 : Int32} {x3 : Int32} {v4 : Option Value} {r : Option Value} {p : Nat × aL × aI × aJ} (h : sX10_play_24 d e x1 x2 x3 v4 = some p) (kc : Nat.beq p.1 100000 = false → Rn Γ (dp + 1) mX10_play p.1 p.2.1 [] p.2.2.1 p.2.2.2 r dF eF) (kr : p.1 = 100000 → r = a_rt p.2.1 ∧ dF = p.2.2.1 ∧ eF = p.2.2.2) : Rn Γ (dp + 1) mX10_play 24 [some (.ref 0), some (.int x1), some (.int x2), some (.int x3), v4] [] d e r dF eF := by
  unfold sX10_play_24 at h
  refine a_ite h (fun c1 h => ?_) (fun c1 h => ?_)
  · refine bX10_play_24 (fun _ => ?_) (fun z => absurd c1 z)
    cases h
    obtain ⟨k1, k2, k3⟩ := kr rfl
    exact bX10_play_88 k1 k2 k3
  · refine bX10_play_24 (fun z => absurd z c1) (fun _ => ?_)
    refine bX10_play_33 ?_
    cases h
    exact kc rfl

def sX10_play_36 (d : aI) (e : aJ) (x1 : Int32) (x2 : Int32) (x3 : Int32) (x4 : Int32) : Option (Nat × aL × aI × aJ) := (if (a_min (nI 2) x2) < x4 then (some (24, [some (.ref 0), some (.int x1), some (.int x2), some (.int (x3 + (nI 1))), some (.int x4)], d, e)) else ((FX10_isMove d e x3 x4).bind fun q2 => (if q2.1 = 0 then (some (36, [some (.ref 0), some (.int x1), some (.int x2), some (.int x3), some (.int (x4 + (nI 1)))], q2.2.1, q2.2.2)) else ((FX10_isLost q2.2.1 q2.2.2 (x1 - x3) (x2 - x4)).bind fun q4 => (if q4.1 = 0 then (some (36, [some (.ref 0), some (.int x1), some (.int x2), some (.int x3), some (.int (x4 + (nI 1)))], q4.2.1, q4.2.2)) else (some (100000, [some (.int (((nI 10) * x3) + x4))], q4.2.1, q4.2.2)))))))
theorem tX10_play_36 {Γ : aG × Launch} {dp : Nat} {d dF : aI} {e eF : aJ} {x1 : Int32} {x2 : Int32} {x3 : Int32} {x4 : Int32} {r : Option Value} {p : Nat × aL × aI × aJ} (h : sX10_play_36 d e x1 x2 x3 x4 = some p) (kc : Nat.beq p.1 100000 = false → Rn Γ (dp + 1) mX10_play p.1 p.2.1 [] p.2.2.1 p.2.2.2 r dF eF) (kr : p.1 = 100000 → r = a_rt p.2.1 ∧ dF = p.2.2.1 ∧ eF = p.2.2.2) : Rn Γ (dp + 1) mX10_play 36 [some (.ref 0), some (.int x1), some (.int x2), some (.int x3), some (.int x4)] [] d e r dF eF := by
  unfold sX10_play_36 at h
  refine a_ite h (fun c1 h => ?_) (fun c1 h => ?_)
  · refine bX10_play_36 (fun _ => ?_) (fun z => absurd c1 z)
    refine bX10_play_82 ?_
    cases h
    exact kc rfl
  · refine bX10_play_36 (fun z => absurd z c1) (fun _ => ?_)
    obtain ⟨q2, hq2, h⟩ := Option.bind_eq_some_iff.mp h
    refine bX10_play_46 (evX10_isMove hq2) (by omega) ?_
    refine a_ite h (fun c3 h => ?_) (fun c3 h => ?_)
    · refine bX10_play_52 (fun _ => ?_) (fun z => absurd c3 z)
      refine bX10_play_76 ?_
      cases h
      exact kc rfl
    · refine bX10_play_52 (fun z => absurd z c3) (fun _ => ?_)
      obtain ⟨q4, hq4, h⟩ := Option.bind_eq_some_iff.mp h
      refine bX10_play_55 (evX10_isLost hq4) (by omega) ?_
      refine a_ite h (fun c5 h => ?_) (fun c5 h => ?_)
      · refine bX10_play_65 (fun _ => ?_) (fun z => absurd c5 z)
        refine bX10_play_76 ?_
        cases h
        exact kc rfl
      · refine bX10_play_65 (fun z => absurd z c5) (fun _ => ?_)
        cases h
        obtain ⟨k1, k2, k3⟩ := kr rfl
        exact bX10_play_68 k1 k2 k3

def sX10_coldest_0 (d : aI) (e : aJ)  : Option (Nat × aL × aI × aJ) := (some (4, [some (.ref 0), some (.int (-(nI 1))), some (.int (nI 0))], d, e))
theorem tX10_coldest_0 {Γ : aG × Launch} {dp : Nat} {d dF : aI} {e eF : aJ}  {r : Option Value} {p : Nat × aL × aI × aJ} (h : sX10_coldest_0 d e  = some p) (kc : Nat.beq p.1 100000 = false → Rn Γ (dp + 0) mX10_coldest p.1 p.2.1 [] p.2.2.1 p.2.2.2 r dF eF) (kr : p.1 = 100000 → r = a_rt p.2.1 ∧ dF = p.2.2.1 ∧ eF = p.2.2.2) : Rn Γ (dp + 0) mX10_coldest 0 [some (.ref 0), none, none] [] d e r dF eF := by
  unfold sX10_coldest_0 at h
  refine bX10_coldest_0 ?_
  cases h
  exact kc rfl

def sX10_coldest_4 (d : aI) (e : aJ) (x1 : Int32) (x2 : Int32) : Option (Nat × aL × aI × aJ) := (if (d 2 9) ≤ x2 then (some (100000, [some (.int x1)], d, e)) else (if x1 = (-(nI 1)) then (some (4, [some (.ref 0), some (.int x2), some (.int (x2 + (nI 1)))], d, e)) else (bif ((a_inb x2 6) && (a_inb x1 6)) then (if (d 6 (x2).toNatClampNeg) ≤ (d 6 (x1).toNatClampNeg) then (some (4, [some (.ref 0), some (.int x1), some (.int (x2 + (nI 1)))], d, e)) else (some (4, [some (.ref 0), some (.int x2), some (.int (x2 + (nI 1)))], d, e))) else none)))
theorem tX10_coldest_4 {Γ : aG × Launch} {dp : Nat} {d dF : aI} {e eF : aJ} {x1 : Int32} {x2 : Int32} {r : Option Value} {p : Nat × aL × aI × aJ} (h : sX10_coldest_4 d e x1 x2 = some p) (kc : Nat.beq p.1 100000 = false → Rn Γ (dp + 0) mX10_coldest p.1 p.2.1 [] p.2.2.1 p.2.2.2 r dF eF) (kr : p.1 = 100000 → r = a_rt p.2.1 ∧ dF = p.2.2.1 ∧ eF = p.2.2.2) : Rn Γ (dp + 0) mX10_coldest 4 [some (.ref 0), some (.int x1), some (.int x2)] [] d e r dF eF := by
  unfold sX10_coldest_4 at h
  refine a_ite h (fun c1 h => ?_) (fun c1 h => ?_)
  · refine bX10_coldest_4 (fun _ => ?_) (fun z => absurd c1 z)
    cases h
    obtain ⟨k1, k2, k3⟩ := kr rfl
    exact bX10_coldest_58 k1 k2 k3
  · refine bX10_coldest_4 (fun z => absurd z c1) (fun _ => ?_)
    refine a_ite h (fun c2 h => ?_) (fun c2 h => ?_)
    · refine bX10_coldest_18 (fun _ => ?_) (fun z => absurd c2 z)
      refine bX10_coldest_50 ?_
      refine bX10_coldest_52 ?_
      cases h
      exact kc rfl
    · refine bX10_coldest_18 (fun z => absurd z c2) (fun _ => ?_)
      obtain ⟨g3, h⟩ := a_cond h
      obtain ⟨g3x1, g3_1⟩ := a_and g3
      have g3_0 := g3x1
      refine a_ite h (fun c4 h => ?_) (fun c4 h => ?_)
      · refine bX10_coldest_23 ⟨(a_inb_vp g3_0), (a_inb_vp g3_1)⟩ (fun _ => ?_) (fun z => absurd c4 z)
        refine bX10_coldest_52 ?_
        cases h
        exact kc rfl
      · refine bX10_coldest_23 ⟨(a_inb_vp g3_0), (a_inb_vp g3_1)⟩ (fun z => absurd z c4) (fun _ => ?_)
        refine bX10_coldest_50 ?_
        refine bX10_coldest_52 ?_
        cases h
        exact kc rfl

def sX10_dreamless_0 (d : aI) (e : aJ)  : Option (Nat × aL × aI × aJ) := (some (4, [some (.ref 0), some (.int (nI 0)), some (.int (nI 0))], d, e))
theorem tX10_dreamless_0 {Γ : aG × Launch} {dp : Nat} {d dF : aI} {e eF : aJ}  {r : Option Value} {p : Nat × aL × aI × aJ} (h : sX10_dreamless_0 d e  = some p) (kc : Nat.beq p.1 100000 = false → Rn Γ (dp + 0) mX10_dreamless p.1 p.2.1 [] p.2.2.1 p.2.2.2 r dF eF) (kr : p.1 = 100000 → r = a_rt p.2.1 ∧ dF = p.2.2.1 ∧ eF = p.2.2.2) : Rn Γ (dp + 0) mX10_dreamless 0 [some (.ref 0), none, none] [] d e r dF eF := by
  unfold sX10_dreamless_0 at h
  refine bX10_dreamless_0 ?_
  cases h
  exact kc rfl

def sX10_dreamless_4 (d : aI) (e : aJ) (x1 : Int32) (x2 : Int32) : Option (Nat × aL × aI × aJ) := (if (d 2 8) ≤ x2 then (some (100000, [some (.int x1)], d, e)) else (bif ((a_inb x2 6)) then (if (d 4 (x2).toNatClampNeg) = 0 then (some (4, [some (.ref 0), some (.int (x1 ||| (a_shl (nI 1) x2))), some (.int (x2 + (nI 1)))], d, e)) else (some (4, [some (.ref 0), some (.int (x1 ||| (nI 0))), some (.int (x2 + (nI 1)))], d, e))) else none))
theorem tX10_dreamless_4 {Γ : aG × Launch} {dp : Nat} {d dF : aI} {e eF : aJ} {x1 : Int32} {x2 : Int32} {r : Option Value} {p : Nat × aL × aI × aJ} (h : sX10_dreamless_4 d e x1 x2 = some p) (kc : Nat.beq p.1 100000 = false → Rn Γ (dp + 0) mX10_dreamless p.1 p.2.1 [] p.2.2.1 p.2.2.2 r dF eF) (kr : p.1 = 100000 → r = a_rt p.2.1 ∧ dF = p.2.2.1 ∧ eF = p.2.2.2) : Rn Γ (dp + 0) mX10_dreamless 4 [some (.ref 0), some (.int x1), some (.int x2)] [] d e r dF eF := by
  unfold sX10_dreamless_4 at h
  refine a_ite h (fun c1 h => ?_) (fun c1 h => ?_)
  · refine bX10_dreamless_4 (fun _ => ?_) (fun z => absurd c1 z)
    cases h
    obtain ⟨k1, k2, k3⟩ := kr rfl
    exact bX10_dreamless_49 k1 k2 k3
  · refine bX10_dreamless_4 (fun z => absurd z c1) (fun _ => ?_)
    obtain ⟨g2, h⟩ := a_cond h
    refine a_ite h (fun c3 h => ?_) (fun c3 h => ?_)
    · refine bX10_dreamless_18 (a_inb_vp g2) (fun z => absurd c3 z) (fun _ => ?_)
      refine bX10_dreamless_34 ?_
      refine bX10_dreamless_41 ?_
      cases h
      exact kc rfl
    · refine bX10_dreamless_18 (a_inb_vp g2) (fun _ => ?_) (fun z => absurd z c3)
      refine bX10_dreamless_40 ?_
      refine bX10_dreamless_41 ?_
      cases h
      exact kc rfl

def sX10_ledger_0 (d : aI) (e : aJ) (x1 : Int32) : Option (Nat × aL × aI × aJ) := (if x1 = (-(nI 1)) then (some (100000, [some (.int (d 2 10))], d, e)) else ((FX2_isCat d e x1).bind fun q2 => (if q2.1 = 0 then (some (100000, [some (.int (-(nI 2)))], q2.2.1, q2.2.2)) else (some (37, [some (.ref 0), some (.int x1), some (.int (nI 0)), some (.int (nI 0))], q2.2.1, q2.2.2)))))
theorem tX10_ledger_0 {Γ : aG × Launch} {dp : Nat} {d dF : aI} {e eF : aJ} {x1 : Int32} {r : Option Value} {p : Nat × aL × aI × aJ} (h : sX10_ledger_0 d e x1 = some p) (kc : Nat.beq p.1 100000 = false → Rn Γ (dp + 1) mX10_ledger p.1 p.2.1 [] p.2.2.1 p.2.2.2 r dF eF) (kr : p.1 = 100000 → r = a_rt p.2.1 ∧ dF = p.2.2.1 ∧ eF = p.2.2.2) : Rn Γ (dp + 1) mX10_ledger 0 [some (.ref 0), some (.int x1), none, none] [] d e r dF eF := by
  unfold sX10_ledger_0 at h
  refine a_ite h (fun c1 h => ?_) (fun c1 h => ?_)
  · refine bX10_ledger_0 (fun z => absurd c1 z) (fun _ => ?_)
    cases h
    obtain ⟨k1, k2, k3⟩ := kr rfl
    exact bX10_ledger_5 k1 k2 k3
  · refine bX10_ledger_0 (fun _ => ?_) (fun z => absurd z c1)
    obtain ⟨q2, hq2, h⟩ := Option.bind_eq_some_iff.mp h
    refine bX10_ledger_16 (evX2_isCat hq2) (by omega) ?_
    refine a_ite h (fun c3 h => ?_) (fun c3 h => ?_)
    · refine bX10_ledger_27 (fun z => absurd c3 z) (fun _ => ?_)
      cases h
      obtain ⟨k1, k2, k3⟩ := kr rfl
      exact bX10_ledger_30 k1 k2 k3
    · refine bX10_ledger_27 (fun _ => ?_) (fun z => absurd z c3)
      refine bX10_ledger_33 ?_
      cases h
      exact kc rfl

def sX10_ledger_37 (d : aI) (e : aJ) (x1 : Int32) (x2 : Int32) (x3 : Int32) : Option (Nat × aL × aI × aJ) := (if (d 2 10) ≤ x3 then (some (100000, [some (.int x2)], d, e)) else (bif ((a_inb x3 25)) then ((FX10_catOf d e (d 10 (x3).toNatClampNeg)).bind fun q3 => (if q3.1 = x1 then (some (37, [some (.ref 0), some (.int x1), some (.int (x2 + (nI 1))), some (.int (x3 + (nI 1)))], q3.2.1, q3.2.2)) else (some (37, [some (.ref 0), some (.int x1), some (.int (x2 + (nI 0))), some (.int (x3 + (nI 1)))], q3.2.1, q3.2.2)))) else none))
theorem tX10_ledger_37 {Γ : aG × Launch} {dp : Nat} {d dF : aI} {e eF : aJ} {x1 : Int32} {x2 : Int32} {x3 : Int32} {r : Option Value} {p : Nat × aL × aI × aJ} (h : sX10_ledger_37 d e x1 x2 x3 = some p) (kc : Nat.beq p.1 100000 = false → Rn Γ (dp + 1) mX10_ledger p.1 p.2.1 [] p.2.2.1 p.2.2.2 r dF eF) (kr : p.1 = 100000 → r = a_rt p.2.1 ∧ dF = p.2.2.1 ∧ eF = p.2.2.2) : Rn Γ (dp + 1) mX10_ledger 37 [some (.ref 0), some (.int x1), some (.int x2), some (.int x3)] [] d e r dF eF := by
  unfold sX10_ledger_37 at h
  refine a_ite h (fun c1 h => ?_) (fun c1 h => ?_)
  · refine bX10_ledger_37 (fun _ => ?_) (fun z => absurd c1 z)
    cases h
    obtain ⟨k1, k2, k3⟩ := kr rfl
    exact bX10_ledger_84 k1 k2 k3
  · refine bX10_ledger_37 (fun z => absurd z c1) (fun _ => ?_)
    obtain ⟨g2, h⟩ := a_cond h
    obtain ⟨q3, hq3, h⟩ := Option.bind_eq_some_iff.mp h
    refine bX10_ledger_51 (a_inb_vp g2) (evX10_catOf hq3) (by omega) ?_
    refine a_ite h (fun c4 h => ?_) (fun c4 h => ?_)
    · refine bX10_ledger_67 (fun z => absurd c4 z) (fun _ => ?_)
      refine bX10_ledger_71 ?_
      refine bX10_ledger_76 ?_
      cases h
      exact kc rfl
    · refine bX10_ledger_67 (fun _ => ?_) (fun z => absurd z c4)
      refine bX10_ledger_75 ?_
      refine bX10_ledger_76 ?_
      cases h
      exact kc rfl

def sX10_total_0 (d : aI) (e : aJ) (o0 : Nat) (x1 : Int32) : Option (Nat × aL × aI × aJ) := (bif (decide (o0 = 4 ∨ o0 = 9)) then (some (4, [some (.ref o0), some (.int x1), some (.int (nI 0)), some (.int (nI 0))], d, e)) else none)
theorem tX10_total_0 {Γ : aG × Launch} {dp : Nat} {d dF : aI} {e eF : aJ} {o0 : Nat} {x1 : Int32} {r : Option Value} {p : Nat × aL × aI × aJ} (h : sX10_total_0 d e o0 x1 = some p) (kc : Nat.beq p.1 100000 = false → Rn Γ (dp + 0) mX10_total p.1 p.2.1 [] p.2.2.1 p.2.2.2 r dF eF) (kr : p.1 = 100000 → r = a_rt p.2.1 ∧ dF = p.2.2.1 ∧ eF = p.2.2.2) : Rn Γ (dp + 0) mX10_total 0 [some (.ref o0), some (.int x1), none, none] [] d e r dF eF := by
  unfold sX10_total_0 at h
  obtain ⟨ho0x, h⟩ := a_cond h
  have ho0 := of_decide_eq_true ho0x
  refine bX10_total_0 ?_
  cases h
  exact kc rfl

def sX10_total_4 (d : aI) (e : aJ) (o0 : Nat) (x1 : Int32) (x2 : Int32) (x3 : Int32) : Option (Nat × aL × aI × aJ) := (bif (decide (o0 = 4 ∨ o0 = 9)) then (if x1 ≤ x3 then (some (100000, [some (.int x2)], d, e)) else (if (nI 6) ≤ x3 then (some (100000, [some (.int x2)], d, e)) else (bif ((a_inb x3 6)) then (some (4, [some (.ref o0), some (.int x1), some (.int (x2 + (d o0 (x3).toNatClampNeg))), some (.int (x3 + (nI 1)))], d, e)) else none))) else none)
theorem tX10_total_4 {Γ : aG × Launch} {dp : Nat} {d dF : aI} {e eF : aJ} {o0 : Nat} {x1 : Int32} {x2 : Int32} {x3 : Int32} {r : Option Value} {p : Nat × aL × aI × aJ} (h : sX10_total_4 d e o0 x1 x2 x3 = some p) (kc : Nat.beq p.1 100000 = false → Rn Γ (dp + 0) mX10_total p.1 p.2.1 [] p.2.2.1 p.2.2.2 r dF eF) (kr : p.1 = 100000 → r = a_rt p.2.1 ∧ dF = p.2.2.1 ∧ eF = p.2.2.2) : Rn Γ (dp + 0) mX10_total 4 [some (.ref o0), some (.int x1), some (.int x2), some (.int x3)] [] d e r dF eF := by
  unfold sX10_total_4 at h
  obtain ⟨ho0x, h⟩ := a_cond h
  have ho0 := of_decide_eq_true ho0x
  refine a_ite h (fun c1 h => ?_) (fun c1 h => ?_)
  · refine bX10_total_4 (fun _ => ?_) (fun z => absurd c1 z)
    cases h
    obtain ⟨k1, k2, k3⟩ := kr rfl
    exact bX10_total_27 k1 k2 k3
  · refine bX10_total_4 (fun z => absurd z c1) (fun _ => ?_)
    refine a_ite h (fun c2 h => ?_) (fun c2 h => ?_)
    · refine bX10_total_9 ho0 (fun _ => ?_) (fun z => absurd c2 z)
      cases h
      obtain ⟨k1, k2, k3⟩ := kr rfl
      exact bX10_total_27 k1 k2 k3
    · refine bX10_total_9 ho0 (fun z => absurd z c2) (fun _ => ?_)
      obtain ⟨g3, h⟩ := a_cond h
      refine bX10_total_15 ho0 (a_inb_vp g3) ?_
      cases h
      exact kc rfl

def sX10_ratio_0 (d : aI) (e : aJ) (y0 : Int64) (y2 : Int64) (x4 : Int32) : Option (Nat × aL × aI × aJ) := (some (9, [some (.long y0), none, some (.long y2), none, some (.int x4), some (.long y2), none, some (.long y0), none, some (.int (nI 0)), none, none], d, e))
theorem tX10_ratio_0 {Γ : aG × Launch} {dp : Nat} {d dF : aI} {e eF : aJ} {y0 : Int64} {y2 : Int64} {x4 : Int32} {r : Option Value} {p : Nat × aL × aI × aJ} (h : sX10_ratio_0 d e y0 y2 x4 = some p) (kc : Nat.beq p.1 100000 = false → Rn Γ (dp + 0) mX10_ratio p.1 p.2.1 [] p.2.2.1 p.2.2.2 r dF eF) (kr : p.1 = 100000 → r = a_rt p.2.1 ∧ dF = p.2.2.1 ∧ eF = p.2.2.2) : Rn Γ (dp + 0) mX10_ratio 0 [some (.long y0), none, some (.long y2), none, some (.int x4), none, none, none, none, none, none, none] [] d e r dF eF := by
  unfold sX10_ratio_0 at h
  refine bX10_ratio_0 ?_
  cases h
  exact kc rfl

def sX10_ratio_9 (d : aI) (e : aJ) (y0 : Int64) (y2 : Int64) (x4 : Int32) (y5 : Int64) (y7 : Int64) (x9 : Int32) (v10 : Option Value) (v11 : Option Value) : Option (Nat × aL × aI × aJ) := (if (nI 100) ≤ x9 then (if (lg_cmp y5 (lN 0)) = 0 then (if x4 = 0 then (some (100000, [some (.long (lN 0))], d, e)) else (some (100000, [some (.long (lN 1))], d, e))) else (if x4 = 0 then (bif ((decide (¬ y5 = 0))) then (some (100000, [some (.long (y0 / y5))], d, e)) else none) else (bif ((decide (¬ y5 = 0))) then (some (100000, [some (.long (y2 / y5))], d, e)) else none))) else (if (lg_cmp y7 (lN 0)) = 0 then (if (lg_cmp y5 (lN 0)) = 0 then (if x4 = 0 then (some (100000, [some (.long (lN 0))], d, e)) else (some (100000, [some (.long (lN 1))], d, e))) else (if x4 = 0 then (bif ((decide (¬ y5 = 0))) then (some (100000, [some (.long (y0 / y5))], d, e)) else none) else (bif ((decide (¬ y5 = 0))) then (some (100000, [some (.long (y2 / y5))], d, e)) else none))) else (bif ((decide (¬ y7 = 0))) then (some (9, [some (.long y0), none, some (.long y2), none, some (.int x4), some (.long y7), none, some (.long (a_jrm y5 y7)), none, some (.int (x9 + (nI 1))), some (.long (a_jrm y5 y7)), none], d, e)) else none)))
theorem tX10_ratio_9 {Γ : aG × Launch} {dp : Nat} {d dF : aI} {e eF : aJ} {y0 : Int64} {y2 : Int64} {x4 : Int32} {y5 : Int64} {y7 : Int64} {x9 : Int32} {v10 : Option Value} {v11 : Option Value} {r : Option Value} {p : Nat × aL × aI × aJ} (h : sX10_ratio_9 d e y0 y2 x4 y5 y7 x9 v10 v11 = some p) (kc : Nat.beq p.1 100000 = false → Rn Γ (dp + 0) mX10_ratio p.1 p.2.1 [] p.2.2.1 p.2.2.2 r dF eF) (kr : p.1 = 100000 → r = a_rt p.2.1 ∧ dF = p.2.2.1 ∧ eF = p.2.2.2) : Rn Γ (dp + 0) mX10_ratio 9 [some (.long y0), none, some (.long y2), none, some (.int x4), some (.long y5), none, some (.long y7), none, some (.int x9), v10, v11] [] d e r dF eF := by
  unfold sX10_ratio_9 at h
  refine a_ite h (fun c1 h => ?_) (fun c1 h => ?_)
  · refine bX10_ratio_9 (fun _ => ?_) (fun z => absurd c1 z)
    refine a_ite h (fun c2 h => ?_) (fun c2 h => ?_)
    · refine bX10_ratio_44 (fun z => absurd c2 z) (fun _ => ?_)
      refine a_ite h (fun c3 h => ?_) (fun c3 h => ?_)
      · refine bX10_ratio_51 (fun _ => ?_) (fun z => absurd c3 z)
        refine bX10_ratio_60 ?_
        cases h
        obtain ⟨k1, k2, k3⟩ := kr rfl
        exact bX10_ratio_61 k1 k2 k3
      · refine bX10_ratio_51 (fun z => absurd z c3) (fun _ => ?_)
        refine bX10_ratio_56 ?_
        cases h
        obtain ⟨k1, k2, k3⟩ := kr rfl
        exact bX10_ratio_61 k1 k2 k3
    · refine bX10_ratio_44 (fun _ => ?_) (fun z => absurd z c2)
      refine a_ite h (fun c4 h => ?_) (fun c4 h => ?_)
      · refine bX10_ratio_62 (fun _ => ?_) (fun z => absurd c4 z)
        refine bX10_ratio_71 ?_
        obtain ⟨g5, h⟩ := a_cond h
        cases h
        obtain ⟨k1, k2, k3⟩ := kr rfl
        exact bX10_ratio_72 (of_decide_eq_true g5) k1 k2 k3
      · refine bX10_ratio_62 (fun z => absurd z c4) (fun _ => ?_)
        refine bX10_ratio_67 ?_
        obtain ⟨g6, h⟩ := a_cond h
        cases h
        obtain ⟨k1, k2, k3⟩ := kr rfl
        exact bX10_ratio_72 (of_decide_eq_true g6) k1 k2 k3
  · refine bX10_ratio_9 (fun z => absurd z c1) (fun _ => ?_)
    refine a_ite h (fun c7 h => ?_) (fun c7 h => ?_)
    · refine bX10_ratio_16 (fun _ => ?_) (fun z => absurd c7 z)
      refine a_ite h (fun c8 h => ?_) (fun c8 h => ?_)
      · refine bX10_ratio_44 (fun z => absurd c8 z) (fun _ => ?_)
        refine a_ite h (fun c9 h => ?_) (fun c9 h => ?_)
        · refine bX10_ratio_51 (fun _ => ?_) (fun z => absurd c9 z)
          refine bX10_ratio_60 ?_
          cases h
          obtain ⟨k1, k2, k3⟩ := kr rfl
          exact bX10_ratio_61 k1 k2 k3
        · refine bX10_ratio_51 (fun z => absurd z c9) (fun _ => ?_)
          refine bX10_ratio_56 ?_
          cases h
          obtain ⟨k1, k2, k3⟩ := kr rfl
          exact bX10_ratio_61 k1 k2 k3
      · refine bX10_ratio_44 (fun _ => ?_) (fun z => absurd z c8)
        refine a_ite h (fun c10 h => ?_) (fun c10 h => ?_)
        · refine bX10_ratio_62 (fun _ => ?_) (fun z => absurd c10 z)
          refine bX10_ratio_71 ?_
          obtain ⟨g11, h⟩ := a_cond h
          cases h
          obtain ⟨k1, k2, k3⟩ := kr rfl
          exact bX10_ratio_72 (of_decide_eq_true g11) k1 k2 k3
        · refine bX10_ratio_62 (fun z => absurd z c10) (fun _ => ?_)
          refine bX10_ratio_67 ?_
          obtain ⟨g12, h⟩ := a_cond h
          cases h
          obtain ⟨k1, k2, k3⟩ := kr rfl
          exact bX10_ratio_72 (of_decide_eq_true g12) k1 k2 k3
    · refine bX10_ratio_16 (fun z => absurd z c7) (fun _ => ?_)
      obtain ⟨g13, h⟩ := a_cond h
      refine bX10_ratio_23 (of_decide_eq_true g13) ?_
      cases h
      exact kc rfl

def sX11_bits_0 (d : aI) (e : aJ) (x0 : Int32) : Option (Nat × aL × aI × aJ) := (some (4, [some (.int x0), some (.int (nI 0)), some (.int x0)], d, e))
theorem tX11_bits_0 {Γ : aG × Launch} {dp : Nat} {d dF : aI} {e eF : aJ} {x0 : Int32} {r : Option Value} {p : Nat × aL × aI × aJ} (h : sX11_bits_0 d e x0 = some p) (kc : Nat.beq p.1 100000 = false → Rn Γ (dp + 0) mX11_bits p.1 p.2.1 [] p.2.2.1 p.2.2.2 r dF eF) (kr : p.1 = 100000 → r = a_rt p.2.1 ∧ dF = p.2.2.1 ∧ eF = p.2.2.2) : Rn Γ (dp + 0) mX11_bits 0 [some (.int x0), none, none] [] d e r dF eF := by
  unfold sX11_bits_0 at h
  refine bX11_bits_0 ?_
  cases h
  exact kc rfl

def sX11_bits_4 (d : aI) (e : aJ) (x0 : Int32) (x1 : Int32) (x2 : Int32) : Option (Nat × aL × aI × aJ) := (if x2 = 0 then (some (100000, [some (.int x1)], d, e)) else (some (4, [some (.int x0), some (.int (x1 + (nI 1))), some (.int (x2 &&& (x2 - (nI 1))))], d, e)))
theorem tX11_bits_4 {Γ : aG × Launch} {dp : Nat} {d dF : aI} {e eF : aJ} {x0 : Int32} {x1 : Int32} {x2 : Int32} {r : Option Value} {p : Nat × aL × aI × aJ} (h : sX11_bits_4 d e x0 x1 x2 = some p) (kc : Nat.beq p.1 100000 = false → Rn Γ (dp + 0) mX11_bits p.1 p.2.1 [] p.2.2.1 p.2.2.2 r dF eF) (kr : p.1 = 100000 → r = a_rt p.2.1 ∧ dF = p.2.2.1 ∧ eF = p.2.2.2) : Rn Γ (dp + 0) mX11_bits 4 [some (.int x0), some (.int x1), some (.int x2)] [] d e r dF eF := by
  unfold sX11_bits_4 at h
  refine a_ite h (fun c1 h => ?_) (fun c1 h => ?_)
  · refine bX11_bits_4 (fun _ => ?_) (fun z => absurd c1 z)
    cases h
    obtain ⟨k1, k2, k3⟩ := kr rfl
    exact bX11_bits_20 k1 k2 k3
  · refine bX11_bits_4 (fun z => absurd z c1) (fun _ => ?_)
    refine bX11_bits_8 ?_
    cases h
    exact kc rfl

def sX11_catIn_0 (d : aI) (e : aJ) (x1 : Int32) : Option (Nat × aL × aI × aJ) := (some (2, [some (.ref 108), some (.int x1), some (.int (nI 0))], d, e))
theorem tX11_catIn_0 {Γ : aG × Launch} {dp : Nat} {d dF : aI} {e eF : aJ} {x1 : Int32} {r : Option Value} {p : Nat × aL × aI × aJ} (h : sX11_catIn_0 d e x1 = some p) (kc : Nat.beq p.1 100000 = false → Rn Γ (dp + 1) mX11_catIn p.1 p.2.1 [] p.2.2.1 p.2.2.2 r dF eF) (kr : p.1 = 100000 → r = a_rt p.2.1 ∧ dF = p.2.2.1 ∧ eF = p.2.2.2) : Rn Γ (dp + 1) mX11_catIn 0 [some (.ref 108), some (.int x1), none] [] d e r dF eF := by
  unfold sX11_catIn_0 at h
  refine bX11_catIn_0 ?_
  cases h
  exact kc rfl

def sX11_catIn_2 (d : aI) (e : aJ) (x1 : Int32) (x2 : Int32) : Option (Nat × aL × aI × aJ) := (bif ((a_inb (nI 1) 1961)) then (if (d 109 1) ≤ x2 then (some (100000, [some (.int (-(nI 1)))], d, e)) else ((FX11_get d e x2 (nI 1)).bind fun q3 => (if q3.1 = x1 then (some (100000, [some (.int x2)], q3.2.1, q3.2.2)) else (some (2, [some (.ref 108), some (.int x1), some (.int (x2 + (nI 1)))], q3.2.1, q3.2.2))))) else none)
theorem tX11_catIn_2 {Γ : aG × Launch} {dp : Nat} {d dF : aI} {e eF : aJ} {x1 : Int32} {x2 : Int32} {r : Option Value} {p : Nat × aL × aI × aJ} (h : sX11_catIn_2 d e x1 x2 = some p) (kc : Nat.beq p.1 100000 = false → Rn Γ (dp + 1) mX11_catIn p.1 p.2.1 [] p.2.2.1 p.2.2.2 r dF eF) (kr : p.1 = 100000 → r = a_rt p.2.1 ∧ dF = p.2.2.1 ∧ eF = p.2.2.2) : Rn Γ (dp + 1) mX11_catIn 2 [some (.ref 108), some (.int x1), some (.int x2)] [] d e r dF eF := by
  unfold sX11_catIn_2 at h
  obtain ⟨g1, h⟩ := a_cond h
  refine a_ite h (fun c2 h => ?_) (fun c2 h => ?_)
  · refine bX11_catIn_2 (a_inb_vp g1) (fun _ => ?_) (fun z => absurd c2 z)
    cases h
    obtain ⟨k1, k2, k3⟩ := kr rfl
    exact bX11_catIn_30 k1 k2 k3
  · refine bX11_catIn_2 (a_inb_vp g1) (fun z => absurd z c2) (fun _ => ?_)
    obtain ⟨q3, hq3, h⟩ := Option.bind_eq_some_iff.mp h
    refine bX11_catIn_12 (evX11_get hq3) (by omega) ?_
    refine a_ite h (fun c4 h => ?_) (fun c4 h => ?_)
    · refine bX11_catIn_18 (fun z => absurd c4 z) (fun _ => ?_)
      cases h
      obtain ⟨k1, k2, k3⟩ := kr rfl
      exact bX11_catIn_22 k1 k2 k3
    · refine bX11_catIn_18 (fun _ => ?_) (fun z => absurd z c4)
      refine bX11_catIn_24 ?_
      cases h
      exact kc rfl

def sX11_four_0 (d : aI) (e : aJ) (x1 : Int32) : Option (Nat × aL × aI × aJ) := (some (3, [some (.ref 108), some (.int x1), some (.int (nI 24))], d, e))
theorem tX11_four_0 {Γ : aG × Launch} {dp : Nat} {d dF : aI} {e eF : aJ} {x1 : Int32} {r : Option Value} {p : Nat × aL × aI × aJ} (h : sX11_four_0 d e x1 = some p) (kc : Nat.beq p.1 100000 = false → Rn Γ (dp + 0) mX11_four p.1 p.2.1 [] p.2.2.1 p.2.2.2 r dF eF) (kr : p.1 = 100000 → r = a_rt p.2.1 ∧ dF = p.2.2.1 ∧ eF = p.2.2.2) : Rn Γ (dp + 0) mX11_four 0 [some (.ref 108), some (.int x1), none] [] d e r dF eF := by
  unfold sX11_four_0 at h
  refine bX11_four_0 ?_
  cases h
  exact kc rfl

def sX11_four_3 (d : aI) (e : aJ) (x1 : Int32) (x2 : Int32) : Option (Nat × aL × aI × aJ) := (if x2 < 0 then (some (100000, [], d, e)) else (bif ((a_inb (d 108 4) 300)) then (some (3, [some (.ref 108), some (.int x1), some (.int (x2 + (-(nI 8))))], (uI (uI d 112 ((d 108 4)).toNatClampNeg ((a_shr x1 x2) &&& (nI 255))) 108 4 ((d 108 4) + (nI 1))), e)) else none))
theorem tX11_four_3 {Γ : aG × Launch} {dp : Nat} {d dF : aI} {e eF : aJ} {x1 : Int32} {x2 : Int32} {r : Option Value} {p : Nat × aL × aI × aJ} (h : sX11_four_3 d e x1 x2 = some p) (kc : Nat.beq p.1 100000 = false → Rn Γ (dp + 0) mX11_four p.1 p.2.1 [] p.2.2.1 p.2.2.2 r dF eF) (kr : p.1 = 100000 → r = a_rt p.2.1 ∧ dF = p.2.2.1 ∧ eF = p.2.2.2) : Rn Γ (dp + 0) mX11_four 3 [some (.ref 108), some (.int x1), some (.int x2)] [] d e r dF eF := by
  unfold sX11_four_3 at h
  refine a_ite h (fun c1 h => ?_) (fun c1 h => ?_)
  · refine bX11_four_3 (fun _ => ?_) (fun z => absurd c1 z)
    cases h
    obtain ⟨k1, k2, k3⟩ := kr rfl
    exact bX11_four_39 k1 k2 k3
  · refine bX11_four_3 (fun z => absurd z c1) (fun _ => ?_)
    obtain ⟨g2, h⟩ := a_cond h
    refine bX11_four_7 (a_inb_vp g2) ?_
    cases h
    exact kc rfl

def sX11_nextToken_0 (d : aI) (e : aJ)  : Option (Nat × aL × aI × aJ) := ((FX11_byteAt d e (d 108 7)).bind fun q1 => (if q1.1 = (nI 32) then (some (0, [some (.ref 108), none], (uI q1.2.1 108 7 ((q1.2.1 108 7) + (nI 1))), q1.2.2)) else ((FX11_byteAt q1.2.1 q1.2.2 (q1.2.1 108 7)).bind fun q3 => (if q3.1 = (nI 10) then (some (0, [some (.ref 108), none], (uI q3.2.1 108 7 ((q3.2.1 108 7) + (nI 1))), q3.2.2)) else ((FX11_byteAt (uI q3.2.1 108 8 (q3.2.1 108 7)) q3.2.2 (q3.2.1 108 7)).bind fun q5 => (if 0 ≤ q5.1 then ((FX11_isFigure q5.2.1 q5.2.2 q5.1).bind fun q7 => (if q7.1 = 0 then ((FX11_isLetterByte q7.2.1 q7.2.2 q5.1).bind fun q9 => (if q9.1 = 0 then ((FX11_isSign q9.2.1 q9.2.2 q5.1).bind fun q11 => (if q11.1 = 0 then (if q5.1 = (nI 60) then ((FX11_byteAt (uI (uI q11.2.1 108 9 (nI 3)) 108 7 ((q11.2.1 108 7) + (nI 1))) q11.2.2 ((uI (uI q11.2.1 108 9 (nI 3)) 108 7 ((q11.2.1 108 7) + (nI 1))) 108 7)).bind fun q14 => (if q14.1 = (nI 61) then (if q5.1 = (nI 60) then (some (100000, [], (uI (uI q14.2.1 108 9 (nI 4)) 108 7 ((q14.2.1 108 7) + (nI 1))), q14.2.2)) else (some (100000, [], (uI (uI q14.2.1 108 9 (nI 5)) 108 7 ((q14.2.1 108 7) + (nI 1))), q14.2.2))) else (some (100000, [], q14.2.1, q14.2.2)))) else (if q5.1 = (nI 62) then ((FX11_byteAt (uI (uI q11.2.1 108 9 (nI 3)) 108 7 ((q11.2.1 108 7) + (nI 1))) q11.2.2 ((uI (uI q11.2.1 108 9 (nI 3)) 108 7 ((q11.2.1 108 7) + (nI 1))) 108 7)).bind fun q18 => (if q18.1 = (nI 61) then (if q5.1 = (nI 60) then (some (100000, [], (uI (uI q18.2.1 108 9 (nI 4)) 108 7 ((q18.2.1 108 7) + (nI 1))), q18.2.2)) else (some (100000, [], (uI (uI q18.2.1 108 9 (nI 5)) 108 7 ((q18.2.1 108 7) + (nI 1))), q18.2.2))) else (some (100000, [], q18.2.1, q18.2.2)))) else (some (100000, [], (uI (uI q11.2.1 108 9 (nI 3)) 108 7 ((q11.2.1 108 7) + (nI 1))), q11.2.2)))) else (if q5.1 = (nI 60) then ((FX11_byteAt (uI (uI q11.2.1 108 9 q5.1) 108 7 ((q11.2.1 108 7) + (nI 1))) q11.2.2 ((uI (uI q11.2.1 108 9 q5.1) 108 7 ((q11.2.1 108 7) + (nI 1))) 108 7)).bind fun q22 => (if q22.1 = (nI 61) then (if q5.1 = (nI 60) then (some (100000, [], (uI (uI q22.2.1 108 9 (nI 4)) 108 7 ((q22.2.1 108 7) + (nI 1))), q22.2.2)) else (some (100000, [], (uI (uI q22.2.1 108 9 (nI 5)) 108 7 ((q22.2.1 108 7) + (nI 1))), q22.2.2))) else (some (100000, [], q22.2.1, q22.2.2)))) else (if q5.1 = (nI 62) then ((FX11_byteAt (uI (uI q11.2.1 108 9 q5.1) 108 7 ((q11.2.1 108 7) + (nI 1))) q11.2.2 ((uI (uI q11.2.1 108 9 q5.1) 108 7 ((q11.2.1 108 7) + (nI 1))) 108 7)).bind fun q26 => (if q26.1 = (nI 61) then (if q5.1 = (nI 60) then (some (100000, [], (uI (uI q26.2.1 108 9 (nI 4)) 108 7 ((q26.2.1 108 7) + (nI 1))), q26.2.2)) else (some (100000, [], (uI (uI q26.2.1 108 9 (nI 5)) 108 7 ((q26.2.1 108 7) + (nI 1))), q26.2.2))) else (some (100000, [], q26.2.1, q26.2.2)))) else (some (100000, [], (uI (uI q11.2.1 108 9 q5.1) 108 7 ((q11.2.1 108 7) + (nI 1))), q11.2.2)))))) else (some (168, [some (.ref 108), some (.int q5.1)], (uI q9.2.1 108 9 (nI 2)), (uJ q9.2.2 108 11 (lN 0)))))) else (some (85, [some (.ref 108), some (.int q5.1)], (uI (uI q7.2.1 108 9 (nI 1)) 108 10 (nI 0)), q7.2.2)))) else (some (100000, [], (uI q5.2.1 108 9 (nI 0)), q5.2.2))))))))
theorem tX11_nextToken_0 {Γ : aG × Launch} {dp : Nat} {d dF : aI} {e eF : aJ}  {r : Option Value} {p : Nat × aL × aI × aJ} (h : sX11_nextToken_0 d e  = some p) (kc : Nat.beq p.1 100000 = false → Rn Γ (dp + 1) mX11_nextToken p.1 p.2.1 [] p.2.2.1 p.2.2.2 r dF eF) (kr : p.1 = 100000 → r = a_rt p.2.1 ∧ dF = p.2.2.1 ∧ eF = p.2.2.2) : Rn Γ (dp + 1) mX11_nextToken 0 [some (.ref 108), none] [] d e r dF eF := by
  unfold sX11_nextToken_0 at h
  obtain ⟨q1, hq1, h⟩ := Option.bind_eq_some_iff.mp h
  refine bX11_nextToken_0 (evX11_byteAt hq1) (by omega) ?_
  refine a_ite h (fun c2 h => ?_) (fun c2 h => ?_)
  · refine bX11_nextToken_8 (fun _ => ?_) (fun z => absurd c2 z)
    refine bX11_nextToken_26 ?_
    cases h
    exact kc rfl
  · refine bX11_nextToken_8 (fun z => absurd z c2) (fun _ => ?_)
    obtain ⟨q3, hq3, h⟩ := Option.bind_eq_some_iff.mp h
    refine bX11_nextToken_13 (evX11_byteAt hq3) (by omega) ?_
    refine a_ite h (fun c4 h => ?_) (fun c4 h => ?_)
    · refine bX11_nextToken_21 (fun z => absurd c4 z) (fun _ => ?_)
      refine bX11_nextToken_26 ?_
      cases h
      exact kc rfl
    · refine bX11_nextToken_21 (fun _ => ?_) (fun z => absurd z c4)
      obtain ⟨q5, hq5, h⟩ := Option.bind_eq_some_iff.mp h
      refine bX11_nextToken_39 (evX11_byteAt hq5) (by omega) ?_
      refine a_ite h (fun c6 h => ?_) (fun c6 h => ?_)
      · refine bX11_nextToken_55 (fun _ => ?_) (fun z => absurd c6 z)
        obtain ⟨q7, hq7, h⟩ := Option.bind_eq_some_iff.mp h
        refine bX11_nextToken_68 (evX11_isFigure hq7) (by omega) ?_
        refine a_ite h (fun c8 h => ?_) (fun c8 h => ?_)
        · refine bX11_nextToken_72 (fun _ => ?_) (fun z => absurd c8 z)
          obtain ⟨q9, hq9, h⟩ := Option.bind_eq_some_iff.mp h
          refine bX11_nextToken_151 (evX11_isLetterByte hq9) (by omega) ?_
          refine a_ite h (fun c10 h => ?_) (fun c10 h => ?_)
          · refine bX11_nextToken_155 (fun _ => ?_) (fun z => absurd c10 z)
            obtain ⟨q11, hq11, h⟩ := Option.bind_eq_some_iff.mp h
            refine bX11_nextToken_234 (evX11_isSign hq11) (by omega) ?_
            refine a_ite h (fun c12 h => ?_) (fun c12 h => ?_)
            · refine bX11_nextToken_239 (fun _ => ?_) (fun z => absurd c12 z)
              refine bX11_nextToken_246 ?_
              refine a_ite h (fun c13 h => ?_) (fun c13 h => ?_)
              · refine bX11_nextToken_247 (fun _ => ?_) (fun z => absurd c13 z)
                obtain ⟨q14, hq14, h⟩ := Option.bind_eq_some_iff.mp h
                refine bX11_nextToken_272 (evX11_byteAt hq14) (by omega) ?_
                refine a_ite h (fun c15 h => ?_) (fun c15 h => ?_)
                · refine bX11_nextToken_280 (fun z => absurd c15 z) (fun _ => ?_)
                  refine a_ite h (fun c16 h => ?_) (fun c16 h => ?_)
                  · refine bX11_nextToken_285 (fun z => absurd c16 z) (fun _ => ?_)
                    refine bX11_nextToken_292 ?_
                    refine bX11_nextToken_297 ?_
                    cases h
                    obtain ⟨k1, k2, k3⟩ := kr rfl
                    exact bX11_nextToken_310 k1 k2 k3
                  · refine bX11_nextToken_285 (fun _ => ?_) (fun z => absurd z c16)
                    refine bX11_nextToken_296 ?_
                    refine bX11_nextToken_297 ?_
                    cases h
                    obtain ⟨k1, k2, k3⟩ := kr rfl
                    exact bX11_nextToken_310 k1 k2 k3
                · refine bX11_nextToken_280 (fun _ => ?_) (fun z => absurd z c15)
                  cases h
                  obtain ⟨k1, k2, k3⟩ := kr rfl
                  exact bX11_nextToken_310 k1 k2 k3
              · refine bX11_nextToken_247 (fun z => absurd z c13) (fun _ => ?_)
                refine a_ite h (fun c17 h => ?_) (fun c17 h => ?_)
                · refine bX11_nextToken_266 (fun z => absurd c17 z) (fun _ => ?_)
                  obtain ⟨q18, hq18, h⟩ := Option.bind_eq_some_iff.mp h
                  refine bX11_nextToken_272 (evX11_byteAt hq18) (by omega) ?_
                  refine a_ite h (fun c19 h => ?_) (fun c19 h => ?_)
                  · refine bX11_nextToken_280 (fun z => absurd c19 z) (fun _ => ?_)
                    refine a_ite h (fun c20 h => ?_) (fun c20 h => ?_)
                    · refine bX11_nextToken_285 (fun z => absurd c20 z) (fun _ => ?_)
                      refine bX11_nextToken_292 ?_
                      refine bX11_nextToken_297 ?_
                      cases h
                      obtain ⟨k1, k2, k3⟩ := kr rfl
                      exact bX11_nextToken_310 k1 k2 k3
                    · refine bX11_nextToken_285 (fun _ => ?_) (fun z => absurd z c20)
                      refine bX11_nextToken_296 ?_
                      refine bX11_nextToken_297 ?_
                      cases h
                      obtain ⟨k1, k2, k3⟩ := kr rfl
                      exact bX11_nextToken_310 k1 k2 k3
                  · refine bX11_nextToken_280 (fun _ => ?_) (fun z => absurd z c19)
                    cases h
                    obtain ⟨k1, k2, k3⟩ := kr rfl
                    exact bX11_nextToken_310 k1 k2 k3
                · refine bX11_nextToken_266 (fun _ => ?_) (fun z => absurd z c17)
                  cases h
                  obtain ⟨k1, k2, k3⟩ := kr rfl
                  exact bX11_nextToken_310 k1 k2 k3
            · refine bX11_nextToken_239 (fun z => absurd z c12) (fun _ => ?_)
              refine bX11_nextToken_242 ?_
              refine a_ite h (fun c21 h => ?_) (fun c21 h => ?_)
              · refine bX11_nextToken_247 (fun _ => ?_) (fun z => absurd c21 z)
                obtain ⟨q22, hq22, h⟩ := Option.bind_eq_some_iff.mp h
                refine bX11_nextToken_272 (evX11_byteAt hq22) (by omega) ?_
                refine a_ite h (fun c23 h => ?_) (fun c23 h => ?_)
                · refine bX11_nextToken_280 (fun z => absurd c23 z) (fun _ => ?_)
                  refine a_ite h (fun c24 h => ?_) (fun c24 h => ?_)
                  · refine bX11_nextToken_285 (fun z => absurd c24 z) (fun _ => ?_)
                    refine bX11_nextToken_292 ?_
                    refine bX11_nextToken_297 ?_
                    cases h
                    obtain ⟨k1, k2, k3⟩ := kr rfl
                    exact bX11_nextToken_310 k1 k2 k3
                  · refine bX11_nextToken_285 (fun _ => ?_) (fun z => absurd z c24)
                    refine bX11_nextToken_296 ?_
                    refine bX11_nextToken_297 ?_
                    cases h
                    obtain ⟨k1, k2, k3⟩ := kr rfl
                    exact bX11_nextToken_310 k1 k2 k3
                · refine bX11_nextToken_280 (fun _ => ?_) (fun z => absurd z c23)
                  cases h
                  obtain ⟨k1, k2, k3⟩ := kr rfl
                  exact bX11_nextToken_310 k1 k2 k3
              · refine bX11_nextToken_247 (fun z => absurd z c21) (fun _ => ?_)
                refine a_ite h (fun c25 h => ?_) (fun c25 h => ?_)
                · refine bX11_nextToken_266 (fun z => absurd c25 z) (fun _ => ?_)
                  obtain ⟨q26, hq26, h⟩ := Option.bind_eq_some_iff.mp h
                  refine bX11_nextToken_272 (evX11_byteAt hq26) (by omega) ?_
                  refine a_ite h (fun c27 h => ?_) (fun c27 h => ?_)
                  · refine bX11_nextToken_280 (fun z => absurd c27 z) (fun _ => ?_)
                    refine a_ite h (fun c28 h => ?_) (fun c28 h => ?_)
                    · refine bX11_nextToken_285 (fun z => absurd c28 z) (fun _ => ?_)
                      refine bX11_nextToken_292 ?_
                      refine bX11_nextToken_297 ?_
                      cases h
                      obtain ⟨k1, k2, k3⟩ := kr rfl
                      exact bX11_nextToken_310 k1 k2 k3
                    · refine bX11_nextToken_285 (fun _ => ?_) (fun z => absurd z c28)
                      refine bX11_nextToken_296 ?_
                      refine bX11_nextToken_297 ?_
                      cases h
                      obtain ⟨k1, k2, k3⟩ := kr rfl
                      exact bX11_nextToken_310 k1 k2 k3
                  · refine bX11_nextToken_280 (fun _ => ?_) (fun z => absurd z c27)
                    cases h
                    obtain ⟨k1, k2, k3⟩ := kr rfl
                    exact bX11_nextToken_310 k1 k2 k3
                · refine bX11_nextToken_266 (fun _ => ?_) (fun z => absurd z c25)
                  cases h
                  obtain ⟨k1, k2, k3⟩ := kr rfl
                  exact bX11_nextToken_310 k1 k2 k3
          · refine bX11_nextToken_155 (fun z => absurd z c10) (fun _ => ?_)
            refine bX11_nextToken_158 ?_
            cases h
            exact kc rfl
        · refine bX11_nextToken_72 (fun z => absurd z c8) (fun _ => ?_)
          refine bX11_nextToken_75 ?_
          cases h
          exact kc rfl
      · refine bX11_nextToken_55 (fun z => absurd z c6) (fun _ => ?_)
        refine bX11_nextToken_60 ?_
        cases h
        obtain ⟨k1, k2, k3⟩ := kr rfl
        exact bX11_nextToken_310 k1 k2 k3

def sX11_nextToken_85 (d : aI) (e : aJ) (x1 : Int32) : Option (Nat × aL × aI × aJ) := ((FX11_byteAt d e (d 108 7)).bind fun q1 => ((FX11_isFigure q1.2.1 q1.2.2 q1.1).bind fun q2 => (if q2.1 = 0 then (some (100000, [], q2.2.1, q2.2.2)) else (if (q2.2.1 108 10) ≤ (nI 99999) then ((FX11_byteAt q2.2.1 q2.2.2 (q2.2.1 108 7)).bind fun q5 => (some (85, [some (.ref 108), some (.int x1)], (uI (uI q5.2.1 108 10 ((((nI 10) * (q2.2.1 108 10)) + q5.1) - (nI 48))) 108 7 ((q5.2.1 108 7) + (nI 1))), q5.2.2))) else (some (85, [some (.ref 108), some (.int x1)], (uI (uI q2.2.1 108 10 (q2.2.1 108 10)) 108 7 ((q2.2.1 108 7) + (nI 1))), q2.2.2))))))
theorem tX11_nextToken_85 {Γ : aG × Launch} {dp : Nat} {d dF : aI} {e eF : aJ} {x1 : Int32} {r : Option Value} {p : Nat × aL × aI × aJ} (h : sX11_nextToken_85 d e x1 = some p) (kc : Nat.beq p.1 100000 = false → Rn Γ (dp + 1) mX11_nextToken p.1 p.2.1 [] p.2.2.1 p.2.2.2 r dF eF) (kr : p.1 = 100000 → r = a_rt p.2.1 ∧ dF = p.2.2.1 ∧ eF = p.2.2.2) : Rn Γ (dp + 1) mX11_nextToken 85 [some (.ref 108), some (.int x1)] [] d e r dF eF := by
  unfold sX11_nextToken_85 at h
  obtain ⟨q1, hq1, h⟩ := Option.bind_eq_some_iff.mp h
  refine bX11_nextToken_85 (evX11_byteAt hq1) (by omega) ?_
  obtain ⟨q2, hq2, h⟩ := Option.bind_eq_some_iff.mp h
  refine bX11_nextToken_93 (evX11_isFigure hq2) (by omega) ?_
  refine a_ite h (fun c3 h => ?_) (fun c3 h => ?_)
  · refine bX11_nextToken_96 (fun _ => ?_) (fun z => absurd c3 z)
    cases h
    obtain ⟨k1, k2, k3⟩ := kr rfl
    exact bX11_nextToken_310 k1 k2 k3
  · refine bX11_nextToken_96 (fun z => absurd z c3) (fun _ => ?_)
    refine a_ite h (fun c4 h => ?_) (fun c4 h => ?_)
    · refine bX11_nextToken_99 (fun _ => ?_) (fun z => absurd c4 z)
      obtain ⟨q5, hq5, h⟩ := Option.bind_eq_some_iff.mp h
      refine bX11_nextToken_116 (evX11_byteAt hq5) (by omega) ?_
      refine bX11_nextToken_131 ?_
      refine bX11_nextToken_135 ?_
      cases h
      exact kc rfl
    · refine bX11_nextToken_99 (fun z => absurd z c4) (fun _ => ?_)
      refine bX11_nextToken_109 ?_
      refine bX11_nextToken_135 ?_
      cases h
      exact kc rfl

def sX11_nextToken_168 (d : aI) (e : aJ) (x1 : Int32) : Option (Nat × aL × aI × aJ) := ((FX11_byteAt d e (d 108 7)).bind fun q1 => ((FX11_isLetterByte q1.2.1 q1.2.2 q1.1).bind fun q2 => (if q2.1 = 0 then (some (100000, [], q2.2.1, q2.2.2)) else (if (lg_cmp (a_jshr (q2.2.2 108 11) (nI 48)) (lN 0)) = 0 then ((FX11_byteAt q2.2.1 q2.2.2 (q2.2.1 108 7)).bind fun q5 => (some (168, [some (.ref 108), some (.int x1)], (uI q5.2.1 108 7 ((q5.2.1 108 7) + (nI 1))), (uJ q5.2.2 108 11 ((a_jshl (q2.2.2 108 11) (nI 8)) ||| (Int32.toInt64 q5.1)))))) else (some (168, [some (.ref 108), some (.int x1)], (uI q2.2.1 108 7 ((q2.2.1 108 7) + (nI 1))), (uJ q2.2.2 108 11 (lN 1152921504606846976))))))))
theorem tX11_nextToken_168 {Γ : aG × Launch} {dp : Nat} {d dF : aI} {e eF : aJ} {x1 : Int32} {r : Option Value} {p : Nat × aL × aI × aJ} (h : sX11_nextToken_168 d e x1 = some p) (kc : Nat.beq p.1 100000 = false → Rn Γ (dp + 1) mX11_nextToken p.1 p.2.1 [] p.2.2.1 p.2.2.2 r dF eF) (kr : p.1 = 100000 → r = a_rt p.2.1 ∧ dF = p.2.2.1 ∧ eF = p.2.2.2) : Rn Γ (dp + 1) mX11_nextToken 168 [some (.ref 108), some (.int x1)] [] d e r dF eF := by
  unfold sX11_nextToken_168 at h
  obtain ⟨q1, hq1, h⟩ := Option.bind_eq_some_iff.mp h
  refine bX11_nextToken_168 (evX11_byteAt hq1) (by omega) ?_
  obtain ⟨q2, hq2, h⟩ := Option.bind_eq_some_iff.mp h
  refine bX11_nextToken_176 (evX11_isLetterByte hq2) (by omega) ?_
  refine a_ite h (fun c3 h => ?_) (fun c3 h => ?_)
  · refine bX11_nextToken_179 (fun _ => ?_) (fun z => absurd c3 z)
    cases h
    obtain ⟨k1, k2, k3⟩ := kr rfl
    exact bX11_nextToken_310 k1 k2 k3
  · refine bX11_nextToken_179 (fun z => absurd z c3) (fun _ => ?_)
    refine a_ite h (fun c4 h => ?_) (fun c4 h => ?_)
    · refine bX11_nextToken_182 (fun _ => ?_) (fun z => absurd c4 z)
      obtain ⟨q5, hq5, h⟩ := Option.bind_eq_some_iff.mp h
      refine bX11_nextToken_201 (evX11_byteAt hq5) (by omega) ?_
      refine bX11_nextToken_216 ?_
      refine bX11_nextToken_218 ?_
      cases h
      exact kc rfl
    · refine bX11_nextToken_182 (fun z => absurd z c4) (fun _ => ?_)
      refine bX11_nextToken_195 ?_
      refine bX11_nextToken_218 ?_
      cases h
      exact kc rfl

def sX11_settle_0 (d : aI) (e : aJ) (x1 : Int32) : Option (Nat × aL × aI × aJ) := (if (d 108 16) ≤ 0 then (some (100000, [], d, e)) else (bif ((a_inb ((d 108 16) - (nI 1)) 160)) then ((FX11_rank d e (d 113 (((d 108 16) - (nI 1))).toNatClampNeg)).bind fun q3 => (if q3.1 < x1 then (some (100000, [], q3.2.1, q3.2.2)) else (bif ((a_inb ((q3.2.1 108 16) - (nI 1)) 160)) then ((FX11_emit (uI q3.2.1 108 16 ((q3.2.1 108 16) - (nI 1))) q3.2.2 (q3.2.1 113 (((q3.2.1 108 16) - (nI 1))).toNatClampNeg) (nI 0)).bind fun q6 => (bif ((a_inb (q6.2.1 108 16) 160)) then ((FX11_rank q6.2.1 q6.2.2 (q6.2.1 113 ((q6.2.1 108 16)).toNatClampNeg)).bind fun q8 => (if q8.1 = (nI 7) then (some (0, [some (.ref 108), some (.int x1)], (uI q8.2.1 108 17 ((q8.2.1 108 17) - (nI 1))), q8.2.2)) else (bif ((a_inb (q8.2.1 108 16) 160)) then (if (q8.2.1 113 ((q8.2.1 108 16)).toNatClampNeg) = (nI 20) then (some (0, [some (.ref 108), some (.int x1)], (uI q8.2.1 108 17 ((q8.2.1 108 17) - (nI 1))), q8.2.2)) else (some (0, [some (.ref 108), some (.int x1)], q8.2.1, q8.2.2))) else none))) else none)) else none))) else none))
theorem tX11_settle_0 {Γ : aG × Launch} {dp : Nat} {d dF : aI} {e eF : aJ} {x1 : Int32} {r : Option Value} {p : Nat × aL × aI × aJ} (h : sX11_settle_0 d e x1 = some p) (kc : Nat.beq p.1 100000 = false → Rn Γ (dp + 1) mX11_settle p.1 p.2.1 [] p.2.2.1 p.2.2.2 r dF eF) (kr : p.1 = 100000 → r = a_rt p.2.1 ∧ dF = p.2.2.1 ∧ eF = p.2.2.2) : Rn Γ (dp + 1) mX11_settle 0 [some (.ref 108), some (.int x1)] [] d e r dF eF := by
  unfold sX11_settle_0 at h
  refine a_ite h (fun c1 h => ?_) (fun c1 h => ?_)
  · refine bX11_settle_0 (fun _ => ?_) (fun z => absurd c1 z)
    cases h
    obtain ⟨k1, k2, k3⟩ := kr rfl
    exact bX11_settle_93 k1 k2 k3
  · refine bX11_settle_0 (fun z => absurd z c1) (fun _ => ?_)
    obtain ⟨g2, h⟩ := a_cond h
    obtain ⟨q3, hq3, h⟩ := Option.bind_eq_some_iff.mp h
    refine bX11_settle_7 (a_inb_vp g2) (evX11_rank hq3) (by omega) ?_
    refine a_ite h (fun c4 h => ?_) (fun c4 h => ?_)
    · refine bX11_settle_21 (fun _ => ?_) (fun z => absurd c4 z)
      cases h
      obtain ⟨k1, k2, k3⟩ := kr rfl
      exact bX11_settle_93 k1 k2 k3
    · refine bX11_settle_21 (fun z => absurd z c4) (fun _ => ?_)
      obtain ⟨g5, h⟩ := a_cond h
      obtain ⟨q6, hq6, h⟩ := Option.bind_eq_some_iff.mp h
      refine bX11_settle_25 (a_inb_vp g5) (evX11_emit hq6) (by omega) ?_
      obtain ⟨g7, h⟩ := a_cond h
      obtain ⟨q8, hq8, h⟩ := Option.bind_eq_some_iff.mp h
      refine bX11_settle_49 (a_inb_vp g7) (evX11_rank hq8) (by omega) ?_
      refine a_ite h (fun c9 h => ?_) (fun c9 h => ?_)
      · refine bX11_settle_61 (fun _ => ?_) (fun z => absurd c9 z)
        refine bX11_settle_80 ?_
        cases h
        exact kc rfl
      · refine bX11_settle_61 (fun z => absurd z c9) (fun _ => ?_)
        obtain ⟨g10, h⟩ := a_cond h
        refine a_ite h (fun c11 h => ?_) (fun c11 h => ?_)
        · refine bX11_settle_66 (a_inb_vp g10) (fun z => absurd c11 z) (fun _ => ?_)
          refine bX11_settle_80 ?_
          cases h
          exact kc rfl
        · refine bX11_settle_66 (a_inb_vp g10) (fun _ => ?_) (fun z => absurd z c11)
          cases h
          exact kc rfl

def sX11_openAt_0 (d : aI) (e : aJ)  : Option (Nat × aL × aI × aJ) := (some (7, [some (.ref 108), some (.int ((d 108 16) - (nI 1)))], d, e))
theorem tX11_openAt_0 {Γ : aG × Launch} {dp : Nat} {d dF : aI} {e eF : aJ}  {r : Option Value} {p : Nat × aL × aI × aJ} (h : sX11_openAt_0 d e  = some p) (kc : Nat.beq p.1 100000 = false → Rn Γ (dp + 0) mX11_openAt p.1 p.2.1 [] p.2.2.1 p.2.2.2 r dF eF) (kr : p.1 = 100000 → r = a_rt p.2.1 ∧ dF = p.2.2.1 ∧ eF = p.2.2.2) : Rn Γ (dp + 0) mX11_openAt 0 [some (.ref 108), none] [] d e r dF eF := by
  unfold sX11_openAt_0 at h
  refine bX11_openAt_0 ?_
  cases h
  exact kc rfl

def sX11_openAt_7 (d : aI) (e : aJ) (x1 : Int32) : Option (Nat × aL × aI × aJ) := (if x1 < 0 then (some (100000, [some (.int x1)], d, e)) else (bif ((a_inb x1 160)) then (if (nI 40) ≤ (d 113 (x1).toNatClampNeg) then (some (100000, [some (.int x1)], d, e)) else (some (7, [some (.ref 108), some (.int (x1 + (-(nI 1))))], d, e))) else none))
theorem tX11_openAt_7 {Γ : aG × Launch} {dp : Nat} {d dF : aI} {e eF : aJ} {x1 : Int32} {r : Option Value} {p : Nat × aL × aI × aJ} (h : sX11_openAt_7 d e x1 = some p) (kc : Nat.beq p.1 100000 = false → Rn Γ (dp + 0) mX11_openAt p.1 p.2.1 [] p.2.2.1 p.2.2.2 r dF eF) (kr : p.1 = 100000 → r = a_rt p.2.1 ∧ dF = p.2.2.1 ∧ eF = p.2.2.2) : Rn Γ (dp + 0) mX11_openAt 7 [some (.ref 108), some (.int x1)] [] d e r dF eF := by
  unfold sX11_openAt_7 at h
  refine a_ite h (fun c1 h => ?_) (fun c1 h => ?_)
  · refine bX11_openAt_7 (fun _ => ?_) (fun z => absurd c1 z)
    cases h
    obtain ⟨k1, k2, k3⟩ := kr rfl
    exact bX11_openAt_28 k1 k2 k3
  · refine bX11_openAt_7 (fun z => absurd z c1) (fun _ => ?_)
    obtain ⟨g2, h⟩ := a_cond h
    refine a_ite h (fun c3 h => ?_) (fun c3 h => ?_)
    · refine bX11_openAt_11 (a_inb_vp g2) (fun _ => ?_) (fun z => absurd c3 z)
      cases h
      obtain ⟨k1, k2, k3⟩ := kr rfl
      exact bX11_openAt_28 k1 k2 k3
    · refine bX11_openAt_11 (a_inb_vp g2) (fun z => absurd z c3) (fun _ => ?_)
      refine bX11_openAt_22 ?_
      cases h
      exact kc rfl

def sX11_isCompared_0 (d : aI) (e : aJ)  : Option (Nat × aL × aI × aJ) := (some (7, [some (.ref 108), some (.int ((d 108 16) - (nI 1)))], d, e))
theorem tX11_isCompared_0 {Γ : aG × Launch} {dp : Nat} {d dF : aI} {e eF : aJ}  {r : Option Value} {p : Nat × aL × aI × aJ} (h : sX11_isCompared_0 d e  = some p) (kc : Nat.beq p.1 100000 = false → Rn Γ (dp + 1) mX11_isCompared p.1 p.2.1 [] p.2.2.1 p.2.2.2 r dF eF) (kr : p.1 = 100000 → r = a_rt p.2.1 ∧ dF = p.2.2.1 ∧ eF = p.2.2.2) : Rn Γ (dp + 1) mX11_isCompared 0 [some (.ref 108), none] [] d e r dF eF := by
  unfold sX11_isCompared_0 at h
  refine bX11_isCompared_0 ?_
  cases h
  exact kc rfl

def sX11_isCompared_7 (d : aI) (e : aJ) (x1 : Int32) : Option (Nat × aL × aI × aJ) := (if x1 < 0 then (if x1 < 0 then (some (100000, [some (.int (nI 0))], d, e)) else (bif ((a_inb x1 160)) then ((FX11_rank d e (d 113 (x1).toNatClampNeg)).bind fun q4 => (if q4.1 = (nI 4) then (some (100000, [some (.int (nI 1))], q4.2.1, q4.2.2)) else (some (100000, [some (.int (nI 0))], q4.2.1, q4.2.2)))) else none)) else (bif ((a_inb x1 160)) then ((FX11_rank d e (d 113 (x1).toNatClampNeg)).bind fun q7 => (if q7.1 ≤ (nI 4) then (if x1 < 0 then (some (100000, [some (.int (nI 0))], q7.2.1, q7.2.2)) else (bif ((a_inb x1 160)) then ((FX11_rank q7.2.1 q7.2.2 (q7.2.1 113 (x1).toNatClampNeg)).bind fun q11 => (if q11.1 = (nI 4) then (some (100000, [some (.int (nI 1))], q11.2.1, q11.2.2)) else (some (100000, [some (.int (nI 0))], q11.2.1, q11.2.2)))) else none)) else (some (7, [some (.ref 108), some (.int (x1 + (-(nI 1))))], q7.2.1, q7.2.2)))) else none))
theorem tX11_isCompared_7 {Γ : aG × Launch} {dp : Nat} {d dF : aI} {e eF : aJ} {x1 : Int32} {r : Option Value} {p : Nat × aL × aI × aJ} (h : sX11_isCompared_7 d e x1 = some p) (kc : Nat.beq p.1 100000 = false → Rn Γ (dp + 1) mX11_isCompared p.1 p.2.1 [] p.2.2.1 p.2.2.2 r dF eF) (kr : p.1 = 100000 → r = a_rt p.2.1 ∧ dF = p.2.2.1 ∧ eF = p.2.2.2) : Rn Γ (dp + 1) mX11_isCompared 7 [some (.ref 108), some (.int x1)] [] d e r dF eF := by
  unfold sX11_isCompared_7 at h
  refine a_ite h (fun c1 h => ?_) (fun c1 h => ?_)
  · refine bX11_isCompared_7 (fun _ => ?_) (fun z => absurd c1 z)
    refine a_ite h (fun c2 h => ?_) (fun c2 h => ?_)
    · refine bX11_isCompared_30 (fun _ => ?_) (fun z => absurd c2 z)
      refine bX11_isCompared_51 ?_
      cases h
      obtain ⟨k1, k2, k3⟩ := kr rfl
      exact bX11_isCompared_52 (a_nz (Or.inl rfl)) k1 k2 k3
    · refine bX11_isCompared_30 (fun z => absurd z c2) (fun _ => ?_)
      obtain ⟨g3, h⟩ := a_cond h
      obtain ⟨q4, hq4, h⟩ := Option.bind_eq_some_iff.mp h
      refine bX11_isCompared_34 (a_inb_vp g3) (evX11_rank hq4) (by omega) ?_
      refine a_ite h (fun c5 h => ?_) (fun c5 h => ?_)
      · refine bX11_isCompared_43 (fun z => absurd c5 z) (fun _ => ?_)
        refine bX11_isCompared_47 ?_
        cases h
        obtain ⟨k1, k2, k3⟩ := kr rfl
        exact bX11_isCompared_52 (a_nz (Or.inr rfl)) k1 k2 k3
      · refine bX11_isCompared_43 (fun _ => ?_) (fun z => absurd z c5)
        refine bX11_isCompared_51 ?_
        cases h
        obtain ⟨k1, k2, k3⟩ := kr rfl
        exact bX11_isCompared_52 (a_nz (Or.inl rfl)) k1 k2 k3
  · refine bX11_isCompared_7 (fun z => absurd z c1) (fun _ => ?_)
    obtain ⟨g6, h⟩ := a_cond h
    obtain ⟨q7, hq7, h⟩ := Option.bind_eq_some_iff.mp h
    refine bX11_isCompared_11 (a_inb_vp g6) (evX11_rank hq7) (by omega) ?_
    refine a_ite h (fun c8 h => ?_) (fun c8 h => ?_)
    · refine bX11_isCompared_20 (fun _ => ?_) (fun z => absurd c8 z)
      refine a_ite h (fun c9 h => ?_) (fun c9 h => ?_)
      · refine bX11_isCompared_30 (fun _ => ?_) (fun z => absurd c9 z)
        refine bX11_isCompared_51 ?_
        cases h
        obtain ⟨k1, k2, k3⟩ := kr rfl
        exact bX11_isCompared_52 (a_nz (Or.inl rfl)) k1 k2 k3
      · refine bX11_isCompared_30 (fun z => absurd z c9) (fun _ => ?_)
        obtain ⟨g10, h⟩ := a_cond h
        obtain ⟨q11, hq11, h⟩ := Option.bind_eq_some_iff.mp h
        refine bX11_isCompared_34 (a_inb_vp g10) (evX11_rank hq11) (by omega) ?_
        refine a_ite h (fun c12 h => ?_) (fun c12 h => ?_)
        · refine bX11_isCompared_43 (fun z => absurd c12 z) (fun _ => ?_)
          refine bX11_isCompared_47 ?_
          cases h
          obtain ⟨k1, k2, k3⟩ := kr rfl
          exact bX11_isCompared_52 (a_nz (Or.inr rfl)) k1 k2 k3
        · refine bX11_isCompared_43 (fun _ => ?_) (fun z => absurd z c12)
          refine bX11_isCompared_51 ?_
          cases h
          obtain ⟨k1, k2, k3⟩ := kr rfl
          exact bX11_isCompared_52 (a_nz (Or.inl rfl)) k1 k2 k3
    · refine bX11_isCompared_20 (fun z => absurd z c8) (fun _ => ?_)
      refine bX11_isCompared_24 ?_
      cases h
      exact kc rfl

def sX11_summedUp_0 (d : aI) (e : aJ) (x1 : Int32) (x2 : Int32) : Option (Nat × aL × aI × aJ) := (bif ((a_inb (((((nI 681) * x1) + (nI 1)) + ((nI 3) * x2)) + (nI 1)) 2724)) then (some (38, [some (.ref 108), some (.int x1), some (.int x2), some (.int ((((nI 681) * x1) + (nI 1)) + ((nI 3) * x2))), some (.int (((nI 681) * x1) + (nI 73))), some (.int (nI 0)), some (.int (nI 0)), some (.int (d 111 ((((((nI 681) * x1) + (nI 1)) + ((nI 3) * x2)) + (nI 1))).toNatClampNeg)), none, none], d, e)) else none)
theorem tX11_summedUp_0 {Γ : aG × Launch} {dp : Nat} {d dF : aI} {e eF : aJ} {x1 : Int32} {x2 : Int32} {r : Option Value} {p : Nat × aL × aI × aJ} (h : sX11_summedUp_0 d e x1 x2 = some p) (kc : Nat.beq p.1 100000 = false → Rn Γ (dp + 2) mX11_summedUp p.1 p.2.1 [] p.2.2.1 p.2.2.2 r dF eF) (kr : p.1 = 100000 → r = a_rt p.2.1 ∧ dF = p.2.2.1 ∧ eF = p.2.2.2) : Rn Γ (dp + 2) mX11_summedUp 0 [some (.ref 108), some (.int x1), some (.int x2), none, none, none, none, none, none, none] [] d e r dF eF := by
  unfold sX11_summedUp_0 at h
  obtain ⟨g1, h⟩ := a_cond h
  refine bX11_summedUp_0 (a_inb_vp g1) ?_
  cases h
  exact kc rfl

def sX11_summedUp_38 (d : aI) (e : aJ) (x1 : Int32) (x2 : Int32) (x3 : Int32) (x4 : Int32) (x5 : Int32) (x6 : Int32) (x7 : Int32) (v8 : Option Value) (v9 : Option Value) : Option (Nat × aL × aI × aJ) := (bif ((a_inb (x3 + (nI 2)) 2724)) then (if (d 111 ((x3 + (nI 2))).toNatClampNeg) ≤ x7 then (bif ((a_inb (nI 0) 330)) then (some (100000, [some (.long (e 115 0))], d, e)) else none) else (bif ((a_inb (x4 + ((nI 2) * x7)) 2724) && (a_inb ((x4 + ((nI 2) * x7)) + (nI 1)) 2724)) then (if (nI 1) < (d 111 ((x4 + ((nI 2) * x7))).toNatClampNeg) then (if (d 111 ((x4 + ((nI 2) * x7))).toNatClampNeg) = (nI 3) then (bif ((a_inb (x6 + (-(nI 1))) 330)) then (if (d 116 ((x6 + (-(nI 1)))).toNatClampNeg) = 0 then (bif ((a_inb (x5 + (-(nI 1))) 330) && (a_inb ((x5 + (-(nI 1))) - (nI 1)) 330)) then (some (38, [some (.ref 108), some (.int x1), some (.int x2), some (.int x3), some (.int x4), some (.int (x5 + (-(nI 1)))), some (.int (x6 + (-(nI 1)))), some (.int (x7 + (nI 1))), some (.int (d 111 ((x4 + ((nI 2) * x7))).toNatClampNeg)), some (.int (d 111 (((x4 + ((nI 2) * x7)) + (nI 1))).toNatClampNeg))], d, (uJ e 115 (((x5 + (-(nI 1))) - (nI 1))).toNatClampNeg (e 115 ((x5 + (-(nI 1)))).toNatClampNeg)))) else none) else (some (38, [some (.ref 108), some (.int x1), some (.int x2), some (.int x3), some (.int x4), some (.int (x5 + (-(nI 1)))), some (.int (x6 + (-(nI 1)))), some (.int (x7 + (nI 1))), some (.int (d 111 ((x4 + ((nI 2) * x7))).toNatClampNeg)), some (.int (d 111 (((x4 + ((nI 2) * x7)) + (nI 1))).toNatClampNeg))], d, e))) else none) else (if (d 111 ((x4 + ((nI 2) * x7))).toNatClampNeg) = (nI 5) then (if (d 111 ((x4 + ((nI 2) * x7))).toNatClampNeg) = (nI 5) then (bif ((a_inb (x5 - (nI 1)) 330)) then (bif ((a_inb (x5 - (nI 1)) 330)) then (some (38, [some (.ref 108), some (.int x1), some (.int x2), some (.int x3), some (.int x4), some (.int x5), some (.int x6), some (.int (x7 + (nI 1))), some (.int (d 111 ((x4 + ((nI 2) * x7))).toNatClampNeg)), some (.int (d 111 (((x4 + ((nI 2) * x7)) + (nI 1))).toNatClampNeg))], d, (uJ e 115 ((x5 - (nI 1))).toNatClampNeg (-(e 115 ((x5 - (nI 1))).toNatClampNeg))))) else none) else none) else (bif ((a_inb (x5 - (nI 1)) 330)) then ((FX11_chillOf d e (e 115 ((x5 - (nI 1))).toNatClampNeg)).bind fun q15 => (bif ((a_inb (x5 - (nI 1)) 330)) then (some (38, [some (.ref 108), some (.int x1), some (.int x2), some (.int x3), some (.int x4), some (.int x5), some (.int x6), some (.int (x7 + (nI 1))), some (.int (d 111 ((x4 + ((nI 2) * x7))).toNatClampNeg)), some (.int (d 111 (((x4 + ((nI 2) * x7)) + (nI 1))).toNatClampNeg))], q15.2.1, (uJ q15.2.2 115 ((x5 - (nI 1))).toNatClampNeg q15.1))) else none)) else none)) else (if (d 111 ((x4 + ((nI 2) * x7))).toNatClampNeg) = (nI 2) then (if (d 111 ((x4 + ((nI 2) * x7))).toNatClampNeg) = (nI 5) then (bif ((a_inb (x5 - (nI 1)) 330)) then (bif ((a_inb (x5 - (nI 1)) 330)) then (some (38, [some (.ref 108), some (.int x1), some (.int x2), some (.int x3), some (.int x4), some (.int x5), some (.int x6), some (.int (x7 + (nI 1))), some (.int (d 111 ((x4 + ((nI 2) * x7))).toNatClampNeg)), some (.int (d 111 (((x4 + ((nI 2) * x7)) + (nI 1))).toNatClampNeg))], d, (uJ e 115 ((x5 - (nI 1))).toNatClampNeg (-(e 115 ((x5 - (nI 1))).toNatClampNeg))))) else none) else none) else (bif ((a_inb (x5 - (nI 1)) 330)) then ((FX11_chillOf d e (e 115 ((x5 - (nI 1))).toNatClampNeg)).bind fun q22 => (bif ((a_inb (x5 - (nI 1)) 330)) then (some (38, [some (.ref 108), some (.int x1), some (.int x2), some (.int x3), some (.int x4), some (.int x5), some (.int x6), some (.int (x7 + (nI 1))), some (.int (d 111 ((x4 + ((nI 2) * x7))).toNatClampNeg)), some (.int (d 111 (((x4 + ((nI 2) * x7)) + (nI 1))).toNatClampNeg))], q22.2.1, (uJ q22.2.2 115 ((x5 - (nI 1))).toNatClampNeg q22.1))) else none)) else none)) else (if (nI 10) ≤ (d 111 ((x4 + ((nI 2) * x7))).toNatClampNeg) then (if (nI 20) ≤ (d 111 ((x4 + ((nI 2) * x7))).toNatClampNeg) then (if (d 111 ((x4 + ((nI 2) * x7))).toNatClampNeg) = (nI 20) then (bif ((a_inb (x6 - (nI 1)) 330)) then (if (d 116 ((x6 - (nI 1))).toNatClampNeg) = 0 then (bif ((a_inb (x6 - (nI 1)) 330)) then (some (38, [some (.ref 108), some (.int x1), some (.int x2), some (.int x3), some (.int x4), some (.int x5), some (.int x6), some (.int (x7 + (nI 1))), some (.int (d 111 ((x4 + ((nI 2) * x7))).toNatClampNeg)), some (.int (d 111 (((x4 + ((nI 2) * x7)) + (nI 1))).toNatClampNeg))], (uI d 116 ((x6 - (nI 1))).toNatClampNeg (vp_nar .boolean (nI 1))), e)) else none) else (bif ((a_inb (x6 - (nI 1)) 330)) then (some (38, [some (.ref 108), some (.int x1), some (.int x2), some (.int x3), some (.int x4), some (.int x5), some (.int x6), some (.int (x7 + (nI 1))), some (.int (d 111 ((x4 + ((nI 2) * x7))).toNatClampNeg)), some (.int (d 111 (((x4 + ((nI 2) * x7)) + (nI 1))).toNatClampNeg))], (uI d 116 ((x6 - (nI 1))).toNatClampNeg (vp_nar .boolean (nI 0))), e)) else none)) else none) else (bif ((a_inb ((x6 + (-(nI 1))) - (nI 1)) 330) && (a_inb (x6 + (-(nI 1))) 330)) then ((FX11_joined d e (d 111 ((x4 + ((nI 2) * x7))).toNatClampNeg) (d 116 (((x6 + (-(nI 1))) - (nI 1))).toNatClampNeg) (d 116 ((x6 + (-(nI 1)))).toNatClampNeg)).bind fun q32 => (bif ((a_inb ((x6 + (-(nI 1))) - (nI 1)) 330)) then (some (38, [some (.ref 108), some (.int x1), some (.int x2), some (.int x3), some (.int x4), some (.int x5), some (.int (x6 + (-(nI 1)))), some (.int (x7 + (nI 1))), some (.int (d 111 ((x4 + ((nI 2) * x7))).toNatClampNeg)), some (.int (d 111 (((x4 + ((nI 2) * x7)) + (nI 1))).toNatClampNeg))], (uI q32.2.1 116 (((x6 + (-(nI 1))) - (nI 1))).toNatClampNeg (vp_nar .boolean q32.1)), q32.2.2)) else none)) else none)) else (bif ((a_inb (x5 + (-(nI 2))) 330) && (a_inb ((x5 + (-(nI 2))) + (nI 1)) 330)) then ((FX11_isAsked d e (d 111 ((x4 + ((nI 2) * x7))).toNatClampNeg) (e 115 ((x5 + (-(nI 2)))).toNatClampNeg) (e 115 (((x5 + (-(nI 2))) + (nI 1))).toNatClampNeg)).bind fun q35 => (bif ((a_inb x6 330)) then (some (38, [some (.ref 108), some (.int x1), some (.int x2), some (.int x3), some (.int x4), some (.int (x5 + (-(nI 2)))), some (.int (x6 + (nI 1))), some (.int (x7 + (nI 1))), some (.int (d 111 ((x4 + ((nI 2) * x7))).toNatClampNeg)), some (.int (d 111 (((x4 + ((nI 2) * x7)) + (nI 1))).toNatClampNeg))], (uI q35.2.1 116 (x6).toNatClampNeg (vp_nar .boolean q35.1)), q35.2.2)) else none)) else none)) else (if (d 111 ((x4 + ((nI 2) * x7))).toNatClampNeg) = (nI 4) then (bif ((a_inb ((x5 + (-(nI 1))) - (nI 1)) 330) && (a_inb (x5 + (-(nI 1))) 330)) then ((FX11_turnOf d e (e 115 (((x5 + (-(nI 1))) - (nI 1))).toNatClampNeg) (e 115 ((x5 + (-(nI 1)))).toNatClampNeg)).bind fun q39 => (bif ((a_inb ((x5 + (-(nI 1))) - (nI 1)) 330)) then (some (38, [some (.ref 108), some (.int x1), some (.int x2), some (.int x3), some (.int x4), some (.int (x5 + (-(nI 1)))), some (.int x6), some (.int (x7 + (nI 1))), some (.int (d 111 ((x4 + ((nI 2) * x7))).toNatClampNeg)), some (.int (d 111 (((x4 + ((nI 2) * x7)) + (nI 1))).toNatClampNeg))], q39.2.1, (uJ q39.2.2 115 (((x5 + (-(nI 1))) - (nI 1))).toNatClampNeg q39.1))) else none)) else none) else (bif ((a_inb ((x5 + (-(nI 1))) - (nI 1)) 330) && (a_inb (x5 + (-(nI 1))) 330)) then ((FX11_two d e (d 111 ((x4 + ((nI 2) * x7))).toNatClampNeg) (e 115 (((x5 + (-(nI 1))) - (nI 1))).toNatClampNeg) (e 115 ((x5 + (-(nI 1)))).toNatClampNeg)).bind fun q42 => (bif ((a_inb ((x5 + (-(nI 1))) - (nI 1)) 330)) then (some (38, [some (.ref 108), some (.int x1), some (.int x2), some (.int x3), some (.int x4), some (.int (x5 + (-(nI 1)))), some (.int x6), some (.int (x7 + (nI 1))), some (.int (d 111 ((x4 + ((nI 2) * x7))).toNatClampNeg)), some (.int (d 111 (((x4 + ((nI 2) * x7)) + (nI 1))).toNatClampNeg))], q42.2.1, (uJ q42.2.2 115 (((x5 + (-(nI 1))) - (nI 1))).toNatClampNeg q42.1))) else none)) else none)))))) else (if (d 111 ((x4 + ((nI 2) * x7))).toNatClampNeg) = 0 then (bif ((a_inb x5 330)) then (some (38, [some (.ref 108), some (.int x1), some (.int x2), some (.int x3), some (.int x4), some (.int (x5 + (nI 1))), some (.int x6), some (.int (x7 + (nI 1))), some (.int (d 111 ((x4 + ((nI 2) * x7))).toNatClampNeg)), some (.int (d 111 (((x4 + ((nI 2) * x7)) + (nI 1))).toNatClampNeg))], d, (uJ e 115 (x5).toNatClampNeg (Int32.toInt64 (d 111 (((x4 + ((nI 2) * x7)) + (nI 1))).toNatClampNeg))))) else none) else (bif ((a_inb (d 111 (((x4 + ((nI 2) * x7)) + (nI 1))).toNatClampNeg) 8)) then (bif ((a_inb x5 330)) then (some (38, [some (.ref 108), some (.int x1), some (.int x2), some (.int x3), some (.int x4), some (.int (x5 + (nI 1))), some (.int x6), some (.int (x7 + (nI 1))), some (.int (d 111 ((x4 + ((nI 2) * x7))).toNatClampNeg)), some (.int (d 111 (((x4 + ((nI 2) * x7)) + (nI 1))).toNatClampNeg))], d, (uJ e 115 (x5).toNatClampNeg (Int32.toInt64 (d 114 ((d 111 (((x4 + ((nI 2) * x7)) + (nI 1))).toNatClampNeg)).toNatClampNeg))))) else none) else none))) else none)) else none)
theorem tX11_summedUp_38 {Γ : aG × Launch} {dp : Nat} {d dF : aI} {e eF : aJ} {x1 : Int32} {x2 : Int32} {x3 : Int32} {x4 : Int32} {x5 : Int32} {x6 : Int32} {x7 : Int32} {v8 : Option Value} {v9 : Option Value} {r : Option Value} {p : Nat × aL × aI × aJ} (h : sX11_summedUp_38 d e x1 x2 x3 x4 x5 x6 x7 v8 v9 = some p) (kc : Nat.beq p.1 100000 = false → Rn Γ (dp + 2) mX11_summedUp p.1 p.2.1 [] p.2.2.1 p.2.2.2 r dF eF) (kr : p.1 = 100000 → r = a_rt p.2.1 ∧ dF = p.2.2.1 ∧ eF = p.2.2.2) : Rn Γ (dp + 2) mX11_summedUp 38 [some (.ref 108), some (.int x1), some (.int x2), some (.int x3), some (.int x4), some (.int x5), some (.int x6), some (.int x7), v8, v9] [] d e r dF eF := by
  unfold sX11_summedUp_38 at h
  obtain ⟨g1, h⟩ := a_cond h
  refine a_ite h (fun c2 h => ?_) (fun c2 h => ?_)
  · refine bX11_summedUp_38 (a_inb_vp g1) (fun _ => ?_) (fun z => absurd c2 z)
    obtain ⟨g3, h⟩ := a_cond h
    cases h
    obtain ⟨k1, k2, k3⟩ := kr rfl
    exact bX11_summedUp_406 (a_inb_vp g3) k1 k2 k3
  · refine bX11_summedUp_38 (a_inb_vp g1) (fun z => absurd z c2) (fun _ => ?_)
    obtain ⟨g4, h⟩ := a_cond h
    obtain ⟨g4x1, g4_1⟩ := a_and g4
    have g4_0 := g4x1
    refine a_ite h (fun c5 h => ?_) (fun c5 h => ?_)
    · refine bX11_summedUp_51 ⟨(a_inb_vp g4_0), (a_inb_vp g4_1)⟩ (fun _ => ?_) (fun z => absurd c5 z)
      refine a_ite h (fun c6 h => ?_) (fun c6 h => ?_)
      · refine bX11_summedUp_119 (fun z => absurd c6 z) (fun _ => ?_)
        obtain ⟨g7, h⟩ := a_cond h
        refine a_ite h (fun c8 h => ?_) (fun c8 h => ?_)
        · refine bX11_summedUp_125 (a_inb_vp g7) (fun z => absurd c8 z) (fun _ => ?_)
          obtain ⟨g9, h⟩ := a_cond h
          obtain ⟨g9x1, g9_1⟩ := a_and g9
          have g9_0 := g9x1
          refine bX11_summedUp_141 ⟨(a_inb_vp g9_0), (a_inb_vp g9_1)⟩ ?_
          refine bX11_summedUp_400 ?_
          cases h
          exact kc rfl
        · refine bX11_summedUp_125 (a_inb_vp g7) (fun _ => ?_) (fun z => absurd z c8)
          refine bX11_summedUp_400 ?_
          cases h
          exact kc rfl
      · refine bX11_summedUp_119 (fun _ => ?_) (fun z => absurd z c6)
        refine a_ite h (fun c10 h => ?_) (fun c10 h => ?_)
        · refine bX11_summedUp_160 (fun _ => ?_) (fun z => absurd c10 z)
          refine a_ite h (fun c11 h => ?_) (fun c11 h => ?_)
          · refine bX11_summedUp_172 (fun z => absurd c11 z) (fun _ => ?_)
            obtain ⟨g12, h⟩ := a_cond h
            refine bX11_summedUp_186 (a_inb_vp g12) ?_
            obtain ⟨g13, h⟩ := a_cond h
            refine bX11_summedUp_212 (a_inb_vp g13) ?_
            refine bX11_summedUp_400 ?_
            cases h
            exact kc rfl
          · refine bX11_summedUp_172 (fun _ => ?_) (fun z => absurd z c11)
            obtain ⟨g14, h⟩ := a_cond h
            obtain ⟨q15, hq15, h⟩ := Option.bind_eq_some_iff.mp h
            refine bX11_summedUp_199 (a_inb_vp g14) (evX11_chillOf hq15) (by omega) ?_
            obtain ⟨g16, h⟩ := a_cond h
            refine bX11_summedUp_212 (a_inb_vp g16) ?_
            refine bX11_summedUp_400 ?_
            cases h
            exact kc rfl
        · refine bX11_summedUp_160 (fun z => absurd z c10) (fun _ => ?_)
          refine a_ite h (fun c17 h => ?_) (fun c17 h => ?_)
          · refine bX11_summedUp_166 (fun z => absurd c17 z) (fun _ => ?_)
            refine a_ite h (fun c18 h => ?_) (fun c18 h => ?_)
            · refine bX11_summedUp_172 (fun z => absurd c18 z) (fun _ => ?_)
              obtain ⟨g19, h⟩ := a_cond h
              refine bX11_summedUp_186 (a_inb_vp g19) ?_
              obtain ⟨g20, h⟩ := a_cond h
              refine bX11_summedUp_212 (a_inb_vp g20) ?_
              refine bX11_summedUp_400 ?_
              cases h
              exact kc rfl
            · refine bX11_summedUp_172 (fun _ => ?_) (fun z => absurd z c18)
              obtain ⟨g21, h⟩ := a_cond h
              obtain ⟨q22, hq22, h⟩ := Option.bind_eq_some_iff.mp h
              refine bX11_summedUp_199 (a_inb_vp g21) (evX11_chillOf hq22) (by omega) ?_
              obtain ⟨g23, h⟩ := a_cond h
              refine bX11_summedUp_212 (a_inb_vp g23) ?_
              refine bX11_summedUp_400 ?_
              cases h
              exact kc rfl
          · refine bX11_summedUp_166 (fun _ => ?_) (fun z => absurd z c17)
            refine a_ite h (fun c24 h => ?_) (fun c24 h => ?_)
            · refine bX11_summedUp_216 (fun _ => ?_) (fun z => absurd c24 z)
              refine a_ite h (fun c25 h => ?_) (fun c25 h => ?_)
              · refine bX11_summedUp_287 (fun _ => ?_) (fun z => absurd c25 z)
                refine a_ite h (fun c26 h => ?_) (fun c26 h => ?_)
                · refine bX11_summedUp_331 (fun z => absurd c26 z) (fun _ => ?_)
                  obtain ⟨g27, h⟩ := a_cond h
                  refine a_ite h (fun c28 h => ?_) (fun c28 h => ?_)
                  · refine bX11_summedUp_338 (a_inb_vp g27) (fun z => absurd c28 z) (fun _ => ?_)
                    refine bX11_summedUp_358 ?_
                    obtain ⟨g29, h⟩ := a_cond h
                    refine bX11_summedUp_363 (a_inb_vp g29) ?_
                    refine bX11_summedUp_400 ?_
                    cases h
                    exact kc rfl
                  · refine bX11_summedUp_338 (a_inb_vp g27) (fun _ => ?_) (fun z => absurd z c28)
                    refine bX11_summedUp_362 ?_
                    obtain ⟨g30, h⟩ := a_cond h
                    refine bX11_summedUp_363 (a_inb_vp g30) ?_
                    refine bX11_summedUp_400 ?_
                    cases h
                    exact kc rfl
                · refine bX11_summedUp_331 (fun _ => ?_) (fun z => absurd z c26)
                  obtain ⟨g31, h⟩ := a_cond h
                  obtain ⟨g31x1, g31_1⟩ := a_and g31
                  have g31_0 := g31x1
                  obtain ⟨q32, hq32, h⟩ := Option.bind_eq_some_iff.mp h
                  refine bX11_summedUp_367 ⟨(a_inb_vp g31_0), (a_inb_vp g31_1)⟩ (evX11_joined hq32) (by omega) ?_
                  obtain ⟨g33, h⟩ := a_cond h
                  refine bX11_summedUp_399 (a_inb_vp g33) ?_
                  refine bX11_summedUp_400 ?_
                  cases h
                  exact kc rfl
              · refine bX11_summedUp_287 (fun z => absurd z c25) (fun _ => ?_)
                obtain ⟨g34, h⟩ := a_cond h
                obtain ⟨g34x1, g34_1⟩ := a_and g34
                have g34_0 := g34x1
                obtain ⟨q35, hq35, h⟩ := Option.bind_eq_some_iff.mp h
                refine bX11_summedUp_294 ⟨(a_inb_vp g34_0), (a_inb_vp g34_1)⟩ (evX11_isAsked hq35) (by omega) ?_
                obtain ⟨g36, h⟩ := a_cond h
                refine bX11_summedUp_324 (a_inb_vp g36) ?_
                refine bX11_summedUp_400 ?_
                cases h
                exact kc rfl
            · refine bX11_summedUp_216 (fun z => absurd z c24) (fun _ => ?_)
              refine a_ite h (fun c37 h => ?_) (fun c37 h => ?_)
              · refine bX11_summedUp_223 (fun z => absurd c37 z) (fun _ => ?_)
                obtain ⟨g38, h⟩ := a_cond h
                obtain ⟨g38x1, g38_1⟩ := a_and g38
                have g38_0 := g38x1
                obtain ⟨q39, hq39, h⟩ := Option.bind_eq_some_iff.mp h
                refine bX11_summedUp_240 ⟨(a_inb_vp g38_0), (a_inb_vp g38_1)⟩ (evX11_turnOf hq39) (by omega) ?_
                refine bX11_summedUp_259 ?_
                obtain ⟨g40, h⟩ := a_cond h
                refine bX11_summedUp_283 (a_inb_vp g40) ?_
                refine bX11_summedUp_400 ?_
                cases h
                exact kc rfl
              · refine bX11_summedUp_223 (fun _ => ?_) (fun z => absurd z c37)
                obtain ⟨g41, h⟩ := a_cond h
                obtain ⟨g41x1, g41_1⟩ := a_and g41
                have g41_0 := g41x1
                obtain ⟨q42, hq42, h⟩ := Option.bind_eq_some_iff.mp h
                refine bX11_summedUp_262 ⟨(a_inb_vp g41_0), (a_inb_vp g41_1)⟩ (evX11_two hq42) (by omega) ?_
                obtain ⟨g43, h⟩ := a_cond h
                refine bX11_summedUp_283 (a_inb_vp g43) ?_
                refine bX11_summedUp_400 ?_
                cases h
                exact kc rfl
    · refine bX11_summedUp_51 ⟨(a_inb_vp g4_0), (a_inb_vp g4_1)⟩ (fun z => absurd z c5) (fun _ => ?_)
      refine a_ite h (fun c44 h => ?_) (fun c44 h => ?_)
      · refine bX11_summedUp_87 (fun z => absurd c44 z) (fun _ => ?_)
        refine bX11_summedUp_98 ?_
        obtain ⟨g45, h⟩ := a_cond h
        refine bX11_summedUp_112 (a_inb_vp g45) ?_
        refine bX11_summedUp_400 ?_
        cases h
        exact kc rfl
      · refine bX11_summedUp_87 (fun _ => ?_) (fun z => absurd z c44)
        obtain ⟨g46, h⟩ := a_cond h
        refine bX11_summedUp_104 (a_inb_vp g46) ?_
        obtain ⟨g47, h⟩ := a_cond h
        refine bX11_summedUp_112 (a_inb_vp g47) ?_
        refine bX11_summedUp_400 ?_
        cases h
        exact kc rfl

def sX11_write_0 (d : aI) (e : aJ) (x1 : Int32) (x2 : Int32) (x3 : Int32) : Option (Nat × aL × aI × aJ) := (if (d 108 23) = 0 then (some (100000, [], d, e)) else (bif ((a_inb (nI 11) 1961)) then (if (d 109 11) = (nI 25) then (some (23, [some (.ref 108), some (.int x1), some (.int x2), some (.int x3), some (.int (nI 1))], d, e)) else (bif ((a_inb (nI 11) 1961) && (a_inb (nI 9) 1961) && (a_inb ((nI 1936) + (d 109 11)) 1961) && (a_inb (nI 11) 1961) && (a_inb (nI 11) 1961)) then (some (100000, [], (uI (uI d 109 (((nI 1936) + (d 109 11))).toNatClampNeg (((((((d 109 9) * (nI 6)) + x1) * (nI 6)) + x2) * (nI 3)) + x3)) 109 11 (((uI d 109 (((nI 1936) + (d 109 11))).toNatClampNeg (((((((d 109 9) * (nI 6)) + x1) * (nI 6)) + x2) * (nI 3)) + x3)) 109 11) + (nI 1))), e)) else none)) else none))
theorem tX11_write_0 {Γ : aG × Launch} {dp : Nat} {d dF : aI} {e eF : aJ} {x1 : Int32} {x2 : Int32} {x3 : Int32} {r : Option Value} {p : Nat × aL × aI × aJ} (h : sX11_write_0 d e x1 x2 x3 = some p) (kc : Nat.beq p.1 100000 = false → Rn Γ (dp + 0) mX11_write p.1 p.2.1 [] p.2.2.1 p.2.2.2 r dF eF) (kr : p.1 = 100000 → r = a_rt p.2.1 ∧ dF = p.2.2.1 ∧ eF = p.2.2.2) : Rn Γ (dp + 0) mX11_write 0 [some (.ref 108), some (.int x1), some (.int x2), some (.int x3), none] [] d e r dF eF := by
  unfold sX11_write_0 at h
  refine a_ite h (fun c1 h => ?_) (fun c1 h => ?_)
  · refine bX11_write_0 (fun z => absurd c1 z) (fun _ => ?_)
    cases h
    obtain ⟨k1, k2, k3⟩ := kr rfl
    exact bX11_write_7 k1 k2 k3
  · refine bX11_write_0 (fun _ => ?_) (fun z => absurd z c1)
    obtain ⟨g2, h⟩ := a_cond h
    refine a_ite h (fun c3 h => ?_) (fun c3 h => ?_)
    · refine bX11_write_8 (a_inb_vp g2) (fun z => absurd c3 z) (fun _ => ?_)
      refine bX11_write_20 ?_
      cases h
      exact kc rfl
    · refine bX11_write_8 (a_inb_vp g2) (fun _ => ?_) (fun z => absurd z c3)
      obtain ⟨g4, h⟩ := a_cond h
      obtain ⟨g4x4, g4_4⟩ := a_and g4
      obtain ⟨g4x3, g4_3⟩ := a_and g4x4
      obtain ⟨g4x2, g4_2⟩ := a_and g4x3
      obtain ⟨g4x1, g4_1⟩ := a_and g4x2
      have g4_0 := g4x1
      cases h
      obtain ⟨k1, k2, k3⟩ := kr rfl
      exact bX11_write_71 ⟨(a_inb_vp g4_0), (a_inb_vp g4_1), (a_inb_vp g4_2), (a_inb_vp g4_3), (a_inb_vp g4_4)⟩ k1 k2 k3

def sX11_write_23 (d : aI) (e : aJ) (x1 : Int32) (x2 : Int32) (x3 : Int32) (x4 : Int32) : Option (Nat × aL × aI × aJ) := (if (nI 25) ≤ x4 then (bif ((a_inb (nI 11) 1961) && (a_inb (nI 11) 1961)) then (bif ((a_inb (nI 11) 1961) && (a_inb (nI 9) 1961) && (a_inb ((nI 1936) + ((uI d 109 11 ((d 109 11) - (nI 1))) 109 11)) 1961) && (a_inb (nI 11) 1961) && (a_inb (nI 11) 1961)) then (some (100000, [], (uI (uI (uI d 109 11 ((d 109 11) - (nI 1))) 109 (((nI 1936) + ((uI d 109 11 ((d 109 11) - (nI 1))) 109 11))).toNatClampNeg ((((((((uI d 109 11 ((d 109 11) - (nI 1))) 109 9) * (nI 6)) + x1) * (nI 6)) + x2) * (nI 3)) + x3)) 109 11 (((uI (uI d 109 11 ((d 109 11) - (nI 1))) 109 (((nI 1936) + ((uI d 109 11 ((d 109 11) - (nI 1))) 109 11))).toNatClampNeg ((((((((uI d 109 11 ((d 109 11) - (nI 1))) 109 9) * (nI 6)) + x1) * (nI 6)) + x2) * (nI 3)) + x3)) 109 11) + (nI 1))), e)) else none) else none) else (bif ((a_inb ((nI 1936) + x4) 1961) && (a_inb (((nI 1936) + x4) - (nI 1)) 1961)) then (some (23, [some (.ref 108), some (.int x1), some (.int x2), some (.int x3), some (.int (x4 + (nI 1)))], (uI d 109 ((((nI 1936) + x4) - (nI 1))).toNatClampNeg (d 109 (((nI 1936) + x4)).toNatClampNeg)), e)) else none))
theorem tX11_write_23 {Γ : aG × Launch} {dp : Nat} {d dF : aI} {e eF : aJ} {x1 : Int32} {x2 : Int32} {x3 : Int32} {x4 : Int32} {r : Option Value} {p : Nat × aL × aI × aJ} (h : sX11_write_23 d e x1 x2 x3 x4 = some p) (kc : Nat.beq p.1 100000 = false → Rn Γ (dp + 0) mX11_write p.1 p.2.1 [] p.2.2.1 p.2.2.2 r dF eF) (kr : p.1 = 100000 → r = a_rt p.2.1 ∧ dF = p.2.2.1 ∧ eF = p.2.2.2) : Rn Γ (dp + 0) mX11_write 23 [some (.ref 108), some (.int x1), some (.int x2), some (.int x3), some (.int x4)] [] d e r dF eF := by
  unfold sX11_write_23 at h
  refine a_ite h (fun c1 h => ?_) (fun c1 h => ?_)
  · refine bX11_write_23 (fun _ => ?_) (fun z => absurd c1 z)
    obtain ⟨g2, h⟩ := a_cond h
    obtain ⟨g2x1, g2_1⟩ := a_and g2
    have g2_0 := g2x1
    refine bX11_write_60 ⟨(a_inb_vp g2_0), (a_inb_vp g2_1)⟩ ?_
    obtain ⟨g3, h⟩ := a_cond h
    obtain ⟨g3x4, g3_4⟩ := a_and g3
    obtain ⟨g3x3, g3_3⟩ := a_and g3x4
    obtain ⟨g3x2, g3_2⟩ := a_and g3x3
    obtain ⟨g3x1, g3_1⟩ := a_and g3x2
    have g3_0 := g3x1
    cases h
    obtain ⟨k1, k2, k3⟩ := kr rfl
    exact bX11_write_71 ⟨(a_inb_vp g3_0), (a_inb_vp g3_1), (a_inb_vp g3_2), (a_inb_vp g3_3), (a_inb_vp g3_4)⟩ k1 k2 k3
  · refine bX11_write_23 (fun z => absurd z c1) (fun _ => ?_)
    obtain ⟨g4, h⟩ := a_cond h
    obtain ⟨g4x1, g4_1⟩ := a_and g4
    have g4_0 := g4x1
    refine bX11_write_30 ⟨(a_inb_vp g4_0), (a_inb_vp g4_1)⟩ ?_
    cases h
    exact kc rfl

def sX11_keep_0 (d : aI) (e : aJ)  : Option (Nat × aL × aI × aJ) := (bif ((a_inb (nI 4) 1961)) then (if (d 109 4) = (nI 30) then (some (13, [some (.ref 108), some (.int (nI 0)), none], d, e)) else (bif ((a_inb (nI 4) 1961) && (a_inb (nI 0) 1961) && (a_inb ((nI 136) + ((nI 60) * (d 109 4))) 1961) && (a_inb (nI 1) 1961) && (a_inb (((nI 136) + ((nI 60) * (d 109 4))) + (nI 1)) 1961)) then (some (98, [some (.ref 108), some (.int ((nI 136) + ((nI 60) * (d 109 4)))), some (.int (nI 0))], (uI (uI d 109 (((nI 136) + ((nI 60) * (d 109 4)))).toNatClampNeg (d 109 0)) 109 ((((nI 136) + ((nI 60) * (d 109 4))) + (nI 1))).toNatClampNeg ((uI d 109 (((nI 136) + ((nI 60) * (d 109 4)))).toNatClampNeg (d 109 0)) 109 1)), e)) else none)) else none)
theorem tX11_keep_0 {Γ : aG × Launch} {dp : Nat} {d dF : aI} {e eF : aJ}  {r : Option Value} {p : Nat × aL × aI × aJ} (h : sX11_keep_0 d e  = some p) (kc : Nat.beq p.1 100000 = false → Rn Γ (dp + 0) mX11_keep p.1 p.2.1 [] p.2.2.1 p.2.2.2 r dF eF) (kr : p.1 = 100000 → r = a_rt p.2.1 ∧ dF = p.2.2.1 ∧ eF = p.2.2.2) : Rn Γ (dp + 0) mX11_keep 0 [some (.ref 108), none, none] [] d e r dF eF := by
  unfold sX11_keep_0 at h
  obtain ⟨g1, h⟩ := a_cond h
  refine a_ite h (fun c2 h => ?_) (fun c2 h => ?_)
  · refine bX11_keep_0 (a_inb_vp g1) (fun z => absurd c2 z) (fun _ => ?_)
    refine bX11_keep_11 ?_
    cases h
    exact kc rfl
  · refine bX11_keep_0 (a_inb_vp g1) (fun _ => ?_) (fun z => absurd z c2)
    obtain ⟨g3, h⟩ := a_cond h
    obtain ⟨g3x4, g3_4⟩ := a_and g3
    obtain ⟨g3x3, g3_3⟩ := a_and g3x4
    obtain ⟨g3x2, g3_2⟩ := a_and g3x3
    obtain ⟨g3x1, g3_1⟩ := a_and g3x2
    have g3_0 := g3x1
    refine bX11_keep_56 ⟨(a_inb_vp g3_0), (a_inb_vp g3_1), (a_inb_vp g3_2), (a_inb_vp g3_3), (a_inb_vp g3_4)⟩ ?_
    cases h
    exact kc rfl

def sX11_keep_13 (d : aI) (e : aJ) (x1 : Int32) (v2 : Option Value) : Option (Nat × aL × aI × aJ) := (if (nI 1740) ≤ x1 then (bif ((a_inb (nI 4) 1961) && (a_inb (nI 4) 1961)) then (bif ((a_inb (nI 4) 1961) && (a_inb (nI 0) 1961) && (a_inb ((nI 136) + ((nI 60) * ((uI d 109 4 ((d 109 4) - (nI 1))) 109 4))) 1961) && (a_inb (nI 1) 1961) && (a_inb (((nI 136) + ((nI 60) * ((uI d 109 4 ((d 109 4) - (nI 1))) 109 4))) + (nI 1)) 1961)) then (some (98, [some (.ref 108), some (.int ((nI 136) + ((nI 60) * ((uI d 109 4 ((d 109 4) - (nI 1))) 109 4)))), some (.int (nI 0))], (uI (uI (uI d 109 4 ((d 109 4) - (nI 1))) 109 (((nI 136) + ((nI 60) * ((uI d 109 4 ((d 109 4) - (nI 1))) 109 4)))).toNatClampNeg ((uI d 109 4 ((d 109 4) - (nI 1))) 109 0)) 109 ((((nI 136) + ((nI 60) * ((uI d 109 4 ((d 109 4) - (nI 1))) 109 4))) + (nI 1))).toNatClampNeg ((uI (uI d 109 4 ((d 109 4) - (nI 1))) 109 (((nI 136) + ((nI 60) * ((uI d 109 4 ((d 109 4) - (nI 1))) 109 4)))).toNatClampNeg ((uI d 109 4 ((d 109 4) - (nI 1))) 109 0)) 109 1)), e)) else none) else none) else (bif ((a_inb ((nI 196) + x1) 1961) && (a_inb ((nI 136) + x1) 1961)) then (some (13, [some (.ref 108), some (.int (x1 + (nI 1))), v2], (uI d 109 (((nI 136) + x1)).toNatClampNeg (d 109 (((nI 196) + x1)).toNatClampNeg)), e)) else none))
theorem tX11_keep_13 {Γ : aG × Launch} {dp : Nat} {d dF : aI} {e eF : aJ} {x1 : Int32} {v2 : Option Value} {r : Option Value} {p : Nat × aL × aI × aJ} (h : sX11_keep_13 d e x1 v2 = some p) (kc : Nat.beq p.1 100000 = false → Rn Γ (dp + 0) mX11_keep p.1 p.2.1 [] p.2.2.1 p.2.2.2 r dF eF) (kr : p.1 = 100000 → r = a_rt p.2.1 ∧ dF = p.2.2.1 ∧ eF = p.2.2.2) : Rn Γ (dp + 0) mX11_keep 13 [some (.ref 108), some (.int x1), v2] [] d e r dF eF := by
  unfold sX11_keep_13 at h
  refine a_ite h (fun c1 h => ?_) (fun c1 h => ?_)
  · refine bX11_keep_13 (fun _ => ?_) (fun z => absurd c1 z)
    obtain ⟨g2, h⟩ := a_cond h
    obtain ⟨g2x1, g2_1⟩ := a_and g2
    have g2_0 := g2x1
    refine bX11_keep_46 ⟨(a_inb_vp g2_0), (a_inb_vp g2_1)⟩ ?_
    obtain ⟨g3, h⟩ := a_cond h
    obtain ⟨g3x4, g3_4⟩ := a_and g3
    obtain ⟨g3x3, g3_3⟩ := a_and g3x4
    obtain ⟨g3x2, g3_2⟩ := a_and g3x3
    obtain ⟨g3x1, g3_1⟩ := a_and g3x2
    have g3_0 := g3x1
    refine bX11_keep_56 ⟨(a_inb_vp g3_0), (a_inb_vp g3_1), (a_inb_vp g3_2), (a_inb_vp g3_3), (a_inb_vp g3_4)⟩ ?_
    cases h
    exact kc rfl
  · refine bX11_keep_13 (fun z => absurd z c1) (fun _ => ?_)
    obtain ⟨g4, h⟩ := a_cond h
    obtain ⟨g4x1, g4_1⟩ := a_and g4
    have g4_0 := g4x1
    refine bX11_keep_20 ⟨(a_inb_vp g4_0), (a_inb_vp g4_1)⟩ ?_
    cases h
    exact kc rfl

def sX11_keep_98 (d : aI) (e : aJ) (x1 : Int32) (x2 : Int32) : Option (Nat × aL × aI × aJ) := (if (nI 33) ≤ x2 then (some (131, [some (.ref 108), some (.int x1), some (.int (nI 0))], d, e)) else (bif ((a_inb ((nI 9) + x2) 1961) && (a_inb ((x1 + (nI 2)) + x2) 1961)) then (some (98, [some (.ref 108), some (.int x1), some (.int (x2 + (nI 1)))], (uI d 109 (((x1 + (nI 2)) + x2)).toNatClampNeg (d 109 (((nI 9) + x2)).toNatClampNeg)), e)) else none))
theorem tX11_keep_98 {Γ : aG × Launch} {dp : Nat} {d dF : aI} {e eF : aJ} {x1 : Int32} {x2 : Int32} {r : Option Value} {p : Nat × aL × aI × aJ} (h : sX11_keep_98 d e x1 x2 = some p) (kc : Nat.beq p.1 100000 = false → Rn Γ (dp + 0) mX11_keep p.1 p.2.1 [] p.2.2.1 p.2.2.2 r dF eF) (kr : p.1 = 100000 → r = a_rt p.2.1 ∧ dF = p.2.2.1 ∧ eF = p.2.2.2) : Rn Γ (dp + 0) mX11_keep 98 [some (.ref 108), some (.int x1), some (.int x2)] [] d e r dF eF := by
  unfold sX11_keep_98 at h
  refine a_ite h (fun c1 h => ?_) (fun c1 h => ?_)
  · refine bX11_keep_98 (fun _ => ?_) (fun z => absurd c1 z)
    refine bX11_keep_129 ?_
    cases h
    exact kc rfl
  · refine bX11_keep_98 (fun z => absurd z c1) (fun _ => ?_)
    obtain ⟨g2, h⟩ := a_cond h
    obtain ⟨g2x1, g2_1⟩ := a_and g2
    have g2_0 := g2x1
    refine bX11_keep_104 ⟨(a_inb_vp g2_0), (a_inb_vp g2_1)⟩ ?_
    cases h
    exact kc rfl

def sX11_keep_131 (d : aI) (e : aJ) (x1 : Int32) (x2 : Int32) : Option (Nat × aL × aI × aJ) := (if (nI 25) ≤ x2 then (bif ((a_inb (nI 4) 1961) && (a_inb (nI 4) 1961)) then (some (100000, [], (uI d 109 4 ((d 109 4) + (nI 1))), e)) else none) else (bif ((a_inb ((nI 1936) + x2) 1961) && (a_inb (((x1 + (nI 2)) + (nI 33)) + x2) 1961)) then (some (131, [some (.ref 108), some (.int x1), some (.int (x2 + (nI 1)))], (uI d 109 ((((x1 + (nI 2)) + (nI 33)) + x2)).toNatClampNeg (d 109 (((nI 1936) + x2)).toNatClampNeg)), e)) else none))
theorem tX11_keep_131 {Γ : aG × Launch} {dp : Nat} {d dF : aI} {e eF : aJ} {x1 : Int32} {x2 : Int32} {r : Option Value} {p : Nat × aL × aI × aJ} (h : sX11_keep_131 d e x1 x2 = some p) (kc : Nat.beq p.1 100000 = false → Rn Γ (dp + 0) mX11_keep p.1 p.2.1 [] p.2.2.1 p.2.2.2 r dF eF) (kr : p.1 = 100000 → r = a_rt p.2.1 ∧ dF = p.2.2.1 ∧ eF = p.2.2.2) : Rn Γ (dp + 0) mX11_keep 131 [some (.ref 108), some (.int x1), some (.int x2)] [] d e r dF eF := by
  unfold sX11_keep_131 at h
  refine a_ite h (fun c1 h => ?_) (fun c1 h => ?_)
  · refine bX11_keep_131 (fun _ => ?_) (fun z => absurd c1 z)
    obtain ⟨g2, h⟩ := a_cond h
    obtain ⟨g2x1, g2_1⟩ := a_and g2
    have g2_0 := g2x1
    cases h
    obtain ⟨k1, k2, k3⟩ := kr rfl
    exact bX11_keep_166 ⟨(a_inb_vp g2_0), (a_inb_vp g2_1)⟩ k1 k2 k3
  · refine bX11_keep_131 (fun z => absurd z c1) (fun _ => ?_)
    obtain ⟨g3, h⟩ := a_cond h
    obtain ⟨g3x1, g3_1⟩ := a_and g3
    have g3_0 := g3x1
    refine bX11_keep_137 ⟨(a_inb_vp g3_0), (a_inb_vp g3_1)⟩ ?_
    cases h
    exact kc rfl

def sX11_undo_0 (d : aI) (e : aJ)  : Option (Nat × aL × aI × aJ) := (bif ((a_inb (nI 4) 1961)) then (if (d 109 4) = 0 then (some (100000, [some (.int (-(nI 1)))], d, e)) else (bif ((a_inb (nI 4) 1961) && (a_inb (nI 4) 1961) && (a_inb (nI 4) 1961)) then (some (37, [some (.ref 108), some (.int ((nI 136) + ((nI 60) * ((d 109 4) - (nI 1))))), some (.int (nI 0))], (uI d 109 4 ((d 109 4) - (nI 1))), e)) else none)) else none)
theorem tX11_undo_0 {Γ : aG × Launch} {dp : Nat} {d dF : aI} {e eF : aJ}  {r : Option Value} {p : Nat × aL × aI × aJ} (h : sX11_undo_0 d e  = some p) (kc : Nat.beq p.1 100000 = false → Rn Γ (dp + 2) mX11_undo p.1 p.2.1 [] p.2.2.1 p.2.2.2 r dF eF) (kr : p.1 = 100000 → r = a_rt p.2.1 ∧ dF = p.2.2.1 ∧ eF = p.2.2.2) : Rn Γ (dp + 2) mX11_undo 0 [some (.ref 108), none, none] [] d e r dF eF := by
  unfold sX11_undo_0 at h
  obtain ⟨g1, h⟩ := a_cond h
  refine a_ite h (fun c2 h => ?_) (fun c2 h => ?_)
  · refine bX11_undo_0 (a_inb_vp g1) (fun z => absurd c2 z) (fun _ => ?_)
    cases h
    obtain ⟨k1, k2, k3⟩ := kr rfl
    exact bX11_undo_9 k1 k2 k3
  · refine bX11_undo_0 (a_inb_vp g1) (fun _ => ?_) (fun z => absurd z c2)
    obtain ⟨g3, h⟩ := a_cond h
    obtain ⟨g3x2, g3_2⟩ := a_and g3
    obtain ⟨g3x1, g3_1⟩ := a_and g3x2
    have g3_0 := g3x1
    refine bX11_undo_11 ⟨(a_inb_vp g3_0), (a_inb_vp g3_1), (a_inb_vp g3_2)⟩ ?_
    cases h
    exact kc rfl

def sX11_undo_37 (d : aI) (e : aJ) (x1 : Int32) (x2 : Int32) : Option (Nat × aL × aI × aJ) := (if (nI 33) ≤ x2 then (bif ((a_inb x1 1961)) then (some (75, [some (.ref 108), some (.int x1), some (.int (d 109 (x1).toNatClampNeg))], d, e)) else none) else (bif ((a_inb ((x1 + (nI 2)) + x2) 1961) && (a_inb ((nI 9) + x2) 1961)) then (some (37, [some (.ref 108), some (.int x1), some (.int (x2 + (nI 1)))], (uI d 109 (((nI 9) + x2)).toNatClampNeg (d 109 (((x1 + (nI 2)) + x2)).toNatClampNeg)), e)) else none))
theorem tX11_undo_37 {Γ : aG × Launch} {dp : Nat} {d dF : aI} {e eF : aJ} {x1 : Int32} {x2 : Int32} {r : Option Value} {p : Nat × aL × aI × aJ} (h : sX11_undo_37 d e x1 x2 = some p) (kc : Nat.beq p.1 100000 = false → Rn Γ (dp + 2) mX11_undo p.1 p.2.1 [] p.2.2.1 p.2.2.2 r dF eF) (kr : p.1 = 100000 → r = a_rt p.2.1 ∧ dF = p.2.2.1 ∧ eF = p.2.2.2) : Rn Γ (dp + 2) mX11_undo 37 [some (.ref 108), some (.int x1), some (.int x2)] [] d e r dF eF := by
  unfold sX11_undo_37 at h
  refine a_ite h (fun c1 h => ?_) (fun c1 h => ?_)
  · refine bX11_undo_37 (fun _ => ?_) (fun z => absurd c1 z)
    obtain ⟨g2, h⟩ := a_cond h
    refine bX11_undo_68 (a_inb_vp g2) ?_
    cases h
    exact kc rfl
  · refine bX11_undo_37 (fun z => absurd z c1) (fun _ => ?_)
    obtain ⟨g3, h⟩ := a_cond h
    obtain ⟨g3x1, g3_1⟩ := a_and g3
    have g3_0 := g3x1
    refine bX11_undo_43 ⟨(a_inb_vp g3_0), (a_inb_vp g3_1)⟩ ?_
    cases h
    exact kc rfl

def sX11_undo_75 (d : aI) (e : aJ) (x1 : Int32) (x2 : Int32) : Option (Nat × aL × aI × aJ) := (bif ((a_inb (nI 0) 1961)) then (if (d 109 0) ≤ x2 then (bif ((a_inb (x1 + (nI 1)) 1961)) then (some (105, [some (.ref 108), some (.int x1), some (.int (d 109 ((x1 + (nI 1))).toNatClampNeg))], d, e)) else none) else ((FX11_beginHouse d e x2).bind fun q4 => (some (75, [some (.ref 108), some (.int x1), some (.int (x2 + (nI 1)))], q4.2.1, q4.2.2)))) else none)
theorem tX11_undo_75 {Γ : aG × Launch} {dp : Nat} {d dF : aI} {e eF : aJ} {x1 : Int32} {x2 : Int32} {r : Option Value} {p : Nat × aL × aI × aJ} (h : sX11_undo_75 d e x1 x2 = some p) (kc : Nat.beq p.1 100000 = false → Rn Γ (dp + 2) mX11_undo p.1 p.2.1 [] p.2.2.1 p.2.2.2 r dF eF) (kr : p.1 = 100000 → r = a_rt p.2.1 ∧ dF = p.2.2.1 ∧ eF = p.2.2.2) : Rn Γ (dp + 2) mX11_undo 75 [some (.ref 108), some (.int x1), some (.int x2)] [] d e r dF eF := by
  unfold sX11_undo_75 at h
  obtain ⟨g1, h⟩ := a_cond h
  refine a_ite h (fun c2 h => ?_) (fun c2 h => ?_)
  · refine bX11_undo_75 (a_inb_vp g1) (fun _ => ?_) (fun z => absurd c2 z)
    obtain ⟨g3, h⟩ := a_cond h
    refine bX11_undo_96 (a_inb_vp g3) ?_
    cases h
    exact kc rfl
  · refine bX11_undo_75 (a_inb_vp g1) (fun z => absurd z c2) (fun _ => ?_)
    obtain ⟨q4, hq4, h⟩ := Option.bind_eq_some_iff.mp h
    refine bX11_undo_85 (evX11_beginHouse hq4) (by omega) ?_
    refine bX11_undo_90 ?_
    cases h
    exact kc rfl

def sX11_undo_105 (d : aI) (e : aJ) (x1 : Int32) (x2 : Int32) : Option (Nat × aL × aI × aJ) := (bif ((a_inb (nI 1) 1961)) then (if (d 109 1) ≤ x2 then (some (128, [some (.ref 108), some (.int x1), some (.int (nI 0))], d, e)) else ((FX11_beginCat d e x2).bind fun q3 => (some (105, [some (.ref 108), some (.int x1), some (.int (x2 + (nI 1)))], q3.2.1, q3.2.2)))) else none)
theorem tX11_undo_105 {Γ : aG × Launch} {dp : Nat} {d dF : aI} {e eF : aJ} {x1 : Int32} {x2 : Int32} {r : Option Value} {p : Nat × aL × aI × aJ} (h : sX11_undo_105 d e x1 x2 = some p) (kc : Nat.beq p.1 100000 = false → Rn Γ (dp + 2) mX11_undo p.1 p.2.1 [] p.2.2.1 p.2.2.2 r dF eF) (kr : p.1 = 100000 → r = a_rt p.2.1 ∧ dF = p.2.2.1 ∧ eF = p.2.2.2) : Rn Γ (dp + 2) mX11_undo 105 [some (.ref 108), some (.int x1), some (.int x2)] [] d e r dF eF := by
  unfold sX11_undo_105 at h
  obtain ⟨g1, h⟩ := a_cond h
  refine a_ite h (fun c2 h => ?_) (fun c2 h => ?_)
  · refine bX11_undo_105 (a_inb_vp g1) (fun _ => ?_) (fun z => absurd c2 z)
    refine bX11_undo_126 ?_
    cases h
    exact kc rfl
  · refine bX11_undo_105 (a_inb_vp g1) (fun z => absurd z c2) (fun _ => ?_)
    obtain ⟨q3, hq3, h⟩ := Option.bind_eq_some_iff.mp h
    refine bX11_undo_115 (evX11_beginCat hq3) (by omega) ?_
    refine bX11_undo_120 ?_
    cases h
    exact kc rfl

def sX11_undo_128 (d : aI) (e : aJ) (x1 : Int32) (x2 : Int32) : Option (Nat × aL × aI × aJ) := (if (nI 25) ≤ x2 then (bif ((a_inb (nI 4) 1961)) then (some (100000, [some (.int (d 109 4))], d, e)) else none) else (bif ((a_inb (((x1 + (nI 2)) + (nI 33)) + x2) 1961) && (a_inb ((nI 1936) + x2) 1961)) then (some (128, [some (.ref 108), some (.int x1), some (.int (x2 + (nI 1)))], (uI d 109 (((nI 1936) + x2)).toNatClampNeg (d 109 ((((x1 + (nI 2)) + (nI 33)) + x2)).toNatClampNeg)), e)) else none))
theorem tX11_undo_128 {Γ : aG × Launch} {dp : Nat} {d dF : aI} {e eF : aJ} {x1 : Int32} {x2 : Int32} {r : Option Value} {p : Nat × aL × aI × aJ} (h : sX11_undo_128 d e x1 x2 = some p) (kc : Nat.beq p.1 100000 = false → Rn Γ (dp + 2) mX11_undo p.1 p.2.1 [] p.2.2.1 p.2.2.2 r dF eF) (kr : p.1 = 100000 → r = a_rt p.2.1 ∧ dF = p.2.2.1 ∧ eF = p.2.2.2) : Rn Γ (dp + 2) mX11_undo 128 [some (.ref 108), some (.int x1), some (.int x2)] [] d e r dF eF := by
  unfold sX11_undo_128 at h
  refine a_ite h (fun c1 h => ?_) (fun c1 h => ?_)
  · refine bX11_undo_128 (fun _ => ?_) (fun z => absurd c1 z)
    obtain ⟨g2, h⟩ := a_cond h
    cases h
    obtain ⟨k1, k2, k3⟩ := kr rfl
    exact bX11_undo_163 (a_inb_vp g2) k1 k2 k3
  · refine bX11_undo_128 (fun z => absurd z c1) (fun _ => ?_)
    obtain ⟨g3, h⟩ := a_cond h
    obtain ⟨g3x1, g3_1⟩ := a_and g3
    have g3_0 := g3x1
    refine bX11_undo_134 ⟨(a_inb_vp g3_0), (a_inb_vp g3_1)⟩ ?_
    cases h
    exact kc rfl

def sX11_allTaken_0 (d : aI) (e : aJ)  : Option (Nat × aL × aI × aJ) := (some (4, [some (.ref 108), some (.int (nI 0)), some (.int (nI 0))], d, e))
theorem tX11_allTaken_0 {Γ : aG × Launch} {dp : Nat} {d dF : aI} {e eF : aJ}  {r : Option Value} {p : Nat × aL × aI × aJ} (h : sX11_allTaken_0 d e  = some p) (kc : Nat.beq p.1 100000 = false → Rn Γ (dp + 1) mX11_allTaken p.1 p.2.1 [] p.2.2.1 p.2.2.2 r dF eF) (kr : p.1 = 100000 → r = a_rt p.2.1 ∧ dF = p.2.2.1 ∧ eF = p.2.2.2) : Rn Γ (dp + 1) mX11_allTaken 0 [some (.ref 108), none, none] [] d e r dF eF := by
  unfold sX11_allTaken_0 at h
  refine bX11_allTaken_0 ?_
  cases h
  exact kc rfl

def sX11_allTaken_4 (d : aI) (e : aJ) (x1 : Int32) (x2 : Int32) : Option (Nat × aL × aI × aJ) := (bif ((a_inb (nI 1) 1961)) then (if (d 109 1) ≤ x2 then (some (100000, [some (.int x1)], d, e)) else ((FX11_get d e x2 (nI 2)).bind fun q3 => (some (4, [some (.ref 108), some (.int (x1 + q3.1)), some (.int (x2 + (nI 1)))], q3.2.1, q3.2.2)))) else none)
theorem tX11_allTaken_4 {Γ : aG × Launch} {dp : Nat} {d dF : aI} {e eF : aJ} {x1 : Int32} {x2 : Int32} {r : Option Value} {p : Nat × aL × aI × aJ} (h : sX11_allTaken_4 d e x1 x2 = some p) (kc : Nat.beq p.1 100000 = false → Rn Γ (dp + 1) mX11_allTaken p.1 p.2.1 [] p.2.2.1 p.2.2.2 r dF eF) (kr : p.1 = 100000 → r = a_rt p.2.1 ∧ dF = p.2.2.1 ∧ eF = p.2.2.2) : Rn Γ (dp + 1) mX11_allTaken 4 [some (.ref 108), some (.int x1), some (.int x2)] [] d e r dF eF := by
  unfold sX11_allTaken_4 at h
  obtain ⟨g1, h⟩ := a_cond h
  refine a_ite h (fun c2 h => ?_) (fun c2 h => ?_)
  · refine bX11_allTaken_4 (a_inb_vp g1) (fun _ => ?_) (fun z => absurd c2 z)
    cases h
    obtain ⟨k1, k2, k3⟩ := kr rfl
    exact bX11_allTaken_29 k1 k2 k3
  · refine bX11_allTaken_4 (a_inb_vp g1) (fun z => absurd z c2) (fun _ => ?_)
    obtain ⟨q3, hq3, h⟩ := Option.bind_eq_some_iff.mp h
    refine bX11_allTaken_14 (evX11_get hq3) (by omega) ?_
    refine bX11_allTaken_21 ?_
    cases h
    exact kc rfl

def sX11_ledger_0 (d : aI) (e : aJ) (x1 : Int32) : Option (Nat × aL × aI × aJ) := (if x1 = (-(nI 1)) then (some (20, [some (.ref 108), some (.int x1), some (.int (nI 0)), some (.int (nI 0))], d, e)) else ((FX11_isCat d e x1).bind fun q2 => (if q2.1 = 0 then (some (100000, [some (.int (-(nI 2)))], q2.2.1, q2.2.2)) else (some (20, [some (.ref 108), some (.int x1), some (.int (nI 0)), some (.int (nI 0))], q2.2.1, q2.2.2)))))
theorem tX11_ledger_0 {Γ : aG × Launch} {dp : Nat} {d dF : aI} {e eF : aJ} {x1 : Int32} {r : Option Value} {p : Nat × aL × aI × aJ} (h : sX11_ledger_0 d e x1 = some p) (kc : Nat.beq p.1 100000 = false → Rn Γ (dp + 2) mX11_ledger p.1 p.2.1 [] p.2.2.1 p.2.2.2 r dF eF) (kr : p.1 = 100000 → r = a_rt p.2.1 ∧ dF = p.2.2.1 ∧ eF = p.2.2.2) : Rn Γ (dp + 2) mX11_ledger 0 [some (.ref 108), some (.int x1), none, none] [] d e r dF eF := by
  unfold sX11_ledger_0 at h
  refine a_ite h (fun c1 h => ?_) (fun c1 h => ?_)
  · refine bX11_ledger_0 (fun _ => ?_) (fun z => absurd c1 z)
    refine bX11_ledger_16 ?_
    cases h
    exact kc rfl
  · refine bX11_ledger_0 (fun z => absurd z c1) (fun _ => ?_)
    obtain ⟨q2, hq2, h⟩ := Option.bind_eq_some_iff.mp h
    refine bX11_ledger_5 (evX11_isCat hq2) (by omega) ?_
    refine a_ite h (fun c3 h => ?_) (fun c3 h => ?_)
    · refine bX11_ledger_10 (fun z => absurd c3 z) (fun _ => ?_)
      cases h
      obtain ⟨k1, k2, k3⟩ := kr rfl
      exact bX11_ledger_13 k1 k2 k3
    · refine bX11_ledger_10 (fun _ => ?_) (fun z => absurd z c3)
      refine bX11_ledger_16 ?_
      cases h
      exact kc rfl

def sX11_ledger_20 (d : aI) (e : aJ) (x1 : Int32) (x2 : Int32) (x3 : Int32) : Option (Nat × aL × aI × aJ) := (bif ((a_inb (nI 11) 1961)) then (if (d 109 11) ≤ x3 then (some (100000, [some (.int x2)], d, e)) else (if x1 = (-(nI 1)) then (some (20, [some (.ref 108), some (.int x1), some (.int (x2 + (nI 1))), some (.int (x3 + (nI 1)))], d, e)) else ((FX11_lineOf d e x3 (nI 1)).bind fun q4 => (if q4.1 = x1 then (some (20, [some (.ref 108), some (.int x1), some (.int (x2 + (nI 1))), some (.int (x3 + (nI 1)))], q4.2.1, q4.2.2)) else (some (20, [some (.ref 108), some (.int x1), some (.int (x2 + (nI 0))), some (.int (x3 + (nI 1)))], q4.2.1, q4.2.2)))))) else none)
theorem tX11_ledger_20 {Γ : aG × Launch} {dp : Nat} {d dF : aI} {e eF : aJ} {x1 : Int32} {x2 : Int32} {x3 : Int32} {r : Option Value} {p : Nat × aL × aI × aJ} (h : sX11_ledger_20 d e x1 x2 x3 = some p) (kc : Nat.beq p.1 100000 = false → Rn Γ (dp + 2) mX11_ledger p.1 p.2.1 [] p.2.2.1 p.2.2.2 r dF eF) (kr : p.1 = 100000 → r = a_rt p.2.1 ∧ dF = p.2.2.1 ∧ eF = p.2.2.2) : Rn Γ (dp + 2) mX11_ledger 20 [some (.ref 108), some (.int x1), some (.int x2), some (.int x3)] [] d e r dF eF := by
  unfold sX11_ledger_20 at h
  obtain ⟨g1, h⟩ := a_cond h
  refine a_ite h (fun c2 h => ?_) (fun c2 h => ?_)
  · refine bX11_ledger_20 (a_inb_vp g1) (fun _ => ?_) (fun z => absurd c2 z)
    cases h
    obtain ⟨k1, k2, k3⟩ := kr rfl
    exact bX11_ledger_60 k1 k2 k3
  · refine bX11_ledger_20 (a_inb_vp g1) (fun z => absurd z c2) (fun _ => ?_)
    refine a_ite h (fun c3 h => ?_) (fun c3 h => ?_)
    · refine bX11_ledger_31 (fun _ => ?_) (fun z => absurd c3 z)
      refine bX11_ledger_47 ?_
      refine bX11_ledger_52 ?_
      cases h
      exact kc rfl
    · refine bX11_ledger_31 (fun z => absurd z c3) (fun _ => ?_)
      obtain ⟨q4, hq4, h⟩ := Option.bind_eq_some_iff.mp h
      refine bX11_ledger_37 (evX11_lineOf hq4) (by omega) ?_
      refine a_ite h (fun c5 h => ?_) (fun c5 h => ?_)
      · refine bX11_ledger_43 (fun z => absurd c5 z) (fun _ => ?_)
        refine bX11_ledger_47 ?_
        refine bX11_ledger_52 ?_
        cases h
        exact kc rfl
      · refine bX11_ledger_43 (fun _ => ?_) (fun z => absurd z c5)
        refine bX11_ledger_51 ?_
        refine bX11_ledger_52 ?_
        cases h
        exact kc rfl

def sX11_at_0 (d : aI) (e : aJ) (x1 : Int32) : Option (Nat × aL × aI × aJ) := ((FX11_isPlace d e x1).bind fun q1 => (if q1.1 = 0 then (some (100000, [some (.int (-(nI 1)))], q1.2.1, q1.2.2)) else (some (13, [some (.ref 108), some (.int x1), some (.int (nI 0)), some (.int (nI 0))], q1.2.1, q1.2.2))))
theorem tX11_at_0 {Γ : aG × Launch} {dp : Nat} {d dF : aI} {e eF : aJ} {x1 : Int32} {r : Option Value} {p : Nat × aL × aI × aJ} (h : sX11_at_0 d e x1 = some p) (kc : Nat.beq p.1 100000 = false → Rn Γ (dp + 2) mX11_at p.1 p.2.1 [] p.2.2.1 p.2.2.2 r dF eF) (kr : p.1 = 100000 → r = a_rt p.2.1 ∧ dF = p.2.2.1 ∧ eF = p.2.2.2) : Rn Γ (dp + 2) mX11_at 0 [some (.ref 108), some (.int x1), none, none] [] d e r dF eF := by
  unfold sX11_at_0 at h
  obtain ⟨q1, hq1, h⟩ := Option.bind_eq_some_iff.mp h
  refine bX11_at_0 (evX11_isPlace hq1) (by omega) ?_
  refine a_ite h (fun c2 h => ?_) (fun c2 h => ?_)
  · refine bX11_at_4 (fun z => absurd c2 z) (fun _ => ?_)
    cases h
    obtain ⟨k1, k2, k3⟩ := kr rfl
    exact bX11_at_7 k1 k2 k3
  · refine bX11_at_4 (fun _ => ?_) (fun z => absurd z c2)
    refine bX11_at_9 ?_
    cases h
    exact kc rfl

def sX11_at_13 (d : aI) (e : aJ) (x1 : Int32) (x2 : Int32) (x3 : Int32) : Option (Nat × aL × aI × aJ) := (bif ((a_inb (nI 1) 1961)) then (if (d 109 1) ≤ x3 then (some (100000, [some (.int x2)], d, e)) else ((FX11_isWithout d e x3).bind fun q3 => (if q3.1 = 0 then (some (13, [some (.ref 108), some (.int x1), some (.int (x2 ||| (nI 0))), some (.int (x3 + (nI 1)))], q3.2.1, q3.2.2)) else ((FX11_get q3.2.1 q3.2.2 x3 (nI 0)).bind fun q5 => (if q5.1 = x1 then (some (13, [some (.ref 108), some (.int x1), some (.int (x2 ||| (a_shl (nI 1) x3))), some (.int (x3 + (nI 1)))], q5.2.1, q5.2.2)) else (some (13, [some (.ref 108), some (.int x1), some (.int (x2 ||| (nI 0))), some (.int (x3 + (nI 1)))], q5.2.1, q5.2.2))))))) else none)
theorem tX11_at_13 {Γ : aG × Launch} {dp : Nat} {d dF : aI} {e eF : aJ} {x1 : Int32} {x2 : Int32} {x3 : Int32} {r : Option Value} {p : Nat × aL × aI × aJ} (h : sX11_at_13 d e x1 x2 x3 = some p) (kc : Nat.beq p.1 100000 = false → Rn Γ (dp + 2) mX11_at p.1 p.2.1 [] p.2.2.1 p.2.2.2 r dF eF) (kr : p.1 = 100000 → r = a_rt p.2.1 ∧ dF = p.2.2.1 ∧ eF = p.2.2.2) : Rn Γ (dp + 2) mX11_at 13 [some (.ref 108), some (.int x1), some (.int x2), some (.int x3)] [] d e r dF eF := by
  unfold sX11_at_13 at h
  obtain ⟨g1, h⟩ := a_cond h
  refine a_ite h (fun c2 h => ?_) (fun c2 h => ?_)
  · refine bX11_at_13 (a_inb_vp g1) (fun _ => ?_) (fun z => absurd c2 z)
    cases h
    obtain ⟨k1, k2, k3⟩ := kr rfl
    exact bX11_at_57 k1 k2 k3
  · refine bX11_at_13 (a_inb_vp g1) (fun z => absurd z c2) (fun _ => ?_)
    obtain ⟨q3, hq3, h⟩ := Option.bind_eq_some_iff.mp h
    refine bX11_at_23 (evX11_isWithout hq3) (by omega) ?_
    refine a_ite h (fun c4 h => ?_) (fun c4 h => ?_)
    · refine bX11_at_29 (fun _ => ?_) (fun z => absurd c4 z)
      refine bX11_at_48 ?_
      refine bX11_at_49 ?_
      cases h
      exact kc rfl
    · refine bX11_at_29 (fun z => absurd z c4) (fun _ => ?_)
      obtain ⟨q5, hq5, h⟩ := Option.bind_eq_some_iff.mp h
      refine bX11_at_32 (evX11_get hq5) (by omega) ?_
      refine a_ite h (fun c6 h => ?_) (fun c6 h => ?_)
      · refine bX11_at_38 (fun z => absurd c6 z) (fun _ => ?_)
        refine bX11_at_42 ?_
        refine bX11_at_49 ?_
        cases h
        exact kc rfl
      · refine bX11_at_38 (fun _ => ?_) (fun z => absurd z c6)
        refine bX11_at_48 ?_
        refine bX11_at_49 ?_
        cases h
        exact kc rfl

def sX11_coldest_0 (d : aI) (e : aJ)  : Option (Nat × aL × aI × aJ) := (some (4, [some (.ref 108), some (.int (-(nI 1))), some (.int (nI 0))], d, e))
theorem tX11_coldest_0 {Γ : aG × Launch} {dp : Nat} {d dF : aI} {e eF : aJ}  {r : Option Value} {p : Nat × aL × aI × aJ} (h : sX11_coldest_0 d e  = some p) (kc : Nat.beq p.1 100000 = false → Rn Γ (dp + 0) mX11_coldest p.1 p.2.1 [] p.2.2.1 p.2.2.2 r dF eF) (kr : p.1 = 100000 → r = a_rt p.2.1 ∧ dF = p.2.2.1 ∧ eF = p.2.2.2) : Rn Γ (dp + 0) mX11_coldest 0 [some (.ref 108), none, none] [] d e r dF eF := by
  unfold sX11_coldest_0 at h
  refine bX11_coldest_0 ?_
  cases h
  exact kc rfl

def sX11_coldest_4 (d : aI) (e : aJ) (x1 : Int32) (x2 : Int32) : Option (Nat × aL × aI × aJ) := (bif ((a_inb (nI 1) 1961)) then (if (d 109 1) ≤ x2 then (some (100000, [some (.int x1)], d, e)) else (if x1 = (-(nI 1)) then (some (4, [some (.ref 108), some (.int x2), some (.int (x2 + (nI 1)))], d, e)) else (bif ((a_inb ((nI 54) + x2) 1961) && (a_inb ((nI 54) + x1) 1961)) then (if (d 109 (((nI 54) + x2)).toNatClampNeg) ≤ (d 109 (((nI 54) + x1)).toNatClampNeg) then (some (4, [some (.ref 108), some (.int x1), some (.int (x2 + (nI 1)))], d, e)) else (some (4, [some (.ref 108), some (.int x2), some (.int (x2 + (nI 1)))], d, e))) else none))) else none)
theorem tX11_coldest_4 {Γ : aG × Launch} {dp : Nat} {d dF : aI} {e eF : aJ} {x1 : Int32} {x2 : Int32} {r : Option Value} {p : Nat × aL × aI × aJ} (h : sX11_coldest_4 d e x1 x2 = some p) (kc : Nat.beq p.1 100000 = false → Rn Γ (dp + 0) mX11_coldest p.1 p.2.1 [] p.2.2.1 p.2.2.2 r dF eF) (kr : p.1 = 100000 → r = a_rt p.2.1 ∧ dF = p.2.2.1 ∧ eF = p.2.2.2) : Rn Γ (dp + 0) mX11_coldest 4 [some (.ref 108), some (.int x1), some (.int x2)] [] d e r dF eF := by
  unfold sX11_coldest_4 at h
  obtain ⟨g1, h⟩ := a_cond h
  refine a_ite h (fun c2 h => ?_) (fun c2 h => ?_)
  · refine bX11_coldest_4 (a_inb_vp g1) (fun _ => ?_) (fun z => absurd c2 z)
    cases h
    obtain ⟨k1, k2, k3⟩ := kr rfl
    exact bX11_coldest_48 k1 k2 k3
  · refine bX11_coldest_4 (a_inb_vp g1) (fun z => absurd z c2) (fun _ => ?_)
    refine a_ite h (fun c3 h => ?_) (fun c3 h => ?_)
    · refine bX11_coldest_14 (fun _ => ?_) (fun z => absurd c3 z)
      refine bX11_coldest_40 ?_
      refine bX11_coldest_42 ?_
      cases h
      exact kc rfl
    · refine bX11_coldest_14 (fun z => absurd z c3) (fun _ => ?_)
      obtain ⟨g4, h⟩ := a_cond h
      obtain ⟨g4x1, g4_1⟩ := a_and g4
      have g4_0 := g4x1
      refine a_ite h (fun c5 h => ?_) (fun c5 h => ?_)
      · refine bX11_coldest_19 ⟨(a_inb_vp g4_0), (a_inb_vp g4_1)⟩ (fun _ => ?_) (fun z => absurd c5 z)
        refine bX11_coldest_42 ?_
        cases h
        exact kc rfl
      · refine bX11_coldest_19 ⟨(a_inb_vp g4_0), (a_inb_vp g4_1)⟩ (fun z => absurd z c5) (fun _ => ?_)
        refine bX11_coldest_40 ?_
        refine bX11_coldest_42 ?_
        cases h
        exact kc rfl

def sX11_dreamless_0 (d : aI) (e : aJ)  : Option (Nat × aL × aI × aJ) := (some (4, [some (.ref 108), some (.int (nI 0)), some (.int (nI 0))], d, e))
theorem tX11_dreamless_0 {Γ : aG × Launch} {dp : Nat} {d dF : aI} {e eF : aJ}  {r : Option Value} {p : Nat × aL × aI × aJ} (h : sX11_dreamless_0 d e  = some p) (kc : Nat.beq p.1 100000 = false → Rn Γ (dp + 1) mX11_dreamless p.1 p.2.1 [] p.2.2.1 p.2.2.2 r dF eF) (kr : p.1 = 100000 → r = a_rt p.2.1 ∧ dF = p.2.2.1 ∧ eF = p.2.2.2) : Rn Γ (dp + 1) mX11_dreamless 0 [some (.ref 108), none, none] [] d e r dF eF := by
  unfold sX11_dreamless_0 at h
  refine bX11_dreamless_0 ?_
  cases h
  exact kc rfl

def sX11_dreamless_4 (d : aI) (e : aJ) (x1 : Int32) (x2 : Int32) : Option (Nat × aL × aI × aJ) := (bif ((a_inb (nI 0) 1961)) then (if (d 109 0) ≤ x2 then (some (100000, [some (.int x1)], d, e)) else ((FX11_getOf d e x2 (nI 0)).bind fun q3 => (if q3.1 = 0 then (some (4, [some (.ref 108), some (.int (x1 ||| (a_shl (nI 1) x2))), some (.int (x2 + (nI 1)))], q3.2.1, q3.2.2)) else (some (4, [some (.ref 108), some (.int (x1 ||| (nI 0))), some (.int (x2 + (nI 1)))], q3.2.1, q3.2.2))))) else none)
theorem tX11_dreamless_4 {Γ : aG × Launch} {dp : Nat} {d dF : aI} {e eF : aJ} {x1 : Int32} {x2 : Int32} {r : Option Value} {p : Nat × aL × aI × aJ} (h : sX11_dreamless_4 d e x1 x2 = some p) (kc : Nat.beq p.1 100000 = false → Rn Γ (dp + 1) mX11_dreamless p.1 p.2.1 [] p.2.2.1 p.2.2.2 r dF eF) (kr : p.1 = 100000 → r = a_rt p.2.1 ∧ dF = p.2.2.1 ∧ eF = p.2.2.2) : Rn Γ (dp + 1) mX11_dreamless 4 [some (.ref 108), some (.int x1), some (.int x2)] [] d e r dF eF := by
  unfold sX11_dreamless_4 at h
  obtain ⟨g1, h⟩ := a_cond h
  refine a_ite h (fun c2 h => ?_) (fun c2 h => ?_)
  · refine bX11_dreamless_4 (a_inb_vp g1) (fun _ => ?_) (fun z => absurd c2 z)
    cases h
    obtain ⟨k1, k2, k3⟩ := kr rfl
    exact bX11_dreamless_39 k1 k2 k3
  · refine bX11_dreamless_4 (a_inb_vp g1) (fun z => absurd z c2) (fun _ => ?_)
    obtain ⟨q3, hq3, h⟩ := Option.bind_eq_some_iff.mp h
    refine bX11_dreamless_14 (evX11_getOf hq3) (by omega) ?_
    refine a_ite h (fun c4 h => ?_) (fun c4 h => ?_)
    · refine bX11_dreamless_21 (fun z => absurd c4 z) (fun _ => ?_)
      refine bX11_dreamless_24 ?_
      refine bX11_dreamless_31 ?_
      cases h
      exact kc rfl
    · refine bX11_dreamless_21 (fun _ => ?_) (fun z => absurd z c4)
      refine bX11_dreamless_30 ?_
      refine bX11_dreamless_31 ?_
      cases h
      exact kc rfl

def sX11_divisor_0 (d : aI) (e : aJ) (y0 : Int64) (y2 : Int64) : Option (Nat × aL × aI × aJ) := (some (6, [some (.long y0), none, some (.long y2), none, some (.long y0), none, some (.long y2), none, none, none], d, e))
theorem tX11_divisor_0 {Γ : aG × Launch} {dp : Nat} {d dF : aI} {e eF : aJ} {y0 : Int64} {y2 : Int64} {r : Option Value} {p : Nat × aL × aI × aJ} (h : sX11_divisor_0 d e y0 y2 = some p) (kc : Nat.beq p.1 100000 = false → Rn Γ (dp + 0) mX11_divisor p.1 p.2.1 [] p.2.2.1 p.2.2.2 r dF eF) (kr : p.1 = 100000 → r = a_rt p.2.1 ∧ dF = p.2.2.1 ∧ eF = p.2.2.2) : Rn Γ (dp + 0) mX11_divisor 0 [some (.long y0), none, some (.long y2), none, none, none, none, none, none, none] [] d e r dF eF := by
  unfold sX11_divisor_0 at h
  refine bX11_divisor_0 ?_
  cases h
  exact kc rfl

def sX11_divisor_6 (d : aI) (e : aJ) (y0 : Int64) (y2 : Int64) (y4 : Int64) (y6 : Int64) (v8 : Option Value) (v9 : Option Value) : Option (Nat × aL × aI × aJ) := (if (lg_cmp y6 (lN 0)) = 0 then (some (100000, [some (.long y4)], d, e)) else (bif ((decide (¬ y6 = 0))) then (some (6, [some (.long y0), none, some (.long y2), none, some (.long y6), none, some (.long (a_jrm y4 y6)), none, some (.long (a_jrm y4 y6)), none], d, e)) else none))
theorem tX11_divisor_6 {Γ : aG × Launch} {dp : Nat} {d dF : aI} {e eF : aJ} {y0 : Int64} {y2 : Int64} {y4 : Int64} {y6 : Int64} {v8 : Option Value} {v9 : Option Value} {r : Option Value} {p : Nat × aL × aI × aJ} (h : sX11_divisor_6 d e y0 y2 y4 y6 v8 v9 = some p) (kc : Nat.beq p.1 100000 = false → Rn Γ (dp + 0) mX11_divisor p.1 p.2.1 [] p.2.2.1 p.2.2.2 r dF eF) (kr : p.1 = 100000 → r = a_rt p.2.1 ∧ dF = p.2.2.1 ∧ eF = p.2.2.2) : Rn Γ (dp + 0) mX11_divisor 6 [some (.long y0), none, some (.long y2), none, some (.long y4), none, some (.long y6), none, v8, v9] [] d e r dF eF := by
  unfold sX11_divisor_6 at h
  refine a_ite h (fun c1 h => ?_) (fun c1 h => ?_)
  · refine bX11_divisor_6 (fun _ => ?_) (fun z => absurd c1 z)
    cases h
    obtain ⟨k1, k2, k3⟩ := kr rfl
    exact bX11_divisor_31 k1 k2 k3
  · refine bX11_divisor_6 (fun z => absurd z c1) (fun _ => ?_)
    obtain ⟨g2, h⟩ := a_cond h
    refine bX11_divisor_13 (of_decide_eq_true g2) ?_
    cases h
    exact kc rfl

def sX11_digitBy_0 (d : aI) (e : aJ) (x0 : Int32) (x1 : Int32) : Option (Nat × aL × aI × aJ) := (some (4, [some (.int x0), some (.int x1), some (.int x0), some (.int (nI 5))], d, e))
theorem tX11_digitBy_0 {Γ : aG × Launch} {dp : Nat} {d dF : aI} {e eF : aJ} {x0 : Int32} {x1 : Int32} {r : Option Value} {p : Nat × aL × aI × aJ} (h : sX11_digitBy_0 d e x0 x1 = some p) (kc : Nat.beq p.1 100000 = false → Rn Γ (dp + 0) mX11_digitBy p.1 p.2.1 [] p.2.2.1 p.2.2.2 r dF eF) (kr : p.1 = 100000 → r = a_rt p.2.1 ∧ dF = p.2.2.1 ∧ eF = p.2.2.2) : Rn Γ (dp + 0) mX11_digitBy 0 [some (.int x0), some (.int x1), none, none] [] d e r dF eF := by
  unfold sX11_digitBy_0 at h
  refine bX11_digitBy_0 ?_
  cases h
  exact kc rfl

def sX11_digitBy_4 (d : aI) (e : aJ) (x0 : Int32) (x1 : Int32) (x2 : Int32) (x3 : Int32) : Option (Nat × aL × aI × aJ) := (if x3 ≤ x1 then (bif ((decide (¬ (nI 7) = 0))) then (some (100000, [some (.int (a_irm x2 (nI 7)))], d, e)) else none) else (bif ((decide (¬ (nI 7) = 0))) then (some (4, [some (.int x0), some (.int x1), some (.int (x2 / (nI 7))), some (.int (x3 + (-(nI 1))))], d, e)) else none))
theorem tX11_digitBy_4 {Γ : aG × Launch} {dp : Nat} {d dF : aI} {e eF : aJ} {x0 : Int32} {x1 : Int32} {x2 : Int32} {x3 : Int32} {r : Option Value} {p : Nat × aL × aI × aJ} (h : sX11_digitBy_4 d e x0 x1 x2 x3 = some p) (kc : Nat.beq p.1 100000 = false → Rn Γ (dp + 0) mX11_digitBy p.1 p.2.1 [] p.2.2.1 p.2.2.2 r dF eF) (kr : p.1 = 100000 → r = a_rt p.2.1 ∧ dF = p.2.2.1 ∧ eF = p.2.2.2) : Rn Γ (dp + 0) mX11_digitBy 4 [some (.int x0), some (.int x1), some (.int x2), some (.int x3)] [] d e r dF eF := by
  unfold sX11_digitBy_4 at h
  refine a_ite h (fun c1 h => ?_) (fun c1 h => ?_)
  · refine bX11_digitBy_4 (fun _ => ?_) (fun z => absurd c1 z)
    obtain ⟨g2, h⟩ := a_cond h
    cases h
    obtain ⟨k1, k2, k3⟩ := kr rfl
    exact bX11_digitBy_20 (of_decide_eq_true g2) k1 k2 k3
  · refine bX11_digitBy_4 (fun z => absurd z c1) (fun _ => ?_)
    obtain ⟨g3, h⟩ := a_cond h
    refine bX11_digitBy_9 (of_decide_eq_true g3) ?_
    cases h
    exact kc rfl

def sX11_orders_0 (d : aI) (e : aJ)  : Option (Nat × aL × aI × aJ) := (some (4, [some (.ref 108), some (.long (lN 1)), none, some (.int (nI 0)), none, none], d, e))
theorem tX11_orders_0 {Γ : aG × Launch} {dp : Nat} {d dF : aI} {e eF : aJ}  {r : Option Value} {p : Nat × aL × aI × aJ} (h : sX11_orders_0 d e  = some p) (kc : Nat.beq p.1 100000 = false → Rn Γ (dp + 0) mX11_orders p.1 p.2.1 [] p.2.2.1 p.2.2.2 r dF eF) (kr : p.1 = 100000 → r = a_rt p.2.1 ∧ dF = p.2.2.1 ∧ eF = p.2.2.2) : Rn Γ (dp + 0) mX11_orders 0 [some (.ref 108), none, none, none, none, none] [] d e r dF eF := by
  unfold sX11_orders_0 at h
  refine bX11_orders_0 ?_
  cases h
  exact kc rfl

def sX11_orders_4 (d : aI) (e : aJ) (y1 : Int64) (x3 : Int32) (v4 : Option Value) (v5 : Option Value) : Option (Nat × aL × aI × aJ) := (bif ((a_inb (nI 1) 1961)) then (if (d 109 1) ≤ x3 then (some (100000, [some (.long y1)], d, e)) else (some (20, [some (.ref 108), some (.long y1), none, some (.int x3), some (.int (nI 0)), some (.int (nI 0))], d, e))) else none)
theorem tX11_orders_4 {Γ : aG × Launch} {dp : Nat} {d dF : aI} {e eF : aJ} {y1 : Int64} {x3 : Int32} {v4 : Option Value} {v5 : Option Value} {r : Option Value} {p : Nat × aL × aI × aJ} (h : sX11_orders_4 d e y1 x3 v4 v5 = some p) (kc : Nat.beq p.1 100000 = false → Rn Γ (dp + 0) mX11_orders p.1 p.2.1 [] p.2.2.1 p.2.2.2 r dF eF) (kr : p.1 = 100000 → r = a_rt p.2.1 ∧ dF = p.2.2.1 ∧ eF = p.2.2.2) : Rn Γ (dp + 0) mX11_orders 4 [some (.ref 108), some (.long y1), none, some (.int x3), v4, v5] [] d e r dF eF := by
  unfold sX11_orders_4 at h
  obtain ⟨g1, h⟩ := a_cond h
  refine a_ite h (fun c2 h => ?_) (fun c2 h => ?_)
  · refine bX11_orders_4 (a_inb_vp g1) (fun _ => ?_) (fun z => absurd c2 z)
    cases h
    obtain ⟨k1, k2, k3⟩ := kr rfl
    exact bX11_orders_76 k1 k2 k3
  · refine bX11_orders_4 (a_inb_vp g1) (fun z => absurd z c2) (fun _ => ?_)
    refine bX11_orders_14 ?_
    cases h
    exact kc rfl

def sX11_orders_20 (d : aI) (e : aJ) (y1 : Int64) (x3 : Int32) (x4 : Int32) (x5 : Int32) : Option (Nat × aL × aI × aJ) := (if x3 < x5 then (some (4, [some (.ref 108), some (.long (y1 * (Int32.toInt64 x4))), none, some (.int (x3 + (nI 1))), some (.int x4), some (.int x5)], d, e)) else (bif ((a_inb ((nI 54) + x5) 1961) && (a_inb ((nI 54) + x3) 1961)) then (if (d 109 (((nI 54) + x5)).toNatClampNeg) = (d 109 (((nI 54) + x3)).toNatClampNeg) then (some (20, [some (.ref 108), some (.long y1), none, some (.int x3), some (.int (x4 + (nI 1))), some (.int (x5 + (nI 1)))], d, e)) else (some (20, [some (.ref 108), some (.long y1), none, some (.int x3), some (.int (x4 + (nI 0))), some (.int (x5 + (nI 1)))], d, e))) else none))
theorem tX11_orders_20 {Γ : aG × Launch} {dp : Nat} {d dF : aI} {e eF : aJ} {y1 : Int64} {x3 : Int32} {x4 : Int32} {x5 : Int32} {r : Option Value} {p : Nat × aL × aI × aJ} (h : sX11_orders_20 d e y1 x3 x4 x5 = some p) (kc : Nat.beq p.1 100000 = false → Rn Γ (dp + 0) mX11_orders p.1 p.2.1 [] p.2.2.1 p.2.2.2 r dF eF) (kr : p.1 = 100000 → r = a_rt p.2.1 ∧ dF = p.2.2.1 ∧ eF = p.2.2.2) : Rn Γ (dp + 0) mX11_orders 20 [some (.ref 108), some (.long y1), none, some (.int x3), some (.int x4), some (.int x5)] [] d e r dF eF := by
  unfold sX11_orders_20 at h
  refine a_ite h (fun c1 h => ?_) (fun c1 h => ?_)
  · refine bX11_orders_20 (fun _ => ?_) (fun z => absurd c1 z)
    refine bX11_orders_64 ?_
    cases h
    exact kc rfl
  · refine bX11_orders_20 (fun z => absurd z c1) (fun _ => ?_)
    obtain ⟨g2, h⟩ := a_cond h
    obtain ⟨g2x1, g2_1⟩ := a_and g2
    have g2_0 := g2x1
    refine a_ite h (fun c3 h => ?_) (fun c3 h => ?_)
    · refine bX11_orders_26 ⟨(a_inb_vp g2_0), (a_inb_vp g2_1)⟩ (fun z => absurd c3 z) (fun _ => ?_)
      refine bX11_orders_50 ?_
      refine bX11_orders_55 ?_
      cases h
      exact kc rfl
    · refine bX11_orders_26 ⟨(a_inb_vp g2_0), (a_inb_vp g2_1)⟩ (fun _ => ?_) (fun z => absurd z c3)
      refine bX11_orders_54 ?_
      refine bX11_orders_55 ?_
      cases h
      exact kc rfl

def sX11_order_0 (d : aI) (e : aJ) (x1 : Int32) : Option (Nat × aL × aI × aJ) := (some (2, [some (.ref 108), some (.int x1), some (.int (nI 0)), none, none], d, e))
theorem tX11_order_0 {Γ : aG × Launch} {dp : Nat} {d dF : aI} {e eF : aJ} {x1 : Int32} {r : Option Value} {p : Nat × aL × aI × aJ} (h : sX11_order_0 d e x1 = some p) (kc : Nat.beq p.1 100000 = false → Rn Γ (dp + 0) mX11_order p.1 p.2.1 [] p.2.2.1 p.2.2.2 r dF eF) (kr : p.1 = 100000 → r = a_rt p.2.1 ∧ dF = p.2.2.1 ∧ eF = p.2.2.2) : Rn Γ (dp + 0) mX11_order 0 [some (.ref 108), some (.int x1), none, none, none] [] d e r dF eF := by
  unfold sX11_order_0 at h
  refine bX11_order_0 ?_
  cases h
  exact kc rfl

def sX11_order_2 (d : aI) (e : aJ) (x1 : Int32) (x2 : Int32) (v3 : Option Value) (v4 : Option Value) : Option (Nat × aL × aI × aJ) := (bif ((a_inb (nI 1) 1961)) then (if (d 109 1) ≤ x2 then (some (100000, [some (.int (-(nI 1)))], d, e)) else (some (17, [some (.ref 108), some (.int x1), some (.int x2), some (.int (nI 0)), some (.int (nI 0))], d, e))) else none)
theorem tX11_order_2 {Γ : aG × Launch} {dp : Nat} {d dF : aI} {e eF : aJ} {x1 : Int32} {x2 : Int32} {v3 : Option Value} {v4 : Option Value} {r : Option Value} {p : Nat × aL × aI × aJ} (h : sX11_order_2 d e x1 x2 v3 v4 = some p) (kc : Nat.beq p.1 100000 = false → Rn Γ (dp + 0) mX11_order p.1 p.2.1 [] p.2.2.1 p.2.2.2 r dF eF) (kr : p.1 = 100000 → r = a_rt p.2.1 ∧ dF = p.2.2.1 ∧ eF = p.2.2.2) : Rn Γ (dp + 0) mX11_order 2 [some (.ref 108), some (.int x1), some (.int x2), v3, v4] [] d e r dF eF := by
  unfold sX11_order_2 at h
  obtain ⟨g1, h⟩ := a_cond h
  refine a_ite h (fun c2 h => ?_) (fun c2 h => ?_)
  · refine bX11_order_2 (a_inb_vp g1) (fun _ => ?_) (fun z => absurd c2 z)
    cases h
    obtain ⟨k1, k2, k3⟩ := kr rfl
    exact bX11_order_105 k1 k2 k3
  · refine bX11_order_2 (a_inb_vp g1) (fun z => absurd z c2) (fun _ => ?_)
    refine bX11_order_12 ?_
    cases h
    exact kc rfl

def sX11_order_17 (d : aI) (e : aJ) (x1 : Int32) (x2 : Int32) (x3 : Int32) (x4 : Int32) : Option (Nat × aL × aI × aJ) := (bif ((a_inb (nI 1) 1961)) then (if (d 109 1) ≤ x4 then (if x3 = x1 then (some (100000, [some (.int x2)], d, e)) else (some (2, [some (.ref 108), some (.int x1), some (.int (x2 + (nI 1))), some (.int x3), some (.int x4)], d, e))) else (bif ((a_inb ((nI 54) + x4) 1961) && (a_inb ((nI 54) + x2) 1961)) then (if (d 109 (((nI 54) + x4)).toNatClampNeg) < (d 109 (((nI 54) + x2)).toNatClampNeg) then (some (17, [some (.ref 108), some (.int x1), some (.int x2), some (.int (x3 + (nI 1))), some (.int (x4 + (nI 1)))], d, e)) else (bif ((a_inb ((nI 54) + x4) 1961) && (a_inb ((nI 54) + x2) 1961)) then (if (d 109 (((nI 54) + x4)).toNatClampNeg) = (d 109 (((nI 54) + x2)).toNatClampNeg) then (if x2 ≤ x4 then (some (17, [some (.ref 108), some (.int x1), some (.int x2), some (.int (x3 + (nI 0))), some (.int (x4 + (nI 1)))], d, e)) else (some (17, [some (.ref 108), some (.int x1), some (.int x2), some (.int (x3 + (nI 1))), some (.int (x4 + (nI 1)))], d, e))) else (some (17, [some (.ref 108), some (.int x1), some (.int x2), some (.int (x3 + (nI 0))), some (.int (x4 + (nI 1)))], d, e))) else none)) else none)) else none)
theorem tX11_order_17 {Γ : aG × Launch} {dp : Nat} {d dF : aI} {e eF : aJ} {x1 : Int32} {x2 : Int32} {x3 : Int32} {x4 : Int32} {r : Option Value} {p : Nat × aL × aI × aJ} (h : sX11_order_17 d e x1 x2 x3 x4 = some p) (kc : Nat.beq p.1 100000 = false → Rn Γ (dp + 0) mX11_order p.1 p.2.1 [] p.2.2.1 p.2.2.2 r dF eF) (kr : p.1 = 100000 → r = a_rt p.2.1 ∧ dF = p.2.2.1 ∧ eF = p.2.2.2) : Rn Γ (dp + 0) mX11_order 17 [some (.ref 108), some (.int x1), some (.int x2), some (.int x3), some (.int x4)] [] d e r dF eF := by
  unfold sX11_order_17 at h
  obtain ⟨g1, h⟩ := a_cond h
  refine a_ite h (fun c2 h => ?_) (fun c2 h => ?_)
  · refine bX11_order_17 (a_inb_vp g1) (fun _ => ?_) (fun z => absurd c2 z)
    refine a_ite h (fun c3 h => ?_) (fun c3 h => ?_)
    · refine bX11_order_92 (fun z => absurd c3 z) (fun _ => ?_)
      cases h
      obtain ⟨k1, k2, k3⟩ := kr rfl
      exact bX11_order_97 k1 k2 k3
    · refine bX11_order_92 (fun _ => ?_) (fun z => absurd z c3)
      refine bX11_order_99 ?_
      cases h
      exact kc rfl
  · refine bX11_order_17 (a_inb_vp g1) (fun z => absurd z c2) (fun _ => ?_)
    obtain ⟨g4, h⟩ := a_cond h
    obtain ⟨g4x1, g4_1⟩ := a_and g4
    have g4_0 := g4x1
    refine a_ite h (fun c5 h => ?_) (fun c5 h => ?_)
    · refine bX11_order_28 ⟨(a_inb_vp g4_0), (a_inb_vp g4_1)⟩ (fun _ => ?_) (fun z => absurd c5 z)
      refine bX11_order_79 ?_
      refine bX11_order_84 ?_
      cases h
      exact kc rfl
    · refine bX11_order_28 ⟨(a_inb_vp g4_0), (a_inb_vp g4_1)⟩ (fun z => absurd z c5) (fun _ => ?_)
      obtain ⟨g6, h⟩ := a_cond h
      obtain ⟨g6x1, g6_1⟩ := a_and g6
      have g6_0 := g6x1
      refine a_ite h (fun c7 h => ?_) (fun c7 h => ?_)
      · refine bX11_order_51 ⟨(a_inb_vp g6_0), (a_inb_vp g6_1)⟩ (fun z => absurd c7 z) (fun _ => ?_)
        refine a_ite h (fun c8 h => ?_) (fun c8 h => ?_)
        · refine bX11_order_73 (fun _ => ?_) (fun z => absurd c8 z)
          refine bX11_order_83 ?_
          refine bX11_order_84 ?_
          cases h
          exact kc rfl
        · refine bX11_order_73 (fun z => absurd z c8) (fun _ => ?_)
          refine bX11_order_79 ?_
          refine bX11_order_84 ?_
          cases h
          exact kc rfl
      · refine bX11_order_51 ⟨(a_inb_vp g6_0), (a_inb_vp g6_1)⟩ (fun _ => ?_) (fun z => absurd z c7)
        refine bX11_order_83 ?_
        refine bX11_order_84 ?_
        cases h
        exact kc rfl

def sX11_canFollow_0 (d : aI) (e : aJ) (x1 : Int32) : Option (Nat × aL × aI × aJ) := (some (2, [some (.ref 108), some (.int x1), some (.int (nI 0))], d, e))
theorem tX11_canFollow_0 {Γ : aG × Launch} {dp : Nat} {d dF : aI} {e eF : aJ} {x1 : Int32} {r : Option Value} {p : Nat × aL × aI × aJ} (h : sX11_canFollow_0 d e x1 = some p) (kc : Nat.beq p.1 100000 = false → Rn Γ (dp + 2) mX11_canFollow p.1 p.2.1 [] p.2.2.1 p.2.2.2 r dF eF) (kr : p.1 = 100000 → r = a_rt p.2.1 ∧ dF = p.2.2.1 ∧ eF = p.2.2.2) : Rn Γ (dp + 2) mX11_canFollow 0 [some (.ref 108), some (.int x1), none] [] d e r dF eF := by
  unfold sX11_canFollow_0 at h
  refine bX11_canFollow_0 ?_
  cases h
  exact kc rfl

def sX11_canFollow_2 (d : aI) (e : aJ) (x1 : Int32) (x2 : Int32) : Option (Nat × aL × aI × aJ) := (if x1 ≤ x2 then (some (100000, [some (.int (nI 1))], d, e)) else (bif ((a_inb x2 10) && (a_inb x1 10)) then (if (d 118 (x2).toNatClampNeg) = (d 118 (x1).toNatClampNeg) then ((FX11_areOne d e x2 x1).bind fun q4 => (if q4.1 = 0 then (some (100000, [some (.int (nI 0))], q4.2.1, q4.2.2)) else (some (2, [some (.ref 108), some (.int x1), some (.int (x2 + (nI 1)))], q4.2.1, q4.2.2)))) else (some (2, [some (.ref 108), some (.int x1), some (.int (x2 + (nI 1)))], d, e))) else none))
theorem tX11_canFollow_2 {Γ : aG × Launch} {dp : Nat} {d dF : aI} {e eF : aJ} {x1 : Int32} {x2 : Int32} {r : Option Value} {p : Nat × aL × aI × aJ} (h : sX11_canFollow_2 d e x1 x2 = some p) (kc : Nat.beq p.1 100000 = false → Rn Γ (dp + 2) mX11_canFollow p.1 p.2.1 [] p.2.2.1 p.2.2.2 r dF eF) (kr : p.1 = 100000 → r = a_rt p.2.1 ∧ dF = p.2.2.1 ∧ eF = p.2.2.2) : Rn Γ (dp + 2) mX11_canFollow 2 [some (.ref 108), some (.int x1), some (.int x2)] [] d e r dF eF := by
  unfold sX11_canFollow_2 at h
  refine a_ite h (fun c1 h => ?_) (fun c1 h => ?_)
  · refine bX11_canFollow_2 (fun _ => ?_) (fun z => absurd c1 z)
    cases h
    obtain ⟨k1, k2, k3⟩ := kr rfl
    exact bX11_canFollow_39 k1 k2 k3
  · refine bX11_canFollow_2 (fun z => absurd z c1) (fun _ => ?_)
    obtain ⟨g2, h⟩ := a_cond h
    obtain ⟨g2x1, g2_1⟩ := a_and g2
    have g2_0 := g2x1
    refine a_ite h (fun c3 h => ?_) (fun c3 h => ?_)
    · refine bX11_canFollow_7 ⟨(a_inb_vp g2_0), (a_inb_vp g2_1)⟩ (fun z => absurd c3 z) (fun _ => ?_)
      obtain ⟨q4, hq4, h⟩ := Option.bind_eq_some_iff.mp h
      refine bX11_canFollow_22 (evX11_areOne hq4) (by omega) ?_
      refine a_ite h (fun c5 h => ?_) (fun c5 h => ?_)
      · refine bX11_canFollow_28 (fun z => absurd c5 z) (fun _ => ?_)
        cases h
        obtain ⟨k1, k2, k3⟩ := kr rfl
        exact bX11_canFollow_31 k1 k2 k3
      · refine bX11_canFollow_28 (fun _ => ?_) (fun z => absurd z c5)
        refine bX11_canFollow_33 ?_
        cases h
        exact kc rfl
    · refine bX11_canFollow_7 ⟨(a_inb_vp g2_0), (a_inb_vp g2_1)⟩ (fun _ => ?_) (fun z => absurd z c3)
      refine bX11_canFollow_33 ?_
      cases h
      exact kc rfl

def sX11_pieceBy_0 (d : aI) (e : aJ) (x1 : Int32) (x2 : Int32) : Option (Nat × aL × aI × aJ) := (bif ((a_inb (nI 7) 1961)) then (some (13, [some (.ref 108), some (.int x1), some (.int x2), some (.int x1), some (.int ((d 109 7) - (nI 1)))], d, e)) else none)
theorem tX11_pieceBy_0 {Γ : aG × Launch} {dp : Nat} {d dF : aI} {e eF : aJ} {x1 : Int32} {x2 : Int32} {r : Option Value} {p : Nat × aL × aI × aJ} (h : sX11_pieceBy_0 d e x1 x2 = some p) (kc : Nat.beq p.1 100000 = false → Rn Γ (dp + 0) mX11_pieceBy p.1 p.2.1 [] p.2.2.1 p.2.2.2 r dF eF) (kr : p.1 = 100000 → r = a_rt p.2.1 ∧ dF = p.2.2.1 ∧ eF = p.2.2.2) : Rn Γ (dp + 0) mX11_pieceBy 0 [some (.ref 108), some (.int x1), some (.int x2), none, none] [] d e r dF eF := by
  unfold sX11_pieceBy_0 at h
  obtain ⟨g1, h⟩ := a_cond h
  refine bX11_pieceBy_0 (a_inb_vp g1) ?_
  cases h
  exact kc rfl

def sX11_pieceBy_13 (d : aI) (e : aJ) (x1 : Int32) (x2 : Int32) (x3 : Int32) (x4 : Int32) : Option (Nat × aL × aI × aJ) := (if x4 ≤ x2 then (bif ((decide (¬ (nI 5) = 0))) then (some (100000, [some (.int (a_irm x3 (nI 5)))], d, e)) else none) else (bif ((decide (¬ (nI 5) = 0))) then (some (13, [some (.ref 108), some (.int x1), some (.int x2), some (.int (x3 / (nI 5))), some (.int (x4 + (-(nI 1))))], d, e)) else none))
theorem tX11_pieceBy_13 {Γ : aG × Launch} {dp : Nat} {d dF : aI} {e eF : aJ} {x1 : Int32} {x2 : Int32} {x3 : Int32} {x4 : Int32} {r : Option Value} {p : Nat × aL × aI × aJ} (h : sX11_pieceBy_13 d e x1 x2 x3 x4 = some p) (kc : Nat.beq p.1 100000 = false → Rn Γ (dp + 0) mX11_pieceBy p.1 p.2.1 [] p.2.2.1 p.2.2.2 r dF eF) (kr : p.1 = 100000 → r = a_rt p.2.1 ∧ dF = p.2.2.1 ∧ eF = p.2.2.2) : Rn Γ (dp + 0) mX11_pieceBy 13 [some (.ref 108), some (.int x1), some (.int x2), some (.int x3), some (.int x4)] [] d e r dF eF := by
  unfold sX11_pieceBy_13 at h
  refine a_ite h (fun c1 h => ?_) (fun c1 h => ?_)
  · refine bX11_pieceBy_13 (fun _ => ?_) (fun z => absurd c1 z)
    obtain ⟨g2, h⟩ := a_cond h
    cases h
    obtain ⟨k1, k2, k3⟩ := kr rfl
    exact bX11_pieceBy_29 (of_decide_eq_true g2) k1 k2 k3
  · refine bX11_pieceBy_13 (fun z => absurd z c1) (fun _ => ?_)
    obtain ⟨g3, h⟩ := a_cond h
    refine bX11_pieceBy_19 (of_decide_eq_true g3) ?_
    cases h
    exact kc rfl

def sX11_price_0 (d : aI) (e : aJ) (x1 : Int32) : Option (Nat × aL × aI × aJ) := ((FX11_isIn d e x1 (nI 0) (nI 12)).bind fun q1 => (if q1.1 = 0 then (some (100000, [some (.int (-(nI 1)))], q1.2.1, q1.2.2)) else (some (16, [some (.ref 108), some (.int x1), some (.int (nI 0)), some (.int (nI 0))], q1.2.1, q1.2.2))))
theorem tX11_price_0 {Γ : aG × Launch} {dp : Nat} {d dF : aI} {e eF : aJ} {x1 : Int32} {r : Option Value} {p : Nat × aL × aI × aJ} (h : sX11_price_0 d e x1 = some p) (kc : Nat.beq p.1 100000 = false → Rn Γ (dp + 1) mX11_price p.1 p.2.1 [] p.2.2.1 p.2.2.2 r dF eF) (kr : p.1 = 100000 → r = a_rt p.2.1 ∧ dF = p.2.2.1 ∧ eF = p.2.2.2) : Rn Γ (dp + 1) mX11_price 0 [some (.ref 108), some (.int x1), none, none] [] d e r dF eF := by
  unfold sX11_price_0 at h
  obtain ⟨q1, hq1, h⟩ := Option.bind_eq_some_iff.mp h
  refine bX11_price_0 (evX11_isIn hq1) (by omega) ?_
  refine a_ite h (fun c2 h => ?_) (fun c2 h => ?_)
  · refine bX11_price_7 (fun z => absurd c2 z) (fun _ => ?_)
    cases h
    obtain ⟨k1, k2, k3⟩ := kr rfl
    exact bX11_price_10 k1 k2 k3
  · refine bX11_price_7 (fun _ => ?_) (fun z => absurd z c2)
    refine bX11_price_12 ?_
    cases h
    exact kc rfl

def sX11_price_16 (d : aI) (e : aJ) (x1 : Int32) (x2 : Int32) (x3 : Int32) : Option (Nat × aL × aI × aJ) := (if x1 ≤ x3 then (some (100000, [some (.int x2)], d, e)) else (bif ((decide (¬ (nI 3) = 0))) then ((FX11_held d e (Int32.toInt64 ((((nI 540) + ((nI 2) * x2)) / (nI 3)) - (nI 60))) (nI 0) (nI 1000000)).bind fun q3 => (some (16, [some (.ref 108), some (.int x1), some (.int q3.1), some (.int (x3 + (nI 1)))], q3.2.1, q3.2.2))) else none))
theorem tX11_price_16 {Γ : aG × Launch} {dp : Nat} {d dF : aI} {e eF : aJ} {x1 : Int32} {x2 : Int32} {x3 : Int32} {r : Option Value} {p : Nat × aL × aI × aJ} (h : sX11_price_16 d e x1 x2 x3 = some p) (kc : Nat.beq p.1 100000 = false → Rn Γ (dp + 1) mX11_price p.1 p.2.1 [] p.2.2.1 p.2.2.2 r dF eF) (kr : p.1 = 100000 → r = a_rt p.2.1 ∧ dF = p.2.2.1 ∧ eF = p.2.2.2) : Rn Γ (dp + 1) mX11_price 16 [some (.ref 108), some (.int x1), some (.int x2), some (.int x3)] [] d e r dF eF := by
  unfold sX11_price_16 at h
  refine a_ite h (fun c1 h => ?_) (fun c1 h => ?_)
  · refine bX11_price_16 (fun _ => ?_) (fun z => absurd c1 z)
    cases h
    obtain ⟨k1, k2, k3⟩ := kr rfl
    exact bX11_price_48 k1 k2 k3
  · refine bX11_price_16 (fun z => absurd z c1) (fun _ => ?_)
    obtain ⟨g2, h⟩ := a_cond h
    obtain ⟨q3, hq3, h⟩ := Option.bind_eq_some_iff.mp h
    refine bX11_price_21 (of_decide_eq_true g2) (evX11_held hq3) (by omega) ?_
    refine bX11_price_41 ?_
    cases h
    exact kc rfl

def sX11_playOf_0 (d : aI) (e : aJ) (x1 : Int32) (x2 : Int32) : Option (Nat × aL × aI × aJ) := (some (2, [some (.ref 108), some (.int x1), some (.int x2), some (.int (nI 0)), none], d, e))
theorem tX11_playOf_0 {Γ : aG × Launch} {dp : Nat} {d dF : aI} {e eF : aJ} {x1 : Int32} {x2 : Int32} {r : Option Value} {p : Nat × aL × aI × aJ} (h : sX11_playOf_0 d e x1 x2 = some p) (kc : Nat.beq p.1 100000 = false → Rn Γ (dp + 1) mX11_playOf p.1 p.2.1 [] p.2.2.1 p.2.2.2 r dF eF) (kr : p.1 = 100000 → r = a_rt p.2.1 ∧ dF = p.2.2.1 ∧ eF = p.2.2.2) : Rn Γ (dp + 1) mX11_playOf 0 [some (.ref 108), some (.int x1), some (.int x2), none, none] [] d e r dF eF := by
  unfold sX11_playOf_0 at h
  refine bX11_playOf_0 ?_
  cases h
  exact kc rfl

def sX11_playOf_2 (d : aI) (e : aJ) (x1 : Int32) (x2 : Int32) (x3 : Int32) (v4 : Option Value) : Option (Nat × aL × aI × aJ) := (if (nI 3) ≤ x3 then (some (100000, [some (.int (-(nI 1)))], d, e)) else (some (10, [some (.ref 108), some (.int x1), some (.int x2), some (.int x3), some (.int (nI 0))], d, e)))
theorem tX11_playOf_2 {Γ : aG × Launch} {dp : Nat} {d dF : aI} {e eF : aJ} {x1 : Int32} {x2 : Int32} {x3 : Int32} {v4 : Option Value} {r : Option Value} {p : Nat × aL × aI × aJ} (h : sX11_playOf_2 d e x1 x2 x3 v4 = some p) (kc : Nat.beq p.1 100000 = false → Rn Γ (dp + 1) mX11_playOf p.1 p.2.1 [] p.2.2.1 p.2.2.2 r dF eF) (kr : p.1 = 100000 → r = a_rt p.2.1 ∧ dF = p.2.2.1 ∧ eF = p.2.2.2) : Rn Γ (dp + 1) mX11_playOf 2 [some (.ref 108), some (.int x1), some (.int x2), some (.int x3), v4] [] d e r dF eF := by
  unfold sX11_playOf_2 at h
  refine a_ite h (fun c1 h => ?_) (fun c1 h => ?_)
  · refine bX11_playOf_2 (fun _ => ?_) (fun z => absurd c1 z)
    cases h
    obtain ⟨k1, k2, k3⟩ := kr rfl
    exact bX11_playOf_48 k1 k2 k3
  · refine bX11_playOf_2 (fun z => absurd z c1) (fun _ => ?_)
    refine bX11_playOf_7 ?_
    cases h
    exact kc rfl

def sX11_playOf_10 (d : aI) (e : aJ) (x1 : Int32) (x2 : Int32) (x3 : Int32) (x4 : Int32) : Option (Nat × aL × aI × aJ) := (if (nI 3) ≤ x4 then (some (2, [some (.ref 108), some (.int x1), some (.int x2), some (.int (x3 + (nI 1))), some (.int x4)], d, e)) else ((FX11_canPlay d e x1 x2 x3 x4).bind fun q2 => (if q2.1 = 0 then (some (10, [some (.ref 108), some (.int x1), some (.int x2), some (.int x3), some (.int (x4 + (nI 1)))], q2.2.1, q2.2.2)) else (some (100000, [some (.int (((nI 10) * x3) + x4))], q2.2.1, q2.2.2)))))
theorem tX11_playOf_10 {Γ : aG × Launch} {dp : Nat} {d dF : aI} {e eF : aJ} {x1 : Int32} {x2 : Int32} {x3 : Int32} {x4 : Int32} {r : Option Value} {p : Nat × aL × aI × aJ} (h : sX11_playOf_10 d e x1 x2 x3 x4 = some p) (kc : Nat.beq p.1 100000 = false → Rn Γ (dp + 1) mX11_playOf p.1 p.2.1 [] p.2.2.1 p.2.2.2 r dF eF) (kr : p.1 = 100000 → r = a_rt p.2.1 ∧ dF = p.2.2.1 ∧ eF = p.2.2.2) : Rn Γ (dp + 1) mX11_playOf 10 [some (.ref 108), some (.int x1), some (.int x2), some (.int x3), some (.int x4)] [] d e r dF eF := by
  unfold sX11_playOf_10 at h
  refine a_ite h (fun c1 h => ?_) (fun c1 h => ?_)
  · refine bX11_playOf_10 (fun _ => ?_) (fun z => absurd c1 z)
    refine bX11_playOf_42 ?_
    cases h
    exact kc rfl
  · refine bX11_playOf_10 (fun z => absurd z c1) (fun _ => ?_)
    obtain ⟨q2, hq2, h⟩ := Option.bind_eq_some_iff.mp h
    refine bX11_playOf_16 (evX11_canPlay hq2) (by omega) ?_
    refine a_ite h (fun c3 h => ?_) (fun c3 h => ?_)
    · refine bX11_playOf_25 (fun _ => ?_) (fun z => absurd c3 z)
      refine bX11_playOf_36 ?_
      cases h
      exact kc rfl
    · refine bX11_playOf_25 (fun z => absurd z c3) (fun _ => ?_)
      cases h
      obtain ⟨k1, k2, k3⟩ := kr rfl
      exact bX11_playOf_28 k1 k2 k3

