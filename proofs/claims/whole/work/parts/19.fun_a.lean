/-! ===== functions out of the methods ===== -/
def a_inb (i : Int32) (n : Nat) : Bool := decide (¬ (i < 0 ∨ n ≤ i.toNatClampNeg))
theorem a_inb_vp {i : Int32} {n : Nat} (h : a_inb i n = true) : vp_in i n := by
  unfold a_inb at h
  have h1 := of_decide_eq_true h
  exact h1
theorem a_inb_of {i : Int32} {n : Nat} (h : vp_in i n) : a_inb i n = true := by
  unfold a_inb
  exact decide_eq_true h
theorem a_inb_n {k n : Nat} (h : k < n) (hn : n < 2 ^ 31) : a_inb (nI k) n = true := a_inb_of (vp_in_nI h hn)
theorem a_inb_lt {i : Int32} {n : Nat} (h : a_inb i n = true) : i.toNatClampNeg < n := by
  have h1 := a_inb_vp h
  unfold vp_in at h1
  omega
theorem a_inb_nI {i : Int32} {n : Nat} (h : a_inb i n = true) : i = nI i.toNatClampNeg := by
  have h1 := a_inb_vp h
  unfold vp_in at h1
  obtain ⟨j, hj, e⟩ := nI_of (x := i) (fun q => h1 (Or.inl q))
  rw [e, nI_clamp hj]
theorem a_dom4 {i : Int32} (h : a_inb i 4 = true) : 58 + 5 * i.toNatClampNeg = 58 ∨ 58 + 5 * i.toNatClampNeg = 63 ∨ 58 + 5 * i.toNatClampNeg = 68 ∨ 58 + 5 * i.toNatClampNeg = 73 := by
  have := a_inb_lt h
  omega
theorem a_ite {c : Prop} [inst : Decidable c] {α : Type} {x y z : α} {P : Prop} (h : (if c then x else y) = z) (ht : c → x = z → P) (hf : ¬ c → y = z → P) : P := by
  by_cases hc : c
  · rw [if_pos hc] at h; exact ht hc h
  · rw [if_neg hc] at h; exact hf hc h
theorem a_and {a b : Bool} (h : (a && b) = true) : a = true ∧ b = true := Bool.and_eq_true_iff.mp h
theorem a_nz {v : Int32} (h : v = 0 ∨ v = 1) : narrow .boolean (.int v) = .int v := by rcases h with rfl | rfl <;> rfl
def a_rt : aL → Option Value
  | [] => none
  | a :: _ => a
/-- running a step function to its end -/
def a_itr (st : Nat × aL × aI × aJ → Option (Nat × aL × aI × aJ)) : Nat → Nat × aL × aI × aJ → Option (aL × aI × aJ)
  | 0, _ => none
  | n + 1, p => bif Nat.beq p.1 100000 then some p.2 else (st p).bind (a_itr st n)
noncomputable def a_run (st : Nat × aL × aI × aJ → Option (Nat × aL × aI × aJ)) (p : Nat × aL × aI × aJ) : Option (aL × aI × aJ) :=
  @dite _ (∃ (n : Nat) (q : aL × aI × aJ), a_itr st n p = some q) (Classical.propDecidable _) (fun h => some (Classical.choose (Classical.choose_spec h))) (fun _ => none)
theorem a_itr_mono {st : Nat × aL × aI × aJ → Option (Nat × aL × aI × aJ)} : ∀ {n : Nat} {p : Nat × aL × aI × aJ} {q : aL × aI × aJ} (k : Nat), a_itr st n p = some q → a_itr st (n + k) p = some q
  | 0, p, q, k, h => by cases h
  | n + 1, p, q, k, h => by
    rw [show n + 1 + k = (n + k) + 1 by omega]
    unfold a_itr at h ⊢
    cases hb : Nat.beq p.1 100000 with
    | true => rw [hb] at h; exact h
    | false =>
      rw [hb] at h
      simp only [cond_false] at h ⊢
      obtain ⟨p2, h1, h2⟩ := Option.bind_eq_some_iff.mp h
      exact Option.bind_eq_some_iff.mpr ⟨p2, h1, a_itr_mono k h2⟩
theorem a_run_ex {st : Nat × aL × aI × aJ → Option (Nat × aL × aI × aJ)} {p : Nat × aL × aI × aJ} {q : aL × aI × aJ} (h : a_run st p = some q) : ∃ n, a_itr st n p = some q := by
  unfold a_run at h
  by_cases hx : ∃ (n : Nat) (q : aL × aI × aJ), a_itr st n p = some q
  · rw [dif_pos hx] at h
    refine ⟨Classical.choose hx, ?_⟩
    rw [← Option.some.inj h]
    exact Classical.choose_spec (Classical.choose_spec hx)
  · rw [dif_neg hx] at h
    cases h
theorem a_run_of {st : Nat × aL × aI × aJ → Option (Nat × aL × aI × aJ)} {p : Nat × aL × aI × aJ} {q : aL × aI × aJ} {n : Nat} (h : a_itr st n p = some q) : a_run st p = some q := by
  have hx : ∃ (n : Nat) (q : aL × aI × aJ), a_itr st n p = some q := ⟨n, q, h⟩
  unfold a_run
  rw [dif_pos hx]
  have h1 := Classical.choose_spec (Classical.choose_spec hx)
  have h2 := a_itr_mono n h1
  have h3 := a_itr_mono (Classical.choose hx) h
  rw [Nat.add_comm] at h3
  exact h2.symm.trans h3
theorem a_run_end {st : Nat × aL × aI × aJ → Option (Nat × aL × aI × aJ)} {q : aL × aI × aJ} : a_run st (100000, q) = some q := a_run_of (n := 1) rfl
theorem a_run_step {st : Nat × aL × aI × aJ → Option (Nat × aL × aI × aJ)} {p p2 : Nat × aL × aI × aJ} (h : st p = some p2) (hp : Nat.beq p.1 100000 = false) : a_run st p = a_run st p2 := by
  have key : ∀ q, a_run st p2 = some q → a_run st p = some q := by
    intro q hq
    obtain ⟨n, hn⟩ := a_run_ex hq
    refine a_run_of (n := n + 1) ?_
    unfold a_itr
    rw [hp]
    exact Option.bind_eq_some_iff.mpr ⟨p2, h, hn⟩
  cases hq : a_run st p2 with
  | some q => exact key q hq
  | none =>
    cases hz : a_run st p with
    | none => rfl
    | some q =>
      obtain ⟨n, hn⟩ := a_run_ex hz
      cases n with
      | zero => cases hn
      | succ n =>
        unfold a_itr at hn
        rw [hp] at hn
        obtain ⟨p3, h3, h4⟩ := Option.bind_eq_some_iff.mp hn
        cases h.symm.trans h3
        rw [a_run_of h4] at hq
        cases hq
theorem a_run_ok {Γ : aG × Launch} {D : Nat} {m : aM} {st : Nat × aL × aI × aJ → Option (Nat × aL × aI × aJ)}
    (hu : ∀ {p p2 : Nat × aL × aI × aJ} {r : Option Value} {dF : aI} {eF : aJ}, st p = some p2 → (Nat.beq p2.1 100000 = false → Rn Γ D m p2.1 p2.2.1 [] p2.2.2.1 p2.2.2.2 r dF eF) → (p2.1 = 100000 → r = a_rt p2.2.1 ∧ dF = p2.2.2.1 ∧ eF = p2.2.2.2) → Rn Γ D m p.1 p.2.1 [] p.2.2.1 p.2.2.2 r dF eF)
    {p : Nat × aL × aI × aJ} {q : aL × aI × aJ} (hp : Nat.beq p.1 100000 = false) (h : a_run st p = some q) : Rn Γ D m p.1 p.2.1 [] p.2.2.1 p.2.2.2 (a_rt q.1) q.2.1 q.2.2 := by
  obtain ⟨n, hn⟩ := a_run_ex h
  clear h
  induction n generalizing p with
  | zero => cases hn
  | succ n ih =>
    unfold a_itr at hn
    rw [hp] at hn
    obtain ⟨p2, h1, h2⟩ := Option.bind_eq_some_iff.mp hn
    refine hu h1 (fun hb => ih hb h2) (fun he => ?_)
    cases n with
    | zero => cases h2
    | succ n =>
      unfold a_itr at h2
      rw [he] at h2
      cases h2
      exact ⟨rfl, rfl, rfl⟩
def a_xI (q : aL × aI × aJ) : Option (Int32 × aI × aJ) := match q.1 with
  | [some (.int x)] => some (x, q.2)
  | _ => none
def a_xJ (q : aL × aI × aJ) : Option (Int64 × aI × aJ) := match q.1 with
  | [some (.long x)] => some (x, q.2)
  | _ => none
def a_xV (q : aL × aI × aJ) : Option (Unit × aI × aJ) := match q.1 with
  | [] => some ((), q.2)
  | _ => none
theorem a_xI_rt {q : aL × aI × aJ} {z : Int32 × aI × aJ} (h : a_xI q = some z) : a_rt q.1 = some (.int z.1) ∧ q.2.1 = z.2.1 ∧ q.2.2 = z.2.2 := by
  unfold a_xI at h
  split at h
  · rename_i x hx
    cases h
    rw [hx]
    exact ⟨rfl, rfl, rfl⟩
  · cases h
theorem a_xJ_rt {q : aL × aI × aJ} {z : Int64 × aI × aJ} (h : a_xJ q = some z) : a_rt q.1 = some (.long z.1) ∧ q.2.1 = z.2.1 ∧ q.2.2 = z.2.2 := by
  unfold a_xJ at h
  split at h
  · rename_i x hx
    cases h
    rw [hx]
    exact ⟨rfl, rfl, rfl⟩
  · cases h
theorem a_xV_rt {q : aL × aI × aJ} {z : Unit × aI × aJ} (h : a_xV q = some z) : a_rt q.1 = none ∧ q.2.1 = z.2.1 ∧ q.2.2 = z.2.2 := by
  unfold a_xV at h
  split at h
  · rename_i hx
    cases h
    rw [hx]
    exact ⟨rfl, rfl, rfl⟩
  · cases h

noncomputable def FX0_follows (d : aI) (e : aJ) (x1 : Int32) (x2 : Int32) : Option (Int32 × aI × aJ) := (bif ((a_inb x2 5) && (a_inb x2 5) && (a_inb x1 5)) then (if ((a_shr (d 23 (x2).toNatClampNeg) ((d 22 (x2).toNatClampNeg) - (nI 1))) &&& (nI 1)) = ((d 23 (x1).toNatClampNeg) &&& (nI 1)) then (some ((nI 1), d, e)) else (some ((nI 0), d, e))) else none)
theorem evX0_follows {Γ : aG × Launch} {d : aI} {e : aJ} {x1 : Int32} {x2 : Int32} {q : Int32 × aI × aJ} (h : FX0_follows d e x1 x2 = some q) : Ev Γ (0) mX0_follows [.ref 21, .int x1, .int x2] d e (some (.int q.1)) q.2.1 q.2.2 := by
  refine Ev.of (by decide) rfl (Nat.le_of_ble_eq_true rfl) (fun z => by cases z) ?_
  show Rn Γ (0) mX0_follows 0 [some (.ref 21), some (.int x1), some (.int x2), none] [] d e _ _ _
  unfold FX0_follows at h
  obtain ⟨g1, h⟩ := a_cond h
  obtain ⟨g1x2, g1_2⟩ := a_and g1
  obtain ⟨g1x1, g1_1⟩ := a_and g1x2
  have g1_0 := g1x1
  refine a_ite h (fun c2 h => ?_) (fun c2 h => ?_)
  · refine bX0_follows_0 ⟨(a_inb_vp g1_0), (a_inb_vp g1_1), (a_inb_vp g1_2)⟩ (fun z => absurd c2 z) (fun _ => ?_)
    refine bX0_follows_30 ?_
    cases h
    exact bX0_follows_35 (a_nz (Or.inr rfl))
  · refine bX0_follows_0 ⟨(a_inb_vp g1_0), (a_inb_vp g1_1), (a_inb_vp g1_2)⟩ (fun _ => ?_) (fun z => absurd z c2)
    refine bX0_follows_34 ?_
    cases h
    exact bX0_follows_35 (a_nz (Or.inl rfl))

noncomputable def sX0_whole_0 (d : aI) (e : aJ)  : Option (Nat × aL × aI × aJ) := (some (5, [some (.ref 103), some (.ref 21), some (.long (lN 0)), none, some (.int (nI 0)), none, none], d, e))
theorem tX0_whole_0 {Γ : aG × Launch} {d dF : aI} {e eF : aJ}  {r : Option Value} {p : Nat × aL × aI × aJ} (h : sX0_whole_0 d e  = some p) (kc : Nat.beq p.1 100000 = false → Rn Γ (0) mX0_whole p.1 p.2.1 [] p.2.2.1 p.2.2.2 r dF eF) (kr : p.1 = 100000 → r = a_rt p.2.1 ∧ dF = p.2.2.1 ∧ eF = p.2.2.2) : Rn Γ (0) mX0_whole 0 [some (.ref 103), some (.ref 21), none, none, none, none, none] [] d e r dF eF := by
  unfold sX0_whole_0 at h
  refine bX0_whole_0 ?_
  cases h
  exact kc rfl

noncomputable def sX0_whole_5 (d : aI) (e : aJ) (y2 : Int64) (x4 : Int32) (v5 : Option Value) (v6 : Option Value) : Option (Nat × aL × aI × aJ) := (if (d 21 4) ≤ x4 then (some (100000, [some (.long y2)], d, e)) else (bif ((a_inb x4 5)) then (if x4 = 0 then (bif ((a_inb (d 104 (x4).toNatClampNeg) 5)) then (bif ((a_inb (d 104 (x4).toNatClampNeg) 5)) then (some (5, [some (.ref 103), some (.ref 21), some (.long ((a_jshl y2 (d 22 ((d 104 (x4).toNatClampNeg)).toNatClampNeg)) ||| (Int32.toInt64 ((d 23 ((d 104 (x4).toNatClampNeg)).toNatClampNeg) &&& ((a_shl (nI 1) (d 22 ((d 104 (x4).toNatClampNeg)).toNatClampNeg)) - (nI 1)))))), none, some (.int (x4 + (nI 1))), some (.int (d 104 (x4).toNatClampNeg)), some (.int (d 22 ((d 104 (x4).toNatClampNeg)).toNatClampNeg))], d, e)) else none) else none) else (bif ((a_inb (d 104 (x4).toNatClampNeg) 5)) then (bif ((a_inb (d 104 (x4).toNatClampNeg) 5)) then (some (5, [some (.ref 103), some (.ref 21), some (.long ((a_jshl y2 ((d 22 ((d 104 (x4).toNatClampNeg)).toNatClampNeg) - (nI 1))) ||| (Int32.toInt64 ((d 23 ((d 104 (x4).toNatClampNeg)).toNatClampNeg) &&& ((a_shl (nI 1) ((d 22 ((d 104 (x4).toNatClampNeg)).toNatClampNeg) - (nI 1))) - (nI 1)))))), none, some (.int (x4 + (nI 1))), some (.int (d 104 (x4).toNatClampNeg)), some (.int ((d 22 ((d 104 (x4).toNatClampNeg)).toNatClampNeg) - (nI 1)))], d, e)) else none) else none)) else none))
theorem tX0_whole_5 {Γ : aG × Launch} {d dF : aI} {e eF : aJ} {y2 : Int64} {x4 : Int32} {v5 : Option Value} {v6 : Option Value} {r : Option Value} {p : Nat × aL × aI × aJ} (h : sX0_whole_5 d e y2 x4 v5 v6 = some p) (kc : Nat.beq p.1 100000 = false → Rn Γ (0) mX0_whole p.1 p.2.1 [] p.2.2.1 p.2.2.2 r dF eF) (kr : p.1 = 100000 → r = a_rt p.2.1 ∧ dF = p.2.2.1 ∧ eF = p.2.2.2) : Rn Γ (0) mX0_whole 5 [some (.ref 103), some (.ref 21), some (.long y2), none, some (.int x4), v5, v6] [] d e r dF eF := by
  unfold sX0_whole_5 at h
  refine a_ite h (fun c1 h => ?_) (fun c1 h => ?_)
  · refine bX0_whole_5 (fun _ => ?_) (fun z => absurd c1 z)
    cases h
    obtain ⟨k1, k2, k3⟩ := kr rfl
    exact bX0_whole_76 k1 k2 k3
  · refine bX0_whole_5 (fun z => absurd z c1) (fun _ => ?_)
    obtain ⟨g2, h⟩ := a_cond h
    refine a_ite h (fun c3 h => ?_) (fun c3 h => ?_)
    · refine bX0_whole_14 (a_inb_vp g2) (fun z => absurd c3 z) (fun _ => ?_)
      obtain ⟨g4, h⟩ := a_cond h
      refine bX0_whole_28 (a_inb_vp g4) ?_
      obtain ⟨g5, h⟩ := a_cond h
      refine bX0_whole_47 (a_inb_vp g5) ?_
      cases h
      exact kc rfl
    · refine bX0_whole_14 (a_inb_vp g2) (fun _ => ?_) (fun z => absurd z c3)
      obtain ⟨g6, h⟩ := a_cond h
      refine bX0_whole_38 (a_inb_vp g6) ?_
      obtain ⟨g7, h⟩ := a_cond h
      refine bX0_whole_47 (a_inb_vp g7) ?_
      cases h
      exact kc rfl

noncomputable def stX0_whole (p : Nat × aL × aI × aJ) : Option (Nat × aL × aI × aJ) := match p with
  | (0, [some (.ref 103), some (.ref 21), none, none, none, none, none], d, e) => sX0_whole_0 d e 
  | (5, [some (.ref 103), some (.ref 21), some (.long y2), none, some (.int x4), v5, v6], d, e) => sX0_whole_5 d e y2 x4 v5 v6
  | _ => none
theorem uX0_whole {Γ : aG × Launch} {p p2 : Nat × aL × aI × aJ} {r : Option Value} {dF : aI} {eF : aJ} (h : stX0_whole p = some p2) (kc : Nat.beq p2.1 100000 = false → Rn Γ (0) mX0_whole p2.1 p2.2.1 [] p2.2.2.1 p2.2.2.2 r dF eF) (kr : p2.1 = 100000 → r = a_rt p2.2.1 ∧ dF = p2.2.2.1 ∧ eF = p2.2.2.2) : Rn Γ (0) mX0_whole p.1 p.2.1 [] p.2.2.1 p.2.2.2 r dF eF := by
  unfold stX0_whole at h
  split at h
  · exact tX0_whole_0 h kc kr
  · exact tX0_whole_5 h kc kr
  · cases h
noncomputable def FX0_whole (d : aI) (e : aJ)  : Option (Int64 × aI × aJ) := (a_run (stX0_whole) (0, [some (.ref 103), some (.ref 21), none, none, none, none, none], d, e)).bind a_xJ
theorem evX0_whole {Γ : aG × Launch} {d : aI} {e : aJ}  {q : Int64 × aI × aJ} (h : FX0_whole d e  = some q) : Ev Γ (0) mX0_whole [.ref 103, .ref 21] d e (some (.long q.1)) q.2.1 q.2.2 := by
  refine Ev.of (by decide) rfl (Nat.le_of_ble_eq_true rfl) (fun z => by cases z) ?_
  show Rn Γ (0) mX0_whole 0 [some (.ref 103), some (.ref 21), none, none, none, none, none] [] d e _ _ _
  obtain ⟨q1, h1, h2⟩ := Option.bind_eq_some_iff.mp h
  obtain ⟨e1, e2, e3⟩ := a_xJ_rt h2
  exact Rn.cast (a_run_ok (uX0_whole) rfl h1) e1.symm e2.symm e3.symm
noncomputable def FX1_push (d : aI) (e : aJ) (x1 : Int32) : Option (Unit × aI × aJ) := (if (nI 64) ≤ (d 93 1) then (some ((), d, e)) else (bif ((a_inb (d 93 1) 64)) then (some ((), (uI (uI d 94 ((d 93 1)).toNatClampNeg x1) 93 1 ((d 93 1) + (nI 1))), e)) else none))
theorem evX1_push {Γ : aG × Launch} {d : aI} {e : aJ} {x1 : Int32} {q : Unit × aI × aJ} (h : FX1_push d e x1 = some q) : Ev Γ (0) mX1_push [.ref 93, .int x1] d e none q.2.1 q.2.2 := by
  refine Ev.of (by decide) rfl (Nat.le_of_ble_eq_true rfl) (fun z => by cases z) ?_
  show Rn Γ (0) mX1_push 0 [some (.ref 93), some (.int x1)] [] d e _ _ _
  unfold FX1_push at h
  refine a_ite h (fun c1 h => ?_) (fun c1 h => ?_)
  · refine bX1_push_0 (fun _ => ?_) (fun z => absurd c1 z)
    cases h
    exact bX1_push_29
  · refine bX1_push_0 (fun z => absurd z c1) (fun _ => ?_)
    obtain ⟨g2, h⟩ := a_cond h
    refine bX1_push_9 (a_inb_vp g2) ?_
    cases h
    exact bX1_push_29

noncomputable def FX1_pop (d : aI) (e : aJ)  : Option (Int32 × aI × aJ) := (if 0 < (d 93 1) then (bif ((a_inb ((d 93 1) - (nI 1)) 64)) then (some ((d 94 (((d 93 1) - (nI 1))).toNatClampNeg), (uI d 93 1 ((d 93 1) - (nI 1))), e)) else none) else (some ((nI 0), d, e)))
theorem evX1_pop {Γ : aG × Launch} {d : aI} {e : aJ}  {q : Int32 × aI × aJ} (h : FX1_pop d e  = some q) : Ev Γ (0) mX1_pop [.ref 93] d e (some (.int q.1)) q.2.1 q.2.2 := by
  refine Ev.of (by decide) rfl (Nat.le_of_ble_eq_true rfl) (fun z => by cases z) ?_
  show Rn Γ (0) mX1_pop 0 [some (.ref 93)] [] d e _ _ _
  unfold FX1_pop at h
  refine a_ite h (fun c1 h => ?_) (fun c1 h => ?_)
  · refine bX1_pop_0 (fun _ => ?_) (fun z => absurd c1 z)
    obtain ⟨g2, h⟩ := a_cond h
    cases h
    exact bX1_pop_9 (a_inb_vp g2)
  · refine bX1_pop_0 (fun z => absurd z c1) (fun _ => ?_)
    cases h
    exact bX1_pop_7

noncomputable def FX1_isName (d : aI) (e : aJ) (x0 : Int32) : Option (Int32 × aI × aJ) := (if x0 = (nI 308) then (some ((nI 1), d, e)) else (if x0 = (nI 309) then (some ((nI 1), d, e)) else (if x0 = (nI 310) then (some ((nI 1), d, e)) else (if x0 < (nI 321) then (some ((nI 0), d, e)) else (if (nI 325) < x0 then (some ((nI 0), d, e)) else (some ((nI 1), d, e)))))))
theorem evX1_isName {Γ : aG × Launch} {d : aI} {e : aJ} {x0 : Int32} {q : Int32 × aI × aJ} (h : FX1_isName d e x0 = some q) : Ev Γ (0) mX1_isName [.int x0] d e (some (.int q.1)) q.2.1 q.2.2 := by
  refine Ev.of (by decide) rfl (Nat.le_of_ble_eq_true rfl) (fun z => by cases z) ?_
  show Rn Γ (0) mX1_isName 0 [some (.int x0)] [] d e _ _ _
  unfold FX1_isName at h
  refine a_ite h (fun c1 h => ?_) (fun c1 h => ?_)
  · refine bX1_isName_0 (fun _ => ?_) (fun z => absurd c1 z)
    refine bX1_isName_35 ?_
    cases h
    exact bX1_isName_40 (a_nz (Or.inr rfl))
  · refine bX1_isName_0 (fun z => absurd z c1) (fun _ => ?_)
    refine a_ite h (fun c2 h => ?_) (fun c2 h => ?_)
    · refine bX1_isName_7 (fun _ => ?_) (fun z => absurd c2 z)
      refine bX1_isName_35 ?_
      cases h
      exact bX1_isName_40 (a_nz (Or.inr rfl))
    · refine bX1_isName_7 (fun z => absurd z c2) (fun _ => ?_)
      refine a_ite h (fun c3 h => ?_) (fun c3 h => ?_)
      · refine bX1_isName_14 (fun _ => ?_) (fun z => absurd c3 z)
        refine bX1_isName_35 ?_
        cases h
        exact bX1_isName_40 (a_nz (Or.inr rfl))
      · refine bX1_isName_14 (fun z => absurd z c3) (fun _ => ?_)
        refine a_ite h (fun c4 h => ?_) (fun c4 h => ?_)
        · refine bX1_isName_21 (fun _ => ?_) (fun z => absurd c4 z)
          refine bX1_isName_39 ?_
          cases h
          exact bX1_isName_40 (a_nz (Or.inl rfl))
        · refine bX1_isName_21 (fun z => absurd z c4) (fun _ => ?_)
          refine a_ite h (fun c5 h => ?_) (fun c5 h => ?_)
          · refine bX1_isName_28 (fun _ => ?_) (fun z => absurd c5 z)
            refine bX1_isName_39 ?_
            cases h
            exact bX1_isName_40 (a_nz (Or.inl rfl))
          · refine bX1_isName_28 (fun z => absurd z c5) (fun _ => ?_)
            refine bX1_isName_35 ?_
            cases h
            exact bX1_isName_40 (a_nz (Or.inr rfl))

noncomputable def FX1_compares (d : aI) (e : aJ) (x0 : Int32) (y1 : Int64) (y3 : Int64) : Option (Int32 × aI × aJ) := (if x0 = (nI 3) then (if 0 < (lg_cmp y1 y3) then (some ((nI 0), d, e)) else (some ((nI 1), d, e))) else (if x0 = (nI 4) then (if (lg_cmp y1 y3) < 0 then (some ((nI 0), d, e)) else (some ((nI 1), d, e))) else (if x0 = (nI 60) then (if 0 ≤ (lg_cmp y1 y3) then (some ((nI 0), d, e)) else (some ((nI 1), d, e))) else (if x0 = (nI 61) then (if (lg_cmp y1 y3) = 0 then (some ((nI 1), d, e)) else (some ((nI 0), d, e))) else (if x0 = (nI 62) then (if (lg_cmp y1 y3) ≤ 0 then (some ((nI 0), d, e)) else (some ((nI 1), d, e))) else (if (lg_cmp y1 y3) = 0 then (some ((nI 0), d, e)) else (some ((nI 1), d, e))))))))
theorem evX1_compares {Γ : aG × Launch} {d : aI} {e : aJ} {x0 : Int32} {y1 : Int64} {y3 : Int64} {q : Int32 × aI × aJ} (h : FX1_compares d e x0 y1 y3 = some q) : Ev Γ (0) mX1_compares [.int x0, .long y1, .long y3] d e (some (.int q.1)) q.2.1 q.2.2 := by
  refine Ev.of (by decide) rfl (Nat.le_of_ble_eq_true rfl) (fun z => by cases z) ?_
  show Rn Γ (0) mX1_compares 0 [some (.int x0), some (.long y1), none, some (.long y3), none] [] d e _ _ _
  unfold FX1_compares at h
  refine a_ite h (fun c1 h => ?_) (fun c1 h => ?_)
  · refine bX1_compares_0 (fun n0 _ _ _ _ => absurd c1 n0) (fun _ => ?_) (fun z => absurd (c1.symm.trans z) (by decide)) (fun z => absurd (c1.symm.trans z) (by decide)) (fun z => absurd (c1.symm.trans z) (by decide)) (fun z => absurd (c1.symm.trans z) (by decide))
    refine a_ite h (fun c2 h => ?_) (fun c2 h => ?_)
    · refine bX1_compares_64 (fun _ => ?_) (fun z => absurd c2 z)
      refine bX1_compares_74 ?_
      cases h
      exact bX1_compares_75 (a_nz (Or.inl rfl))
    · refine bX1_compares_64 (fun z => absurd z c2) (fun _ => ?_)
      refine bX1_compares_70 ?_
      cases h
      exact bX1_compares_75 (a_nz (Or.inr rfl))
  · skip
    refine a_ite h (fun c3 h => ?_) (fun c3 h => ?_)
    · refine bX1_compares_0 (fun _ n1 _ _ _ => absurd c3 n1) (fun z => absurd z c1) (fun _ => ?_) (fun z => absurd (c3.symm.trans z) (by decide)) (fun z => absurd (c3.symm.trans z) (by decide)) (fun z => absurd (c3.symm.trans z) (by decide))
      refine a_ite h (fun c4 h => ?_) (fun c4 h => ?_)
      · refine bX1_compares_88 (fun _ => ?_) (fun z => absurd c4 z)
        refine bX1_compares_98 ?_
        cases h
        exact bX1_compares_99 (a_nz (Or.inl rfl))
      · refine bX1_compares_88 (fun z => absurd z c4) (fun _ => ?_)
        refine bX1_compares_94 ?_
        cases h
        exact bX1_compares_99 (a_nz (Or.inr rfl))
    · skip
      refine a_ite h (fun c5 h => ?_) (fun c5 h => ?_)
      · refine bX1_compares_0 (fun _ _ n2 _ _ => absurd c5 n2) (fun z => absurd z c1) (fun z => absurd z c3) (fun _ => ?_) (fun z => absurd (c5.symm.trans z) (by decide)) (fun z => absurd (c5.symm.trans z) (by decide))
        refine a_ite h (fun c6 h => ?_) (fun c6 h => ?_)
        · refine bX1_compares_52 (fun _ => ?_) (fun z => absurd c6 z)
          refine bX1_compares_62 ?_
          cases h
          exact bX1_compares_63 (a_nz (Or.inl rfl))
        · refine bX1_compares_52 (fun z => absurd z c6) (fun _ => ?_)
          refine bX1_compares_58 ?_
          cases h
          exact bX1_compares_63 (a_nz (Or.inr rfl))
      · skip
        refine a_ite h (fun c7 h => ?_) (fun c7 h => ?_)
        · refine bX1_compares_0 (fun _ _ _ n3 _ => absurd c7 n3) (fun z => absurd z c1) (fun z => absurd z c3) (fun z => absurd z c5) (fun _ => ?_) (fun z => absurd (c7.symm.trans z) (by decide))
          refine a_ite h (fun c8 h => ?_) (fun c8 h => ?_)
          · refine bX1_compares_100 (fun z => absurd c8 z) (fun _ => ?_)
            refine bX1_compares_106 ?_
            cases h
            exact bX1_compares_111 (a_nz (Or.inr rfl))
          · refine bX1_compares_100 (fun _ => ?_) (fun z => absurd z c8)
            refine bX1_compares_110 ?_
            cases h
            exact bX1_compares_111 (a_nz (Or.inl rfl))
        · skip
          refine a_ite h (fun c9 h => ?_) (fun c9 h => ?_)
          · refine bX1_compares_0 (fun _ _ _ _ n4 => absurd c9 n4) (fun z => absurd z c1) (fun z => absurd z c3) (fun z => absurd z c5) (fun z => absurd z c7) (fun _ => ?_)
            refine a_ite h (fun c10 h => ?_) (fun c10 h => ?_)
            · refine bX1_compares_76 (fun _ => ?_) (fun z => absurd c10 z)
              refine bX1_compares_86 ?_
              cases h
              exact bX1_compares_87 (a_nz (Or.inl rfl))
            · refine bX1_compares_76 (fun z => absurd z c10) (fun _ => ?_)
              refine bX1_compares_82 ?_
              cases h
              exact bX1_compares_87 (a_nz (Or.inr rfl))
          · skip
            refine bX1_compares_0 (fun _ _ _ _ _ => ?_) (fun z => absurd z c1) (fun z => absurd z c3) (fun z => absurd z c5) (fun z => absurd z c7) (fun z => absurd z c9)
            refine a_ite h (fun c11 h => ?_) (fun c11 h => ?_)
            · refine bX1_compares_112 (fun _ => ?_) (fun z => absurd c11 z)
              refine bX1_compares_122 ?_
              cases h
              exact bX1_compares_123 (a_nz (Or.inl rfl))
            · refine bX1_compares_112 (fun z => absurd z c11) (fun _ => ?_)
              refine bX1_compares_118 ?_
              cases h
              exact bX1_compares_123 (a_nz (Or.inr rfl))

noncomputable def FX1_limited (d : aI) (e : aJ) (y0 : Int64) : Option (Int32 × aI × aJ) := (some ((Int64.toInt32 (a_maxJ (-(lN 1000000)) (a_minJ (lN 1000000) y0))), d, e))
theorem evX1_limited {Γ : aG × Launch} {d : aI} {e : aJ} {y0 : Int64} {q : Int32 × aI × aJ} (h : FX1_limited d e y0 = some q) : Ev Γ (0) mX1_limited [.long y0] d e (some (.int q.1)) q.2.1 q.2.2 := by
  refine Ev.of (by decide) rfl (Nat.le_of_ble_eq_true rfl) (fun z => by cases z) ?_
  show Rn Γ (0) mX1_limited 0 [some (.long y0), none] [] d e _ _ _
  unfold FX1_limited at h
  cases h
  exact bX1_limited_0

noncomputable def FX2_isHouse (d : aI) (e : aJ) (x1 : Int32) : Option (Int32 × aI × aJ) := (if x1 < 0 then (some ((nI 0), d, e)) else (if (d 2 8) ≤ x1 then (some ((nI 0), d, e)) else (some ((nI 1), d, e))))
theorem evX2_isHouse {Γ : aG × Launch} {d : aI} {e : aJ} {x1 : Int32} {q : Int32 × aI × aJ} (h : FX2_isHouse d e x1 = some q) : Ev Γ (0) mX2_isHouse [.ref 2, .int x1] d e (some (.int q.1)) q.2.1 q.2.2 := by
  refine Ev.of (by decide) rfl (Nat.le_of_ble_eq_true rfl) (fun z => by cases z) ?_
  show Rn Γ (0) mX2_isHouse 0 [some (.ref 2), some (.int x1)] [] d e _ _ _
  unfold FX2_isHouse at h
  refine a_ite h (fun c1 h => ?_) (fun c1 h => ?_)
  · refine bX2_isHouse_0 (fun _ => ?_) (fun z => absurd c1 z)
    refine bX2_isHouse_16 ?_
    cases h
    exact bX2_isHouse_17 (a_nz (Or.inl rfl))
  · refine bX2_isHouse_0 (fun z => absurd z c1) (fun _ => ?_)
    refine a_ite h (fun c2 h => ?_) (fun c2 h => ?_)
    · refine bX2_isHouse_4 (fun _ => ?_) (fun z => absurd c2 z)
      refine bX2_isHouse_16 ?_
      cases h
      exact bX2_isHouse_17 (a_nz (Or.inl rfl))
    · refine bX2_isHouse_4 (fun z => absurd z c2) (fun _ => ?_)
      refine bX2_isHouse_12 ?_
      cases h
      exact bX2_isHouse_17 (a_nz (Or.inr rfl))

noncomputable def FX2_isCat (d : aI) (e : aJ) (x1 : Int32) : Option (Int32 × aI × aJ) := (if x1 < 0 then (some ((nI 0), d, e)) else (if (d 2 9) ≤ x1 then (some ((nI 0), d, e)) else (some ((nI 1), d, e))))
theorem evX2_isCat {Γ : aG × Launch} {d : aI} {e : aJ} {x1 : Int32} {q : Int32 × aI × aJ} (h : FX2_isCat d e x1 = some q) : Ev Γ (0) mX2_isCat [.ref 2, .int x1] d e (some (.int q.1)) q.2.1 q.2.2 := by
  refine Ev.of (by decide) rfl (Nat.le_of_ble_eq_true rfl) (fun z => by cases z) ?_
  show Rn Γ (0) mX2_isCat 0 [some (.ref 2), some (.int x1)] [] d e _ _ _
  unfold FX2_isCat at h
  refine a_ite h (fun c1 h => ?_) (fun c1 h => ?_)
  · refine bX2_isCat_0 (fun _ => ?_) (fun z => absurd c1 z)
    refine bX2_isCat_16 ?_
    cases h
    exact bX2_isCat_17 (a_nz (Or.inl rfl))
  · refine bX2_isCat_0 (fun z => absurd z c1) (fun _ => ?_)
    refine a_ite h (fun c2 h => ?_) (fun c2 h => ?_)
    · refine bX2_isCat_4 (fun _ => ?_) (fun z => absurd c2 z)
      refine bX2_isCat_16 ?_
      cases h
      exact bX2_isCat_17 (a_nz (Or.inl rfl))
    · refine bX2_isCat_4 (fun z => absurd z c2) (fun _ => ?_)
      refine bX2_isCat_12 ?_
      cases h
      exact bX2_isCat_17 (a_nz (Or.inr rfl))

noncomputable def FX2_build (d : aI) (e : aJ) (x1 : Int32) (x2 : Int32) : Option (Int32 × aI × aJ) := (if (d 2 8) < (nI 6) then (bif ((a_inb (d 2 8) 6) && (a_inb (d 2 8) 6) && (a_inb (d 2 8) 6)) then (some ((((d 2 8) + (nI 1)) - (nI 1)), (uI (uI (uI (uI d 3 ((d 2 8)).toNatClampNeg x1) 4 ((d 2 8)).toNatClampNeg x2) 5 ((d 2 8)).toNatClampNeg (nI 0)) 2 8 ((d 2 8) + (nI 1))), e)) else none) else (some ((-(nI 1)), d, e)))
theorem evX2_build {Γ : aG × Launch} {d : aI} {e : aJ} {x1 : Int32} {x2 : Int32} {q : Int32 × aI × aJ} (h : FX2_build d e x1 x2 = some q) : Ev Γ (0) mX2_build [.ref 2, .int x1, .int x2] d e (some (.int q.1)) q.2.1 q.2.2 := by
  refine Ev.of (by decide) rfl (Nat.le_of_ble_eq_true rfl) (fun z => by cases z) ?_
  show Rn Γ (0) mX2_build 0 [some (.ref 2), some (.int x1), some (.int x2)] [] d e _ _ _
  unfold FX2_build at h
  refine a_ite h (fun c1 h => ?_) (fun c1 h => ?_)
  · refine bX2_build_0 (fun _ => ?_) (fun z => absurd c1 z)
    obtain ⟨g2, h⟩ := a_cond h
    obtain ⟨g2x2, g2_2⟩ := a_and g2
    obtain ⟨g2x1, g2_1⟩ := a_and g2x2
    have g2_0 := g2x1
    cases h
    exact bX2_build_11 ⟨(a_inb_vp g2_0), (a_inb_vp g2_1), (a_inb_vp g2_2)⟩
  · refine bX2_build_0 (fun z => absurd z c1) (fun _ => ?_)
    cases h
    exact bX2_build_9

noncomputable def FX2_bring (d : aI) (e : aJ) (x1 : Int32) (x2 : Int32) : Option (Int32 × aI × aJ) := (if (d 2 9) < (nI 6) then (bif ((a_inb (d 2 9) 6) && (a_inb (d 2 9) 6) && (a_inb (d 2 9) 6) && (a_inb (d 2 9) 6)) then (some ((((d 2 9) + (nI 1)) - (nI 1)), (uI (uI (uI (uI (uI d 7 ((d 2 9)).toNatClampNeg x1) 6 ((d 2 9)).toNatClampNeg x2) 8 ((d 2 9)).toNatClampNeg (-(nI 1))) 9 ((d 2 9)).toNatClampNeg (nI 0)) 2 9 ((d 2 9) + (nI 1))), e)) else none) else (some ((-(nI 1)), d, e)))
theorem evX2_bring {Γ : aG × Launch} {d : aI} {e : aJ} {x1 : Int32} {x2 : Int32} {q : Int32 × aI × aJ} (h : FX2_bring d e x1 x2 = some q) : Ev Γ (0) mX2_bring [.ref 2, .int x1, .int x2] d e (some (.int q.1)) q.2.1 q.2.2 := by
  refine Ev.of (by decide) rfl (Nat.le_of_ble_eq_true rfl) (fun z => by cases z) ?_
  show Rn Γ (0) mX2_bring 0 [some (.ref 2), some (.int x1), some (.int x2)] [] d e _ _ _
  unfold FX2_bring at h
  refine a_ite h (fun c1 h => ?_) (fun c1 h => ?_)
  · refine bX2_bring_0 (fun _ => ?_) (fun z => absurd c1 z)
    obtain ⟨g2, h⟩ := a_cond h
    obtain ⟨g2x3, g2_3⟩ := a_and g2
    obtain ⟨g2x2, g2_2⟩ := a_and g2x3
    obtain ⟨g2x1, g2_1⟩ := a_and g2x2
    have g2_0 := g2x1
    cases h
    exact bX2_bring_11 ⟨(a_inb_vp g2_0), (a_inb_vp g2_1), (a_inb_vp g2_2), (a_inb_vp g2_3)⟩
  · refine bX2_bring_0 (fun z => absurd z c1) (fun _ => ?_)
    cases h
    exact bX2_bring_9

noncomputable def sX2_guest_0 (d : aI) (e : aJ) (x1 : Int32) : Option (Nat × aL × aI × aJ) := (some (2, [some (.ref 2), some (.int x1), some (.int (nI 0))], d, e))
theorem tX2_guest_0 {Γ : aG × Launch} {d dF : aI} {e eF : aJ} {x1 : Int32} {r : Option Value} {p : Nat × aL × aI × aJ} (h : sX2_guest_0 d e x1 = some p) (kc : Nat.beq p.1 100000 = false → Rn Γ (1) mX2_guest p.1 p.2.1 [] p.2.2.1 p.2.2.2 r dF eF) (kr : p.1 = 100000 → r = a_rt p.2.1 ∧ dF = p.2.2.1 ∧ eF = p.2.2.2) : Rn Γ (1) mX2_guest 0 [some (.ref 2), some (.int x1), none] [] d e r dF eF := by
  unfold sX2_guest_0 at h
  refine bX2_guest_0 ?_
  cases h
  exact kc rfl

noncomputable def sX2_guest_2 (d : aI) (e : aJ) (x1 : Int32) (x2 : Int32) : Option (Nat × aL × aI × aJ) := (if (d 2 9) ≤ x2 then (some (100000, [some (.int (-(nI 1)))], d, e)) else ((FX2_isHouse d e x1).bind fun q2 => (if q2.1 = 0 then (some (100000, [some (.int (-(nI 1)))], q2.2.1, q2.2.2)) else (bif ((a_inb x2 6)) then (if (q2.2.1 8 (x2).toNatClampNeg) = x1 then (some (100000, [some (.int x2)], q2.2.1, q2.2.2)) else (some (2, [some (.ref 2), some (.int x1), some (.int (x2 + (nI 1)))], q2.2.1, q2.2.2))) else none))))
theorem tX2_guest_2 {Γ : aG × Launch} {d dF : aI} {e eF : aJ} {x1 : Int32} {x2 : Int32} {r : Option Value} {p : Nat × aL × aI × aJ} (h : sX2_guest_2 d e x1 x2 = some p) (kc : Nat.beq p.1 100000 = false → Rn Γ (1) mX2_guest p.1 p.2.1 [] p.2.2.1 p.2.2.2 r dF eF) (kr : p.1 = 100000 → r = a_rt p.2.1 ∧ dF = p.2.2.1 ∧ eF = p.2.2.2) : Rn Γ (1) mX2_guest 2 [some (.ref 2), some (.int x1), some (.int x2)] [] d e r dF eF := by
  unfold sX2_guest_2 at h
  refine a_ite h (fun c1 h => ?_) (fun c1 h => ?_)
  · refine bX2_guest_2 (fun _ => ?_) (fun z => absurd c1 z)
    cases h
    obtain ⟨k1, k2, k3⟩ := kr rfl
    exact bX2_guest_36 k1 k2 k3
  · refine bX2_guest_2 (fun z => absurd z c1) (fun _ => ?_)
    obtain ⟨q2, hq2, h⟩ := Option.bind_eq_some_iff.mp h
    refine bX2_guest_10 (evX2_isHouse hq2) (by omega) ?_
    refine a_ite h (fun c3 h => ?_) (fun c3 h => ?_)
    · refine bX2_guest_15 (fun _ => ?_) (fun z => absurd c3 z)
      cases h
      obtain ⟨k1, k2, k3⟩ := kr rfl
      exact bX2_guest_36 k1 k2 k3
    · refine bX2_guest_15 (fun z => absurd z c3) (fun _ => ?_)
      obtain ⟨g4, h⟩ := a_cond h
      refine a_ite h (fun c5 h => ?_) (fun c5 h => ?_)
      · refine bX2_guest_18 (a_inb_vp g4) (fun z => absurd c5 z) (fun _ => ?_)
        cases h
        obtain ⟨k1, k2, k3⟩ := kr rfl
        exact bX2_guest_28 k1 k2 k3
      · refine bX2_guest_18 (a_inb_vp g4) (fun _ => ?_) (fun z => absurd z c5)
        refine bX2_guest_30 ?_
        cases h
        exact kc rfl

noncomputable def stX2_guest (p : Nat × aL × aI × aJ) : Option (Nat × aL × aI × aJ) := match p with
  | (0, [some (.ref 2), some (.int x1), none], d, e) => sX2_guest_0 d e x1
  | (2, [some (.ref 2), some (.int x1), some (.int x2)], d, e) => sX2_guest_2 d e x1 x2
  | _ => none
theorem uX2_guest {Γ : aG × Launch} {p p2 : Nat × aL × aI × aJ} {r : Option Value} {dF : aI} {eF : aJ} (h : stX2_guest p = some p2) (kc : Nat.beq p2.1 100000 = false → Rn Γ (1) mX2_guest p2.1 p2.2.1 [] p2.2.2.1 p2.2.2.2 r dF eF) (kr : p2.1 = 100000 → r = a_rt p2.2.1 ∧ dF = p2.2.2.1 ∧ eF = p2.2.2.2) : Rn Γ (1) mX2_guest p.1 p.2.1 [] p.2.2.1 p.2.2.2 r dF eF := by
  unfold stX2_guest at h
  split at h
  · exact tX2_guest_0 h kc kr
  · exact tX2_guest_2 h kc kr
  · cases h
noncomputable def FX2_guest (d : aI) (e : aJ) (x1 : Int32) : Option (Int32 × aI × aJ) := (a_run (stX2_guest) (0, [some (.ref 2), some (.int x1), none], d, e)).bind a_xI
theorem evX2_guest {Γ : aG × Launch} {d : aI} {e : aJ} {x1 : Int32} {q : Int32 × aI × aJ} (h : FX2_guest d e x1 = some q) : Ev Γ (1) mX2_guest [.ref 2, .int x1] d e (some (.int q.1)) q.2.1 q.2.2 := by
  refine Ev.of (by decide) rfl (Nat.le_of_ble_eq_true rfl) (fun z => by cases z) ?_
  show Rn Γ (1) mX2_guest 0 [some (.ref 2), some (.int x1), none] [] d e _ _ _
  obtain ⟨q1, h1, h2⟩ := Option.bind_eq_some_iff.mp h
  obtain ⟨e1, e2, e3⟩ := a_xI_rt h2
  exact Rn.cast (a_run_ok (uX2_guest) rfl h1) e1.symm e2.symm e3.symm
noncomputable def FX2_canEnter (d : aI) (e : aJ) (x1 : Int32) (x2 : Int32) : Option (Int32 × aI × aJ) := ((FX2_isCat d e x1).bind fun q1 => (if q1.1 = 0 then (some ((nI 0), q1.2.1, q1.2.2)) else ((FX2_isHouse q1.2.1 q1.2.2 x2).bind fun q3 => (if q3.1 = 0 then (some ((nI 0), q3.2.1, q3.2.2)) else (bif ((a_inb x1 6)) then (if (q3.2.1 8 (x1).toNatClampNeg) = (-(nI 1)) then (bif ((a_inb x1 6) && (a_inb x2 6)) then (if (q3.2.1 7 (x1).toNatClampNeg) = (q3.2.1 3 (x2).toNatClampNeg) then ((FX2_guest q3.2.1 q3.2.2 x2).bind fun q9 => (if q9.1 = (-(nI 1)) then (some ((nI 1), q9.2.1, q9.2.2)) else (some ((nI 0), q9.2.1, q9.2.2)))) else (some ((nI 0), q3.2.1, q3.2.2))) else none) else (some ((nI 0), q3.2.1, q3.2.2))) else none)))))
theorem evX2_canEnter {Γ : aG × Launch} {d : aI} {e : aJ} {x1 : Int32} {x2 : Int32} {q : Int32 × aI × aJ} (h : FX2_canEnter d e x1 x2 = some q) : Ev Γ (2) mX2_canEnter [.ref 2, .int x1, .int x2] d e (some (.int q.1)) q.2.1 q.2.2 := by
  refine Ev.of (by decide) rfl (Nat.le_of_ble_eq_true rfl) (fun z => by cases z) ?_
  show Rn Γ (2) mX2_canEnter 0 [some (.ref 2), some (.int x1), some (.int x2)] [] d e _ _ _
  unfold FX2_canEnter at h
  obtain ⟨q1, hq1, h⟩ := Option.bind_eq_some_iff.mp h
  refine bX2_canEnter_0 (evX2_isCat hq1) (by omega) ?_
  refine a_ite h (fun c2 h => ?_) (fun c2 h => ?_)
  · refine bX2_canEnter_5 (fun _ => ?_) (fun z => absurd c2 z)
    refine bX2_canEnter_54 ?_
    cases h
    exact bX2_canEnter_55 (a_nz (Or.inl rfl))
  · refine bX2_canEnter_5 (fun z => absurd z c2) (fun _ => ?_)
    obtain ⟨q3, hq3, h⟩ := Option.bind_eq_some_iff.mp h
    refine bX2_canEnter_8 (evX2_isHouse hq3) (by omega) ?_
    refine a_ite h (fun c4 h => ?_) (fun c4 h => ?_)
    · refine bX2_canEnter_13 (fun _ => ?_) (fun z => absurd c4 z)
      refine bX2_canEnter_54 ?_
      cases h
      exact bX2_canEnter_55 (a_nz (Or.inl rfl))
    · refine bX2_canEnter_13 (fun z => absurd z c4) (fun _ => ?_)
      obtain ⟨g5, h⟩ := a_cond h
      refine a_ite h (fun c6 h => ?_) (fun c6 h => ?_)
      · refine bX2_canEnter_16 (a_inb_vp g5) (fun z => absurd c6 z) (fun _ => ?_)
        obtain ⟨g7, h⟩ := a_cond h
        obtain ⟨g7x1, g7_1⟩ := a_and g7
        have g7_0 := g7x1
        refine a_ite h (fun c8 h => ?_) (fun c8 h => ?_)
        · refine bX2_canEnter_26 ⟨(a_inb_vp g7_0), (a_inb_vp g7_1)⟩ (fun z => absurd c8 z) (fun _ => ?_)
          obtain ⟨q9, hq9, h⟩ := Option.bind_eq_some_iff.mp h
          refine bX2_canEnter_41 (evX2_guest hq9) (by omega) ?_
          refine a_ite h (fun c10 h => ?_) (fun c10 h => ?_)
          · refine bX2_canEnter_46 (fun z => absurd c10 z) (fun _ => ?_)
            refine bX2_canEnter_50 ?_
            cases h
            exact bX2_canEnter_55 (a_nz (Or.inr rfl))
          · refine bX2_canEnter_46 (fun _ => ?_) (fun z => absurd z c10)
            refine bX2_canEnter_54 ?_
            cases h
            exact bX2_canEnter_55 (a_nz (Or.inl rfl))
        · refine bX2_canEnter_26 ⟨(a_inb_vp g7_0), (a_inb_vp g7_1)⟩ (fun _ => ?_) (fun z => absurd z c8)
          refine bX2_canEnter_54 ?_
          cases h
          exact bX2_canEnter_55 (a_nz (Or.inl rfl))
      · refine bX2_canEnter_16 (a_inb_vp g5) (fun _ => ?_) (fun z => absurd z c6)
        refine bX2_canEnter_54 ?_
        cases h
        exact bX2_canEnter_55 (a_nz (Or.inl rfl))

noncomputable def FX2_move (d : aI) (e : aJ) (x1 : Int32) (x2 : Int32) : Option (Unit × aI × aJ) := (bif ((a_inb x1 6) && (decide (¬ (nI 10) = 0)) && (a_inb x1 6)) then (some ((), (uI d 7 (x1).toNatClampNeg (a_irm (((d 7 (x1).toNatClampNeg) + x2) + (nI 10)) (nI 10))), e)) else none)
theorem evX2_move {Γ : aG × Launch} {d : aI} {e : aJ} {x1 : Int32} {x2 : Int32} {q : Unit × aI × aJ} (h : FX2_move d e x1 x2 = some q) : Ev Γ (0) mX2_move [.ref 2, .int x1, .int x2] d e none q.2.1 q.2.2 := by
  refine Ev.of (by decide) rfl (Nat.le_of_ble_eq_true rfl) (fun z => by cases z) ?_
  show Rn Γ (0) mX2_move 0 [some (.ref 2), some (.int x1), some (.int x2)] [] d e _ _ _
  unfold FX2_move at h
  obtain ⟨g1, h⟩ := a_cond h
  obtain ⟨g1x2, g1_2⟩ := a_and g1
  obtain ⟨g1x1, g1_1⟩ := a_and g1x2
  have g1_0 := g1x1
  cases h
  exact bX2_move_0 ⟨(a_inb_vp g1_0), (of_decide_eq_true g1_1), (a_inb_vp g1_2)⟩

noncomputable def FX2_draw (d : aI) (e : aJ)  : Option (Int32 × aI × aJ) := (bif ((decide (¬ (nI 30931) = 0))) then (some ((d 2 12), (uI d 2 12 (a_irm (((d 2 12) * (nI 647)) + (nI 509)) (nI 30931))), e)) else none)
theorem evX2_draw {Γ : aG × Launch} {d : aI} {e : aJ}  {q : Int32 × aI × aJ} (h : FX2_draw d e  = some q) : Ev Γ (0) mX2_draw [.ref 2] d e (some (.int q.1)) q.2.1 q.2.2 := by
  refine Ev.of (by decide) rfl (Nat.le_of_ble_eq_true rfl) (fun z => by cases z) ?_
  show Rn Γ (0) mX2_draw 0 [some (.ref 2), none] [] d e _ _ _
  unfold FX2_draw at h
  obtain ⟨g1, h⟩ := a_cond h
  cases h
  exact bX2_draw_0 (of_decide_eq_true g1)

noncomputable def FX2_take (d : aI) (e : aJ) (x1 : Int32) (x2 : Int32) (x3 : Int32) : Option (Int32 × aI × aJ) := (bif ((a_inb x2 6) && (a_inb x2 6) && (a_inb x2 6) && (a_inb x1 6) && (a_inb x1 6)) then (some ((a_min x3 (d 4 (x2).toNatClampNeg)), (uI (uI d 4 (x2).toNatClampNeg ((d 4 (x2).toNatClampNeg) - (a_min x3 (d 4 (x2).toNatClampNeg)))) 9 (x1).toNatClampNeg (a_min ((d 9 (x1).toNatClampNeg) + (a_min x3 (d 4 (x2).toNatClampNeg))) (nI 9999))), e)) else none)
theorem evX2_take {Γ : aG × Launch} {d : aI} {e : aJ} {x1 : Int32} {x2 : Int32} {x3 : Int32} {q : Int32 × aI × aJ} (h : FX2_take d e x1 x2 x3 = some q) : Ev Γ (0) mX2_take [.ref 2, .int x1, .int x2, .int x3] d e (some (.int q.1)) q.2.1 q.2.2 := by
  refine Ev.of (by decide) rfl (Nat.le_of_ble_eq_true rfl) (fun z => by cases z) ?_
  show Rn Γ (0) mX2_take 0 [some (.ref 2), some (.int x1), some (.int x2), some (.int x3), none] [] d e _ _ _
  unfold FX2_take at h
  obtain ⟨g1, h⟩ := a_cond h
  obtain ⟨g1x4, g1_4⟩ := a_and g1
  obtain ⟨g1x3, g1_3⟩ := a_and g1x4
  obtain ⟨g1x2, g1_2⟩ := a_and g1x3
  obtain ⟨g1x1, g1_1⟩ := a_and g1x2
  have g1_0 := g1x1
  cases h
  exact bX2_take_0 ⟨(a_inb_vp g1_0), (a_inb_vp g1_1), (a_inb_vp g1_2), (a_inb_vp g1_3), (a_inb_vp g1_4)⟩

noncomputable def FX2_note (d : aI) (e : aJ) (x1 : Int32) (x2 : Int32) (x3 : Int32) : Option (Unit × aI × aJ) := (if (d 2 10) < (nI 25) then (bif ((a_inb (d 2 10) 25)) then (some ((), (uI (uI d 10 ((d 2 10)).toNatClampNeg (((((((d 2 11) * (nI 6)) + x1) * (nI 6)) + x2) * (nI 3)) + x3)) 2 10 ((d 2 10) + (nI 1))), e)) else none) else (bif ((decide (¬ (nI 1) < 0 ∧ ¬ (nI 0) < 0 ∧ ¬ (nI 24) < 0 ∧ 1 + 24 ≤ 25 ∧ 0 + 24 ≤ 25))) then (bif ((a_inb ((uI (uA d 10 (va_cpy (d 10) (d 10) 1 0 24)) 2 10 (nI 24)) 2 10) 25)) then (some ((), (uI (uI (uI (uA d 10 (va_cpy (d 10) (d 10) 1 0 24)) 2 10 (nI 24)) 10 (((uI (uA d 10 (va_cpy (d 10) (d 10) 1 0 24)) 2 10 (nI 24)) 2 10)).toNatClampNeg ((((((((uI (uA d 10 (va_cpy (d 10) (d 10) 1 0 24)) 2 10 (nI 24)) 2 11) * (nI 6)) + x1) * (nI 6)) + x2) * (nI 3)) + x3)) 2 10 (((uI (uA d 10 (va_cpy (d 10) (d 10) 1 0 24)) 2 10 (nI 24)) 2 10) + (nI 1))), e)) else none) else none))
theorem evX2_note {Γ : aG × Launch} {d : aI} {e : aJ} {x1 : Int32} {x2 : Int32} {x3 : Int32} {q : Unit × aI × aJ} (h : FX2_note d e x1 x2 x3 = some q) : Ev Γ (0) mX2_note [.ref 2, .int x1, .int x2, .int x3] d e none q.2.1 q.2.2 := by
  refine Ev.of (by decide) rfl (Nat.le_of_ble_eq_true rfl) (fun z => by cases z) ?_
  show Rn Γ (0) mX2_note 0 [some (.ref 2), some (.int x1), some (.int x2), some (.int x3)] [] d e _ _ _
  unfold FX2_note at h
  refine a_ite h (fun c1 h => ?_) (fun c1 h => ?_)
  · refine bX2_note_0 (fun _ => ?_) (fun z => absurd c1 z)
    obtain ⟨g2, h⟩ := a_cond h
    cases h
    exact bX2_note_30 (a_inb_vp g2)
  · refine bX2_note_0 (fun z => absurd z c1) (fun _ => ?_)
    obtain ⟨g3, h⟩ := a_cond h
    refine bX2_note_9 (of_decide_eq_true g3) ?_
    refine bX2_note_24 ?_
    obtain ⟨g4, h⟩ := a_cond h
    cases h
    exact bX2_note_30 (a_inb_vp g4)

noncomputable def sX2_catsAt_0 (d : aI) (e : aJ) (x1 : Int32) : Option (Nat × aL × aI × aJ) := (some (4, [some (.ref 2), some (.int x1), some (.int (nI 0)), some (.int (nI 0))], d, e))
theorem tX2_catsAt_0 {Γ : aG × Launch} {d dF : aI} {e eF : aJ} {x1 : Int32} {r : Option Value} {p : Nat × aL × aI × aJ} (h : sX2_catsAt_0 d e x1 = some p) (kc : Nat.beq p.1 100000 = false → Rn Γ (0) mX2_catsAt p.1 p.2.1 [] p.2.2.1 p.2.2.2 r dF eF) (kr : p.1 = 100000 → r = a_rt p.2.1 ∧ dF = p.2.2.1 ∧ eF = p.2.2.2) : Rn Γ (0) mX2_catsAt 0 [some (.ref 2), some (.int x1), none, none] [] d e r dF eF := by
  unfold sX2_catsAt_0 at h
  refine bX2_catsAt_0 ?_
  cases h
  exact kc rfl

noncomputable def sX2_catsAt_4 (d : aI) (e : aJ) (x1 : Int32) (x2 : Int32) (x3 : Int32) : Option (Nat × aL × aI × aJ) := (if (d 2 9) ≤ x3 then (some (100000, [some (.int x2)], d, e)) else (bif ((a_inb x3 6)) then (if (d 8 (x3).toNatClampNeg) = (-(nI 1)) then (bif ((a_inb x3 6)) then (if (d 7 (x3).toNatClampNeg) = x1 then (some (4, [some (.ref 2), some (.int x1), some (.int (x2 ||| (a_shl (nI 1) x3))), some (.int (x3 + (nI 1)))], d, e)) else (some (4, [some (.ref 2), some (.int x1), some (.int (x2 ||| (nI 0))), some (.int (x3 + (nI 1)))], d, e))) else none) else (some (4, [some (.ref 2), some (.int x1), some (.int (x2 ||| (nI 0))), some (.int (x3 + (nI 1)))], d, e))) else none))
theorem tX2_catsAt_4 {Γ : aG × Launch} {d dF : aI} {e eF : aJ} {x1 : Int32} {x2 : Int32} {x3 : Int32} {r : Option Value} {p : Nat × aL × aI × aJ} (h : sX2_catsAt_4 d e x1 x2 x3 = some p) (kc : Nat.beq p.1 100000 = false → Rn Γ (0) mX2_catsAt p.1 p.2.1 [] p.2.2.1 p.2.2.2 r dF eF) (kr : p.1 = 100000 → r = a_rt p.2.1 ∧ dF = p.2.2.1 ∧ eF = p.2.2.2) : Rn Γ (0) mX2_catsAt 4 [some (.ref 2), some (.int x1), some (.int x2), some (.int x3)] [] d e r dF eF := by
  unfold sX2_catsAt_4 at h
  refine a_ite h (fun c1 h => ?_) (fun c1 h => ?_)
  · refine bX2_catsAt_4 (fun _ => ?_) (fun z => absurd c1 z)
    cases h
    obtain ⟨k1, k2, k3⟩ := kr rfl
    exact bX2_catsAt_48 k1 k2 k3
  · refine bX2_catsAt_4 (fun z => absurd z c1) (fun _ => ?_)
    obtain ⟨g2, h⟩ := a_cond h
    refine a_ite h (fun c3 h => ?_) (fun c3 h => ?_)
    · refine bX2_catsAt_12 (a_inb_vp g2) (fun z => absurd c3 z) (fun _ => ?_)
      obtain ⟨g4, h⟩ := a_cond h
      refine a_ite h (fun c5 h => ?_) (fun c5 h => ?_)
      · refine bX2_catsAt_23 (a_inb_vp g4) (fun z => absurd c5 z) (fun _ => ?_)
        refine bX2_catsAt_33 ?_
        refine bX2_catsAt_40 ?_
        cases h
        exact kc rfl
      · refine bX2_catsAt_23 (a_inb_vp g4) (fun _ => ?_) (fun z => absurd z c5)
        refine bX2_catsAt_39 ?_
        refine bX2_catsAt_40 ?_
        cases h
        exact kc rfl
    · refine bX2_catsAt_12 (a_inb_vp g2) (fun _ => ?_) (fun z => absurd z c3)
      refine bX2_catsAt_39 ?_
      refine bX2_catsAt_40 ?_
      cases h
      exact kc rfl

noncomputable def stX2_catsAt (p : Nat × aL × aI × aJ) : Option (Nat × aL × aI × aJ) := match p with
  | (0, [some (.ref 2), some (.int x1), none, none], d, e) => sX2_catsAt_0 d e x1
  | (4, [some (.ref 2), some (.int x1), some (.int x2), some (.int x3)], d, e) => sX2_catsAt_4 d e x1 x2 x3
  | _ => none
theorem uX2_catsAt {Γ : aG × Launch} {p p2 : Nat × aL × aI × aJ} {r : Option Value} {dF : aI} {eF : aJ} (h : stX2_catsAt p = some p2) (kc : Nat.beq p2.1 100000 = false → Rn Γ (0) mX2_catsAt p2.1 p2.2.1 [] p2.2.2.1 p2.2.2.2 r dF eF) (kr : p2.1 = 100000 → r = a_rt p2.2.1 ∧ dF = p2.2.2.1 ∧ eF = p2.2.2.2) : Rn Γ (0) mX2_catsAt p.1 p.2.1 [] p.2.2.1 p.2.2.2 r dF eF := by
  unfold stX2_catsAt at h
  split at h
  · exact tX2_catsAt_0 h kc kr
  · exact tX2_catsAt_4 h kc kr
  · cases h
noncomputable def FX2_catsAt (d : aI) (e : aJ) (x1 : Int32) : Option (Int32 × aI × aJ) := (a_run (stX2_catsAt) (0, [some (.ref 2), some (.int x1), none, none], d, e)).bind a_xI
theorem evX2_catsAt {Γ : aG × Launch} {d : aI} {e : aJ} {x1 : Int32} {q : Int32 × aI × aJ} (h : FX2_catsAt d e x1 = some q) : Ev Γ (0) mX2_catsAt [.ref 2, .int x1] d e (some (.int q.1)) q.2.1 q.2.2 := by
  refine Ev.of (by decide) rfl (Nat.le_of_ble_eq_true rfl) (fun z => by cases z) ?_
  show Rn Γ (0) mX2_catsAt 0 [some (.ref 2), some (.int x1), none, none] [] d e _ _ _
  obtain ⟨q1, h1, h2⟩ := Option.bind_eq_some_iff.mp h
  obtain ⟨e1, e2, e3⟩ := a_xI_rt h2
  exact Rn.cast (a_run_ok (uX2_catsAt) rfl h1) e1.symm e2.symm e3.symm
noncomputable def sX2_rank_0 (d : aI) (e : aJ) (x1 : Int32) : Option (Nat × aL × aI × aJ) := (some (4, [some (.ref 2), some (.int x1), some (.int (nI 0)), some (.int (nI 0)), none], d, e))
theorem tX2_rank_0 {Γ : aG × Launch} {d dF : aI} {e eF : aJ} {x1 : Int32} {r : Option Value} {p : Nat × aL × aI × aJ} (h : sX2_rank_0 d e x1 = some p) (kc : Nat.beq p.1 100000 = false → Rn Γ (0) mX2_rank p.1 p.2.1 [] p.2.2.1 p.2.2.2 r dF eF) (kr : p.1 = 100000 → r = a_rt p.2.1 ∧ dF = p.2.2.1 ∧ eF = p.2.2.2) : Rn Γ (0) mX2_rank 0 [some (.ref 2), some (.int x1), none, none, none] [] d e r dF eF := by
  unfold sX2_rank_0 at h
  refine bX2_rank_0 ?_
  cases h
  exact kc rfl

noncomputable def sX2_rank_4 (d : aI) (e : aJ) (x1 : Int32) (x2 : Int32) (x3 : Int32) (v4 : Option Value) : Option (Nat × aL × aI × aJ) := (if (d 2 9) ≤ x3 then (some (100000, [some (.int x2)], d, e)) else (bif ((a_inb x3 6) && (a_inb x1 6)) then (if (d 6 (x3).toNatClampNeg) < (d 6 (x1).toNatClampNeg) then (if (nI 1) = 0 then (some (4, [some (.ref 2), some (.int x1), some (.int (x2 + (nI 0))), some (.int (x3 + (nI 1))), some (.int (nI 1))], d, e)) else (some (4, [some (.ref 2), some (.int x1), some (.int (x2 + (nI 1))), some (.int (x3 + (nI 1))), some (.int (nI 1))], d, e))) else (bif ((a_inb x3 6) && (a_inb x1 6)) then (if (d 6 (x3).toNatClampNeg) = (d 6 (x1).toNatClampNeg) then (if x1 ≤ x3 then (if (nI 0) = 0 then (some (4, [some (.ref 2), some (.int x1), some (.int (x2 + (nI 0))), some (.int (x3 + (nI 1))), some (.int (nI 0))], d, e)) else (some (4, [some (.ref 2), some (.int x1), some (.int (x2 + (nI 1))), some (.int (x3 + (nI 1))), some (.int (nI 0))], d, e))) else (if (nI 1) = 0 then (some (4, [some (.ref 2), some (.int x1), some (.int (x2 + (nI 0))), some (.int (x3 + (nI 1))), some (.int (nI 1))], d, e)) else (some (4, [some (.ref 2), some (.int x1), some (.int (x2 + (nI 1))), some (.int (x3 + (nI 1))), some (.int (nI 1))], d, e)))) else (if (nI 0) = 0 then (some (4, [some (.ref 2), some (.int x1), some (.int (x2 + (nI 0))), some (.int (x3 + (nI 1))), some (.int (nI 0))], d, e)) else (some (4, [some (.ref 2), some (.int x1), some (.int (x2 + (nI 1))), some (.int (x3 + (nI 1))), some (.int (nI 0))], d, e)))) else none)) else none))
theorem tX2_rank_4 {Γ : aG × Launch} {d dF : aI} {e eF : aJ} {x1 : Int32} {x2 : Int32} {x3 : Int32} {v4 : Option Value} {r : Option Value} {p : Nat × aL × aI × aJ} (h : sX2_rank_4 d e x1 x2 x3 v4 = some p) (kc : Nat.beq p.1 100000 = false → Rn Γ (0) mX2_rank p.1 p.2.1 [] p.2.2.1 p.2.2.2 r dF eF) (kr : p.1 = 100000 → r = a_rt p.2.1 ∧ dF = p.2.2.1 ∧ eF = p.2.2.2) : Rn Γ (0) mX2_rank 4 [some (.ref 2), some (.int x1), some (.int x2), some (.int x3), v4] [] d e r dF eF := by
  unfold sX2_rank_4 at h
  refine a_ite h (fun c1 h => ?_) (fun c1 h => ?_)
  · refine bX2_rank_4 (fun _ => ?_) (fun z => absurd c1 z)
    cases h
    obtain ⟨k1, k2, k3⟩ := kr rfl
    exact bX2_rank_73 k1 k2 k3
  · refine bX2_rank_4 (fun z => absurd z c1) (fun _ => ?_)
    obtain ⟨g2, h⟩ := a_cond h
    obtain ⟨g2x1, g2_1⟩ := a_and g2
    have g2_0 := g2x1
    refine a_ite h (fun c3 h => ?_) (fun c3 h => ?_)
    · refine bX2_rank_12 ⟨(a_inb_vp g2_0), (a_inb_vp g2_1)⟩ (fun _ => ?_) (fun z => absurd c3 z)
      refine bX2_rank_47 ?_
      refine a_ite h (fun c4 h => ?_) (fun c4 h => ?_)
      · refine bX2_rank_52 (fun _ => ?_) (fun z => absurd c4 z)
        refine bX2_rank_64 ?_
        refine bX2_rank_65 ?_
        cases h
        exact kc rfl
      · refine bX2_rank_52 (fun z => absurd z c4) (fun _ => ?_)
        refine bX2_rank_60 ?_
        refine bX2_rank_65 ?_
        cases h
        exact kc rfl
    · refine bX2_rank_12 ⟨(a_inb_vp g2_0), (a_inb_vp g2_1)⟩ (fun z => absurd z c3) (fun _ => ?_)
      obtain ⟨g5, h⟩ := a_cond h
      obtain ⟨g5x1, g5_1⟩ := a_and g5
      have g5_0 := g5x1
      refine a_ite h (fun c6 h => ?_) (fun c6 h => ?_)
      · refine bX2_rank_27 ⟨(a_inb_vp g5_0), (a_inb_vp g5_1)⟩ (fun z => absurd c6 z) (fun _ => ?_)
        refine a_ite h (fun c7 h => ?_) (fun c7 h => ?_)
        · refine bX2_rank_42 (fun _ => ?_) (fun z => absurd c7 z)
          refine bX2_rank_51 ?_
          refine a_ite h (fun c8 h => ?_) (fun c8 h => ?_)
          · refine bX2_rank_52 (fun _ => ?_) (fun z => absurd c8 z)
            refine bX2_rank_64 ?_
            refine bX2_rank_65 ?_
            cases h
            exact kc rfl
          · refine bX2_rank_52 (fun z => absurd z c8) (fun _ => ?_)
            refine bX2_rank_60 ?_
            refine bX2_rank_65 ?_
            cases h
            exact kc rfl
        · refine bX2_rank_42 (fun z => absurd z c7) (fun _ => ?_)
          refine bX2_rank_47 ?_
          refine a_ite h (fun c9 h => ?_) (fun c9 h => ?_)
          · refine bX2_rank_52 (fun _ => ?_) (fun z => absurd c9 z)
            refine bX2_rank_64 ?_
            refine bX2_rank_65 ?_
            cases h
            exact kc rfl
          · refine bX2_rank_52 (fun z => absurd z c9) (fun _ => ?_)
            refine bX2_rank_60 ?_
            refine bX2_rank_65 ?_
            cases h
            exact kc rfl
      · refine bX2_rank_27 ⟨(a_inb_vp g5_0), (a_inb_vp g5_1)⟩ (fun _ => ?_) (fun z => absurd z c6)
        refine bX2_rank_51 ?_
        refine a_ite h (fun c10 h => ?_) (fun c10 h => ?_)
        · refine bX2_rank_52 (fun _ => ?_) (fun z => absurd c10 z)
          refine bX2_rank_64 ?_
          refine bX2_rank_65 ?_
          cases h
          exact kc rfl
        · refine bX2_rank_52 (fun z => absurd z c10) (fun _ => ?_)
          refine bX2_rank_60 ?_
          refine bX2_rank_65 ?_
          cases h
          exact kc rfl

noncomputable def stX2_rank (p : Nat × aL × aI × aJ) : Option (Nat × aL × aI × aJ) := match p with
  | (0, [some (.ref 2), some (.int x1), none, none, none], d, e) => sX2_rank_0 d e x1
  | (4, [some (.ref 2), some (.int x1), some (.int x2), some (.int x3), v4], d, e) => sX2_rank_4 d e x1 x2 x3 v4
  | _ => none
theorem uX2_rank {Γ : aG × Launch} {p p2 : Nat × aL × aI × aJ} {r : Option Value} {dF : aI} {eF : aJ} (h : stX2_rank p = some p2) (kc : Nat.beq p2.1 100000 = false → Rn Γ (0) mX2_rank p2.1 p2.2.1 [] p2.2.2.1 p2.2.2.2 r dF eF) (kr : p2.1 = 100000 → r = a_rt p2.2.1 ∧ dF = p2.2.2.1 ∧ eF = p2.2.2.2) : Rn Γ (0) mX2_rank p.1 p.2.1 [] p.2.2.1 p.2.2.2 r dF eF := by
  unfold stX2_rank at h
  split at h
  · exact tX2_rank_0 h kc kr
  · exact tX2_rank_4 h kc kr
  · cases h
noncomputable def FX2_rank (d : aI) (e : aJ) (x1 : Int32) : Option (Int32 × aI × aJ) := (a_run (stX2_rank) (0, [some (.ref 2), some (.int x1), none, none, none], d, e)).bind a_xI
theorem evX2_rank {Γ : aG × Launch} {d : aI} {e : aJ} {x1 : Int32} {q : Int32 × aI × aJ} (h : FX2_rank d e x1 = some q) : Ev Γ (0) mX2_rank [.ref 2, .int x1] d e (some (.int q.1)) q.2.1 q.2.2 := by
  refine Ev.of (by decide) rfl (Nat.le_of_ble_eq_true rfl) (fun z => by cases z) ?_
  show Rn Γ (0) mX2_rank 0 [some (.ref 2), some (.int x1), none, none, none] [] d e _ _ _
  obtain ⟨q1, h1, h2⟩ := Option.bind_eq_some_iff.mp h
  obtain ⟨e1, e2, e3⟩ := a_xI_rt h2
  exact Rn.cast (a_run_ok (uX2_rank) rfl h1) e1.symm e2.symm e3.symm
noncomputable def sX2_write_0 (d : aI) (e : aJ) (o1 : Nat) (x2 : Int32) : Option (Nat × aL × aI × aJ) := (bif (decide (o1 = 12 ∨ o1 = 107)) then (if x2 < 0 then (some (100000, [], d, e)) else (if (x2 + (nI 60)) ≤ (nI (szOf o1)) then (bif ((a_inb x2 (szOf o1)) && (a_inb (x2 + (nI 1)) (szOf o1)) && (a_inb (x2 + (nI 2)) (szOf o1)) && (a_inb (x2 + (nI 3)) (szOf o1)) && (a_inb (x2 + (nI 4)) (szOf o1)) && (decide (¬ (nI 0) < 0 ∧ ¬ (x2 + (nI 5)) < 0 ∧ ¬ (nI 6) < 0 ∧ 0 + 6 ≤ 6 ∧ ((x2 + (nI 5))).toNatClampNeg + 6 ≤ (szOf o1)))) then (some (71, [some (.ref 2), some (.ref o1), some (.int x2)], (uA (uI (uI (uI (uI (uI d o1 (x2).toNatClampNeg (d 2 8)) o1 ((x2 + (nI 1))).toNatClampNeg ((uI d o1 (x2).toNatClampNeg (d 2 8)) 2 9)) o1 ((x2 + (nI 2))).toNatClampNeg ((uI (uI d o1 (x2).toNatClampNeg (d 2 8)) o1 ((x2 + (nI 1))).toNatClampNeg ((uI d o1 (x2).toNatClampNeg (d 2 8)) 2 9)) 2 10)) o1 ((x2 + (nI 3))).toNatClampNeg ((uI (uI (uI d o1 (x2).toNatClampNeg (d 2 8)) o1 ((x2 + (nI 1))).toNatClampNeg ((uI d o1 (x2).toNatClampNeg (d 2 8)) 2 9)) o1 ((x2 + (nI 2))).toNatClampNeg ((uI (uI d o1 (x2).toNatClampNeg (d 2 8)) o1 ((x2 + (nI 1))).toNatClampNeg ((uI d o1 (x2).toNatClampNeg (d 2 8)) 2 9)) 2 10)) 2 11)) o1 ((x2 + (nI 4))).toNatClampNeg ((uI (uI (uI (uI d o1 (x2).toNatClampNeg (d 2 8)) o1 ((x2 + (nI 1))).toNatClampNeg ((uI d o1 (x2).toNatClampNeg (d 2 8)) 2 9)) o1 ((x2 + (nI 2))).toNatClampNeg ((uI (uI d o1 (x2).toNatClampNeg (d 2 8)) o1 ((x2 + (nI 1))).toNatClampNeg ((uI d o1 (x2).toNatClampNeg (d 2 8)) 2 9)) 2 10)) o1 ((x2 + (nI 3))).toNatClampNeg ((uI (uI (uI d o1 (x2).toNatClampNeg (d 2 8)) o1 ((x2 + (nI 1))).toNatClampNeg ((uI d o1 (x2).toNatClampNeg (d 2 8)) 2 9)) o1 ((x2 + (nI 2))).toNatClampNeg ((uI (uI d o1 (x2).toNatClampNeg (d 2 8)) o1 ((x2 + (nI 1))).toNatClampNeg ((uI d o1 (x2).toNatClampNeg (d 2 8)) 2 9)) 2 10)) 2 11)) 2 12)) o1 (va_cpy ((uI (uI (uI (uI (uI d o1 (x2).toNatClampNeg (d 2 8)) o1 ((x2 + (nI 1))).toNatClampNeg ((uI d o1 (x2).toNatClampNeg (d 2 8)) 2 9)) o1 ((x2 + (nI 2))).toNatClampNeg ((uI (uI d o1 (x2).toNatClampNeg (d 2 8)) o1 ((x2 + (nI 1))).toNatClampNeg ((uI d o1 (x2).toNatClampNeg (d 2 8)) 2 9)) 2 10)) o1 ((x2 + (nI 3))).toNatClampNeg ((uI (uI (uI d o1 (x2).toNatClampNeg (d 2 8)) o1 ((x2 + (nI 1))).toNatClampNeg ((uI d o1 (x2).toNatClampNeg (d 2 8)) 2 9)) o1 ((x2 + (nI 2))).toNatClampNeg ((uI (uI d o1 (x2).toNatClampNeg (d 2 8)) o1 ((x2 + (nI 1))).toNatClampNeg ((uI d o1 (x2).toNatClampNeg (d 2 8)) 2 9)) 2 10)) 2 11)) o1 ((x2 + (nI 4))).toNatClampNeg ((uI (uI (uI (uI d o1 (x2).toNatClampNeg (d 2 8)) o1 ((x2 + (nI 1))).toNatClampNeg ((uI d o1 (x2).toNatClampNeg (d 2 8)) 2 9)) o1 ((x2 + (nI 2))).toNatClampNeg ((uI (uI d o1 (x2).toNatClampNeg (d 2 8)) o1 ((x2 + (nI 1))).toNatClampNeg ((uI d o1 (x2).toNatClampNeg (d 2 8)) 2 9)) 2 10)) o1 ((x2 + (nI 3))).toNatClampNeg ((uI (uI (uI d o1 (x2).toNatClampNeg (d 2 8)) o1 ((x2 + (nI 1))).toNatClampNeg ((uI d o1 (x2).toNatClampNeg (d 2 8)) 2 9)) o1 ((x2 + (nI 2))).toNatClampNeg ((uI (uI d o1 (x2).toNatClampNeg (d 2 8)) o1 ((x2 + (nI 1))).toNatClampNeg ((uI d o1 (x2).toNatClampNeg (d 2 8)) 2 9)) 2 10)) 2 11)) 2 12)) 7) ((uI (uI (uI (uI (uI d o1 (x2).toNatClampNeg (d 2 8)) o1 ((x2 + (nI 1))).toNatClampNeg ((uI d o1 (x2).toNatClampNeg (d 2 8)) 2 9)) o1 ((x2 + (nI 2))).toNatClampNeg ((uI (uI d o1 (x2).toNatClampNeg (d 2 8)) o1 ((x2 + (nI 1))).toNatClampNeg ((uI d o1 (x2).toNatClampNeg (d 2 8)) 2 9)) 2 10)) o1 ((x2 + (nI 3))).toNatClampNeg ((uI (uI (uI d o1 (x2).toNatClampNeg (d 2 8)) o1 ((x2 + (nI 1))).toNatClampNeg ((uI d o1 (x2).toNatClampNeg (d 2 8)) 2 9)) o1 ((x2 + (nI 2))).toNatClampNeg ((uI (uI d o1 (x2).toNatClampNeg (d 2 8)) o1 ((x2 + (nI 1))).toNatClampNeg ((uI d o1 (x2).toNatClampNeg (d 2 8)) 2 9)) 2 10)) 2 11)) o1 ((x2 + (nI 4))).toNatClampNeg ((uI (uI (uI (uI d o1 (x2).toNatClampNeg (d 2 8)) o1 ((x2 + (nI 1))).toNatClampNeg ((uI d o1 (x2).toNatClampNeg (d 2 8)) 2 9)) o1 ((x2 + (nI 2))).toNatClampNeg ((uI (uI d o1 (x2).toNatClampNeg (d 2 8)) o1 ((x2 + (nI 1))).toNatClampNeg ((uI d o1 (x2).toNatClampNeg (d 2 8)) 2 9)) 2 10)) o1 ((x2 + (nI 3))).toNatClampNeg ((uI (uI (uI d o1 (x2).toNatClampNeg (d 2 8)) o1 ((x2 + (nI 1))).toNatClampNeg ((uI d o1 (x2).toNatClampNeg (d 2 8)) 2 9)) o1 ((x2 + (nI 2))).toNatClampNeg ((uI (uI d o1 (x2).toNatClampNeg (d 2 8)) o1 ((x2 + (nI 1))).toNatClampNeg ((uI d o1 (x2).toNatClampNeg (d 2 8)) 2 9)) 2 10)) 2 11)) 2 12)) o1) 0 ((x2 + (nI 5))).toNatClampNeg 6)), e)) else none) else (some (100000, [], d, e)))) else none)
theorem tX2_write_0 {Γ : aG × Launch} {d dF : aI} {e eF : aJ} {o1 : Nat} {x2 : Int32} {r : Option Value} {p : Nat × aL × aI × aJ} (h : sX2_write_0 d e o1 x2 = some p) (kc : Nat.beq p.1 100000 = false → Rn Γ (0) mX2_write p.1 p.2.1 [] p.2.2.1 p.2.2.2 r dF eF) (kr : p.1 = 100000 → r = a_rt p.2.1 ∧ dF = p.2.2.1 ∧ eF = p.2.2.2) : Rn Γ (0) mX2_write 0 [some (.ref 2), some (.ref o1), some (.int x2)] [] d e r dF eF := by
  unfold sX2_write_0 at h
  obtain ⟨ho1x, h⟩ := a_cond h
  have ho1 := of_decide_eq_true ho1x
  refine a_ite h (fun c1 h => ?_) (fun c1 h => ?_)
  · refine bX2_write_0 (fun _ => ?_) (fun z => absurd c1 z)
    cases h
    obtain ⟨k1, k2, k3⟩ := kr rfl
    exact bX2_write_13 k1 k2 k3
  · refine bX2_write_0 (fun z => absurd z c1) (fun _ => ?_)
    refine a_ite h (fun c2 h => ?_) (fun c2 h => ?_)
    · refine bX2_write_4 ho1 (fun _ => ?_) (fun z => absurd c2 z)
      obtain ⟨g3, h⟩ := a_cond h
      obtain ⟨g3x5, g3_5⟩ := a_and g3
      obtain ⟨g3x4, g3_4⟩ := a_and g3x5
      obtain ⟨g3x3, g3_3⟩ := a_and g3x4
      obtain ⟨g3x2, g3_2⟩ := a_and g3x3
      obtain ⟨g3x1, g3_1⟩ := a_and g3x2
      have g3_0 := g3x1
      refine bX2_write_14 ho1 ⟨(a_inb_vp g3_0), (a_inb_vp g3_1), (a_inb_vp g3_2), (a_inb_vp g3_3), (a_inb_vp g3_4), (of_decide_eq_true g3_5)⟩ ?_
      cases h
      exact kc rfl
    · refine bX2_write_4 ho1 (fun z => absurd z c2) (fun _ => ?_)
      cases h
      obtain ⟨k1, k2, k3⟩ := kr rfl
      exact bX2_write_13 k1 k2 k3

noncomputable def sX2_write_71 (d : aI) (e : aJ) (o1 : Nat) (x2 : Int32) : Option (Nat × aL × aI × aJ) := (bif (decide (o1 = 12 ∨ o1 = 107)) then (bif ((decide (¬ (nI 0) < 0 ∧ ¬ ((x2 + (nI 5)) + (nI 6)) < 0 ∧ ¬ (nI 6) < 0 ∧ 0 + 6 ≤ 6 ∧ (((x2 + (nI 5)) + (nI 6))).toNatClampNeg + 6 ≤ (szOf o1)))) then (some (88, [some (.ref 2), some (.ref o1), some (.int x2)], (uA d o1 (va_cpy (d 8) (d o1) 0 (((x2 + (nI 5)) + (nI 6))).toNatClampNeg 6)), e)) else none) else none)
theorem tX2_write_71 {Γ : aG × Launch} {d dF : aI} {e eF : aJ} {o1 : Nat} {x2 : Int32} {r : Option Value} {p : Nat × aL × aI × aJ} (h : sX2_write_71 d e o1 x2 = some p) (kc : Nat.beq p.1 100000 = false → Rn Γ (0) mX2_write p.1 p.2.1 [] p.2.2.1 p.2.2.2 r dF eF) (kr : p.1 = 100000 → r = a_rt p.2.1 ∧ dF = p.2.2.1 ∧ eF = p.2.2.2) : Rn Γ (0) mX2_write 71 [some (.ref 2), some (.ref o1), some (.int x2)] [] d e r dF eF := by
  unfold sX2_write_71 at h
  obtain ⟨ho1x, h⟩ := a_cond h
  have ho1 := of_decide_eq_true ho1x
  obtain ⟨g1, h⟩ := a_cond h
  refine bX2_write_71 ho1 (of_decide_eq_true g1) ?_
  cases h
  exact kc rfl

noncomputable def sX2_write_88 (d : aI) (e : aJ) (o1 : Nat) (x2 : Int32) : Option (Nat × aL × aI × aJ) := (bif (decide (o1 = 12 ∨ o1 = 107)) then (bif ((decide (¬ (nI 0) < 0 ∧ ¬ ((x2 + (nI 5)) + (nI 12)) < 0 ∧ ¬ (nI 6) < 0 ∧ 0 + 6 ≤ 6 ∧ (((x2 + (nI 5)) + (nI 12))).toNatClampNeg + 6 ≤ (szOf o1)))) then (some (105, [some (.ref 2), some (.ref o1), some (.int x2)], (uA d o1 (va_cpy (d 9) (d o1) 0 (((x2 + (nI 5)) + (nI 12))).toNatClampNeg 6)), e)) else none) else none)
theorem tX2_write_88 {Γ : aG × Launch} {d dF : aI} {e eF : aJ} {o1 : Nat} {x2 : Int32} {r : Option Value} {p : Nat × aL × aI × aJ} (h : sX2_write_88 d e o1 x2 = some p) (kc : Nat.beq p.1 100000 = false → Rn Γ (0) mX2_write p.1 p.2.1 [] p.2.2.1 p.2.2.2 r dF eF) (kr : p.1 = 100000 → r = a_rt p.2.1 ∧ dF = p.2.2.1 ∧ eF = p.2.2.2) : Rn Γ (0) mX2_write 88 [some (.ref 2), some (.ref o1), some (.int x2)] [] d e r dF eF := by
  unfold sX2_write_88 at h
  obtain ⟨ho1x, h⟩ := a_cond h
  have ho1 := of_decide_eq_true ho1x
  obtain ⟨g1, h⟩ := a_cond h
  refine bX2_write_88 ho1 (of_decide_eq_true g1) ?_
  cases h
  exact kc rfl

noncomputable def sX2_write_105 (d : aI) (e : aJ) (o1 : Nat) (x2 : Int32) : Option (Nat × aL × aI × aJ) := (bif (decide (o1 = 12 ∨ o1 = 107)) then (bif ((decide (¬ (nI 0) < 0 ∧ ¬ ((x2 + (nI 5)) + (nI 18)) < 0 ∧ ¬ (nI 6) < 0 ∧ 0 + 6 ≤ 6 ∧ (((x2 + (nI 5)) + (nI 18))).toNatClampNeg + 6 ≤ (szOf o1)))) then (some (122, [some (.ref 2), some (.ref o1), some (.int x2)], (uA d o1 (va_cpy (d 4) (d o1) 0 (((x2 + (nI 5)) + (nI 18))).toNatClampNeg 6)), e)) else none) else none)
theorem tX2_write_105 {Γ : aG × Launch} {d dF : aI} {e eF : aJ} {o1 : Nat} {x2 : Int32} {r : Option Value} {p : Nat × aL × aI × aJ} (h : sX2_write_105 d e o1 x2 = some p) (kc : Nat.beq p.1 100000 = false → Rn Γ (0) mX2_write p.1 p.2.1 [] p.2.2.1 p.2.2.2 r dF eF) (kr : p.1 = 100000 → r = a_rt p.2.1 ∧ dF = p.2.2.1 ∧ eF = p.2.2.2) : Rn Γ (0) mX2_write 105 [some (.ref 2), some (.ref o1), some (.int x2)] [] d e r dF eF := by
  unfold sX2_write_105 at h
  obtain ⟨ho1x, h⟩ := a_cond h
  have ho1 := of_decide_eq_true ho1x
  obtain ⟨g1, h⟩ := a_cond h
  refine bX2_write_105 ho1 (of_decide_eq_true g1) ?_
  cases h
  exact kc rfl

noncomputable def sX2_write_122 (d : aI) (e : aJ) (o1 : Nat) (x2 : Int32) : Option (Nat × aL × aI × aJ) := (bif (decide (o1 = 12 ∨ o1 = 107)) then (bif ((decide (¬ (nI 0) < 0 ∧ ¬ (((x2 + (nI 5)) + (nI 18)) + (nI 6)) < 0 ∧ ¬ (nI 6) < 0 ∧ 0 + 6 ≤ 6 ∧ ((((x2 + (nI 5)) + (nI 18)) + (nI 6))).toNatClampNeg + 6 ≤ (szOf o1)))) then (some (142, [some (.ref 2), some (.ref o1), some (.int x2)], (uA d o1 (va_cpy (d 5) (d o1) 0 ((((x2 + (nI 5)) + (nI 18)) + (nI 6))).toNatClampNeg 6)), e)) else none) else none)
theorem tX2_write_122 {Γ : aG × Launch} {d dF : aI} {e eF : aJ} {o1 : Nat} {x2 : Int32} {r : Option Value} {p : Nat × aL × aI × aJ} (h : sX2_write_122 d e o1 x2 = some p) (kc : Nat.beq p.1 100000 = false → Rn Γ (0) mX2_write p.1 p.2.1 [] p.2.2.1 p.2.2.2 r dF eF) (kr : p.1 = 100000 → r = a_rt p.2.1 ∧ dF = p.2.2.1 ∧ eF = p.2.2.2) : Rn Γ (0) mX2_write 122 [some (.ref 2), some (.ref o1), some (.int x2)] [] d e r dF eF := by
  unfold sX2_write_122 at h
  obtain ⟨ho1x, h⟩ := a_cond h
  have ho1 := of_decide_eq_true ho1x
  obtain ⟨g1, h⟩ := a_cond h
  refine bX2_write_122 ho1 (of_decide_eq_true g1) ?_
  cases h
  exact kc rfl

noncomputable def sX2_write_142 (d : aI) (e : aJ) (o1 : Nat) (x2 : Int32) : Option (Nat × aL × aI × aJ) := (bif (decide (o1 = 12 ∨ o1 = 107)) then (bif ((decide (¬ (nI 0) < 0 ∧ ¬ (((x2 + (nI 5)) + (nI 18)) + (nI 12)) < 0 ∧ ¬ (nI 25) < 0 ∧ 0 + 25 ≤ 25 ∧ ((((x2 + (nI 5)) + (nI 18)) + (nI 12))).toNatClampNeg + 25 ≤ (szOf o1)))) then (some (162, [some (.ref 2), some (.ref o1), some (.int x2)], (uA d o1 (va_cpy (d 10) (d o1) 0 ((((x2 + (nI 5)) + (nI 18)) + (nI 12))).toNatClampNeg 25)), e)) else none) else none)
theorem tX2_write_142 {Γ : aG × Launch} {d dF : aI} {e eF : aJ} {o1 : Nat} {x2 : Int32} {r : Option Value} {p : Nat × aL × aI × aJ} (h : sX2_write_142 d e o1 x2 = some p) (kc : Nat.beq p.1 100000 = false → Rn Γ (0) mX2_write p.1 p.2.1 [] p.2.2.1 p.2.2.2 r dF eF) (kr : p.1 = 100000 → r = a_rt p.2.1 ∧ dF = p.2.2.1 ∧ eF = p.2.2.2) : Rn Γ (0) mX2_write 142 [some (.ref 2), some (.ref o1), some (.int x2)] [] d e r dF eF := by
  unfold sX2_write_142 at h
  obtain ⟨ho1x, h⟩ := a_cond h
  have ho1 := of_decide_eq_true ho1x
  obtain ⟨g1, h⟩ := a_cond h
  refine bX2_write_142 ho1 (of_decide_eq_true g1) ?_
  cases h
  exact kc rfl

noncomputable def sX2_write_162 (d : aI) (e : aJ) (o1 : Nat) (x2 : Int32) : Option (Nat × aL × aI × aJ) := (bif (decide (o1 = 12 ∨ o1 = 107)) then (some (100000, [], d, e)) else none)
theorem tX2_write_162 {Γ : aG × Launch} {d dF : aI} {e eF : aJ} {o1 : Nat} {x2 : Int32} {r : Option Value} {p : Nat × aL × aI × aJ} (h : sX2_write_162 d e o1 x2 = some p) (kc : Nat.beq p.1 100000 = false → Rn Γ (0) mX2_write p.1 p.2.1 [] p.2.2.1 p.2.2.2 r dF eF) (kr : p.1 = 100000 → r = a_rt p.2.1 ∧ dF = p.2.2.1 ∧ eF = p.2.2.2) : Rn Γ (0) mX2_write 162 [some (.ref 2), some (.ref o1), some (.int x2)] [] d e r dF eF := by
  unfold sX2_write_162 at h
  obtain ⟨ho1x, h⟩ := a_cond h
  have ho1 := of_decide_eq_true ho1x
  cases h
  obtain ⟨k1, k2, k3⟩ := kr rfl
  exact bX2_write_162 k1 k2 k3

noncomputable def stX2_write (p : Nat × aL × aI × aJ) : Option (Nat × aL × aI × aJ) := match p with
  | (0, [some (.ref 2), some (.ref o1), some (.int x2)], d, e) => sX2_write_0 d e o1 x2
  | (71, [some (.ref 2), some (.ref o1), some (.int x2)], d, e) => sX2_write_71 d e o1 x2
  | (88, [some (.ref 2), some (.ref o1), some (.int x2)], d, e) => sX2_write_88 d e o1 x2
  | (105, [some (.ref 2), some (.ref o1), some (.int x2)], d, e) => sX2_write_105 d e o1 x2
  | (122, [some (.ref 2), some (.ref o1), some (.int x2)], d, e) => sX2_write_122 d e o1 x2
  | (142, [some (.ref 2), some (.ref o1), some (.int x2)], d, e) => sX2_write_142 d e o1 x2
  | (162, [some (.ref 2), some (.ref o1), some (.int x2)], d, e) => sX2_write_162 d e o1 x2
  | _ => none
theorem uX2_write {Γ : aG × Launch} {p p2 : Nat × aL × aI × aJ} {r : Option Value} {dF : aI} {eF : aJ} (h : stX2_write p = some p2) (kc : Nat.beq p2.1 100000 = false → Rn Γ (0) mX2_write p2.1 p2.2.1 [] p2.2.2.1 p2.2.2.2 r dF eF) (kr : p2.1 = 100000 → r = a_rt p2.2.1 ∧ dF = p2.2.2.1 ∧ eF = p2.2.2.2) : Rn Γ (0) mX2_write p.1 p.2.1 [] p.2.2.1 p.2.2.2 r dF eF := by
  unfold stX2_write at h
  split at h
  · exact tX2_write_0 h kc kr
  · exact tX2_write_71 h kc kr
  · exact tX2_write_88 h kc kr
  · exact tX2_write_105 h kc kr
  · exact tX2_write_122 h kc kr
  · exact tX2_write_142 h kc kr
  · exact tX2_write_162 h kc kr
  · cases h
noncomputable def FX2_write (d : aI) (e : aJ) (o1 : Nat) (x2 : Int32) : Option (Unit × aI × aJ) := (a_run (stX2_write) (0, [some (.ref 2), some (.ref o1), some (.int x2)], d, e)).bind a_xV
theorem evX2_write {Γ : aG × Launch} {d : aI} {e : aJ} {o1 : Nat} {x2 : Int32} {q : Unit × aI × aJ} (h : FX2_write d e o1 x2 = some q) : Ev Γ (0) mX2_write [.ref 2, .ref o1, .int x2] d e none q.2.1 q.2.2 := by
  refine Ev.of (by decide) rfl (Nat.le_of_ble_eq_true rfl) (fun z => by cases z) ?_
  show Rn Γ (0) mX2_write 0 [some (.ref 2), some (.ref o1), some (.int x2)] [] d e _ _ _
  obtain ⟨q1, h1, h2⟩ := Option.bind_eq_some_iff.mp h
  obtain ⟨e1, e2, e3⟩ := a_xV_rt h2
  exact Rn.cast (a_run_ok (uX2_write) rfl h1) e1.symm e2.symm e3.symm
noncomputable def sX2_restore_0 (d : aI) (e : aJ) (o1 : Nat) (x2 : Int32) : Option (Nat × aL × aI × aJ) := (bif (decide (o1 = 12 ∨ o1 = 107)) then (if x2 < 0 then (some (100000, [], d, e)) else (if (x2 + (nI 60)) ≤ (nI (szOf o1)) then (bif ((a_inb x2 (szOf o1)) && (a_inb (x2 + (nI 1)) (szOf o1)) && (a_inb (x2 + (nI 2)) (szOf o1)) && (a_inb (x2 + (nI 3)) (szOf o1)) && (a_inb (x2 + (nI 4)) (szOf o1)) && (decide (¬ (x2 + (nI 5)) < 0 ∧ ¬ (nI 0) < 0 ∧ ¬ (a_min (d o1 ((x2 + (nI 1))).toNatClampNeg) (d 2 9)) < 0 ∧ ((x2 + (nI 5))).toNatClampNeg + ((a_min (d o1 ((x2 + (nI 1))).toNatClampNeg) (d 2 9))).toNatClampNeg ≤ (szOf o1) ∧ 0 + ((a_min (d o1 ((x2 + (nI 1))).toNatClampNeg) (d 2 9))).toNatClampNeg ≤ 6))) then (some (80, [some (.ref 2), some (.ref o1), some (.int x2), some (.int (a_min (d o1 (x2).toNatClampNeg) (d 2 8))), some (.int (a_min (d o1 ((x2 + (nI 1))).toNatClampNeg) (d 2 9)))], (uA (uI (uI (uI d 2 10 (d o1 ((x2 + (nI 2))).toNatClampNeg)) 2 11 ((uI d 2 10 (d o1 ((x2 + (nI 2))).toNatClampNeg)) o1 ((x2 + (nI 3))).toNatClampNeg)) 2 12 ((uI (uI d 2 10 (d o1 ((x2 + (nI 2))).toNatClampNeg)) 2 11 ((uI d 2 10 (d o1 ((x2 + (nI 2))).toNatClampNeg)) o1 ((x2 + (nI 3))).toNatClampNeg)) o1 ((x2 + (nI 4))).toNatClampNeg)) 7 (va_cpy ((uI (uI (uI d 2 10 (d o1 ((x2 + (nI 2))).toNatClampNeg)) 2 11 ((uI d 2 10 (d o1 ((x2 + (nI 2))).toNatClampNeg)) o1 ((x2 + (nI 3))).toNatClampNeg)) 2 12 ((uI (uI d 2 10 (d o1 ((x2 + (nI 2))).toNatClampNeg)) 2 11 ((uI d 2 10 (d o1 ((x2 + (nI 2))).toNatClampNeg)) o1 ((x2 + (nI 3))).toNatClampNeg)) o1 ((x2 + (nI 4))).toNatClampNeg)) o1) (d 7) ((x2 + (nI 5))).toNatClampNeg 0 ((a_min (d o1 ((x2 + (nI 1))).toNatClampNeg) (d 2 9))).toNatClampNeg)), e)) else none) else (some (100000, [], d, e)))) else none)
theorem tX2_restore_0 {Γ : aG × Launch} {d dF : aI} {e eF : aJ} {o1 : Nat} {x2 : Int32} {r : Option Value} {p : Nat × aL × aI × aJ} (h : sX2_restore_0 d e o1 x2 = some p) (kc : Nat.beq p.1 100000 = false → Rn Γ (0) mX2_restore p.1 p.2.1 [] p.2.2.1 p.2.2.2 r dF eF) (kr : p.1 = 100000 → r = a_rt p.2.1 ∧ dF = p.2.2.1 ∧ eF = p.2.2.2) : Rn Γ (0) mX2_restore 0 [some (.ref 2), some (.ref o1), some (.int x2), none, none] [] d e r dF eF := by
  unfold sX2_restore_0 at h
  obtain ⟨ho1x, h⟩ := a_cond h
  have ho1 := of_decide_eq_true ho1x
  refine a_ite h (fun c1 h => ?_) (fun c1 h => ?_)
  · refine bX2_restore_0 (fun _ => ?_) (fun z => absurd c1 z)
    cases h
    obtain ⟨k1, k2, k3⟩ := kr rfl
    exact bX2_restore_13 k1 k2 k3
  · refine bX2_restore_0 (fun z => absurd z c1) (fun _ => ?_)
    refine a_ite h (fun c2 h => ?_) (fun c2 h => ?_)
    · refine bX2_restore_4 ho1 (fun _ => ?_) (fun z => absurd c2 z)
      obtain ⟨g3, h⟩ := a_cond h
      obtain ⟨g3x5, g3_5⟩ := a_and g3
      obtain ⟨g3x4, g3_4⟩ := a_and g3x5
      obtain ⟨g3x3, g3_3⟩ := a_and g3x4
      obtain ⟨g3x2, g3_2⟩ := a_and g3x3
      obtain ⟨g3x1, g3_1⟩ := a_and g3x2
      have g3_0 := g3x1
      refine bX2_restore_14 ho1 ⟨(a_inb_vp g3_0), (a_inb_vp g3_1), (a_inb_vp g3_2), (a_inb_vp g3_3), (a_inb_vp g3_4), (of_decide_eq_true g3_5)⟩ ?_
      cases h
      exact kc rfl
    · refine bX2_restore_4 ho1 (fun z => absurd z c2) (fun _ => ?_)
      cases h
      obtain ⟨k1, k2, k3⟩ := kr rfl
      exact bX2_restore_13 k1 k2 k3

noncomputable def sX2_restore_80 (d : aI) (e : aJ) (o1 : Nat) (x2 : Int32) (x3 : Int32) (x4 : Int32) : Option (Nat × aL × aI × aJ) := (bif (decide (o1 = 12 ∨ o1 = 107)) then (bif ((decide (¬ ((x2 + (nI 5)) + (nI 6)) < 0 ∧ ¬ (nI 0) < 0 ∧ ¬ x4 < 0 ∧ (((x2 + (nI 5)) + (nI 6))).toNatClampNeg + (x4).toNatClampNeg ≤ (szOf o1) ∧ 0 + (x4).toNatClampNeg ≤ 6))) then (some (97, [some (.ref 2), some (.ref o1), some (.int x2), some (.int x3), some (.int x4)], (uA d 8 (va_cpy (d o1) (d 8) (((x2 + (nI 5)) + (nI 6))).toNatClampNeg 0 (x4).toNatClampNeg)), e)) else none) else none)
theorem tX2_restore_80 {Γ : aG × Launch} {d dF : aI} {e eF : aJ} {o1 : Nat} {x2 : Int32} {x3 : Int32} {x4 : Int32} {r : Option Value} {p : Nat × aL × aI × aJ} (h : sX2_restore_80 d e o1 x2 x3 x4 = some p) (kc : Nat.beq p.1 100000 = false → Rn Γ (0) mX2_restore p.1 p.2.1 [] p.2.2.1 p.2.2.2 r dF eF) (kr : p.1 = 100000 → r = a_rt p.2.1 ∧ dF = p.2.2.1 ∧ eF = p.2.2.2) : Rn Γ (0) mX2_restore 80 [some (.ref 2), some (.ref o1), some (.int x2), some (.int x3), some (.int x4)] [] d e r dF eF := by
  unfold sX2_restore_80 at h
  obtain ⟨ho1x, h⟩ := a_cond h
  have ho1 := of_decide_eq_true ho1x
  obtain ⟨g1, h⟩ := a_cond h
  refine bX2_restore_80 ho1 (of_decide_eq_true g1) ?_
  cases h
  exact kc rfl

noncomputable def sX2_restore_97 (d : aI) (e : aJ) (o1 : Nat) (x2 : Int32) (x3 : Int32) (x4 : Int32) : Option (Nat × aL × aI × aJ) := (bif (decide (o1 = 12 ∨ o1 = 107)) then (bif ((decide (¬ ((x2 + (nI 5)) + (nI 12)) < 0 ∧ ¬ (nI 0) < 0 ∧ ¬ x4 < 0 ∧ (((x2 + (nI 5)) + (nI 12))).toNatClampNeg + (x4).toNatClampNeg ≤ (szOf o1) ∧ 0 + (x4).toNatClampNeg ≤ 6))) then (some (114, [some (.ref 2), some (.ref o1), some (.int x2), some (.int x3), some (.int x4)], (uA d 9 (va_cpy (d o1) (d 9) (((x2 + (nI 5)) + (nI 12))).toNatClampNeg 0 (x4).toNatClampNeg)), e)) else none) else none)
theorem tX2_restore_97 {Γ : aG × Launch} {d dF : aI} {e eF : aJ} {o1 : Nat} {x2 : Int32} {x3 : Int32} {x4 : Int32} {r : Option Value} {p : Nat × aL × aI × aJ} (h : sX2_restore_97 d e o1 x2 x3 x4 = some p) (kc : Nat.beq p.1 100000 = false → Rn Γ (0) mX2_restore p.1 p.2.1 [] p.2.2.1 p.2.2.2 r dF eF) (kr : p.1 = 100000 → r = a_rt p.2.1 ∧ dF = p.2.2.1 ∧ eF = p.2.2.2) : Rn Γ (0) mX2_restore 97 [some (.ref 2), some (.ref o1), some (.int x2), some (.int x3), some (.int x4)] [] d e r dF eF := by
  unfold sX2_restore_97 at h
  obtain ⟨ho1x, h⟩ := a_cond h
  have ho1 := of_decide_eq_true ho1x
  obtain ⟨g1, h⟩ := a_cond h
  refine bX2_restore_97 ho1 (of_decide_eq_true g1) ?_
  cases h
  exact kc rfl

noncomputable def sX2_restore_114 (d : aI) (e : aJ) (o1 : Nat) (x2 : Int32) (x3 : Int32) (x4 : Int32) : Option (Nat × aL × aI × aJ) := (bif (decide (o1 = 12 ∨ o1 = 107)) then (bif ((decide (¬ ((x2 + (nI 5)) + (nI 18)) < 0 ∧ ¬ (nI 0) < 0 ∧ ¬ x3 < 0 ∧ (((x2 + (nI 5)) + (nI 18))).toNatClampNeg + (x3).toNatClampNeg ≤ (szOf o1) ∧ 0 + (x3).toNatClampNeg ≤ 6))) then (some (130, [some (.ref 2), some (.ref o1), some (.int x2), some (.int x3), some (.int x4)], (uA d 4 (va_cpy (d o1) (d 4) (((x2 + (nI 5)) + (nI 18))).toNatClampNeg 0 (x3).toNatClampNeg)), e)) else none) else none)
theorem tX2_restore_114 {Γ : aG × Launch} {d dF : aI} {e eF : aJ} {o1 : Nat} {x2 : Int32} {x3 : Int32} {x4 : Int32} {r : Option Value} {p : Nat × aL × aI × aJ} (h : sX2_restore_114 d e o1 x2 x3 x4 = some p) (kc : Nat.beq p.1 100000 = false → Rn Γ (0) mX2_restore p.1 p.2.1 [] p.2.2.1 p.2.2.2 r dF eF) (kr : p.1 = 100000 → r = a_rt p.2.1 ∧ dF = p.2.2.1 ∧ eF = p.2.2.2) : Rn Γ (0) mX2_restore 114 [some (.ref 2), some (.ref o1), some (.int x2), some (.int x3), some (.int x4)] [] d e r dF eF := by
  unfold sX2_restore_114 at h
  obtain ⟨ho1x, h⟩ := a_cond h
  have ho1 := of_decide_eq_true ho1x
  obtain ⟨g1, h⟩ := a_cond h
  refine bX2_restore_114 ho1 (of_decide_eq_true g1) ?_
  cases h
  exact kc rfl

noncomputable def sX2_restore_130 (d : aI) (e : aJ) (o1 : Nat) (x2 : Int32) (x3 : Int32) (x4 : Int32) : Option (Nat × aL × aI × aJ) := (bif (decide (o1 = 12 ∨ o1 = 107)) then (bif ((decide (¬ (((x2 + (nI 5)) + (nI 18)) + (nI 6)) < 0 ∧ ¬ (nI 0) < 0 ∧ ¬ x3 < 0 ∧ ((((x2 + (nI 5)) + (nI 18)) + (nI 6))).toNatClampNeg + (x3).toNatClampNeg ≤ (szOf o1) ∧ 0 + (x3).toNatClampNeg ≤ 6))) then (some (149, [some (.ref 2), some (.ref o1), some (.int x2), some (.int x3), some (.int x4)], (uA d 5 (va_cpy (d o1) (d 5) ((((x2 + (nI 5)) + (nI 18)) + (nI 6))).toNatClampNeg 0 (x3).toNatClampNeg)), e)) else none) else none)
theorem tX2_restore_130 {Γ : aG × Launch} {d dF : aI} {e eF : aJ} {o1 : Nat} {x2 : Int32} {x3 : Int32} {x4 : Int32} {r : Option Value} {p : Nat × aL × aI × aJ} (h : sX2_restore_130 d e o1 x2 x3 x4 = some p) (kc : Nat.beq p.1 100000 = false → Rn Γ (0) mX2_restore p.1 p.2.1 [] p.2.2.1 p.2.2.2 r dF eF) (kr : p.1 = 100000 → r = a_rt p.2.1 ∧ dF = p.2.2.1 ∧ eF = p.2.2.2) : Rn Γ (0) mX2_restore 130 [some (.ref 2), some (.ref o1), some (.int x2), some (.int x3), some (.int x4)] [] d e r dF eF := by
  unfold sX2_restore_130 at h
  obtain ⟨ho1x, h⟩ := a_cond h
  have ho1 := of_decide_eq_true ho1x
  obtain ⟨g1, h⟩ := a_cond h
  refine bX2_restore_130 ho1 (of_decide_eq_true g1) ?_
  cases h
  exact kc rfl

noncomputable def sX2_restore_149 (d : aI) (e : aJ) (o1 : Nat) (x2 : Int32) (x3 : Int32) (x4 : Int32) : Option (Nat × aL × aI × aJ) := (bif (decide (o1 = 12 ∨ o1 = 107)) then (bif ((decide (¬ (((x2 + (nI 5)) + (nI 18)) + (nI 12)) < 0 ∧ ¬ (nI 0) < 0 ∧ ¬ (nI 25) < 0 ∧ ((((x2 + (nI 5)) + (nI 18)) + (nI 12))).toNatClampNeg + 25 ≤ (szOf o1) ∧ 0 + 25 ≤ 25))) then (some (169, [some (.ref 2), some (.ref o1), some (.int x2), some (.int x3), some (.int x4)], (uA d 10 (va_cpy (d o1) (d 10) ((((x2 + (nI 5)) + (nI 18)) + (nI 12))).toNatClampNeg 0 25)), e)) else none) else none)
theorem tX2_restore_149 {Γ : aG × Launch} {d dF : aI} {e eF : aJ} {o1 : Nat} {x2 : Int32} {x3 : Int32} {x4 : Int32} {r : Option Value} {p : Nat × aL × aI × aJ} (h : sX2_restore_149 d e o1 x2 x3 x4 = some p) (kc : Nat.beq p.1 100000 = false → Rn Γ (0) mX2_restore p.1 p.2.1 [] p.2.2.1 p.2.2.2 r dF eF) (kr : p.1 = 100000 → r = a_rt p.2.1 ∧ dF = p.2.2.1 ∧ eF = p.2.2.2) : Rn Γ (0) mX2_restore 149 [some (.ref 2), some (.ref o1), some (.int x2), some (.int x3), some (.int x4)] [] d e r dF eF := by
  unfold sX2_restore_149 at h
  obtain ⟨ho1x, h⟩ := a_cond h
  have ho1 := of_decide_eq_true ho1x
  obtain ⟨g1, h⟩ := a_cond h
  refine bX2_restore_149 ho1 (of_decide_eq_true g1) ?_
  cases h
  exact kc rfl

noncomputable def sX2_restore_169 (d : aI) (e : aJ) (o1 : Nat) (x2 : Int32) (x3 : Int32) (x4 : Int32) : Option (Nat × aL × aI × aJ) := (bif (decide (o1 = 12 ∨ o1 = 107)) then (some (100000, [], d, e)) else none)
theorem tX2_restore_169 {Γ : aG × Launch} {d dF : aI} {e eF : aJ} {o1 : Nat} {x2 : Int32} {x3 : Int32} {x4 : Int32} {r : Option Value} {p : Nat × aL × aI × aJ} (h : sX2_restore_169 d e o1 x2 x3 x4 = some p) (kc : Nat.beq p.1 100000 = false → Rn Γ (0) mX2_restore p.1 p.2.1 [] p.2.2.1 p.2.2.2 r dF eF) (kr : p.1 = 100000 → r = a_rt p.2.1 ∧ dF = p.2.2.1 ∧ eF = p.2.2.2) : Rn Γ (0) mX2_restore 169 [some (.ref 2), some (.ref o1), some (.int x2), some (.int x3), some (.int x4)] [] d e r dF eF := by
  unfold sX2_restore_169 at h
  obtain ⟨ho1x, h⟩ := a_cond h
  have ho1 := of_decide_eq_true ho1x
  cases h
  obtain ⟨k1, k2, k3⟩ := kr rfl
  exact bX2_restore_169 k1 k2 k3

noncomputable def stX2_restore (p : Nat × aL × aI × aJ) : Option (Nat × aL × aI × aJ) := match p with
  | (0, [some (.ref 2), some (.ref o1), some (.int x2), none, none], d, e) => sX2_restore_0 d e o1 x2
  | (80, [some (.ref 2), some (.ref o1), some (.int x2), some (.int x3), some (.int x4)], d, e) => sX2_restore_80 d e o1 x2 x3 x4
  | (97, [some (.ref 2), some (.ref o1), some (.int x2), some (.int x3), some (.int x4)], d, e) => sX2_restore_97 d e o1 x2 x3 x4
  | (114, [some (.ref 2), some (.ref o1), some (.int x2), some (.int x3), some (.int x4)], d, e) => sX2_restore_114 d e o1 x2 x3 x4
  | (130, [some (.ref 2), some (.ref o1), some (.int x2), some (.int x3), some (.int x4)], d, e) => sX2_restore_130 d e o1 x2 x3 x4
  | (149, [some (.ref 2), some (.ref o1), some (.int x2), some (.int x3), some (.int x4)], d, e) => sX2_restore_149 d e o1 x2 x3 x4
  | (169, [some (.ref 2), some (.ref o1), some (.int x2), some (.int x3), some (.int x4)], d, e) => sX2_restore_169 d e o1 x2 x3 x4
  | _ => none
theorem uX2_restore {Γ : aG × Launch} {p p2 : Nat × aL × aI × aJ} {r : Option Value} {dF : aI} {eF : aJ} (h : stX2_restore p = some p2) (kc : Nat.beq p2.1 100000 = false → Rn Γ (0) mX2_restore p2.1 p2.2.1 [] p2.2.2.1 p2.2.2.2 r dF eF) (kr : p2.1 = 100000 → r = a_rt p2.2.1 ∧ dF = p2.2.2.1 ∧ eF = p2.2.2.2) : Rn Γ (0) mX2_restore p.1 p.2.1 [] p.2.2.1 p.2.2.2 r dF eF := by
  unfold stX2_restore at h
  split at h
  · exact tX2_restore_0 h kc kr
  · exact tX2_restore_80 h kc kr
  · exact tX2_restore_97 h kc kr
  · exact tX2_restore_114 h kc kr
  · exact tX2_restore_130 h kc kr
  · exact tX2_restore_149 h kc kr
  · exact tX2_restore_169 h kc kr
  · cases h
noncomputable def FX2_restore (d : aI) (e : aJ) (o1 : Nat) (x2 : Int32) : Option (Unit × aI × aJ) := (a_run (stX2_restore) (0, [some (.ref 2), some (.ref o1), some (.int x2), none, none], d, e)).bind a_xV
theorem evX2_restore {Γ : aG × Launch} {d : aI} {e : aJ} {o1 : Nat} {x2 : Int32} {q : Unit × aI × aJ} (h : FX2_restore d e o1 x2 = some q) : Ev Γ (0) mX2_restore [.ref 2, .ref o1, .int x2] d e none q.2.1 q.2.2 := by
  refine Ev.of (by decide) rfl (Nat.le_of_ble_eq_true rfl) (fun z => by cases z) ?_
  show Rn Γ (0) mX2_restore 0 [some (.ref 2), some (.ref o1), some (.int x2), none, none] [] d e _ _ _
  obtain ⟨q1, h1, h2⟩ := Option.bind_eq_some_iff.mp h
  obtain ⟨e1, e2, e3⟩ := a_xV_rt h2
  exact Rn.cast (a_run_ok (uX2_restore) rfl h1) e1.symm e2.symm e3.symm
noncomputable def sX2_becomen2_0 (d : aI) (e : aJ)  : Option (Nat × aL × aI × aJ) := (bif ((decide (¬ (nI 0) < 0 ∧ ¬ (nI 0) < 0 ∧ ¬ (nI 6) < 0 ∧ 0 + 6 ≤ 6 ∧ 0 + 6 ≤ 6))) then (some (15, [some (.ref 2), some (.ref 30)], (uA d 3 (va_cpy (d 31) (d 3) 0 0 6)), e)) else none)
theorem tX2_becomen2_0 {Γ : aG × Launch} {d dF : aI} {e eF : aJ}  {r : Option Value} {p : Nat × aL × aI × aJ} (h : sX2_becomen2_0 d e  = some p) (kc : Nat.beq p.1 100000 = false → Rn Γ (0) mX2_become p.1 p.2.1 [] p.2.2.1 p.2.2.2 r dF eF) (kr : p.1 = 100000 → r = a_rt p.2.1 ∧ dF = p.2.2.1 ∧ eF = p.2.2.2) : Rn Γ (0) mX2_become 0 [some (.ref 2), some (.ref 30)] [] d e r dF eF := by
  unfold sX2_becomen2_0 at h
  obtain ⟨g1, h⟩ := a_cond h
  refine bX2_becomen2_0 (of_decide_eq_true g1) ?_
  cases h
  exact kc rfl

noncomputable def sX2_becomen2_15 (d : aI) (e : aJ)  : Option (Nat × aL × aI × aJ) := (bif ((decide (¬ (nI 0) < 0 ∧ ¬ (nI 0) < 0 ∧ ¬ (nI 6) < 0 ∧ 0 + 6 ≤ 6 ∧ 0 + 6 ≤ 6))) then (some (30, [some (.ref 2), some (.ref 30)], (uA d 4 (va_cpy (d 32) (d 4) 0 0 6)), e)) else none)
theorem tX2_becomen2_15 {Γ : aG × Launch} {d dF : aI} {e eF : aJ}  {r : Option Value} {p : Nat × aL × aI × aJ} (h : sX2_becomen2_15 d e  = some p) (kc : Nat.beq p.1 100000 = false → Rn Γ (0) mX2_become p.1 p.2.1 [] p.2.2.1 p.2.2.2 r dF eF) (kr : p.1 = 100000 → r = a_rt p.2.1 ∧ dF = p.2.2.1 ∧ eF = p.2.2.2) : Rn Γ (0) mX2_become 15 [some (.ref 2), some (.ref 30)] [] d e r dF eF := by
  unfold sX2_becomen2_15 at h
  obtain ⟨g1, h⟩ := a_cond h
  refine bX2_becomen2_15 (of_decide_eq_true g1) ?_
  cases h
  exact kc rfl

noncomputable def sX2_becomen2_30 (d : aI) (e : aJ)  : Option (Nat × aL × aI × aJ) := (bif ((decide (¬ (nI 0) < 0 ∧ ¬ (nI 0) < 0 ∧ ¬ (nI 6) < 0 ∧ 0 + 6 ≤ 6 ∧ 0 + 6 ≤ 6))) then (some (45, [some (.ref 2), some (.ref 30)], (uA d 5 (va_cpy (d 33) (d 5) 0 0 6)), e)) else none)
theorem tX2_becomen2_30 {Γ : aG × Launch} {d dF : aI} {e eF : aJ}  {r : Option Value} {p : Nat × aL × aI × aJ} (h : sX2_becomen2_30 d e  = some p) (kc : Nat.beq p.1 100000 = false → Rn Γ (0) mX2_become p.1 p.2.1 [] p.2.2.1 p.2.2.2 r dF eF) (kr : p.1 = 100000 → r = a_rt p.2.1 ∧ dF = p.2.2.1 ∧ eF = p.2.2.2) : Rn Γ (0) mX2_become 30 [some (.ref 2), some (.ref 30)] [] d e r dF eF := by
  unfold sX2_becomen2_30 at h
  obtain ⟨g1, h⟩ := a_cond h
  refine bX2_becomen2_30 (of_decide_eq_true g1) ?_
  cases h
  exact kc rfl

noncomputable def sX2_becomen2_45 (d : aI) (e : aJ)  : Option (Nat × aL × aI × aJ) := (bif ((decide (¬ (nI 0) < 0 ∧ ¬ (nI 0) < 0 ∧ ¬ (nI 6) < 0 ∧ 0 + 6 ≤ 6 ∧ 0 + 6 ≤ 6))) then (some (60, [some (.ref 2), some (.ref 30)], (uA d 6 (va_cpy (d 34) (d 6) 0 0 6)), e)) else none)
theorem tX2_becomen2_45 {Γ : aG × Launch} {d dF : aI} {e eF : aJ}  {r : Option Value} {p : Nat × aL × aI × aJ} (h : sX2_becomen2_45 d e  = some p) (kc : Nat.beq p.1 100000 = false → Rn Γ (0) mX2_become p.1 p.2.1 [] p.2.2.1 p.2.2.2 r dF eF) (kr : p.1 = 100000 → r = a_rt p.2.1 ∧ dF = p.2.2.1 ∧ eF = p.2.2.2) : Rn Γ (0) mX2_become 45 [some (.ref 2), some (.ref 30)] [] d e r dF eF := by
  unfold sX2_becomen2_45 at h
  obtain ⟨g1, h⟩ := a_cond h
  refine bX2_becomen2_45 (of_decide_eq_true g1) ?_
  cases h
  exact kc rfl

noncomputable def sX2_becomen2_60 (d : aI) (e : aJ)  : Option (Nat × aL × aI × aJ) := (bif ((decide (¬ (nI 0) < 0 ∧ ¬ (nI 0) < 0 ∧ ¬ (nI 6) < 0 ∧ 0 + 6 ≤ 6 ∧ 0 + 6 ≤ 6))) then (some (75, [some (.ref 2), some (.ref 30)], (uA d 7 (va_cpy (d 35) (d 7) 0 0 6)), e)) else none)
theorem tX2_becomen2_60 {Γ : aG × Launch} {d dF : aI} {e eF : aJ}  {r : Option Value} {p : Nat × aL × aI × aJ} (h : sX2_becomen2_60 d e  = some p) (kc : Nat.beq p.1 100000 = false → Rn Γ (0) mX2_become p.1 p.2.1 [] p.2.2.1 p.2.2.2 r dF eF) (kr : p.1 = 100000 → r = a_rt p.2.1 ∧ dF = p.2.2.1 ∧ eF = p.2.2.2) : Rn Γ (0) mX2_become 60 [some (.ref 2), some (.ref 30)] [] d e r dF eF := by
  unfold sX2_becomen2_60 at h
  obtain ⟨g1, h⟩ := a_cond h
  refine bX2_becomen2_60 (of_decide_eq_true g1) ?_
  cases h
  exact kc rfl

noncomputable def sX2_becomen2_75 (d : aI) (e : aJ)  : Option (Nat × aL × aI × aJ) := (bif ((decide (¬ (nI 0) < 0 ∧ ¬ (nI 0) < 0 ∧ ¬ (nI 6) < 0 ∧ 0 + 6 ≤ 6 ∧ 0 + 6 ≤ 6))) then (some (90, [some (.ref 2), some (.ref 30)], (uA d 8 (va_cpy (d 36) (d 8) 0 0 6)), e)) else none)
theorem tX2_becomen2_75 {Γ : aG × Launch} {d dF : aI} {e eF : aJ}  {r : Option Value} {p : Nat × aL × aI × aJ} (h : sX2_becomen2_75 d e  = some p) (kc : Nat.beq p.1 100000 = false → Rn Γ (0) mX2_become p.1 p.2.1 [] p.2.2.1 p.2.2.2 r dF eF) (kr : p.1 = 100000 → r = a_rt p.2.1 ∧ dF = p.2.2.1 ∧ eF = p.2.2.2) : Rn Γ (0) mX2_become 75 [some (.ref 2), some (.ref 30)] [] d e r dF eF := by
  unfold sX2_becomen2_75 at h
  obtain ⟨g1, h⟩ := a_cond h
  refine bX2_becomen2_75 (of_decide_eq_true g1) ?_
  cases h
  exact kc rfl

noncomputable def sX2_becomen2_90 (d : aI) (e : aJ)  : Option (Nat × aL × aI × aJ) := (bif ((decide (¬ (nI 0) < 0 ∧ ¬ (nI 0) < 0 ∧ ¬ (nI 6) < 0 ∧ 0 + 6 ≤ 6 ∧ 0 + 6 ≤ 6))) then (some (105, [some (.ref 2), some (.ref 30)], (uA d 9 (va_cpy (d 37) (d 9) 0 0 6)), e)) else none)
theorem tX2_becomen2_90 {Γ : aG × Launch} {d dF : aI} {e eF : aJ}  {r : Option Value} {p : Nat × aL × aI × aJ} (h : sX2_becomen2_90 d e  = some p) (kc : Nat.beq p.1 100000 = false → Rn Γ (0) mX2_become p.1 p.2.1 [] p.2.2.1 p.2.2.2 r dF eF) (kr : p.1 = 100000 → r = a_rt p.2.1 ∧ dF = p.2.2.1 ∧ eF = p.2.2.2) : Rn Γ (0) mX2_become 90 [some (.ref 2), some (.ref 30)] [] d e r dF eF := by
  unfold sX2_becomen2_90 at h
  obtain ⟨g1, h⟩ := a_cond h
  refine bX2_becomen2_90 (of_decide_eq_true g1) ?_
  cases h
  exact kc rfl

noncomputable def sX2_becomen2_105 (d : aI) (e : aJ)  : Option (Nat × aL × aI × aJ) := (bif ((decide (¬ (nI 0) < 0 ∧ ¬ (nI 0) < 0 ∧ ¬ (nI 25) < 0 ∧ 0 + 25 ≤ 25 ∧ 0 + 25 ≤ 25))) then (some (120, [some (.ref 2), some (.ref 30)], (uA d 10 (va_cpy (d 38) (d 10) 0 0 25)), e)) else none)
theorem tX2_becomen2_105 {Γ : aG × Launch} {d dF : aI} {e eF : aJ}  {r : Option Value} {p : Nat × aL × aI × aJ} (h : sX2_becomen2_105 d e  = some p) (kc : Nat.beq p.1 100000 = false → Rn Γ (0) mX2_become p.1 p.2.1 [] p.2.2.1 p.2.2.2 r dF eF) (kr : p.1 = 100000 → r = a_rt p.2.1 ∧ dF = p.2.2.1 ∧ eF = p.2.2.2) : Rn Γ (0) mX2_become 105 [some (.ref 2), some (.ref 30)] [] d e r dF eF := by
  unfold sX2_becomen2_105 at h
  obtain ⟨g1, h⟩ := a_cond h
  refine bX2_becomen2_105 (of_decide_eq_true g1) ?_
  cases h
  exact kc rfl

noncomputable def sX2_becomen2_120 (d : aI) (e : aJ)  : Option (Nat × aL × aI × aJ) := (some (100000, [], (uI (uI (uI (uI (uI d 2 8 (d 30 8)) 2 9 (d 30 9)) 2 10 (d 30 10)) 2 11 (d 30 11)) 2 12 (d 30 12)), e))
theorem tX2_becomen2_120 {Γ : aG × Launch} {d dF : aI} {e eF : aJ}  {r : Option Value} {p : Nat × aL × aI × aJ} (h : sX2_becomen2_120 d e  = some p) (kc : Nat.beq p.1 100000 = false → Rn Γ (0) mX2_become p.1 p.2.1 [] p.2.2.1 p.2.2.2 r dF eF) (kr : p.1 = 100000 → r = a_rt p.2.1 ∧ dF = p.2.2.1 ∧ eF = p.2.2.2) : Rn Γ (0) mX2_become 120 [some (.ref 2), some (.ref 30)] [] d e r dF eF := by
  unfold sX2_becomen2_120 at h
  cases h
  obtain ⟨k1, k2, k3⟩ := kr rfl
  exact bX2_becomen2_120 k1 k2 k3

noncomputable def stX2_becomen2 (p : Nat × aL × aI × aJ) : Option (Nat × aL × aI × aJ) := match p with
  | (0, [some (.ref 2), some (.ref 30)], d, e) => sX2_becomen2_0 d e 
  | (15, [some (.ref 2), some (.ref 30)], d, e) => sX2_becomen2_15 d e 
  | (30, [some (.ref 2), some (.ref 30)], d, e) => sX2_becomen2_30 d e 
  | (45, [some (.ref 2), some (.ref 30)], d, e) => sX2_becomen2_45 d e 
  | (60, [some (.ref 2), some (.ref 30)], d, e) => sX2_becomen2_60 d e 
  | (75, [some (.ref 2), some (.ref 30)], d, e) => sX2_becomen2_75 d e 
  | (90, [some (.ref 2), some (.ref 30)], d, e) => sX2_becomen2_90 d e 
  | (105, [some (.ref 2), some (.ref 30)], d, e) => sX2_becomen2_105 d e 
  | (120, [some (.ref 2), some (.ref 30)], d, e) => sX2_becomen2_120 d e 
  | _ => none
theorem uX2_becomen2 {Γ : aG × Launch} {p p2 : Nat × aL × aI × aJ} {r : Option Value} {dF : aI} {eF : aJ} (h : stX2_becomen2 p = some p2) (kc : Nat.beq p2.1 100000 = false → Rn Γ (0) mX2_become p2.1 p2.2.1 [] p2.2.2.1 p2.2.2.2 r dF eF) (kr : p2.1 = 100000 → r = a_rt p2.2.1 ∧ dF = p2.2.2.1 ∧ eF = p2.2.2.2) : Rn Γ (0) mX2_become p.1 p.2.1 [] p.2.2.1 p.2.2.2 r dF eF := by
  unfold stX2_becomen2 at h
  split at h
  · exact tX2_becomen2_0 h kc kr
  · exact tX2_becomen2_15 h kc kr
  · exact tX2_becomen2_30 h kc kr
  · exact tX2_becomen2_45 h kc kr
  · exact tX2_becomen2_60 h kc kr
  · exact tX2_becomen2_75 h kc kr
  · exact tX2_becomen2_90 h kc kr
  · exact tX2_becomen2_105 h kc kr
  · exact tX2_becomen2_120 h kc kr
  · cases h
noncomputable def FX2_becomen2 (d : aI) (e : aJ)  : Option (Unit × aI × aJ) := (a_run (stX2_becomen2) (0, [some (.ref 2), some (.ref 30)], d, e)).bind a_xV
theorem evX2_becomen2 {Γ : aG × Launch} {d : aI} {e : aJ}  {q : Unit × aI × aJ} (h : FX2_becomen2 d e  = some q) : Ev Γ (0) mX2_become [.ref 2, .ref 30] d e none q.2.1 q.2.2 := by
  refine Ev.of (by decide) rfl (Nat.le_of_ble_eq_true rfl) (fun z => by cases z) ?_
  show Rn Γ (0) mX2_become 0 [some (.ref 2), some (.ref 30)] [] d e _ _ _
  obtain ⟨q1, h1, h2⟩ := Option.bind_eq_some_iff.mp h
  obtain ⟨e1, e2, e3⟩ := a_xV_rt h2
  exact Rn.cast (a_run_ok (uX2_becomen2) rfl h1) e1.symm e2.symm e3.symm
noncomputable def sX2_becomek2_0 (d : aI) (e : aJ)  : Option (Nat × aL × aI × aJ) := (bif ((decide (¬ (nI 0) < 0 ∧ ¬ (nI 0) < 0 ∧ ¬ (nI 6) < 0 ∧ 0 + 6 ≤ 6 ∧ 0 + 6 ≤ 6))) then (some (15, [some (.ref 30), some (.ref 2)], (uA d 31 (va_cpy (d 3) (d 31) 0 0 6)), e)) else none)
theorem tX2_becomek2_0 {Γ : aG × Launch} {d dF : aI} {e eF : aJ}  {r : Option Value} {p : Nat × aL × aI × aJ} (h : sX2_becomek2_0 d e  = some p) (kc : Nat.beq p.1 100000 = false → Rn Γ (0) mX2_become p.1 p.2.1 [] p.2.2.1 p.2.2.2 r dF eF) (kr : p.1 = 100000 → r = a_rt p.2.1 ∧ dF = p.2.2.1 ∧ eF = p.2.2.2) : Rn Γ (0) mX2_become 0 [some (.ref 30), some (.ref 2)] [] d e r dF eF := by
  unfold sX2_becomek2_0 at h
  obtain ⟨g1, h⟩ := a_cond h
  refine bX2_becomek2_0 (of_decide_eq_true g1) ?_
  cases h
  exact kc rfl

noncomputable def sX2_becomek2_15 (d : aI) (e : aJ)  : Option (Nat × aL × aI × aJ) := (bif ((decide (¬ (nI 0) < 0 ∧ ¬ (nI 0) < 0 ∧ ¬ (nI 6) < 0 ∧ 0 + 6 ≤ 6 ∧ 0 + 6 ≤ 6))) then (some (30, [some (.ref 30), some (.ref 2)], (uA d 32 (va_cpy (d 4) (d 32) 0 0 6)), e)) else none)
theorem tX2_becomek2_15 {Γ : aG × Launch} {d dF : aI} {e eF : aJ}  {r : Option Value} {p : Nat × aL × aI × aJ} (h : sX2_becomek2_15 d e  = some p) (kc : Nat.beq p.1 100000 = false → Rn Γ (0) mX2_become p.1 p.2.1 [] p.2.2.1 p.2.2.2 r dF eF) (kr : p.1 = 100000 → r = a_rt p.2.1 ∧ dF = p.2.2.1 ∧ eF = p.2.2.2) : Rn Γ (0) mX2_become 15 [some (.ref 30), some (.ref 2)] [] d e r dF eF := by
  unfold sX2_becomek2_15 at h
  obtain ⟨g1, h⟩ := a_cond h
  refine bX2_becomek2_15 (of_decide_eq_true g1) ?_
  cases h
  exact kc rfl

noncomputable def sX2_becomek2_30 (d : aI) (e : aJ)  : Option (Nat × aL × aI × aJ) := (bif ((decide (¬ (nI 0) < 0 ∧ ¬ (nI 0) < 0 ∧ ¬ (nI 6) < 0 ∧ 0 + 6 ≤ 6 ∧ 0 + 6 ≤ 6))) then (some (45, [some (.ref 30), some (.ref 2)], (uA d 33 (va_cpy (d 5) (d 33) 0 0 6)), e)) else none)
theorem tX2_becomek2_30 {Γ : aG × Launch} {d dF : aI} {e eF : aJ}  {r : Option Value} {p : Nat × aL × aI × aJ} (h : sX2_becomek2_30 d e  = some p) (kc : Nat.beq p.1 100000 = false → Rn Γ (0) mX2_become p.1 p.2.1 [] p.2.2.1 p.2.2.2 r dF eF) (kr : p.1 = 100000 → r = a_rt p.2.1 ∧ dF = p.2.2.1 ∧ eF = p.2.2.2) : Rn Γ (0) mX2_become 30 [some (.ref 30), some (.ref 2)] [] d e r dF eF := by
  unfold sX2_becomek2_30 at h
  obtain ⟨g1, h⟩ := a_cond h
  refine bX2_becomek2_30 (of_decide_eq_true g1) ?_
  cases h
  exact kc rfl

noncomputable def sX2_becomek2_45 (d : aI) (e : aJ)  : Option (Nat × aL × aI × aJ) := (bif ((decide (¬ (nI 0) < 0 ∧ ¬ (nI 0) < 0 ∧ ¬ (nI 6) < 0 ∧ 0 + 6 ≤ 6 ∧ 0 + 6 ≤ 6))) then (some (60, [some (.ref 30), some (.ref 2)], (uA d 34 (va_cpy (d 6) (d 34) 0 0 6)), e)) else none)
theorem tX2_becomek2_45 {Γ : aG × Launch} {d dF : aI} {e eF : aJ}  {r : Option Value} {p : Nat × aL × aI × aJ} (h : sX2_becomek2_45 d e  = some p) (kc : Nat.beq p.1 100000 = false → Rn Γ (0) mX2_become p.1 p.2.1 [] p.2.2.1 p.2.2.2 r dF eF) (kr : p.1 = 100000 → r = a_rt p.2.1 ∧ dF = p.2.2.1 ∧ eF = p.2.2.2) : Rn Γ (0) mX2_become 45 [some (.ref 30), some (.ref 2)] [] d e r dF eF := by
  unfold sX2_becomek2_45 at h
  obtain ⟨g1, h⟩ := a_cond h
  refine bX2_becomek2_45 (of_decide_eq_true g1) ?_
  cases h
  exact kc rfl

noncomputable def sX2_becomek2_60 (d : aI) (e : aJ)  : Option (Nat × aL × aI × aJ) := (bif ((decide (¬ (nI 0) < 0 ∧ ¬ (nI 0) < 0 ∧ ¬ (nI 6) < 0 ∧ 0 + 6 ≤ 6 ∧ 0 + 6 ≤ 6))) then (some (75, [some (.ref 30), some (.ref 2)], (uA d 35 (va_cpy (d 7) (d 35) 0 0 6)), e)) else none)
theorem tX2_becomek2_60 {Γ : aG × Launch} {d dF : aI} {e eF : aJ}  {r : Option Value} {p : Nat × aL × aI × aJ} (h : sX2_becomek2_60 d e  = some p) (kc : Nat.beq p.1 100000 = false → Rn Γ (0) mX2_become p.1 p.2.1 [] p.2.2.1 p.2.2.2 r dF eF) (kr : p.1 = 100000 → r = a_rt p.2.1 ∧ dF = p.2.2.1 ∧ eF = p.2.2.2) : Rn Γ (0) mX2_become 60 [some (.ref 30), some (.ref 2)] [] d e r dF eF := by
  unfold sX2_becomek2_60 at h
  obtain ⟨g1, h⟩ := a_cond h
  refine bX2_becomek2_60 (of_decide_eq_true g1) ?_
  cases h
  exact kc rfl

noncomputable def sX2_becomek2_75 (d : aI) (e : aJ)  : Option (Nat × aL × aI × aJ) := (bif ((decide (¬ (nI 0) < 0 ∧ ¬ (nI 0) < 0 ∧ ¬ (nI 6) < 0 ∧ 0 + 6 ≤ 6 ∧ 0 + 6 ≤ 6))) then (some (90, [some (.ref 30), some (.ref 2)], (uA d 36 (va_cpy (d 8) (d 36) 0 0 6)), e)) else none)
theorem tX2_becomek2_75 {Γ : aG × Launch} {d dF : aI} {e eF : aJ}  {r : Option Value} {p : Nat × aL × aI × aJ} (h : sX2_becomek2_75 d e  = some p) (kc : Nat.beq p.1 100000 = false → Rn Γ (0) mX2_become p.1 p.2.1 [] p.2.2.1 p.2.2.2 r dF eF) (kr : p.1 = 100000 → r = a_rt p.2.1 ∧ dF = p.2.2.1 ∧ eF = p.2.2.2) : Rn Γ (0) mX2_become 75 [some (.ref 30), some (.ref 2)] [] d e r dF eF := by
  unfold sX2_becomek2_75 at h
  obtain ⟨g1, h⟩ := a_cond h
  refine bX2_becomek2_75 (of_decide_eq_true g1) ?_
  cases h
  exact kc rfl

noncomputable def sX2_becomek2_90 (d : aI) (e : aJ)  : Option (Nat × aL × aI × aJ) := (bif ((decide (¬ (nI 0) < 0 ∧ ¬ (nI 0) < 0 ∧ ¬ (nI 6) < 0 ∧ 0 + 6 ≤ 6 ∧ 0 + 6 ≤ 6))) then (some (105, [some (.ref 30), some (.ref 2)], (uA d 37 (va_cpy (d 9) (d 37) 0 0 6)), e)) else none)
theorem tX2_becomek2_90 {Γ : aG × Launch} {d dF : aI} {e eF : aJ}  {r : Option Value} {p : Nat × aL × aI × aJ} (h : sX2_becomek2_90 d e  = some p) (kc : Nat.beq p.1 100000 = false → Rn Γ (0) mX2_become p.1 p.2.1 [] p.2.2.1 p.2.2.2 r dF eF) (kr : p.1 = 100000 → r = a_rt p.2.1 ∧ dF = p.2.2.1 ∧ eF = p.2.2.2) : Rn Γ (0) mX2_become 90 [some (.ref 30), some (.ref 2)] [] d e r dF eF := by
  unfold sX2_becomek2_90 at h
  obtain ⟨g1, h⟩ := a_cond h
  refine bX2_becomek2_90 (of_decide_eq_true g1) ?_
  cases h
  exact kc rfl

noncomputable def sX2_becomek2_105 (d : aI) (e : aJ)  : Option (Nat × aL × aI × aJ) := (bif ((decide (¬ (nI 0) < 0 ∧ ¬ (nI 0) < 0 ∧ ¬ (nI 25) < 0 ∧ 0 + 25 ≤ 25 ∧ 0 + 25 ≤ 25))) then (some (120, [some (.ref 30), some (.ref 2)], (uA d 38 (va_cpy (d 10) (d 38) 0 0 25)), e)) else none)
theorem tX2_becomek2_105 {Γ : aG × Launch} {d dF : aI} {e eF : aJ}  {r : Option Value} {p : Nat × aL × aI × aJ} (h : sX2_becomek2_105 d e  = some p) (kc : Nat.beq p.1 100000 = false → Rn Γ (0) mX2_become p.1 p.2.1 [] p.2.2.1 p.2.2.2 r dF eF) (kr : p.1 = 100000 → r = a_rt p.2.1 ∧ dF = p.2.2.1 ∧ eF = p.2.2.2) : Rn Γ (0) mX2_become 105 [some (.ref 30), some (.ref 2)] [] d e r dF eF := by
  unfold sX2_becomek2_105 at h
  obtain ⟨g1, h⟩ := a_cond h
  refine bX2_becomek2_105 (of_decide_eq_true g1) ?_
  cases h
  exact kc rfl

noncomputable def sX2_becomek2_120 (d : aI) (e : aJ)  : Option (Nat × aL × aI × aJ) := (some (100000, [], (uI (uI (uI (uI (uI d 30 8 (d 2 8)) 30 9 (d 2 9)) 30 10 (d 2 10)) 30 11 (d 2 11)) 30 12 (d 2 12)), e))
theorem tX2_becomek2_120 {Γ : aG × Launch} {d dF : aI} {e eF : aJ}  {r : Option Value} {p : Nat × aL × aI × aJ} (h : sX2_becomek2_120 d e  = some p) (kc : Nat.beq p.1 100000 = false → Rn Γ (0) mX2_become p.1 p.2.1 [] p.2.2.1 p.2.2.2 r dF eF) (kr : p.1 = 100000 → r = a_rt p.2.1 ∧ dF = p.2.2.1 ∧ eF = p.2.2.2) : Rn Γ (0) mX2_become 120 [some (.ref 30), some (.ref 2)] [] d e r dF eF := by
  unfold sX2_becomek2_120 at h
  cases h
  obtain ⟨k1, k2, k3⟩ := kr rfl
  exact bX2_becomek2_120 k1 k2 k3

noncomputable def stX2_becomek2 (p : Nat × aL × aI × aJ) : Option (Nat × aL × aI × aJ) := match p with
  | (0, [some (.ref 30), some (.ref 2)], d, e) => sX2_becomek2_0 d e 
  | (15, [some (.ref 30), some (.ref 2)], d, e) => sX2_becomek2_15 d e 
  | (30, [some (.ref 30), some (.ref 2)], d, e) => sX2_becomek2_30 d e 
  | (45, [some (.ref 30), some (.ref 2)], d, e) => sX2_becomek2_45 d e 
  | (60, [some (.ref 30), some (.ref 2)], d, e) => sX2_becomek2_60 d e 
  | (75, [some (.ref 30), some (.ref 2)], d, e) => sX2_becomek2_75 d e 
  | (90, [some (.ref 30), some (.ref 2)], d, e) => sX2_becomek2_90 d e 
  | (105, [some (.ref 30), some (.ref 2)], d, e) => sX2_becomek2_105 d e 
  | (120, [some (.ref 30), some (.ref 2)], d, e) => sX2_becomek2_120 d e 
  | _ => none
theorem uX2_becomek2 {Γ : aG × Launch} {p p2 : Nat × aL × aI × aJ} {r : Option Value} {dF : aI} {eF : aJ} (h : stX2_becomek2 p = some p2) (kc : Nat.beq p2.1 100000 = false → Rn Γ (0) mX2_become p2.1 p2.2.1 [] p2.2.2.1 p2.2.2.2 r dF eF) (kr : p2.1 = 100000 → r = a_rt p2.2.1 ∧ dF = p2.2.2.1 ∧ eF = p2.2.2.2) : Rn Γ (0) mX2_become p.1 p.2.1 [] p.2.2.1 p.2.2.2 r dF eF := by
  unfold stX2_becomek2 at h
  split at h
  · exact tX2_becomek2_0 h kc kr
  · exact tX2_becomek2_15 h kc kr
  · exact tX2_becomek2_30 h kc kr
  · exact tX2_becomek2_45 h kc kr
  · exact tX2_becomek2_60 h kc kr
  · exact tX2_becomek2_75 h kc kr
  · exact tX2_becomek2_90 h kc kr
  · exact tX2_becomek2_105 h kc kr
  · exact tX2_becomek2_120 h kc kr
  · cases h
noncomputable def FX2_becomek2 (d : aI) (e : aJ)  : Option (Unit × aI × aJ) := (a_run (stX2_becomek2) (0, [some (.ref 30), some (.ref 2)], d, e)).bind a_xV
theorem evX2_becomek2 {Γ : aG × Launch} {d : aI} {e : aJ}  {q : Unit × aI × aJ} (h : FX2_becomek2 d e  = some q) : Ev Γ (0) mX2_become [.ref 30, .ref 2] d e none q.2.1 q.2.2 := by
  refine Ev.of (by decide) rfl (Nat.le_of_ble_eq_true rfl) (fun z => by cases z) ?_
  show Rn Γ (0) mX2_become 0 [some (.ref 30), some (.ref 2)] [] d e _ _ _
  obtain ⟨q1, h1, h2⟩ := Option.bind_eq_some_iff.mp h
  obtain ⟨e1, e2, e3⟩ := a_xV_rt h2
  exact Rn.cast (a_run_ok (uX2_becomek2) rfl h1) e1.symm e2.symm e3.symm
noncomputable def FX3_has (d : aI) (e : aJ) (o0 : Nat) (x1 : Int32) : Option (Int32 × aI × aJ) := (bif (decide (o0 = 13 ∨ o0 = 21)) then (if x1 < 0 then (some ((nI 0), d, e)) else (if (d o0 4) ≤ x1 then (some ((nI 0), d, e)) else (some ((nI 1), d, e)))) else none)
theorem evX3_has {Γ : aG × Launch} {d : aI} {e : aJ} {o0 : Nat} {x1 : Int32} {q : Int32 × aI × aJ} (h : FX3_has d e o0 x1 = some q) : Ev Γ (0) mX3_has [.ref o0, .int x1] d e (some (.int q.1)) q.2.1 q.2.2 := by
  refine Ev.of (by decide) rfl (Nat.le_of_ble_eq_true rfl) (fun z => by cases z) ?_
  show Rn Γ (0) mX3_has 0 [some (.ref o0), some (.int x1)] [] d e _ _ _
  unfold FX3_has at h
  obtain ⟨ho0x, h⟩ := a_cond h
  have ho0 := of_decide_eq_true ho0x
  refine a_ite h (fun c1 h => ?_) (fun c1 h => ?_)
  · refine bX3_has_0 (fun _ => ?_) (fun z => absurd c1 z)
    refine bX3_has_16 ?_
    cases h
    exact bX3_has_17 (a_nz (Or.inl rfl))
  · refine bX3_has_0 (fun z => absurd z c1) (fun _ => ?_)
    refine a_ite h (fun c2 h => ?_) (fun c2 h => ?_)
    · refine bX3_has_4 ho0 (fun _ => ?_) (fun z => absurd c2 z)
      refine bX3_has_16 ?_
      cases h
      exact bX3_has_17 (a_nz (Or.inl rfl))
    · refine bX3_has_4 ho0 (fun z => absurd z c2) (fun _ => ?_)
      refine bX3_has_12 ?_
      cases h
      exact bX3_has_17 (a_nz (Or.inr rfl))

noncomputable def FX3_add (d : aI) (e : aJ) (o0 : Nat) (x1 : Int32) (x2 : Int32) (x3 : Int32) : Option (Int32 × aI × aJ) := (bif (decide (o0 = 13 ∨ o0 = 17 ∨ o0 = 21 ∨ o0 = 25)) then (if (d o0 4) < (d o0 0) then (bif ((a_inb (d o0 4) (szOf (o0 + 1))) && (a_inb ((uI d (o0 + 1) ((d o0 4)).toNatClampNeg x1) o0 4) (szOf (o0 + 2))) && (a_inb ((uI (uI d (o0 + 1) ((d o0 4)).toNatClampNeg x1) (o0 + 2) (((uI d (o0 + 1) ((d o0 4)).toNatClampNeg x1) o0 4)).toNatClampNeg x2) o0 4) (szOf (o0 + 3)))) then (some ((nI 1), (uI (uI (uI (uI d (o0 + 1) ((d o0 4)).toNatClampNeg x1) (o0 + 2) (((uI d (o0 + 1) ((d o0 4)).toNatClampNeg x1) o0 4)).toNatClampNeg x2) (o0 + 3) (((uI (uI d (o0 + 1) ((d o0 4)).toNatClampNeg x1) (o0 + 2) (((uI d (o0 + 1) ((d o0 4)).toNatClampNeg x1) o0 4)).toNatClampNeg x2) o0 4)).toNatClampNeg x3) o0 4 (((uI (uI (uI d (o0 + 1) ((d o0 4)).toNatClampNeg x1) (o0 + 2) (((uI d (o0 + 1) ((d o0 4)).toNatClampNeg x1) o0 4)).toNatClampNeg x2) (o0 + 3) (((uI (uI d (o0 + 1) ((d o0 4)).toNatClampNeg x1) (o0 + 2) (((uI d (o0 + 1) ((d o0 4)).toNatClampNeg x1) o0 4)).toNatClampNeg x2) o0 4)).toNatClampNeg x3) o0 4) + (nI 1))), e)) else none) else (some ((nI 0), d, e))) else none)
theorem evX3_add {Γ : aG × Launch} {d : aI} {e : aJ} {o0 : Nat} {x1 : Int32} {x2 : Int32} {x3 : Int32} {q : Int32 × aI × aJ} (h : FX3_add d e o0 x1 x2 x3 = some q) : Ev Γ (0) mX3_add [.ref o0, .int x1, .int x2, .int x3] d e (some (.int q.1)) q.2.1 q.2.2 := by
  refine Ev.of (by decide) rfl (Nat.le_of_ble_eq_true rfl) (fun z => by cases z) ?_
  show Rn Γ (0) mX3_add 0 [some (.ref o0), some (.int x1), some (.int x2), some (.int x3)] [] d e _ _ _
  unfold FX3_add at h
  obtain ⟨ho0x, h⟩ := a_cond h
  have ho0 := of_decide_eq_true ho0x
  refine a_ite h (fun c1 h => ?_) (fun c1 h => ?_)
  · refine bX3_add_0 ho0 (fun _ => ?_) (fun z => absurd c1 z)
    obtain ⟨g2, h⟩ := a_cond h
    obtain ⟨g2x2, g2_2⟩ := a_and g2
    obtain ⟨g2x1, g2_1⟩ := a_and g2x2
    have g2_0 := g2x1
    cases h
    exact bX3_add_13 ho0 ⟨(a_inb_vp g2_0), (a_inb_vp g2_1), (a_inb_vp g2_2)⟩
  · refine bX3_add_0 ho0 (fun z => absurd z c1) (fun _ => ?_)
    cases h
    exact bX3_add_11

noncomputable def sX3_becomen13_0 (d : aI) (e : aJ)  : Option (Nat × aL × aI × aJ) := (bif ((decide (¬ (nI 0) < 0 ∧ ¬ (nI 0) < 0 ∧ ¬ (a_min (d 41 4) (d 13 0)) < 0 ∧ 0 + ((a_min (d 41 4) (d 13 0))).toNatClampNeg ≤ 10 ∧ 0 + ((a_min (d 41 4) (d 13 0))).toNatClampNeg ≤ 10))) then (some (26, [some (.ref 13), some (.ref 41), some (.int (a_min (d 41 4) (d 13 0)))], (uA d 14 (va_cpy (d 42) (d 14) 0 0 ((a_min (d 41 4) (d 13 0))).toNatClampNeg)), e)) else none)
theorem tX3_becomen13_0 {Γ : aG × Launch} {d dF : aI} {e eF : aJ}  {r : Option Value} {p : Nat × aL × aI × aJ} (h : sX3_becomen13_0 d e  = some p) (kc : Nat.beq p.1 100000 = false → Rn Γ (0) mX3_become p.1 p.2.1 [] p.2.2.1 p.2.2.2 r dF eF) (kr : p.1 = 100000 → r = a_rt p.2.1 ∧ dF = p.2.2.1 ∧ eF = p.2.2.2) : Rn Γ (0) mX3_become 0 [some (.ref 13), some (.ref 41), none] [] d e r dF eF := by
  unfold sX3_becomen13_0 at h
  obtain ⟨g1, h⟩ := a_cond h
  refine bX3_becomen13_0 (of_decide_eq_true g1) ?_
  cases h
  exact kc rfl

noncomputable def sX3_becomen13_26 (d : aI) (e : aJ) (x2 : Int32) : Option (Nat × aL × aI × aJ) := (bif ((decide (¬ (nI 0) < 0 ∧ ¬ (nI 0) < 0 ∧ ¬ x2 < 0 ∧ 0 + (x2).toNatClampNeg ≤ 10 ∧ 0 + (x2).toNatClampNeg ≤ 10))) then (some (40, [some (.ref 13), some (.ref 41), some (.int x2)], (uA d 15 (va_cpy (d 43) (d 15) 0 0 (x2).toNatClampNeg)), e)) else none)
theorem tX3_becomen13_26 {Γ : aG × Launch} {d dF : aI} {e eF : aJ} {x2 : Int32} {r : Option Value} {p : Nat × aL × aI × aJ} (h : sX3_becomen13_26 d e x2 = some p) (kc : Nat.beq p.1 100000 = false → Rn Γ (0) mX3_become p.1 p.2.1 [] p.2.2.1 p.2.2.2 r dF eF) (kr : p.1 = 100000 → r = a_rt p.2.1 ∧ dF = p.2.2.1 ∧ eF = p.2.2.2) : Rn Γ (0) mX3_become 26 [some (.ref 13), some (.ref 41), some (.int x2)] [] d e r dF eF := by
  unfold sX3_becomen13_26 at h
  obtain ⟨g1, h⟩ := a_cond h
  refine bX3_becomen13_26 (of_decide_eq_true g1) ?_
  cases h
  exact kc rfl

noncomputable def sX3_becomen13_40 (d : aI) (e : aJ) (x2 : Int32) : Option (Nat × aL × aI × aJ) := (bif ((decide (¬ (nI 0) < 0 ∧ ¬ (nI 0) < 0 ∧ ¬ x2 < 0 ∧ 0 + (x2).toNatClampNeg ≤ 10 ∧ 0 + (x2).toNatClampNeg ≤ 10))) then (some (54, [some (.ref 13), some (.ref 41), some (.int x2)], (uA d 16 (va_cpy (d 44) (d 16) 0 0 (x2).toNatClampNeg)), e)) else none)
theorem tX3_becomen13_40 {Γ : aG × Launch} {d dF : aI} {e eF : aJ} {x2 : Int32} {r : Option Value} {p : Nat × aL × aI × aJ} (h : sX3_becomen13_40 d e x2 = some p) (kc : Nat.beq p.1 100000 = false → Rn Γ (0) mX3_become p.1 p.2.1 [] p.2.2.1 p.2.2.2 r dF eF) (kr : p.1 = 100000 → r = a_rt p.2.1 ∧ dF = p.2.2.1 ∧ eF = p.2.2.2) : Rn Γ (0) mX3_become 40 [some (.ref 13), some (.ref 41), some (.int x2)] [] d e r dF eF := by
  unfold sX3_becomen13_40 at h
  obtain ⟨g1, h⟩ := a_cond h
  refine bX3_becomen13_40 (of_decide_eq_true g1) ?_
  cases h
  exact kc rfl

noncomputable def sX3_becomen13_54 (d : aI) (e : aJ) (x2 : Int32) : Option (Nat × aL × aI × aJ) := (some (100000, [], (uI d 13 4 x2), e))
theorem tX3_becomen13_54 {Γ : aG × Launch} {d dF : aI} {e eF : aJ} {x2 : Int32} {r : Option Value} {p : Nat × aL × aI × aJ} (h : sX3_becomen13_54 d e x2 = some p) (kc : Nat.beq p.1 100000 = false → Rn Γ (0) mX3_become p.1 p.2.1 [] p.2.2.1 p.2.2.2 r dF eF) (kr : p.1 = 100000 → r = a_rt p.2.1 ∧ dF = p.2.2.1 ∧ eF = p.2.2.2) : Rn Γ (0) mX3_become 54 [some (.ref 13), some (.ref 41), some (.int x2)] [] d e r dF eF := by
  unfold sX3_becomen13_54 at h
  cases h
  obtain ⟨k1, k2, k3⟩ := kr rfl
  exact bX3_becomen13_54 k1 k2 k3

noncomputable def stX3_becomen13 (p : Nat × aL × aI × aJ) : Option (Nat × aL × aI × aJ) := match p with
  | (0, [some (.ref 13), some (.ref 41), none], d, e) => sX3_becomen13_0 d e 
  | (26, [some (.ref 13), some (.ref 41), some (.int x2)], d, e) => sX3_becomen13_26 d e x2
  | (40, [some (.ref 13), some (.ref 41), some (.int x2)], d, e) => sX3_becomen13_40 d e x2
  | (54, [some (.ref 13), some (.ref 41), some (.int x2)], d, e) => sX3_becomen13_54 d e x2
  | _ => none
theorem uX3_becomen13 {Γ : aG × Launch} {p p2 : Nat × aL × aI × aJ} {r : Option Value} {dF : aI} {eF : aJ} (h : stX3_becomen13 p = some p2) (kc : Nat.beq p2.1 100000 = false → Rn Γ (0) mX3_become p2.1 p2.2.1 [] p2.2.2.1 p2.2.2.2 r dF eF) (kr : p2.1 = 100000 → r = a_rt p2.2.1 ∧ dF = p2.2.2.1 ∧ eF = p2.2.2.2) : Rn Γ (0) mX3_become p.1 p.2.1 [] p.2.2.1 p.2.2.2 r dF eF := by
  unfold stX3_becomen13 at h
  split at h
  · exact tX3_becomen13_0 h kc kr
  · exact tX3_becomen13_26 h kc kr
  · exact tX3_becomen13_40 h kc kr
  · exact tX3_becomen13_54 h kc kr
  · cases h
noncomputable def FX3_becomen13 (d : aI) (e : aJ)  : Option (Unit × aI × aJ) := (a_run (stX3_becomen13) (0, [some (.ref 13), some (.ref 41), none], d, e)).bind a_xV
theorem evX3_becomen13 {Γ : aG × Launch} {d : aI} {e : aJ}  {q : Unit × aI × aJ} (h : FX3_becomen13 d e  = some q) : Ev Γ (0) mX3_become [.ref 13, .ref 41] d e none q.2.1 q.2.2 := by
  refine Ev.of (by decide) rfl (Nat.le_of_ble_eq_true rfl) (fun z => by cases z) ?_
  show Rn Γ (0) mX3_become 0 [some (.ref 13), some (.ref 41), none] [] d e _ _ _
  obtain ⟨q1, h1, h2⟩ := Option.bind_eq_some_iff.mp h
  obtain ⟨e1, e2, e3⟩ := a_xV_rt h2
  exact Rn.cast (a_run_ok (uX3_becomen13) rfl h1) e1.symm e2.symm e3.symm
noncomputable def sX3_becomen17_0 (d : aI) (e : aJ)  : Option (Nat × aL × aI × aJ) := (bif ((decide (¬ (nI 0) < 0 ∧ ¬ (nI 0) < 0 ∧ ¬ (a_min (d 45 4) (d 17 0)) < 0 ∧ 0 + ((a_min (d 45 4) (d 17 0))).toNatClampNeg ≤ 8 ∧ 0 + ((a_min (d 45 4) (d 17 0))).toNatClampNeg ≤ 8))) then (some (26, [some (.ref 17), some (.ref 45), some (.int (a_min (d 45 4) (d 17 0)))], (uA d 18 (va_cpy (d 46) (d 18) 0 0 ((a_min (d 45 4) (d 17 0))).toNatClampNeg)), e)) else none)
theorem tX3_becomen17_0 {Γ : aG × Launch} {d dF : aI} {e eF : aJ}  {r : Option Value} {p : Nat × aL × aI × aJ} (h : sX3_becomen17_0 d e  = some p) (kc : Nat.beq p.1 100000 = false → Rn Γ (0) mX3_become p.1 p.2.1 [] p.2.2.1 p.2.2.2 r dF eF) (kr : p.1 = 100000 → r = a_rt p.2.1 ∧ dF = p.2.2.1 ∧ eF = p.2.2.2) : Rn Γ (0) mX3_become 0 [some (.ref 17), some (.ref 45), none] [] d e r dF eF := by
  unfold sX3_becomen17_0 at h
  obtain ⟨g1, h⟩ := a_cond h
  refine bX3_becomen17_0 (of_decide_eq_true g1) ?_
  cases h
  exact kc rfl

noncomputable def sX3_becomen17_26 (d : aI) (e : aJ) (x2 : Int32) : Option (Nat × aL × aI × aJ) := (bif ((decide (¬ (nI 0) < 0 ∧ ¬ (nI 0) < 0 ∧ ¬ x2 < 0 ∧ 0 + (x2).toNatClampNeg ≤ 8 ∧ 0 + (x2).toNatClampNeg ≤ 8))) then (some (40, [some (.ref 17), some (.ref 45), some (.int x2)], (uA d 19 (va_cpy (d 47) (d 19) 0 0 (x2).toNatClampNeg)), e)) else none)
theorem tX3_becomen17_26 {Γ : aG × Launch} {d dF : aI} {e eF : aJ} {x2 : Int32} {r : Option Value} {p : Nat × aL × aI × aJ} (h : sX3_becomen17_26 d e x2 = some p) (kc : Nat.beq p.1 100000 = false → Rn Γ (0) mX3_become p.1 p.2.1 [] p.2.2.1 p.2.2.2 r dF eF) (kr : p.1 = 100000 → r = a_rt p.2.1 ∧ dF = p.2.2.1 ∧ eF = p.2.2.2) : Rn Γ (0) mX3_become 26 [some (.ref 17), some (.ref 45), some (.int x2)] [] d e r dF eF := by
  unfold sX3_becomen17_26 at h
  obtain ⟨g1, h⟩ := a_cond h
  refine bX3_becomen17_26 (of_decide_eq_true g1) ?_
  cases h
  exact kc rfl

noncomputable def sX3_becomen17_40 (d : aI) (e : aJ) (x2 : Int32) : Option (Nat × aL × aI × aJ) := (bif ((decide (¬ (nI 0) < 0 ∧ ¬ (nI 0) < 0 ∧ ¬ x2 < 0 ∧ 0 + (x2).toNatClampNeg ≤ 8 ∧ 0 + (x2).toNatClampNeg ≤ 8))) then (some (54, [some (.ref 17), some (.ref 45), some (.int x2)], (uA d 20 (va_cpy (d 48) (d 20) 0 0 (x2).toNatClampNeg)), e)) else none)
theorem tX3_becomen17_40 {Γ : aG × Launch} {d dF : aI} {e eF : aJ} {x2 : Int32} {r : Option Value} {p : Nat × aL × aI × aJ} (h : sX3_becomen17_40 d e x2 = some p) (kc : Nat.beq p.1 100000 = false → Rn Γ (0) mX3_become p.1 p.2.1 [] p.2.2.1 p.2.2.2 r dF eF) (kr : p.1 = 100000 → r = a_rt p.2.1 ∧ dF = p.2.2.1 ∧ eF = p.2.2.2) : Rn Γ (0) mX3_become 40 [some (.ref 17), some (.ref 45), some (.int x2)] [] d e r dF eF := by
  unfold sX3_becomen17_40 at h
  obtain ⟨g1, h⟩ := a_cond h
  refine bX3_becomen17_40 (of_decide_eq_true g1) ?_
  cases h
  exact kc rfl

noncomputable def sX3_becomen17_54 (d : aI) (e : aJ) (x2 : Int32) : Option (Nat × aL × aI × aJ) := (some (100000, [], (uI d 17 4 x2), e))
theorem tX3_becomen17_54 {Γ : aG × Launch} {d dF : aI} {e eF : aJ} {x2 : Int32} {r : Option Value} {p : Nat × aL × aI × aJ} (h : sX3_becomen17_54 d e x2 = some p) (kc : Nat.beq p.1 100000 = false → Rn Γ (0) mX3_become p.1 p.2.1 [] p.2.2.1 p.2.2.2 r dF eF) (kr : p.1 = 100000 → r = a_rt p.2.1 ∧ dF = p.2.2.1 ∧ eF = p.2.2.2) : Rn Γ (0) mX3_become 54 [some (.ref 17), some (.ref 45), some (.int x2)] [] d e r dF eF := by
  unfold sX3_becomen17_54 at h
  cases h
  obtain ⟨k1, k2, k3⟩ := kr rfl
  exact bX3_becomen17_54 k1 k2 k3

noncomputable def stX3_becomen17 (p : Nat × aL × aI × aJ) : Option (Nat × aL × aI × aJ) := match p with
  | (0, [some (.ref 17), some (.ref 45), none], d, e) => sX3_becomen17_0 d e 
  | (26, [some (.ref 17), some (.ref 45), some (.int x2)], d, e) => sX3_becomen17_26 d e x2
  | (40, [some (.ref 17), some (.ref 45), some (.int x2)], d, e) => sX3_becomen17_40 d e x2
  | (54, [some (.ref 17), some (.ref 45), some (.int x2)], d, e) => sX3_becomen17_54 d e x2
  | _ => none
theorem uX3_becomen17 {Γ : aG × Launch} {p p2 : Nat × aL × aI × aJ} {r : Option Value} {dF : aI} {eF : aJ} (h : stX3_becomen17 p = some p2) (kc : Nat.beq p2.1 100000 = false → Rn Γ (0) mX3_become p2.1 p2.2.1 [] p2.2.2.1 p2.2.2.2 r dF eF) (kr : p2.1 = 100000 → r = a_rt p2.2.1 ∧ dF = p2.2.2.1 ∧ eF = p2.2.2.2) : Rn Γ (0) mX3_become p.1 p.2.1 [] p.2.2.1 p.2.2.2 r dF eF := by
  unfold stX3_becomen17 at h
  split at h
  · exact tX3_becomen17_0 h kc kr
  · exact tX3_becomen17_26 h kc kr
  · exact tX3_becomen17_40 h kc kr
  · exact tX3_becomen17_54 h kc kr
  · cases h
noncomputable def FX3_becomen17 (d : aI) (e : aJ)  : Option (Unit × aI × aJ) := (a_run (stX3_becomen17) (0, [some (.ref 17), some (.ref 45), none], d, e)).bind a_xV
theorem evX3_becomen17 {Γ : aG × Launch} {d : aI} {e : aJ}  {q : Unit × aI × aJ} (h : FX3_becomen17 d e  = some q) : Ev Γ (0) mX3_become [.ref 17, .ref 45] d e none q.2.1 q.2.2 := by
  refine Ev.of (by decide) rfl (Nat.le_of_ble_eq_true rfl) (fun z => by cases z) ?_
  show Rn Γ (0) mX3_become 0 [some (.ref 17), some (.ref 45), none] [] d e _ _ _
  obtain ⟨q1, h1, h2⟩ := Option.bind_eq_some_iff.mp h
  obtain ⟨e1, e2, e3⟩ := a_xV_rt h2
  exact Rn.cast (a_run_ok (uX3_becomen17) rfl h1) e1.symm e2.symm e3.symm
noncomputable def sX3_becomen21_0 (d : aI) (e : aJ)  : Option (Nat × aL × aI × aJ) := (bif ((decide (¬ (nI 0) < 0 ∧ ¬ (nI 0) < 0 ∧ ¬ (a_min (d 49 4) (d 21 0)) < 0 ∧ 0 + ((a_min (d 49 4) (d 21 0))).toNatClampNeg ≤ 5 ∧ 0 + ((a_min (d 49 4) (d 21 0))).toNatClampNeg ≤ 5))) then (some (26, [some (.ref 21), some (.ref 49), some (.int (a_min (d 49 4) (d 21 0)))], (uA d 22 (va_cpy (d 50) (d 22) 0 0 ((a_min (d 49 4) (d 21 0))).toNatClampNeg)), e)) else none)
theorem tX3_becomen21_0 {Γ : aG × Launch} {d dF : aI} {e eF : aJ}  {r : Option Value} {p : Nat × aL × aI × aJ} (h : sX3_becomen21_0 d e  = some p) (kc : Nat.beq p.1 100000 = false → Rn Γ (0) mX3_become p.1 p.2.1 [] p.2.2.1 p.2.2.2 r dF eF) (kr : p.1 = 100000 → r = a_rt p.2.1 ∧ dF = p.2.2.1 ∧ eF = p.2.2.2) : Rn Γ (0) mX3_become 0 [some (.ref 21), some (.ref 49), none] [] d e r dF eF := by
  unfold sX3_becomen21_0 at h
  obtain ⟨g1, h⟩ := a_cond h
  refine bX3_becomen21_0 (of_decide_eq_true g1) ?_
  cases h
  exact kc rfl

noncomputable def sX3_becomen21_26 (d : aI) (e : aJ) (x2 : Int32) : Option (Nat × aL × aI × aJ) := (bif ((decide (¬ (nI 0) < 0 ∧ ¬ (nI 0) < 0 ∧ ¬ x2 < 0 ∧ 0 + (x2).toNatClampNeg ≤ 5 ∧ 0 + (x2).toNatClampNeg ≤ 5))) then (some (40, [some (.ref 21), some (.ref 49), some (.int x2)], (uA d 23 (va_cpy (d 51) (d 23) 0 0 (x2).toNatClampNeg)), e)) else none)
theorem tX3_becomen21_26 {Γ : aG × Launch} {d dF : aI} {e eF : aJ} {x2 : Int32} {r : Option Value} {p : Nat × aL × aI × aJ} (h : sX3_becomen21_26 d e x2 = some p) (kc : Nat.beq p.1 100000 = false → Rn Γ (0) mX3_become p.1 p.2.1 [] p.2.2.1 p.2.2.2 r dF eF) (kr : p.1 = 100000 → r = a_rt p.2.1 ∧ dF = p.2.2.1 ∧ eF = p.2.2.2) : Rn Γ (0) mX3_become 26 [some (.ref 21), some (.ref 49), some (.int x2)] [] d e r dF eF := by
  unfold sX3_becomen21_26 at h
  obtain ⟨g1, h⟩ := a_cond h
  refine bX3_becomen21_26 (of_decide_eq_true g1) ?_
  cases h
  exact kc rfl

noncomputable def sX3_becomen21_40 (d : aI) (e : aJ) (x2 : Int32) : Option (Nat × aL × aI × aJ) := (bif ((decide (¬ (nI 0) < 0 ∧ ¬ (nI 0) < 0 ∧ ¬ x2 < 0 ∧ 0 + (x2).toNatClampNeg ≤ 5 ∧ 0 + (x2).toNatClampNeg ≤ 5))) then (some (54, [some (.ref 21), some (.ref 49), some (.int x2)], (uA d 24 (va_cpy (d 52) (d 24) 0 0 (x2).toNatClampNeg)), e)) else none)
theorem tX3_becomen21_40 {Γ : aG × Launch} {d dF : aI} {e eF : aJ} {x2 : Int32} {r : Option Value} {p : Nat × aL × aI × aJ} (h : sX3_becomen21_40 d e x2 = some p) (kc : Nat.beq p.1 100000 = false → Rn Γ (0) mX3_become p.1 p.2.1 [] p.2.2.1 p.2.2.2 r dF eF) (kr : p.1 = 100000 → r = a_rt p.2.1 ∧ dF = p.2.2.1 ∧ eF = p.2.2.2) : Rn Γ (0) mX3_become 40 [some (.ref 21), some (.ref 49), some (.int x2)] [] d e r dF eF := by
  unfold sX3_becomen21_40 at h
  obtain ⟨g1, h⟩ := a_cond h
  refine bX3_becomen21_40 (of_decide_eq_true g1) ?_
  cases h
  exact kc rfl

noncomputable def sX3_becomen21_54 (d : aI) (e : aJ) (x2 : Int32) : Option (Nat × aL × aI × aJ) := (some (100000, [], (uI d 21 4 x2), e))
theorem tX3_becomen21_54 {Γ : aG × Launch} {d dF : aI} {e eF : aJ} {x2 : Int32} {r : Option Value} {p : Nat × aL × aI × aJ} (h : sX3_becomen21_54 d e x2 = some p) (kc : Nat.beq p.1 100000 = false → Rn Γ (0) mX3_become p.1 p.2.1 [] p.2.2.1 p.2.2.2 r dF eF) (kr : p.1 = 100000 → r = a_rt p.2.1 ∧ dF = p.2.2.1 ∧ eF = p.2.2.2) : Rn Γ (0) mX3_become 54 [some (.ref 21), some (.ref 49), some (.int x2)] [] d e r dF eF := by
  unfold sX3_becomen21_54 at h
  cases h
  obtain ⟨k1, k2, k3⟩ := kr rfl
  exact bX3_becomen21_54 k1 k2 k3

noncomputable def stX3_becomen21 (p : Nat × aL × aI × aJ) : Option (Nat × aL × aI × aJ) := match p with
  | (0, [some (.ref 21), some (.ref 49), none], d, e) => sX3_becomen21_0 d e 
  | (26, [some (.ref 21), some (.ref 49), some (.int x2)], d, e) => sX3_becomen21_26 d e x2
  | (40, [some (.ref 21), some (.ref 49), some (.int x2)], d, e) => sX3_becomen21_40 d e x2
  | (54, [some (.ref 21), some (.ref 49), some (.int x2)], d, e) => sX3_becomen21_54 d e x2
  | _ => none
theorem uX3_becomen21 {Γ : aG × Launch} {p p2 : Nat × aL × aI × aJ} {r : Option Value} {dF : aI} {eF : aJ} (h : stX3_becomen21 p = some p2) (kc : Nat.beq p2.1 100000 = false → Rn Γ (0) mX3_become p2.1 p2.2.1 [] p2.2.2.1 p2.2.2.2 r dF eF) (kr : p2.1 = 100000 → r = a_rt p2.2.1 ∧ dF = p2.2.2.1 ∧ eF = p2.2.2.2) : Rn Γ (0) mX3_become p.1 p.2.1 [] p.2.2.1 p.2.2.2 r dF eF := by
  unfold stX3_becomen21 at h
  split at h
  · exact tX3_becomen21_0 h kc kr
  · exact tX3_becomen21_26 h kc kr
  · exact tX3_becomen21_40 h kc kr
  · exact tX3_becomen21_54 h kc kr
  · cases h
noncomputable def FX3_becomen21 (d : aI) (e : aJ)  : Option (Unit × aI × aJ) := (a_run (stX3_becomen21) (0, [some (.ref 21), some (.ref 49), none], d, e)).bind a_xV
theorem evX3_becomen21 {Γ : aG × Launch} {d : aI} {e : aJ}  {q : Unit × aI × aJ} (h : FX3_becomen21 d e  = some q) : Ev Γ (0) mX3_become [.ref 21, .ref 49] d e none q.2.1 q.2.2 := by
  refine Ev.of (by decide) rfl (Nat.le_of_ble_eq_true rfl) (fun z => by cases z) ?_
  show Rn Γ (0) mX3_become 0 [some (.ref 21), some (.ref 49), none] [] d e _ _ _
  obtain ⟨q1, h1, h2⟩ := Option.bind_eq_some_iff.mp h
  obtain ⟨e1, e2, e3⟩ := a_xV_rt h2
  exact Rn.cast (a_run_ok (uX3_becomen21) rfl h1) e1.symm e2.symm e3.symm
noncomputable def sX3_becomen25_0 (d : aI) (e : aJ)  : Option (Nat × aL × aI × aJ) := (bif ((decide (¬ (nI 0) < 0 ∧ ¬ (nI 0) < 0 ∧ ¬ (a_min (d 53 4) (d 25 0)) < 0 ∧ 0 + ((a_min (d 53 4) (d 25 0))).toNatClampNeg ≤ 8 ∧ 0 + ((a_min (d 53 4) (d 25 0))).toNatClampNeg ≤ 8))) then (some (26, [some (.ref 25), some (.ref 53), some (.int (a_min (d 53 4) (d 25 0)))], (uA d 26 (va_cpy (d 54) (d 26) 0 0 ((a_min (d 53 4) (d 25 0))).toNatClampNeg)), e)) else none)
theorem tX3_becomen25_0 {Γ : aG × Launch} {d dF : aI} {e eF : aJ}  {r : Option Value} {p : Nat × aL × aI × aJ} (h : sX3_becomen25_0 d e  = some p) (kc : Nat.beq p.1 100000 = false → Rn Γ (0) mX3_become p.1 p.2.1 [] p.2.2.1 p.2.2.2 r dF eF) (kr : p.1 = 100000 → r = a_rt p.2.1 ∧ dF = p.2.2.1 ∧ eF = p.2.2.2) : Rn Γ (0) mX3_become 0 [some (.ref 25), some (.ref 53), none] [] d e r dF eF := by
  unfold sX3_becomen25_0 at h
  obtain ⟨g1, h⟩ := a_cond h
  refine bX3_becomen25_0 (of_decide_eq_true g1) ?_
  cases h
  exact kc rfl

noncomputable def sX3_becomen25_26 (d : aI) (e : aJ) (x2 : Int32) : Option (Nat × aL × aI × aJ) := (bif ((decide (¬ (nI 0) < 0 ∧ ¬ (nI 0) < 0 ∧ ¬ x2 < 0 ∧ 0 + (x2).toNatClampNeg ≤ 8 ∧ 0 + (x2).toNatClampNeg ≤ 8))) then (some (40, [some (.ref 25), some (.ref 53), some (.int x2)], (uA d 27 (va_cpy (d 55) (d 27) 0 0 (x2).toNatClampNeg)), e)) else none)
theorem tX3_becomen25_26 {Γ : aG × Launch} {d dF : aI} {e eF : aJ} {x2 : Int32} {r : Option Value} {p : Nat × aL × aI × aJ} (h : sX3_becomen25_26 d e x2 = some p) (kc : Nat.beq p.1 100000 = false → Rn Γ (0) mX3_become p.1 p.2.1 [] p.2.2.1 p.2.2.2 r dF eF) (kr : p.1 = 100000 → r = a_rt p.2.1 ∧ dF = p.2.2.1 ∧ eF = p.2.2.2) : Rn Γ (0) mX3_become 26 [some (.ref 25), some (.ref 53), some (.int x2)] [] d e r dF eF := by
  unfold sX3_becomen25_26 at h
  obtain ⟨g1, h⟩ := a_cond h
  refine bX3_becomen25_26 (of_decide_eq_true g1) ?_
  cases h
  exact kc rfl

noncomputable def sX3_becomen25_40 (d : aI) (e : aJ) (x2 : Int32) : Option (Nat × aL × aI × aJ) := (bif ((decide (¬ (nI 0) < 0 ∧ ¬ (nI 0) < 0 ∧ ¬ x2 < 0 ∧ 0 + (x2).toNatClampNeg ≤ 8 ∧ 0 + (x2).toNatClampNeg ≤ 8))) then (some (54, [some (.ref 25), some (.ref 53), some (.int x2)], (uA d 28 (va_cpy (d 56) (d 28) 0 0 (x2).toNatClampNeg)), e)) else none)
theorem tX3_becomen25_40 {Γ : aG × Launch} {d dF : aI} {e eF : aJ} {x2 : Int32} {r : Option Value} {p : Nat × aL × aI × aJ} (h : sX3_becomen25_40 d e x2 = some p) (kc : Nat.beq p.1 100000 = false → Rn Γ (0) mX3_become p.1 p.2.1 [] p.2.2.1 p.2.2.2 r dF eF) (kr : p.1 = 100000 → r = a_rt p.2.1 ∧ dF = p.2.2.1 ∧ eF = p.2.2.2) : Rn Γ (0) mX3_become 40 [some (.ref 25), some (.ref 53), some (.int x2)] [] d e r dF eF := by
  unfold sX3_becomen25_40 at h
  obtain ⟨g1, h⟩ := a_cond h
  refine bX3_becomen25_40 (of_decide_eq_true g1) ?_
  cases h
  exact kc rfl

noncomputable def sX3_becomen25_54 (d : aI) (e : aJ) (x2 : Int32) : Option (Nat × aL × aI × aJ) := (some (100000, [], (uI d 25 4 x2), e))
theorem tX3_becomen25_54 {Γ : aG × Launch} {d dF : aI} {e eF : aJ} {x2 : Int32} {r : Option Value} {p : Nat × aL × aI × aJ} (h : sX3_becomen25_54 d e x2 = some p) (kc : Nat.beq p.1 100000 = false → Rn Γ (0) mX3_become p.1 p.2.1 [] p.2.2.1 p.2.2.2 r dF eF) (kr : p.1 = 100000 → r = a_rt p.2.1 ∧ dF = p.2.2.1 ∧ eF = p.2.2.2) : Rn Γ (0) mX3_become 54 [some (.ref 25), some (.ref 53), some (.int x2)] [] d e r dF eF := by
  unfold sX3_becomen25_54 at h
  cases h
  obtain ⟨k1, k2, k3⟩ := kr rfl
  exact bX3_becomen25_54 k1 k2 k3

noncomputable def stX3_becomen25 (p : Nat × aL × aI × aJ) : Option (Nat × aL × aI × aJ) := match p with
  | (0, [some (.ref 25), some (.ref 53), none], d, e) => sX3_becomen25_0 d e 
  | (26, [some (.ref 25), some (.ref 53), some (.int x2)], d, e) => sX3_becomen25_26 d e x2
  | (40, [some (.ref 25), some (.ref 53), some (.int x2)], d, e) => sX3_becomen25_40 d e x2
  | (54, [some (.ref 25), some (.ref 53), some (.int x2)], d, e) => sX3_becomen25_54 d e x2
  | _ => none
theorem uX3_becomen25 {Γ : aG × Launch} {p p2 : Nat × aL × aI × aJ} {r : Option Value} {dF : aI} {eF : aJ} (h : stX3_becomen25 p = some p2) (kc : Nat.beq p2.1 100000 = false → Rn Γ (0) mX3_become p2.1 p2.2.1 [] p2.2.2.1 p2.2.2.2 r dF eF) (kr : p2.1 = 100000 → r = a_rt p2.2.1 ∧ dF = p2.2.2.1 ∧ eF = p2.2.2.2) : Rn Γ (0) mX3_become p.1 p.2.1 [] p.2.2.1 p.2.2.2 r dF eF := by
  unfold stX3_becomen25 at h
  split at h
  · exact tX3_becomen25_0 h kc kr
  · exact tX3_becomen25_26 h kc kr
  · exact tX3_becomen25_40 h kc kr
  · exact tX3_becomen25_54 h kc kr
  · cases h
noncomputable def FX3_becomen25 (d : aI) (e : aJ)  : Option (Unit × aI × aJ) := (a_run (stX3_becomen25) (0, [some (.ref 25), some (.ref 53), none], d, e)).bind a_xV
theorem evX3_becomen25 {Γ : aG × Launch} {d : aI} {e : aJ}  {q : Unit × aI × aJ} (h : FX3_becomen25 d e  = some q) : Ev Γ (0) mX3_become [.ref 25, .ref 53] d e none q.2.1 q.2.2 := by
  refine Ev.of (by decide) rfl (Nat.le_of_ble_eq_true rfl) (fun z => by cases z) ?_
  show Rn Γ (0) mX3_become 0 [some (.ref 25), some (.ref 53), none] [] d e _ _ _
  obtain ⟨q1, h1, h2⟩ := Option.bind_eq_some_iff.mp h
  obtain ⟨e1, e2, e3⟩ := a_xV_rt h2
  exact Rn.cast (a_run_ok (uX3_becomen25) rfl h1) e1.symm e2.symm e3.symm
noncomputable def sX3_becomek13_0 (d : aI) (e : aJ)  : Option (Nat × aL × aI × aJ) := (bif ((decide (¬ (nI 0) < 0 ∧ ¬ (nI 0) < 0 ∧ ¬ (a_min (d 13 4) (d 41 0)) < 0 ∧ 0 + ((a_min (d 13 4) (d 41 0))).toNatClampNeg ≤ 10 ∧ 0 + ((a_min (d 13 4) (d 41 0))).toNatClampNeg ≤ 10))) then (some (26, [some (.ref 41), some (.ref 13), some (.int (a_min (d 13 4) (d 41 0)))], (uA d 42 (va_cpy (d 14) (d 42) 0 0 ((a_min (d 13 4) (d 41 0))).toNatClampNeg)), e)) else none)
theorem tX3_becomek13_0 {Γ : aG × Launch} {d dF : aI} {e eF : aJ}  {r : Option Value} {p : Nat × aL × aI × aJ} (h : sX3_becomek13_0 d e  = some p) (kc : Nat.beq p.1 100000 = false → Rn Γ (0) mX3_become p.1 p.2.1 [] p.2.2.1 p.2.2.2 r dF eF) (kr : p.1 = 100000 → r = a_rt p.2.1 ∧ dF = p.2.2.1 ∧ eF = p.2.2.2) : Rn Γ (0) mX3_become 0 [some (.ref 41), some (.ref 13), none] [] d e r dF eF := by
  unfold sX3_becomek13_0 at h
  obtain ⟨g1, h⟩ := a_cond h
  refine bX3_becomek13_0 (of_decide_eq_true g1) ?_
  cases h
  exact kc rfl

noncomputable def sX3_becomek13_26 (d : aI) (e : aJ) (x2 : Int32) : Option (Nat × aL × aI × aJ) := (bif ((decide (¬ (nI 0) < 0 ∧ ¬ (nI 0) < 0 ∧ ¬ x2 < 0 ∧ 0 + (x2).toNatClampNeg ≤ 10 ∧ 0 + (x2).toNatClampNeg ≤ 10))) then (some (40, [some (.ref 41), some (.ref 13), some (.int x2)], (uA d 43 (va_cpy (d 15) (d 43) 0 0 (x2).toNatClampNeg)), e)) else none)
theorem tX3_becomek13_26 {Γ : aG × Launch} {d dF : aI} {e eF : aJ} {x2 : Int32} {r : Option Value} {p : Nat × aL × aI × aJ} (h : sX3_becomek13_26 d e x2 = some p) (kc : Nat.beq p.1 100000 = false → Rn Γ (0) mX3_become p.1 p.2.1 [] p.2.2.1 p.2.2.2 r dF eF) (kr : p.1 = 100000 → r = a_rt p.2.1 ∧ dF = p.2.2.1 ∧ eF = p.2.2.2) : Rn Γ (0) mX3_become 26 [some (.ref 41), some (.ref 13), some (.int x2)] [] d e r dF eF := by
  unfold sX3_becomek13_26 at h
  obtain ⟨g1, h⟩ := a_cond h
  refine bX3_becomek13_26 (of_decide_eq_true g1) ?_
  cases h
  exact kc rfl

noncomputable def sX3_becomek13_40 (d : aI) (e : aJ) (x2 : Int32) : Option (Nat × aL × aI × aJ) := (bif ((decide (¬ (nI 0) < 0 ∧ ¬ (nI 0) < 0 ∧ ¬ x2 < 0 ∧ 0 + (x2).toNatClampNeg ≤ 10 ∧ 0 + (x2).toNatClampNeg ≤ 10))) then (some (54, [some (.ref 41), some (.ref 13), some (.int x2)], (uA d 44 (va_cpy (d 16) (d 44) 0 0 (x2).toNatClampNeg)), e)) else none)
theorem tX3_becomek13_40 {Γ : aG × Launch} {d dF : aI} {e eF : aJ} {x2 : Int32} {r : Option Value} {p : Nat × aL × aI × aJ} (h : sX3_becomek13_40 d e x2 = some p) (kc : Nat.beq p.1 100000 = false → Rn Γ (0) mX3_become p.1 p.2.1 [] p.2.2.1 p.2.2.2 r dF eF) (kr : p.1 = 100000 → r = a_rt p.2.1 ∧ dF = p.2.2.1 ∧ eF = p.2.2.2) : Rn Γ (0) mX3_become 40 [some (.ref 41), some (.ref 13), some (.int x2)] [] d e r dF eF := by
  unfold sX3_becomek13_40 at h
  obtain ⟨g1, h⟩ := a_cond h
  refine bX3_becomek13_40 (of_decide_eq_true g1) ?_
  cases h
  exact kc rfl

noncomputable def sX3_becomek13_54 (d : aI) (e : aJ) (x2 : Int32) : Option (Nat × aL × aI × aJ) := (some (100000, [], (uI d 41 4 x2), e))
theorem tX3_becomek13_54 {Γ : aG × Launch} {d dF : aI} {e eF : aJ} {x2 : Int32} {r : Option Value} {p : Nat × aL × aI × aJ} (h : sX3_becomek13_54 d e x2 = some p) (kc : Nat.beq p.1 100000 = false → Rn Γ (0) mX3_become p.1 p.2.1 [] p.2.2.1 p.2.2.2 r dF eF) (kr : p.1 = 100000 → r = a_rt p.2.1 ∧ dF = p.2.2.1 ∧ eF = p.2.2.2) : Rn Γ (0) mX3_become 54 [some (.ref 41), some (.ref 13), some (.int x2)] [] d e r dF eF := by
  unfold sX3_becomek13_54 at h
  cases h
  obtain ⟨k1, k2, k3⟩ := kr rfl
  exact bX3_becomek13_54 k1 k2 k3

noncomputable def stX3_becomek13 (p : Nat × aL × aI × aJ) : Option (Nat × aL × aI × aJ) := match p with
  | (0, [some (.ref 41), some (.ref 13), none], d, e) => sX3_becomek13_0 d e 
  | (26, [some (.ref 41), some (.ref 13), some (.int x2)], d, e) => sX3_becomek13_26 d e x2
  | (40, [some (.ref 41), some (.ref 13), some (.int x2)], d, e) => sX3_becomek13_40 d e x2
  | (54, [some (.ref 41), some (.ref 13), some (.int x2)], d, e) => sX3_becomek13_54 d e x2
  | _ => none
theorem uX3_becomek13 {Γ : aG × Launch} {p p2 : Nat × aL × aI × aJ} {r : Option Value} {dF : aI} {eF : aJ} (h : stX3_becomek13 p = some p2) (kc : Nat.beq p2.1 100000 = false → Rn Γ (0) mX3_become p2.1 p2.2.1 [] p2.2.2.1 p2.2.2.2 r dF eF) (kr : p2.1 = 100000 → r = a_rt p2.2.1 ∧ dF = p2.2.2.1 ∧ eF = p2.2.2.2) : Rn Γ (0) mX3_become p.1 p.2.1 [] p.2.2.1 p.2.2.2 r dF eF := by
  unfold stX3_becomek13 at h
  split at h
  · exact tX3_becomek13_0 h kc kr
  · exact tX3_becomek13_26 h kc kr
  · exact tX3_becomek13_40 h kc kr
  · exact tX3_becomek13_54 h kc kr
  · cases h
noncomputable def FX3_becomek13 (d : aI) (e : aJ)  : Option (Unit × aI × aJ) := (a_run (stX3_becomek13) (0, [some (.ref 41), some (.ref 13), none], d, e)).bind a_xV
theorem evX3_becomek13 {Γ : aG × Launch} {d : aI} {e : aJ}  {q : Unit × aI × aJ} (h : FX3_becomek13 d e  = some q) : Ev Γ (0) mX3_become [.ref 41, .ref 13] d e none q.2.1 q.2.2 := by
  refine Ev.of (by decide) rfl (Nat.le_of_ble_eq_true rfl) (fun z => by cases z) ?_
  show Rn Γ (0) mX3_become 0 [some (.ref 41), some (.ref 13), none] [] d e _ _ _
  obtain ⟨q1, h1, h2⟩ := Option.bind_eq_some_iff.mp h
  obtain ⟨e1, e2, e3⟩ := a_xV_rt h2
  exact Rn.cast (a_run_ok (uX3_becomek13) rfl h1) e1.symm e2.symm e3.symm
noncomputable def sX3_becomek17_0 (d : aI) (e : aJ)  : Option (Nat × aL × aI × aJ) := (bif ((decide (¬ (nI 0) < 0 ∧ ¬ (nI 0) < 0 ∧ ¬ (a_min (d 17 4) (d 45 0)) < 0 ∧ 0 + ((a_min (d 17 4) (d 45 0))).toNatClampNeg ≤ 8 ∧ 0 + ((a_min (d 17 4) (d 45 0))).toNatClampNeg ≤ 8))) then (some (26, [some (.ref 45), some (.ref 17), some (.int (a_min (d 17 4) (d 45 0)))], (uA d 46 (va_cpy (d 18) (d 46) 0 0 ((a_min (d 17 4) (d 45 0))).toNatClampNeg)), e)) else none)
theorem tX3_becomek17_0 {Γ : aG × Launch} {d dF : aI} {e eF : aJ}  {r : Option Value} {p : Nat × aL × aI × aJ} (h : sX3_becomek17_0 d e  = some p) (kc : Nat.beq p.1 100000 = false → Rn Γ (0) mX3_become p.1 p.2.1 [] p.2.2.1 p.2.2.2 r dF eF) (kr : p.1 = 100000 → r = a_rt p.2.1 ∧ dF = p.2.2.1 ∧ eF = p.2.2.2) : Rn Γ (0) mX3_become 0 [some (.ref 45), some (.ref 17), none] [] d e r dF eF := by
  unfold sX3_becomek17_0 at h
  obtain ⟨g1, h⟩ := a_cond h
  refine bX3_becomek17_0 (of_decide_eq_true g1) ?_
  cases h
  exact kc rfl

noncomputable def sX3_becomek17_26 (d : aI) (e : aJ) (x2 : Int32) : Option (Nat × aL × aI × aJ) := (bif ((decide (¬ (nI 0) < 0 ∧ ¬ (nI 0) < 0 ∧ ¬ x2 < 0 ∧ 0 + (x2).toNatClampNeg ≤ 8 ∧ 0 + (x2).toNatClampNeg ≤ 8))) then (some (40, [some (.ref 45), some (.ref 17), some (.int x2)], (uA d 47 (va_cpy (d 19) (d 47) 0 0 (x2).toNatClampNeg)), e)) else none)
theorem tX3_becomek17_26 {Γ : aG × Launch} {d dF : aI} {e eF : aJ} {x2 : Int32} {r : Option Value} {p : Nat × aL × aI × aJ} (h : sX3_becomek17_26 d e x2 = some p) (kc : Nat.beq p.1 100000 = false → Rn Γ (0) mX3_become p.1 p.2.1 [] p.2.2.1 p.2.2.2 r dF eF) (kr : p.1 = 100000 → r = a_rt p.2.1 ∧ dF = p.2.2.1 ∧ eF = p.2.2.2) : Rn Γ (0) mX3_become 26 [some (.ref 45), some (.ref 17), some (.int x2)] [] d e r dF eF := by
  unfold sX3_becomek17_26 at h
  obtain ⟨g1, h⟩ := a_cond h
  refine bX3_becomek17_26 (of_decide_eq_true g1) ?_
  cases h
  exact kc rfl

noncomputable def sX3_becomek17_40 (d : aI) (e : aJ) (x2 : Int32) : Option (Nat × aL × aI × aJ) := (bif ((decide (¬ (nI 0) < 0 ∧ ¬ (nI 0) < 0 ∧ ¬ x2 < 0 ∧ 0 + (x2).toNatClampNeg ≤ 8 ∧ 0 + (x2).toNatClampNeg ≤ 8))) then (some (54, [some (.ref 45), some (.ref 17), some (.int x2)], (uA d 48 (va_cpy (d 20) (d 48) 0 0 (x2).toNatClampNeg)), e)) else none)
theorem tX3_becomek17_40 {Γ : aG × Launch} {d dF : aI} {e eF : aJ} {x2 : Int32} {r : Option Value} {p : Nat × aL × aI × aJ} (h : sX3_becomek17_40 d e x2 = some p) (kc : Nat.beq p.1 100000 = false → Rn Γ (0) mX3_become p.1 p.2.1 [] p.2.2.1 p.2.2.2 r dF eF) (kr : p.1 = 100000 → r = a_rt p.2.1 ∧ dF = p.2.2.1 ∧ eF = p.2.2.2) : Rn Γ (0) mX3_become 40 [some (.ref 45), some (.ref 17), some (.int x2)] [] d e r dF eF := by
  unfold sX3_becomek17_40 at h
  obtain ⟨g1, h⟩ := a_cond h
  refine bX3_becomek17_40 (of_decide_eq_true g1) ?_
  cases h
  exact kc rfl

noncomputable def sX3_becomek17_54 (d : aI) (e : aJ) (x2 : Int32) : Option (Nat × aL × aI × aJ) := (some (100000, [], (uI d 45 4 x2), e))
theorem tX3_becomek17_54 {Γ : aG × Launch} {d dF : aI} {e eF : aJ} {x2 : Int32} {r : Option Value} {p : Nat × aL × aI × aJ} (h : sX3_becomek17_54 d e x2 = some p) (kc : Nat.beq p.1 100000 = false → Rn Γ (0) mX3_become p.1 p.2.1 [] p.2.2.1 p.2.2.2 r dF eF) (kr : p.1 = 100000 → r = a_rt p.2.1 ∧ dF = p.2.2.1 ∧ eF = p.2.2.2) : Rn Γ (0) mX3_become 54 [some (.ref 45), some (.ref 17), some (.int x2)] [] d e r dF eF := by
  unfold sX3_becomek17_54 at h
  cases h
  obtain ⟨k1, k2, k3⟩ := kr rfl
  exact bX3_becomek17_54 k1 k2 k3

noncomputable def stX3_becomek17 (p : Nat × aL × aI × aJ) : Option (Nat × aL × aI × aJ) := match p with
  | (0, [some (.ref 45), some (.ref 17), none], d, e) => sX3_becomek17_0 d e 
  | (26, [some (.ref 45), some (.ref 17), some (.int x2)], d, e) => sX3_becomek17_26 d e x2
  | (40, [some (.ref 45), some (.ref 17), some (.int x2)], d, e) => sX3_becomek17_40 d e x2
  | (54, [some (.ref 45), some (.ref 17), some (.int x2)], d, e) => sX3_becomek17_54 d e x2
  | _ => none
theorem uX3_becomek17 {Γ : aG × Launch} {p p2 : Nat × aL × aI × aJ} {r : Option Value} {dF : aI} {eF : aJ} (h : stX3_becomek17 p = some p2) (kc : Nat.beq p2.1 100000 = false → Rn Γ (0) mX3_become p2.1 p2.2.1 [] p2.2.2.1 p2.2.2.2 r dF eF) (kr : p2.1 = 100000 → r = a_rt p2.2.1 ∧ dF = p2.2.2.1 ∧ eF = p2.2.2.2) : Rn Γ (0) mX3_become p.1 p.2.1 [] p.2.2.1 p.2.2.2 r dF eF := by
  unfold stX3_becomek17 at h
  split at h
  · exact tX3_becomek17_0 h kc kr
  · exact tX3_becomek17_26 h kc kr
  · exact tX3_becomek17_40 h kc kr
  · exact tX3_becomek17_54 h kc kr
  · cases h
noncomputable def FX3_becomek17 (d : aI) (e : aJ)  : Option (Unit × aI × aJ) := (a_run (stX3_becomek17) (0, [some (.ref 45), some (.ref 17), none], d, e)).bind a_xV
theorem evX3_becomek17 {Γ : aG × Launch} {d : aI} {e : aJ}  {q : Unit × aI × aJ} (h : FX3_becomek17 d e  = some q) : Ev Γ (0) mX3_become [.ref 45, .ref 17] d e none q.2.1 q.2.2 := by
  refine Ev.of (by decide) rfl (Nat.le_of_ble_eq_true rfl) (fun z => by cases z) ?_
  show Rn Γ (0) mX3_become 0 [some (.ref 45), some (.ref 17), none] [] d e _ _ _
  obtain ⟨q1, h1, h2⟩ := Option.bind_eq_some_iff.mp h
  obtain ⟨e1, e2, e3⟩ := a_xV_rt h2
  exact Rn.cast (a_run_ok (uX3_becomek17) rfl h1) e1.symm e2.symm e3.symm
noncomputable def sX3_becomek21_0 (d : aI) (e : aJ)  : Option (Nat × aL × aI × aJ) := (bif ((decide (¬ (nI 0) < 0 ∧ ¬ (nI 0) < 0 ∧ ¬ (a_min (d 21 4) (d 49 0)) < 0 ∧ 0 + ((a_min (d 21 4) (d 49 0))).toNatClampNeg ≤ 5 ∧ 0 + ((a_min (d 21 4) (d 49 0))).toNatClampNeg ≤ 5))) then (some (26, [some (.ref 49), some (.ref 21), some (.int (a_min (d 21 4) (d 49 0)))], (uA d 50 (va_cpy (d 22) (d 50) 0 0 ((a_min (d 21 4) (d 49 0))).toNatClampNeg)), e)) else none)
theorem tX3_becomek21_0 {Γ : aG × Launch} {d dF : aI} {e eF : aJ}  {r : Option Value} {p : Nat × aL × aI × aJ} (h : sX3_becomek21_0 d e  = some p) (kc : Nat.beq p.1 100000 = false → Rn Γ (0) mX3_become p.1 p.2.1 [] p.2.2.1 p.2.2.2 r dF eF) (kr : p.1 = 100000 → r = a_rt p.2.1 ∧ dF = p.2.2.1 ∧ eF = p.2.2.2) : Rn Γ (0) mX3_become 0 [some (.ref 49), some (.ref 21), none] [] d e r dF eF := by
  unfold sX3_becomek21_0 at h
  obtain ⟨g1, h⟩ := a_cond h
  refine bX3_becomek21_0 (of_decide_eq_true g1) ?_
  cases h
  exact kc rfl

noncomputable def sX3_becomek21_26 (d : aI) (e : aJ) (x2 : Int32) : Option (Nat × aL × aI × aJ) := (bif ((decide (¬ (nI 0) < 0 ∧ ¬ (nI 0) < 0 ∧ ¬ x2 < 0 ∧ 0 + (x2).toNatClampNeg ≤ 5 ∧ 0 + (x2).toNatClampNeg ≤ 5))) then (some (40, [some (.ref 49), some (.ref 21), some (.int x2)], (uA d 51 (va_cpy (d 23) (d 51) 0 0 (x2).toNatClampNeg)), e)) else none)
theorem tX3_becomek21_26 {Γ : aG × Launch} {d dF : aI} {e eF : aJ} {x2 : Int32} {r : Option Value} {p : Nat × aL × aI × aJ} (h : sX3_becomek21_26 d e x2 = some p) (kc : Nat.beq p.1 100000 = false → Rn Γ (0) mX3_become p.1 p.2.1 [] p.2.2.1 p.2.2.2 r dF eF) (kr : p.1 = 100000 → r = a_rt p.2.1 ∧ dF = p.2.2.1 ∧ eF = p.2.2.2) : Rn Γ (0) mX3_become 26 [some (.ref 49), some (.ref 21), some (.int x2)] [] d e r dF eF := by
  unfold sX3_becomek21_26 at h
  obtain ⟨g1, h⟩ := a_cond h
  refine bX3_becomek21_26 (of_decide_eq_true g1) ?_
  cases h
  exact kc rfl

noncomputable def sX3_becomek21_40 (d : aI) (e : aJ) (x2 : Int32) : Option (Nat × aL × aI × aJ) := (bif ((decide (¬ (nI 0) < 0 ∧ ¬ (nI 0) < 0 ∧ ¬ x2 < 0 ∧ 0 + (x2).toNatClampNeg ≤ 5 ∧ 0 + (x2).toNatClampNeg ≤ 5))) then (some (54, [some (.ref 49), some (.ref 21), some (.int x2)], (uA d 52 (va_cpy (d 24) (d 52) 0 0 (x2).toNatClampNeg)), e)) else none)
theorem tX3_becomek21_40 {Γ : aG × Launch} {d dF : aI} {e eF : aJ} {x2 : Int32} {r : Option Value} {p : Nat × aL × aI × aJ} (h : sX3_becomek21_40 d e x2 = some p) (kc : Nat.beq p.1 100000 = false → Rn Γ (0) mX3_become p.1 p.2.1 [] p.2.2.1 p.2.2.2 r dF eF) (kr : p.1 = 100000 → r = a_rt p.2.1 ∧ dF = p.2.2.1 ∧ eF = p.2.2.2) : Rn Γ (0) mX3_become 40 [some (.ref 49), some (.ref 21), some (.int x2)] [] d e r dF eF := by
  unfold sX3_becomek21_40 at h
  obtain ⟨g1, h⟩ := a_cond h
  refine bX3_becomek21_40 (of_decide_eq_true g1) ?_
  cases h
  exact kc rfl

noncomputable def sX3_becomek21_54 (d : aI) (e : aJ) (x2 : Int32) : Option (Nat × aL × aI × aJ) := (some (100000, [], (uI d 49 4 x2), e))
theorem tX3_becomek21_54 {Γ : aG × Launch} {d dF : aI} {e eF : aJ} {x2 : Int32} {r : Option Value} {p : Nat × aL × aI × aJ} (h : sX3_becomek21_54 d e x2 = some p) (kc : Nat.beq p.1 100000 = false → Rn Γ (0) mX3_become p.1 p.2.1 [] p.2.2.1 p.2.2.2 r dF eF) (kr : p.1 = 100000 → r = a_rt p.2.1 ∧ dF = p.2.2.1 ∧ eF = p.2.2.2) : Rn Γ (0) mX3_become 54 [some (.ref 49), some (.ref 21), some (.int x2)] [] d e r dF eF := by
  unfold sX3_becomek21_54 at h
  cases h
  obtain ⟨k1, k2, k3⟩ := kr rfl
  exact bX3_becomek21_54 k1 k2 k3

noncomputable def stX3_becomek21 (p : Nat × aL × aI × aJ) : Option (Nat × aL × aI × aJ) := match p with
  | (0, [some (.ref 49), some (.ref 21), none], d, e) => sX3_becomek21_0 d e 
  | (26, [some (.ref 49), some (.ref 21), some (.int x2)], d, e) => sX3_becomek21_26 d e x2
  | (40, [some (.ref 49), some (.ref 21), some (.int x2)], d, e) => sX3_becomek21_40 d e x2
  | (54, [some (.ref 49), some (.ref 21), some (.int x2)], d, e) => sX3_becomek21_54 d e x2
  | _ => none
theorem uX3_becomek21 {Γ : aG × Launch} {p p2 : Nat × aL × aI × aJ} {r : Option Value} {dF : aI} {eF : aJ} (h : stX3_becomek21 p = some p2) (kc : Nat.beq p2.1 100000 = false → Rn Γ (0) mX3_become p2.1 p2.2.1 [] p2.2.2.1 p2.2.2.2 r dF eF) (kr : p2.1 = 100000 → r = a_rt p2.2.1 ∧ dF = p2.2.2.1 ∧ eF = p2.2.2.2) : Rn Γ (0) mX3_become p.1 p.2.1 [] p.2.2.1 p.2.2.2 r dF eF := by
  unfold stX3_becomek21 at h
  split at h
  · exact tX3_becomek21_0 h kc kr
  · exact tX3_becomek21_26 h kc kr
  · exact tX3_becomek21_40 h kc kr
  · exact tX3_becomek21_54 h kc kr
  · cases h
noncomputable def FX3_becomek21 (d : aI) (e : aJ)  : Option (Unit × aI × aJ) := (a_run (stX3_becomek21) (0, [some (.ref 49), some (.ref 21), none], d, e)).bind a_xV
theorem evX3_becomek21 {Γ : aG × Launch} {d : aI} {e : aJ}  {q : Unit × aI × aJ} (h : FX3_becomek21 d e  = some q) : Ev Γ (0) mX3_become [.ref 49, .ref 21] d e none q.2.1 q.2.2 := by
  refine Ev.of (by decide) rfl (Nat.le_of_ble_eq_true rfl) (fun z => by cases z) ?_
  show Rn Γ (0) mX3_become 0 [some (.ref 49), some (.ref 21), none] [] d e _ _ _
  obtain ⟨q1, h1, h2⟩ := Option.bind_eq_some_iff.mp h
  obtain ⟨e1, e2, e3⟩ := a_xV_rt h2
  exact Rn.cast (a_run_ok (uX3_becomek21) rfl h1) e1.symm e2.symm e3.symm
noncomputable def sX3_becomek25_0 (d : aI) (e : aJ)  : Option (Nat × aL × aI × aJ) := (bif ((decide (¬ (nI 0) < 0 ∧ ¬ (nI 0) < 0 ∧ ¬ (a_min (d 25 4) (d 53 0)) < 0 ∧ 0 + ((a_min (d 25 4) (d 53 0))).toNatClampNeg ≤ 8 ∧ 0 + ((a_min (d 25 4) (d 53 0))).toNatClampNeg ≤ 8))) then (some (26, [some (.ref 53), some (.ref 25), some (.int (a_min (d 25 4) (d 53 0)))], (uA d 54 (va_cpy (d 26) (d 54) 0 0 ((a_min (d 25 4) (d 53 0))).toNatClampNeg)), e)) else none)
theorem tX3_becomek25_0 {Γ : aG × Launch} {d dF : aI} {e eF : aJ}  {r : Option Value} {p : Nat × aL × aI × aJ} (h : sX3_becomek25_0 d e  = some p) (kc : Nat.beq p.1 100000 = false → Rn Γ (0) mX3_become p.1 p.2.1 [] p.2.2.1 p.2.2.2 r dF eF) (kr : p.1 = 100000 → r = a_rt p.2.1 ∧ dF = p.2.2.1 ∧ eF = p.2.2.2) : Rn Γ (0) mX3_become 0 [some (.ref 53), some (.ref 25), none] [] d e r dF eF := by
  unfold sX3_becomek25_0 at h
  obtain ⟨g1, h⟩ := a_cond h
  refine bX3_becomek25_0 (of_decide_eq_true g1) ?_
  cases h
  exact kc rfl

noncomputable def sX3_becomek25_26 (d : aI) (e : aJ) (x2 : Int32) : Option (Nat × aL × aI × aJ) := (bif ((decide (¬ (nI 0) < 0 ∧ ¬ (nI 0) < 0 ∧ ¬ x2 < 0 ∧ 0 + (x2).toNatClampNeg ≤ 8 ∧ 0 + (x2).toNatClampNeg ≤ 8))) then (some (40, [some (.ref 53), some (.ref 25), some (.int x2)], (uA d 55 (va_cpy (d 27) (d 55) 0 0 (x2).toNatClampNeg)), e)) else none)
theorem tX3_becomek25_26 {Γ : aG × Launch} {d dF : aI} {e eF : aJ} {x2 : Int32} {r : Option Value} {p : Nat × aL × aI × aJ} (h : sX3_becomek25_26 d e x2 = some p) (kc : Nat.beq p.1 100000 = false → Rn Γ (0) mX3_become p.1 p.2.1 [] p.2.2.1 p.2.2.2 r dF eF) (kr : p.1 = 100000 → r = a_rt p.2.1 ∧ dF = p.2.2.1 ∧ eF = p.2.2.2) : Rn Γ (0) mX3_become 26 [some (.ref 53), some (.ref 25), some (.int x2)] [] d e r dF eF := by
  unfold sX3_becomek25_26 at h
  obtain ⟨g1, h⟩ := a_cond h
  refine bX3_becomek25_26 (of_decide_eq_true g1) ?_
  cases h
  exact kc rfl

noncomputable def sX3_becomek25_40 (d : aI) (e : aJ) (x2 : Int32) : Option (Nat × aL × aI × aJ) := (bif ((decide (¬ (nI 0) < 0 ∧ ¬ (nI 0) < 0 ∧ ¬ x2 < 0 ∧ 0 + (x2).toNatClampNeg ≤ 8 ∧ 0 + (x2).toNatClampNeg ≤ 8))) then (some (54, [some (.ref 53), some (.ref 25), some (.int x2)], (uA d 56 (va_cpy (d 28) (d 56) 0 0 (x2).toNatClampNeg)), e)) else none)
theorem tX3_becomek25_40 {Γ : aG × Launch} {d dF : aI} {e eF : aJ} {x2 : Int32} {r : Option Value} {p : Nat × aL × aI × aJ} (h : sX3_becomek25_40 d e x2 = some p) (kc : Nat.beq p.1 100000 = false → Rn Γ (0) mX3_become p.1 p.2.1 [] p.2.2.1 p.2.2.2 r dF eF) (kr : p.1 = 100000 → r = a_rt p.2.1 ∧ dF = p.2.2.1 ∧ eF = p.2.2.2) : Rn Γ (0) mX3_become 40 [some (.ref 53), some (.ref 25), some (.int x2)] [] d e r dF eF := by
  unfold sX3_becomek25_40 at h
  obtain ⟨g1, h⟩ := a_cond h
  refine bX3_becomek25_40 (of_decide_eq_true g1) ?_
  cases h
  exact kc rfl

noncomputable def sX3_becomek25_54 (d : aI) (e : aJ) (x2 : Int32) : Option (Nat × aL × aI × aJ) := (some (100000, [], (uI d 53 4 x2), e))
theorem tX3_becomek25_54 {Γ : aG × Launch} {d dF : aI} {e eF : aJ} {x2 : Int32} {r : Option Value} {p : Nat × aL × aI × aJ} (h : sX3_becomek25_54 d e x2 = some p) (kc : Nat.beq p.1 100000 = false → Rn Γ (0) mX3_become p.1 p.2.1 [] p.2.2.1 p.2.2.2 r dF eF) (kr : p.1 = 100000 → r = a_rt p.2.1 ∧ dF = p.2.2.1 ∧ eF = p.2.2.2) : Rn Γ (0) mX3_become 54 [some (.ref 53), some (.ref 25), some (.int x2)] [] d e r dF eF := by
  unfold sX3_becomek25_54 at h
  cases h
  obtain ⟨k1, k2, k3⟩ := kr rfl
  exact bX3_becomek25_54 k1 k2 k3

noncomputable def stX3_becomek25 (p : Nat × aL × aI × aJ) : Option (Nat × aL × aI × aJ) := match p with
  | (0, [some (.ref 53), some (.ref 25), none], d, e) => sX3_becomek25_0 d e 
  | (26, [some (.ref 53), some (.ref 25), some (.int x2)], d, e) => sX3_becomek25_26 d e x2
  | (40, [some (.ref 53), some (.ref 25), some (.int x2)], d, e) => sX3_becomek25_40 d e x2
  | (54, [some (.ref 53), some (.ref 25), some (.int x2)], d, e) => sX3_becomek25_54 d e x2
  | _ => none
theorem uX3_becomek25 {Γ : aG × Launch} {p p2 : Nat × aL × aI × aJ} {r : Option Value} {dF : aI} {eF : aJ} (h : stX3_becomek25 p = some p2) (kc : Nat.beq p2.1 100000 = false → Rn Γ (0) mX3_become p2.1 p2.2.1 [] p2.2.2.1 p2.2.2.2 r dF eF) (kr : p2.1 = 100000 → r = a_rt p2.2.1 ∧ dF = p2.2.2.1 ∧ eF = p2.2.2.2) : Rn Γ (0) mX3_become p.1 p.2.1 [] p.2.2.1 p.2.2.2 r dF eF := by
  unfold stX3_becomek25 at h
  split at h
  · exact tX3_becomek25_0 h kc kr
  · exact tX3_becomek25_26 h kc kr
  · exact tX3_becomek25_40 h kc kr
  · exact tX3_becomek25_54 h kc kr
  · cases h
noncomputable def FX3_becomek25 (d : aI) (e : aJ)  : Option (Unit × aI × aJ) := (a_run (stX3_becomek25) (0, [some (.ref 53), some (.ref 25), none], d, e)).bind a_xV
theorem evX3_becomek25 {Γ : aG × Launch} {d : aI} {e : aJ}  {q : Unit × aI × aJ} (h : FX3_becomek25 d e  = some q) : Ev Γ (0) mX3_become [.ref 53, .ref 25] d e none q.2.1 q.2.2 := by
  refine Ev.of (by decide) rfl (Nat.le_of_ble_eq_true rfl) (fun z => by cases z) ?_
  show Rn Γ (0) mX3_become 0 [some (.ref 53), some (.ref 25), none] [] d e _ _ _
  obtain ⟨q1, h1, h2⟩ := Option.bind_eq_some_iff.mp h
  obtain ⟨e1, e2, e3⟩ := a_xV_rt h2
  exact Rn.cast (a_run_ok (uX3_becomek25) rfl h1) e1.symm e2.symm e3.symm
noncomputable def sX4_gather_0 (d : aI) (e : aJ)  : Option (Nat × aL × aI × aJ) := (some (12, [some (.ref 95), some (.ref 2), some (.int (nI 0))], (uI (uI d 95 3 (nI 0)) 95 4 (nI 0)), e))
theorem tX4_gather_0 {Γ : aG × Launch} {d dF : aI} {e eF : aJ}  {r : Option Value} {p : Nat × aL × aI × aJ} (h : sX4_gather_0 d e  = some p) (kc : Nat.beq p.1 100000 = false → Rn Γ (2) mX4_gather p.1 p.2.1 [] p.2.2.1 p.2.2.2 r dF eF) (kr : p.1 = 100000 → r = a_rt p.2.1 ∧ dF = p.2.2.1 ∧ eF = p.2.2.2) : Rn Γ (2) mX4_gather 0 [some (.ref 95), some (.ref 2), none] [] d e r dF eF := by
  unfold sX4_gather_0 at h
  refine bX4_gather_0 ?_
  cases h
  exact kc rfl

noncomputable def sX4_gather_12 (d : aI) (e : aJ) (x2 : Int32) : Option (Nat × aL × aI × aJ) := (if (d 2 9) ≤ x2 then (some (58, [some (.ref 95), some (.ref 2), some (.int (nI 0))], d, e)) else (bif ((a_inb x2 6)) then (if (d 8 (x2).toNatClampNeg) = (-(nI 1)) then (bif ((a_inb (d 95 3) 6)) then (some (12, [some (.ref 95), some (.ref 2), some (.int (x2 + (nI 1)))], (uI (uI d 97 ((d 95 3)).toNatClampNeg x2) 95 3 ((d 95 3) + (nI 1))), e)) else none) else (some (12, [some (.ref 95), some (.ref 2), some (.int (x2 + (nI 1)))], d, e))) else none))
theorem tX4_gather_12 {Γ : aG × Launch} {d dF : aI} {e eF : aJ} {x2 : Int32} {r : Option Value} {p : Nat × aL × aI × aJ} (h : sX4_gather_12 d e x2 = some p) (kc : Nat.beq p.1 100000 = false → Rn Γ (2) mX4_gather p.1 p.2.1 [] p.2.2.1 p.2.2.2 r dF eF) (kr : p.1 = 100000 → r = a_rt p.2.1 ∧ dF = p.2.2.1 ∧ eF = p.2.2.2) : Rn Γ (2) mX4_gather 12 [some (.ref 95), some (.ref 2), some (.int x2)] [] d e r dF eF := by
  unfold sX4_gather_12 at h
  refine a_ite h (fun c1 h => ?_) (fun c1 h => ?_)
  · refine bX4_gather_12 (fun _ => ?_) (fun z => absurd c1 z)
    refine bX4_gather_56 ?_
    cases h
    exact kc rfl
  · refine bX4_gather_12 (fun z => absurd z c1) (fun _ => ?_)
    obtain ⟨g2, h⟩ := a_cond h
    refine a_ite h (fun c3 h => ?_) (fun c3 h => ?_)
    · refine bX4_gather_20 (a_inb_vp g2) (fun z => absurd c3 z) (fun _ => ?_)
      obtain ⟨g4, h⟩ := a_cond h
      refine bX4_gather_30 (a_inb_vp g4) ?_
      refine bX4_gather_50 ?_
      cases h
      exact kc rfl
    · refine bX4_gather_20 (a_inb_vp g2) (fun _ => ?_) (fun z => absurd z c3)
      refine bX4_gather_50 ?_
      cases h
      exact kc rfl

noncomputable def sX4_gather_58 (d : aI) (e : aJ) (x2 : Int32) : Option (Nat × aL × aI × aJ) := (if (d 2 8) ≤ x2 then (some (100000, [], d, e)) else ((FX2_guest d e x2).bind fun q2 => (if q2.1 = (-(nI 1)) then (bif ((a_inb (q2.2.1 95 4) 6)) then (some (58, [some (.ref 95), some (.ref 2), some (.int (x2 + (nI 1)))], (uI (uI q2.2.1 98 ((q2.2.1 95 4)).toNatClampNeg x2) 95 4 ((q2.2.1 95 4) + (nI 1))), q2.2.2)) else none) else (some (58, [some (.ref 95), some (.ref 2), some (.int (x2 + (nI 1)))], q2.2.1, q2.2.2)))))
theorem tX4_gather_58 {Γ : aG × Launch} {d dF : aI} {e eF : aJ} {x2 : Int32} {r : Option Value} {p : Nat × aL × aI × aJ} (h : sX4_gather_58 d e x2 = some p) (kc : Nat.beq p.1 100000 = false → Rn Γ (2) mX4_gather p.1 p.2.1 [] p.2.2.1 p.2.2.2 r dF eF) (kr : p.1 = 100000 → r = a_rt p.2.1 ∧ dF = p.2.2.1 ∧ eF = p.2.2.2) : Rn Γ (2) mX4_gather 58 [some (.ref 95), some (.ref 2), some (.int x2)] [] d e r dF eF := by
  unfold sX4_gather_58 at h
  refine a_ite h (fun c1 h => ?_) (fun c1 h => ?_)
  · refine bX4_gather_58 (fun _ => ?_) (fun z => absurd c1 z)
    cases h
    obtain ⟨k1, k2, k3⟩ := kr rfl
    exact bX4_gather_101 k1 k2 k3
  · refine bX4_gather_58 (fun z => absurd z c1) (fun _ => ?_)
    obtain ⟨q2, hq2, h⟩ := Option.bind_eq_some_iff.mp h
    refine bX4_gather_66 (evX2_guest hq2) (by omega) ?_
    refine a_ite h (fun c3 h => ?_) (fun c3 h => ?_)
    · refine bX4_gather_71 (fun z => absurd c3 z) (fun _ => ?_)
      obtain ⟨g4, h⟩ := a_cond h
      refine bX4_gather_75 (a_inb_vp g4) ?_
      refine bX4_gather_95 ?_
      cases h
      exact kc rfl
    · refine bX4_gather_71 (fun _ => ?_) (fun z => absurd z c3)
      refine bX4_gather_95 ?_
      cases h
      exact kc rfl

noncomputable def stX4_gather (p : Nat × aL × aI × aJ) : Option (Nat × aL × aI × aJ) := match p with
  | (0, [some (.ref 95), some (.ref 2), none], d, e) => sX4_gather_0 d e 
  | (12, [some (.ref 95), some (.ref 2), some (.int x2)], d, e) => sX4_gather_12 d e x2
  | (58, [some (.ref 95), some (.ref 2), some (.int x2)], d, e) => sX4_gather_58 d e x2
  | _ => none
theorem uX4_gather {Γ : aG × Launch} {p p2 : Nat × aL × aI × aJ} {r : Option Value} {dF : aI} {eF : aJ} (h : stX4_gather p = some p2) (kc : Nat.beq p2.1 100000 = false → Rn Γ (2) mX4_gather p2.1 p2.2.1 [] p2.2.2.1 p2.2.2.2 r dF eF) (kr : p2.1 = 100000 → r = a_rt p2.2.1 ∧ dF = p2.2.2.1 ∧ eF = p2.2.2.2) : Rn Γ (2) mX4_gather p.1 p.2.1 [] p.2.2.1 p.2.2.2 r dF eF := by
  unfold stX4_gather at h
  split at h
  · exact tX4_gather_0 h kc kr
  · exact tX4_gather_12 h kc kr
  · exact tX4_gather_58 h kc kr
  · cases h
noncomputable def FX4_gather (d : aI) (e : aJ)  : Option (Unit × aI × aJ) := (a_run (stX4_gather) (0, [some (.ref 95), some (.ref 2), none], d, e)).bind a_xV
theorem evX4_gather {Γ : aG × Launch} {d : aI} {e : aJ}  {q : Unit × aI × aJ} (h : FX4_gather d e  = some q) : Ev Γ (2) mX4_gather [.ref 95, .ref 2] d e none q.2.1 q.2.2 := by
  refine Ev.of (by decide) rfl (Nat.le_of_ble_eq_true rfl) (fun z => by cases z) ?_
  show Rn Γ (2) mX4_gather 0 [some (.ref 95), some (.ref 2), none] [] d e _ _ _
  obtain ⟨q1, h1, h2⟩ := Option.bind_eq_some_iff.mp h
  obtain ⟨e1, e2, e3⟩ := a_xV_rt h2
  exact Rn.cast (a_run_ok (uX4_gather) rfl h1) e1.symm e2.symm e3.symm
noncomputable def FX4_cell (d : aI) (e : aJ) (x0 : Int32) (x1 : Int32) : Option (Int32 × aI × aJ) := (some (((a_shl x0 (nI 6)) + x1), d, e))
theorem evX4_cell {Γ : aG × Launch} {d : aI} {e : aJ} {x0 : Int32} {x1 : Int32} {q : Int32 × aI × aJ} (h : FX4_cell d e x0 x1 = some q) : Ev Γ (0) mX4_cell [.int x0, .int x1] d e (some (.int q.1)) q.2.1 q.2.2 := by
  refine Ev.of (by decide) rfl (Nat.le_of_ble_eq_true rfl) (fun z => by cases z) ?_
  show Rn Γ (0) mX4_cell 0 [some (.int x0), some (.int x1)] [] d e _ _ _
  unfold FX4_cell at h
  cases h
  exact bX4_cell_0

noncomputable def FX4_leastSteps (d : aI) (e : aJ)  : Option (Int32 × aI × aJ) := ((FX4_cell d e (nI 0) (nI 0)).bind fun q1 => (bif ((a_inb q1.1 448)) then (some ((q1.2.1 96 (q1.1).toNatClampNeg), q1.2.1, q1.2.2)) else none))
theorem evX4_leastSteps {Γ : aG × Launch} {d : aI} {e : aJ}  {q : Int32 × aI × aJ} (h : FX4_leastSteps d e  = some q) : Ev Γ (1) mX4_leastSteps [.ref 95] d e (some (.int q.1)) q.2.1 q.2.2 := by
  refine Ev.of (by decide) rfl (Nat.le_of_ble_eq_true rfl) (fun z => by cases z) ?_
  show Rn Γ (1) mX4_leastSteps 0 [some (.ref 95)] [] d e _ _ _
  unfold FX4_leastSteps at h
  obtain ⟨q1, hq1, h⟩ := Option.bind_eq_some_iff.mp h
  refine bX4_leastSteps_0 (evX4_cell hq1) (by omega) ?_
  obtain ⟨g2, h⟩ := a_cond h
  cases h
  exact bX4_leastSteps_9 (a_inb_vp g2)

noncomputable def sX5_append_0 (d : aI) (e : aJ) (x1 : Int32) : Option (Nat × aL × aI × aJ) := (some (3, [some (.ref 83), some (.int x1), some (.int (nI 24))], d, e))
theorem tX5_append_0 {Γ : aG × Launch} {d dF : aI} {e eF : aJ} {x1 : Int32} {r : Option Value} {p : Nat × aL × aI × aJ} (h : sX5_append_0 d e x1 = some p) (kc : Nat.beq p.1 100000 = false → Rn Γ (0) mX5_append p.1 p.2.1 [] p.2.2.1 p.2.2.2 r dF eF) (kr : p.1 = 100000 → r = a_rt p.2.1 ∧ dF = p.2.2.1 ∧ eF = p.2.2.2) : Rn Γ (0) mX5_append 0 [some (.ref 83), some (.int x1), none] [] d e r dF eF := by
  unfold sX5_append_0 at h
  refine bX5_append_0 ?_
  cases h
  exact kc rfl

noncomputable def sX5_append_3 (d : aI) (e : aJ) (x1 : Int32) (x2 : Int32) : Option (Nat × aL × aI × aJ) := (if x2 < 0 then (some (100000, [], d, e)) else (if (nI 300) ≤ (d 83 2) then (some (100000, [], d, e)) else (bif ((a_inb (d 83 2) 300)) then (some (3, [some (.ref 83), some (.int x1), some (.int (x2 + (-(nI 8))))], (uI (uI d 84 ((d 83 2)).toNatClampNeg ((a_ushr x1 x2) &&& (nI 255))) 83 2 ((d 83 2) + (nI 1))), e)) else none)))
theorem tX5_append_3 {Γ : aG × Launch} {d dF : aI} {e eF : aJ} {x1 : Int32} {x2 : Int32} {r : Option Value} {p : Nat × aL × aI × aJ} (h : sX5_append_3 d e x1 x2 = some p) (kc : Nat.beq p.1 100000 = false → Rn Γ (0) mX5_append p.1 p.2.1 [] p.2.2.1 p.2.2.2 r dF eF) (kr : p.1 = 100000 → r = a_rt p.2.1 ∧ dF = p.2.2.1 ∧ eF = p.2.2.2) : Rn Γ (0) mX5_append 3 [some (.ref 83), some (.int x1), some (.int x2)] [] d e r dF eF := by
  unfold sX5_append_3 at h
  refine a_ite h (fun c1 h => ?_) (fun c1 h => ?_)
  · refine bX5_append_3 (fun _ => ?_) (fun z => absurd c1 z)
    cases h
    obtain ⟨k1, k2, k3⟩ := kr rfl
    exact bX5_append_49 k1 k2 k3
  · refine bX5_append_3 (fun z => absurd z c1) (fun _ => ?_)
    refine a_ite h (fun c2 h => ?_) (fun c2 h => ?_)
    · refine bX5_append_7 (fun _ => ?_) (fun z => absurd c2 z)
      cases h
      obtain ⟨k1, k2, k3⟩ := kr rfl
      exact bX5_append_49 k1 k2 k3
    · refine bX5_append_7 (fun z => absurd z c2) (fun _ => ?_)
      obtain ⟨g3, h⟩ := a_cond h
      refine bX5_append_17 (a_inb_vp g3) ?_
      cases h
      exact kc rfl

noncomputable def stX5_append (p : Nat × aL × aI × aJ) : Option (Nat × aL × aI × aJ) := match p with
  | (0, [some (.ref 83), some (.int x1), none], d, e) => sX5_append_0 d e x1
  | (3, [some (.ref 83), some (.int x1), some (.int x2)], d, e) => sX5_append_3 d e x1 x2
  | _ => none
theorem uX5_append {Γ : aG × Launch} {p p2 : Nat × aL × aI × aJ} {r : Option Value} {dF : aI} {eF : aJ} (h : stX5_append p = some p2) (kc : Nat.beq p2.1 100000 = false → Rn Γ (0) mX5_append p2.1 p2.2.1 [] p2.2.2.1 p2.2.2.2 r dF eF) (kr : p2.1 = 100000 → r = a_rt p2.2.1 ∧ dF = p2.2.2.1 ∧ eF = p2.2.2.2) : Rn Γ (0) mX5_append p.1 p.2.1 [] p.2.2.1 p.2.2.2 r dF eF := by
  unfold stX5_append at h
  split at h
  · exact tX5_append_0 h kc kr
  · exact tX5_append_3 h kc kr
  · cases h
noncomputable def FX5_append (d : aI) (e : aJ) (x1 : Int32) : Option (Unit × aI × aJ) := (a_run (stX5_append) (0, [some (.ref 83), some (.int x1), none], d, e)).bind a_xV
theorem evX5_append {Γ : aG × Launch} {d : aI} {e : aJ} {x1 : Int32} {q : Unit × aI × aJ} (h : FX5_append d e x1 = some q) : Ev Γ (0) mX5_append [.ref 83, .int x1] d e none q.2.1 q.2.2 := by
  refine Ev.of (by decide) rfl (Nat.le_of_ble_eq_true rfl) (fun z => by cases z) ?_
  show Rn Γ (0) mX5_append 0 [some (.ref 83), some (.int x1), none] [] d e _ _ _
  obtain ⟨q1, h1, h2⟩ := Option.bind_eq_some_iff.mp h
  obtain ⟨e1, e2, e3⟩ := a_xV_rt h2
  exact Rn.cast (a_run_ok (uX5_append) rfl h1) e1.symm e2.symm e3.symm
noncomputable def FX5_blame (d : aI) (e : aJ) (x1 : Int32) : Option (Unit × aI × aJ) := (if (d 83 3) = 0 then (bif ((a_inb (d 83 9) 301)) then (some ((), (uI (uI d 83 3 x1) 83 4 (d 86 ((d 83 9)).toNatClampNeg)), e)) else none) else (some ((), d, e)))
theorem evX5_blame {Γ : aG × Launch} {d : aI} {e : aJ} {x1 : Int32} {q : Unit × aI × aJ} (h : FX5_blame d e x1 = some q) : Ev Γ (0) mX5_blame [.ref 83, .int x1] d e none q.2.1 q.2.2 := by
  refine Ev.of (by decide) rfl (Nat.le_of_ble_eq_true rfl) (fun z => by cases z) ?_
  show Rn Γ (0) mX5_blame 0 [some (.ref 83), some (.int x1)] [] d e _ _ _
  unfold FX5_blame at h
  refine a_ite h (fun c1 h => ?_) (fun c1 h => ?_)
  · refine bX5_blame_0 (fun z => absurd c1 z) (fun _ => ?_)
    obtain ⟨g2, h⟩ := a_cond h
    refine bX5_blame_7 (a_inb_vp g2) ?_
    cases h
    exact bX5_blame_25
  · refine bX5_blame_0 (fun _ => ?_) (fun z => absurd z c1)
    cases h
    exact bX5_blame_25

noncomputable def FX5_isLetter (d : aI) (e : aJ) (x0 : Int32) : Option (Int32 × aI × aJ) := (if x0 < (nI 97) then (if x0 < (nI 65) then (some ((nI 0), d, e)) else (if (nI 90) < x0 then (some ((nI 0), d, e)) else (some ((nI 1), d, e)))) else (if x0 ≤ (nI 122) then (some ((nI 1), d, e)) else (if x0 < (nI 65) then (some ((nI 0), d, e)) else (if (nI 90) < x0 then (some ((nI 0), d, e)) else (some ((nI 1), d, e))))))
theorem evX5_isLetter {Γ : aG × Launch} {d : aI} {e : aJ} {x0 : Int32} {q : Int32 × aI × aJ} (h : FX5_isLetter d e x0 = some q) : Ev Γ (0) mX5_isLetter [.int x0] d e (some (.int q.1)) q.2.1 q.2.2 := by
  refine Ev.of (by decide) rfl (Nat.le_of_ble_eq_true rfl) (fun z => by cases z) ?_
  show Rn Γ (0) mX5_isLetter 0 [some (.int x0)] [] d e _ _ _
  unfold FX5_isLetter at h
  refine a_ite h (fun c1 h => ?_) (fun c1 h => ?_)
  · refine bX5_isLetter_0 (fun _ => ?_) (fun z => absurd c1 z)
    refine a_ite h (fun c2 h => ?_) (fun c2 h => ?_)
    · refine bX5_isLetter_12 (fun _ => ?_) (fun z => absurd c2 z)
      refine bX5_isLetter_28 ?_
      cases h
      exact bX5_isLetter_29 (a_nz (Or.inl rfl))
    · refine bX5_isLetter_12 (fun z => absurd z c2) (fun _ => ?_)
      refine a_ite h (fun c3 h => ?_) (fun c3 h => ?_)
      · refine bX5_isLetter_18 (fun _ => ?_) (fun z => absurd c3 z)
        refine bX5_isLetter_28 ?_
        cases h
        exact bX5_isLetter_29 (a_nz (Or.inl rfl))
      · refine bX5_isLetter_18 (fun z => absurd z c3) (fun _ => ?_)
        refine bX5_isLetter_24 ?_
        cases h
        exact bX5_isLetter_29 (a_nz (Or.inr rfl))
  · refine bX5_isLetter_0 (fun z => absurd z c1) (fun _ => ?_)
    refine a_ite h (fun c4 h => ?_) (fun c4 h => ?_)
    · refine bX5_isLetter_6 (fun _ => ?_) (fun z => absurd c4 z)
      refine bX5_isLetter_24 ?_
      cases h
      exact bX5_isLetter_29 (a_nz (Or.inr rfl))
    · refine bX5_isLetter_6 (fun z => absurd z c4) (fun _ => ?_)
      refine a_ite h (fun c5 h => ?_) (fun c5 h => ?_)
      · refine bX5_isLetter_12 (fun _ => ?_) (fun z => absurd c5 z)
        refine bX5_isLetter_28 ?_
        cases h
        exact bX5_isLetter_29 (a_nz (Or.inl rfl))
      · refine bX5_isLetter_12 (fun z => absurd z c5) (fun _ => ?_)
        refine a_ite h (fun c6 h => ?_) (fun c6 h => ?_)
        · refine bX5_isLetter_18 (fun _ => ?_) (fun z => absurd c6 z)
          refine bX5_isLetter_28 ?_
          cases h
          exact bX5_isLetter_29 (a_nz (Or.inl rfl))
        · refine bX5_isLetter_18 (fun z => absurd z c6) (fun _ => ?_)
          refine bX5_isLetter_24 ?_
          cases h
          exact bX5_isLetter_29 (a_nz (Or.inr rfl))

noncomputable def FX5_isDigit (d : aI) (e : aJ) (x0 : Int32) : Option (Int32 × aI × aJ) := (if x0 < (nI 48) then (some ((nI 0), d, e)) else (if (nI 57) < x0 then (some ((nI 0), d, e)) else (some ((nI 1), d, e))))
theorem evX5_isDigit {Γ : aG × Launch} {d : aI} {e : aJ} {x0 : Int32} {q : Int32 × aI × aJ} (h : FX5_isDigit d e x0 = some q) : Ev Γ (0) mX5_isDigit [.int x0] d e (some (.int q.1)) q.2.1 q.2.2 := by
  refine Ev.of (by decide) rfl (Nat.le_of_ble_eq_true rfl) (fun z => by cases z) ?_
  show Rn Γ (0) mX5_isDigit 0 [some (.int x0)] [] d e _ _ _
  unfold FX5_isDigit at h
  refine a_ite h (fun c1 h => ?_) (fun c1 h => ?_)
  · refine bX5_isDigit_0 (fun _ => ?_) (fun z => absurd c1 z)
    refine bX5_isDigit_16 ?_
    cases h
    exact bX5_isDigit_17 (a_nz (Or.inl rfl))
  · refine bX5_isDigit_0 (fun z => absurd z c1) (fun _ => ?_)
    refine a_ite h (fun c2 h => ?_) (fun c2 h => ?_)
    · refine bX5_isDigit_6 (fun _ => ?_) (fun z => absurd c2 z)
      refine bX5_isDigit_16 ?_
      cases h
      exact bX5_isDigit_17 (a_nz (Or.inl rfl))
    · refine bX5_isDigit_6 (fun z => absurd z c2) (fun _ => ?_)
      refine bX5_isDigit_12 ?_
      cases h
      exact bX5_isDigit_17 (a_nz (Or.inr rfl))

noncomputable def sX5_isWord_0 (d : aI) (e : aJ) (x1 : Int32) (x2 : Int32) (x3 : Int32) : Option (Nat × aL × aI × aJ) := (if (x3 - x2) ≤ (nI 6) then (some (17, [some (.ref 83), some (.int x1), some (.int x2), some (.int x3), some (.int (x3 - x2)), some (.int (nI 0))], d, e)) else (some (100000, [some (.int (nI 0))], d, e)))
theorem tX5_isWord_0 {Γ : aG × Launch} {d dF : aI} {e eF : aJ} {x1 : Int32} {x2 : Int32} {x3 : Int32} {r : Option Value} {p : Nat × aL × aI × aJ} (h : sX5_isWord_0 d e x1 x2 x3 = some p) (kc : Nat.beq p.1 100000 = false → Rn Γ (6) mX5_isWord p.1 p.2.1 [] p.2.2.1 p.2.2.2 r dF eF) (kr : p.1 = 100000 → r = a_rt p.2.1 ∧ dF = p.2.2.1 ∧ eF = p.2.2.2) : Rn Γ (6) mX5_isWord 0 [some (.ref 83), some (.int x1), some (.int x2), some (.int x3), none, none] [] d e r dF eF := by
  unfold sX5_isWord_0 at h
  refine a_ite h (fun c1 h => ?_) (fun c1 h => ?_)
  · refine bX5_isWord_0 (fun _ => ?_) (fun z => absurd c1 z)
    refine bX5_isWord_14 ?_
    cases h
    exact kc rfl
  · refine bX5_isWord_0 (fun z => absurd z c1) (fun _ => ?_)
    cases h
    obtain ⟨k1, k2, k3⟩ := kr rfl
    exact bX5_isWord_12 k1 k2 k3

noncomputable def sX5_isWord_17 (d : aI) (e : aJ) (x1 : Int32) (x2 : Int32) (x3 : Int32) (x4 : Int32) (x5 : Int32) : Option (Nat × aL × aI × aJ) := (if x4 ≤ x5 then (if x4 = (nI 6) then (some (100000, [some (.int (nI 1))], d, e)) else ((FSchr d e (x1 + x4)).bind fun q3 => (if q3.1 = (nI 32) then (some (100000, [some (.int (nI 1))], q3.2.1, q3.2.2)) else (some (100000, [some (.int (nI 0))], q3.2.1, q3.2.2))))) else (bif ((a_inb (x2 + x5) 300)) then ((FSchr d e (x1 + x5)).bind fun q6 => (if (d 84 ((x2 + x5)).toNatClampNeg) = q6.1 then (some (17, [some (.ref 83), some (.int x1), some (.int x2), some (.int x3), some (.int x4), some (.int (x5 + (nI 1)))], q6.2.1, q6.2.2)) else (some (100000, [some (.int (nI 0))], q6.2.1, q6.2.2)))) else none))
theorem tX5_isWord_17 {Γ : aG × Launch} {d dF : aI} {e eF : aJ} {x1 : Int32} {x2 : Int32} {x3 : Int32} {x4 : Int32} {x5 : Int32} {r : Option Value} {p : Nat × aL × aI × aJ} (h : sX5_isWord_17 d e x1 x2 x3 x4 x5 = some p) (kc : Nat.beq p.1 100000 = false → Rn Γ (6) mX5_isWord p.1 p.2.1 [] p.2.2.1 p.2.2.2 r dF eF) (kr : p.1 = 100000 → r = a_rt p.2.1 ∧ dF = p.2.2.1 ∧ eF = p.2.2.2) : Rn Γ (6) mX5_isWord 17 [some (.ref 83), some (.int x1), some (.int x2), some (.int x3), some (.int x4), some (.int x5)] [] d e r dF eF := by
  unfold sX5_isWord_17 at h
  refine a_ite h (fun c1 h => ?_) (fun c1 h => ?_)
  · refine bX5_isWord_17 (fun _ => ?_) (fun z => absurd c1 z)
    refine a_ite h (fun c2 h => ?_) (fun c2 h => ?_)
    · refine bX5_isWord_53 (fun _ => ?_) (fun z => absurd c2 z)
      refine bX5_isWord_74 ?_
      cases h
      obtain ⟨k1, k2, k3⟩ := kr rfl
      exact bX5_isWord_79 (a_nz (Or.inr rfl)) k1 k2 k3
    · refine bX5_isWord_53 (fun z => absurd z c2) (fun _ => ?_)
      refine bX5_isWord_60 ?_
      obtain ⟨q3, hq3, h⟩ := Option.bind_eq_some_iff.mp h
      refine jX5_isWord_66 (evSchr hq3) (by omega) ?_
      refine a_ite h (fun c4 h => ?_) (fun c4 h => ?_)
      · refine bX5_isWord_69 (fun z => absurd c4 z) (fun _ => ?_)
        refine bX5_isWord_74 ?_
        cases h
        obtain ⟨k1, k2, k3⟩ := kr rfl
        exact bX5_isWord_79 (a_nz (Or.inr rfl)) k1 k2 k3
      · refine bX5_isWord_69 (fun _ => ?_) (fun z => absurd z c4)
        refine bX5_isWord_78 ?_
        cases h
        obtain ⟨k1, k2, k3⟩ := kr rfl
        exact bX5_isWord_79 (a_nz (Or.inl rfl)) k1 k2 k3
  · refine bX5_isWord_17 (fun z => absurd z c1) (fun _ => ?_)
    obtain ⟨g5, h⟩ := a_cond h
    refine bX5_isWord_24 (a_inb_vp g5) ?_
    obtain ⟨q6, hq6, h⟩ := Option.bind_eq_some_iff.mp h
    refine jX5_isWord_39 (evSchr hq6) (by omega) ?_
    refine a_ite h (fun c7 h => ?_) (fun c7 h => ?_)
    · refine bX5_isWord_42 (fun _ => ?_) (fun z => absurd c7 z)
      refine bX5_isWord_47 ?_
      cases h
      exact kc rfl
    · refine bX5_isWord_42 (fun z => absurd z c7) (fun _ => ?_)
      cases h
      obtain ⟨k1, k2, k3⟩ := kr rfl
      exact bX5_isWord_45 k1 k2 k3

noncomputable def stX5_isWord (p : Nat × aL × aI × aJ) : Option (Nat × aL × aI × aJ) := match p with
  | (0, [some (.ref 83), some (.int x1), some (.int x2), some (.int x3), none, none], d, e) => sX5_isWord_0 d e x1 x2 x3
  | (17, [some (.ref 83), some (.int x1), some (.int x2), some (.int x3), some (.int x4), some (.int x5)], d, e) => sX5_isWord_17 d e x1 x2 x3 x4 x5
  | _ => none
theorem uX5_isWord {Γ : aG × Launch} {p p2 : Nat × aL × aI × aJ} {r : Option Value} {dF : aI} {eF : aJ} (h : stX5_isWord p = some p2) (kc : Nat.beq p2.1 100000 = false → Rn Γ (6) mX5_isWord p2.1 p2.2.1 [] p2.2.2.1 p2.2.2.2 r dF eF) (kr : p2.1 = 100000 → r = a_rt p2.2.1 ∧ dF = p2.2.2.1 ∧ eF = p2.2.2.2) : Rn Γ (6) mX5_isWord p.1 p.2.1 [] p.2.2.1 p.2.2.2 r dF eF := by
  unfold stX5_isWord at h
  split at h
  · exact tX5_isWord_0 h kc kr
  · exact tX5_isWord_17 h kc kr
  · cases h
noncomputable def FX5_isWord (d : aI) (e : aJ) (x1 : Int32) (x2 : Int32) (x3 : Int32) : Option (Int32 × aI × aJ) := (a_run (stX5_isWord) (0, [some (.ref 83), some (.int x1), some (.int x2), some (.int x3), none, none], d, e)).bind a_xI
theorem evX5_isWord {Γ : aG × Launch} {d : aI} {e : aJ} {x1 : Int32} {x2 : Int32} {x3 : Int32} {q : Int32 × aI × aJ} (h : FX5_isWord d e x1 x2 x3 = some q) : Ev Γ (6) mX5_isWord [.ref 83, .int x1, .int x2, .int x3] d e (some (.int q.1)) q.2.1 q.2.2 := by
  refine Ev.of (by decide) rfl (Nat.le_of_ble_eq_true rfl) (fun z => by cases z) ?_
  show Rn Γ (6) mX5_isWord 0 [some (.ref 83), some (.int x1), some (.int x2), some (.int x3), none, none] [] d e _ _ _
  obtain ⟨q1, h1, h2⟩ := Option.bind_eq_some_iff.mp h
  obtain ⟨e1, e2, e3⟩ := a_xI_rt h2
  exact Rn.cast (a_run_ok (uX5_isWord) rfl h1) e1.symm e2.symm e3.symm
noncomputable def sX5_scanNumber_0 (d : aI) (e : aJ) (x1 : Int32) : Option (Nat × aL × aI × aJ) := (some (4, [some (.ref 83), some (.int x1), some (.int x1), some (.int (nI 0))], d, e))
theorem tX5_scanNumber_0 {Γ : aG × Launch} {d dF : aI} {e eF : aJ} {x1 : Int32} {r : Option Value} {p : Nat × aL × aI × aJ} (h : sX5_scanNumber_0 d e x1 = some p) (kc : Nat.beq p.1 100000 = false → Rn Γ (1) mX5_scanNumber p.1 p.2.1 [] p.2.2.1 p.2.2.2 r dF eF) (kr : p.1 = 100000 → r = a_rt p.2.1 ∧ dF = p.2.2.1 ∧ eF = p.2.2.2) : Rn Γ (1) mX5_scanNumber 0 [some (.ref 83), some (.int x1), none, none] [] d e r dF eF := by
  unfold sX5_scanNumber_0 at h
  refine bX5_scanNumber_0 ?_
  cases h
  exact kc rfl

noncomputable def sX5_scanNumber_4 (d : aI) (e : aJ) (x1 : Int32) (x2 : Int32) (x3 : Int32) : Option (Nat × aL × aI × aJ) := (if (d 83 2) ≤ x2 then (bif ((a_inb (d 83 8) 301) && (a_inb (d 83 8) 301)) then (some (100000, [some (.int x2)], (uI (uI d 85 ((d 83 8)).toNatClampNeg (nI 1)) 87 ((d 83 8)).toNatClampNeg x3), e)) else none) else (bif ((a_inb x2 300)) then ((FX5_isDigit d e (d 84 (x2).toNatClampNeg)).bind fun q4 => (if q4.1 = 0 then (bif ((a_inb (q4.2.1 83 8) 301) && (a_inb (q4.2.1 83 8) 301)) then (some (100000, [some (.int x2)], (uI (uI q4.2.1 85 ((q4.2.1 83 8)).toNatClampNeg (nI 1)) 87 ((q4.2.1 83 8)).toNatClampNeg x3), q4.2.2)) else none) else (bif ((a_inb x2 300)) then (some (4, [some (.ref 83), some (.int x1), some (.int (x2 + (nI 1))), some (.int (a_min (((x3 * (nI 10)) + (q4.2.1 84 (x2).toNatClampNeg)) - (nI 48)) (nI 10000)))], q4.2.1, q4.2.2)) else none))) else none))
theorem tX5_scanNumber_4 {Γ : aG × Launch} {d dF : aI} {e eF : aJ} {x1 : Int32} {x2 : Int32} {x3 : Int32} {r : Option Value} {p : Nat × aL × aI × aJ} (h : sX5_scanNumber_4 d e x1 x2 x3 = some p) (kc : Nat.beq p.1 100000 = false → Rn Γ (1) mX5_scanNumber p.1 p.2.1 [] p.2.2.1 p.2.2.2 r dF eF) (kr : p.1 = 100000 → r = a_rt p.2.1 ∧ dF = p.2.2.1 ∧ eF = p.2.2.2) : Rn Γ (1) mX5_scanNumber 4 [some (.ref 83), some (.int x1), some (.int x2), some (.int x3)] [] d e r dF eF := by
  unfold sX5_scanNumber_4 at h
  refine a_ite h (fun c1 h => ?_) (fun c1 h => ?_)
  · refine bX5_scanNumber_4 (fun _ => ?_) (fun z => absurd c1 z)
    obtain ⟨g2, h⟩ := a_cond h
    obtain ⟨g2x1, g2_1⟩ := a_and g2
    have g2_0 := g2x1
    cases h
    obtain ⟨k1, k2, k3⟩ := kr rfl
    exact bX5_scanNumber_51 ⟨(a_inb_vp g2_0), (a_inb_vp g2_1)⟩ k1 k2 k3
  · refine bX5_scanNumber_4 (fun z => absurd z c1) (fun _ => ?_)
    obtain ⟨g3, h⟩ := a_cond h
    obtain ⟨q4, hq4, h⟩ := Option.bind_eq_some_iff.mp h
    refine bX5_scanNumber_12 (a_inb_vp g3) (evX5_isDigit hq4) (by omega) ?_
    refine a_ite h (fun c5 h => ?_) (fun c5 h => ?_)
    · refine bX5_scanNumber_21 (fun _ => ?_) (fun z => absurd c5 z)
      obtain ⟨g6, h⟩ := a_cond h
      obtain ⟨g6x1, g6_1⟩ := a_and g6
      have g6_0 := g6x1
      cases h
      obtain ⟨k1, k2, k3⟩ := kr rfl
      exact bX5_scanNumber_51 ⟨(a_inb_vp g6_0), (a_inb_vp g6_1)⟩ k1 k2 k3
    · refine bX5_scanNumber_21 (fun z => absurd z c5) (fun _ => ?_)
      obtain ⟨g7, h⟩ := a_cond h
      refine bX5_scanNumber_24 (a_inb_vp g7) ?_
      cases h
      exact kc rfl

noncomputable def stX5_scanNumber (p : Nat × aL × aI × aJ) : Option (Nat × aL × aI × aJ) := match p with
  | (0, [some (.ref 83), some (.int x1), none, none], d, e) => sX5_scanNumber_0 d e x1
  | (4, [some (.ref 83), some (.int x1), some (.int x2), some (.int x3)], d, e) => sX5_scanNumber_4 d e x1 x2 x3
  | _ => none
theorem uX5_scanNumber {Γ : aG × Launch} {p p2 : Nat × aL × aI × aJ} {r : Option Value} {dF : aI} {eF : aJ} (h : stX5_scanNumber p = some p2) (kc : Nat.beq p2.1 100000 = false → Rn Γ (1) mX5_scanNumber p2.1 p2.2.1 [] p2.2.2.1 p2.2.2.2 r dF eF) (kr : p2.1 = 100000 → r = a_rt p2.2.1 ∧ dF = p2.2.2.1 ∧ eF = p2.2.2.2) : Rn Γ (1) mX5_scanNumber p.1 p.2.1 [] p.2.2.1 p.2.2.2 r dF eF := by
  unfold stX5_scanNumber at h
  split at h
  · exact tX5_scanNumber_0 h kc kr
  · exact tX5_scanNumber_4 h kc kr
  · cases h
noncomputable def FX5_scanNumber (d : aI) (e : aJ) (x1 : Int32) : Option (Int32 × aI × aJ) := (a_run (stX5_scanNumber) (0, [some (.ref 83), some (.int x1), none, none], d, e)).bind a_xI
theorem evX5_scanNumber {Γ : aG × Launch} {d : aI} {e : aJ} {x1 : Int32} {q : Int32 × aI × aJ} (h : FX5_scanNumber d e x1 = some q) : Ev Γ (1) mX5_scanNumber [.ref 83, .int x1] d e (some (.int q.1)) q.2.1 q.2.2 := by
  refine Ev.of (by decide) rfl (Nat.le_of_ble_eq_true rfl) (fun z => by cases z) ?_
  show Rn Γ (1) mX5_scanNumber 0 [some (.ref 83), some (.int x1), none, none] [] d e _ _ _
  obtain ⟨q1, h1, h2⟩ := Option.bind_eq_some_iff.mp h
  obtain ⟨e1, e2, e3⟩ := a_xI_rt h2
  exact Rn.cast (a_run_ok (uX5_scanNumber) rfl h1) e1.symm e2.symm e3.symm
noncomputable def FX5_next (d : aI) (e : aJ)  : Option (Unit × aI × aJ) := (if (d 83 8) ≤ (d 83 9) then (bif ((a_inb (d 83 9) 301)) then (some ((), (uI d 83 10 (d 85 ((d 83 9)).toNatClampNeg)), e)) else none) else (bif ((a_inb ((uI d 83 9 ((d 83 9) + (nI 1))) 83 9) 301)) then (some ((), (uI (uI d 83 9 ((d 83 9) + (nI 1))) 83 10 ((uI d 83 9 ((d 83 9) + (nI 1))) 85 (((uI d 83 9 ((d 83 9) + (nI 1))) 83 9)).toNatClampNeg)), e)) else none))
theorem evX5_next {Γ : aG × Launch} {d : aI} {e : aJ}  {q : Unit × aI × aJ} (h : FX5_next d e  = some q) : Ev Γ (0) mX5_next [.ref 83] d e none q.2.1 q.2.2 := by
  refine Ev.of (by decide) rfl (Nat.le_of_ble_eq_true rfl) (fun z => by cases z) ?_
  show Rn Γ (0) mX5_next 0 [some (.ref 83)] [] d e _ _ _
  unfold FX5_next at h
  refine a_ite h (fun c1 h => ?_) (fun c1 h => ?_)
  · refine bX5_next_0 (fun _ => ?_) (fun z => absurd c1 z)
    obtain ⟨g2, h⟩ := a_cond h
    cases h
    exact bX5_next_21 (a_inb_vp g2)
  · refine bX5_next_0 (fun z => absurd z c1) (fun _ => ?_)
    refine bX5_next_11 ?_
    obtain ⟨g3, h⟩ := a_cond h
    cases h
    exact bX5_next_21 (a_inb_vp g3)

noncomputable def FX5_expect (d : aI) (e : aJ) (x1 : Int32) : Option (Unit × aI × aJ) := (if (d 83 10) = x1 then ((FX5_next d e).bind fun q2 => (some ((), q2.2.1, q2.2.2))) else ((FX5_blame d e (nI 1)).bind fun q3 => (some ((), q3.2.1, q3.2.2))))
theorem evX5_expect {Γ : aG × Launch} {d : aI} {e : aJ} {x1 : Int32} {q : Unit × aI × aJ} (h : FX5_expect d e x1 = some q) : Ev Γ (1) mX5_expect [.ref 83, .int x1] d e none q.2.1 q.2.2 := by
  refine Ev.of (by decide) rfl (Nat.le_of_ble_eq_true rfl) (fun z => by cases z) ?_
  show Rn Γ (1) mX5_expect 0 [some (.ref 83), some (.int x1)] [] d e _ _ _
  unfold FX5_expect at h
  refine a_ite h (fun c1 h => ?_) (fun c1 h => ?_)
  · refine bX5_expect_0 (fun z => absurd c1 z) (fun _ => ?_)
    obtain ⟨q2, hq2, h⟩ := Option.bind_eq_some_iff.mp h
    refine bX5_expect_8 (evX5_next hq2) (by omega) ?_
    refine bX5_expect_12 ?_
    cases h
    exact bX5_expect_20
  · refine bX5_expect_0 (fun _ => ?_) (fun z => absurd z c1)
    obtain ⟨q3, hq3, h⟩ := Option.bind_eq_some_iff.mp h
    refine bX5_expect_15 (evX5_blame hq3) (by omega) ?_
    cases h
    exact bX5_expect_20

noncomputable def FX5_number (d : aI) (e : aJ) (x1 : Int32) (x2 : Int32) : Option (Int32 × aI × aJ) := (if (d 83 10) = (nI 1) then (bif ((a_inb (d 83 9) 301)) then (if (d 87 ((d 83 9)).toNatClampNeg) < x1 then ((FX5_blame d e (nI 2)).bind fun q4 => (some (x1, q4.2.1, q4.2.2))) else (if (d 87 ((d 83 9)).toNatClampNeg) ≤ x2 then ((FX5_next d e).bind fun q6 => (some ((d 87 ((d 83 9)).toNatClampNeg), q6.2.1, q6.2.2))) else ((FX5_blame d e (nI 2)).bind fun q7 => (some (x1, q7.2.1, q7.2.2))))) else none) else ((FX5_blame d e (nI 1)).bind fun q8 => (some (x1, q8.2.1, q8.2.2))))
theorem evX5_number {Γ : aG × Launch} {d : aI} {e : aJ} {x1 : Int32} {x2 : Int32} {q : Int32 × aI × aJ} (h : FX5_number d e x1 x2 = some q) : Ev Γ (1) mX5_number [.ref 83, .int x1, .int x2] d e (some (.int q.1)) q.2.1 q.2.2 := by
  refine Ev.of (by decide) rfl (Nat.le_of_ble_eq_true rfl) (fun z => by cases z) ?_
  show Rn Γ (1) mX5_number 0 [some (.ref 83), some (.int x1), some (.int x2), none] [] d e _ _ _
  unfold FX5_number at h
  refine a_ite h (fun c1 h => ?_) (fun c1 h => ?_)
  · refine bX5_number_0 (fun _ => ?_) (fun z => absurd c1 z)
    obtain ⟨g2, h⟩ := a_cond h
    refine a_ite h (fun c3 h => ?_) (fun c3 h => ?_)
    · refine bX5_number_15 (a_inb_vp g2) (fun _ => ?_) (fun z => absurd c3 z)
      obtain ⟨q4, hq4, h⟩ := Option.bind_eq_some_iff.mp h
      refine bX5_number_35 (evX5_blame hq4) (by omega) ?_
      cases h
      exact bX5_number_40
    · refine bX5_number_15 (a_inb_vp g2) (fun z => absurd z c3) (fun _ => ?_)
      refine a_ite h (fun c5 h => ?_) (fun c5 h => ?_)
      · refine bX5_number_30 (fun _ => ?_) (fun z => absurd c5 z)
        obtain ⟨q6, hq6, h⟩ := Option.bind_eq_some_iff.mp h
        refine bX5_number_42 (evX5_next hq6) (by omega) ?_
        cases h
        exact bX5_number_46
      · refine bX5_number_30 (fun z => absurd z c5) (fun _ => ?_)
        obtain ⟨q7, hq7, h⟩ := Option.bind_eq_some_iff.mp h
        refine bX5_number_35 (evX5_blame hq7) (by omega) ?_
        cases h
        exact bX5_number_40
  · refine bX5_number_0 (fun z => absurd z c1) (fun _ => ?_)
    obtain ⟨q8, hq8, h⟩ := Option.bind_eq_some_iff.mp h
    refine bX5_number_8 (evX5_blame hq8) (by omega) ?_
    cases h
    exact bX5_number_13

noncomputable def FX5_isComparison (d : aI) (e : aJ) (x0 : Int32) : Option (Int32 × aI × aJ) := (if x0 = (nI 60) then (some ((nI 1), d, e)) else (if x0 = (nI 3) then (some ((nI 1), d, e)) else (if x0 = (nI 62) then (some ((nI 1), d, e)) else (if x0 = (nI 4) then (some ((nI 1), d, e)) else (if x0 = (nI 61) then (some ((nI 1), d, e)) else (if x0 = (nI 35) then (some ((nI 1), d, e)) else (some ((nI 0), d, e))))))))
theorem evX5_isComparison {Γ : aG × Launch} {d : aI} {e : aJ} {x0 : Int32} {q : Int32 × aI × aJ} (h : FX5_isComparison d e x0 = some q) : Ev Γ (0) mX5_isComparison [.int x0] d e (some (.int q.1)) q.2.1 q.2.2 := by
  refine Ev.of (by decide) rfl (Nat.le_of_ble_eq_true rfl) (fun z => by cases z) ?_
  show Rn Γ (0) mX5_isComparison 0 [some (.int x0)] [] d e _ _ _
  unfold FX5_isComparison at h
  refine a_ite h (fun c1 h => ?_) (fun c1 h => ?_)
  · refine bX5_isComparison_0 (fun _ => ?_) (fun z => absurd c1 z)
    refine bX5_isComparison_34 ?_
    cases h
    exact bX5_isComparison_39 (a_nz (Or.inr rfl))
  · refine bX5_isComparison_0 (fun z => absurd z c1) (fun _ => ?_)
    refine a_ite h (fun c2 h => ?_) (fun c2 h => ?_)
    · refine bX5_isComparison_6 (fun _ => ?_) (fun z => absurd c2 z)
      refine bX5_isComparison_34 ?_
      cases h
      exact bX5_isComparison_39 (a_nz (Or.inr rfl))
    · refine bX5_isComparison_6 (fun z => absurd z c2) (fun _ => ?_)
      refine a_ite h (fun c3 h => ?_) (fun c3 h => ?_)
      · refine bX5_isComparison_11 (fun _ => ?_) (fun z => absurd c3 z)
        refine bX5_isComparison_34 ?_
        cases h
        exact bX5_isComparison_39 (a_nz (Or.inr rfl))
      · refine bX5_isComparison_11 (fun z => absurd z c3) (fun _ => ?_)
        refine a_ite h (fun c4 h => ?_) (fun c4 h => ?_)
        · refine bX5_isComparison_17 (fun _ => ?_) (fun z => absurd c4 z)
          refine bX5_isComparison_34 ?_
          cases h
          exact bX5_isComparison_39 (a_nz (Or.inr rfl))
        · refine bX5_isComparison_17 (fun z => absurd z c4) (fun _ => ?_)
          refine a_ite h (fun c5 h => ?_) (fun c5 h => ?_)
          · refine bX5_isComparison_22 (fun _ => ?_) (fun z => absurd c5 z)
            refine bX5_isComparison_34 ?_
            cases h
            exact bX5_isComparison_39 (a_nz (Or.inr rfl))
          · refine bX5_isComparison_22 (fun z => absurd z c5) (fun _ => ?_)
            refine a_ite h (fun c6 h => ?_) (fun c6 h => ?_)
            · refine bX5_isComparison_28 (fun z => absurd c6 z) (fun _ => ?_)
              refine bX5_isComparison_34 ?_
              cases h
              exact bX5_isComparison_39 (a_nz (Or.inr rfl))
            · refine bX5_isComparison_28 (fun _ => ?_) (fun z => absurd z c6)
              refine bX5_isComparison_38 ?_
              cases h
              exact bX5_isComparison_39 (a_nz (Or.inl rfl))

noncomputable def FX5_blameUnless (d : aI) (e : aJ) (x1 : Int32) : Option (Unit × aI × aJ) := (if x1 = 0 then ((FX5_blame d e (nI 5)).bind fun q2 => (some ((), q2.2.1, q2.2.2))) else (some ((), d, e)))
theorem evX5_blameUnless {Γ : aG × Launch} {d : aI} {e : aJ} {x1 : Int32} {q : Unit × aI × aJ} (h : FX5_blameUnless d e x1 = some q) : Ev Γ (1) mX5_blameUnless [.ref 83, .int x1] d e none q.2.1 q.2.2 := by
  refine Ev.of (by decide) rfl (Nat.le_of_ble_eq_true rfl) (fun z => by cases z) ?_
  show Rn Γ (1) mX5_blameUnless 0 [some (.ref 83), some (.int x1)] [] d e _ _ _
  unfold FX5_blameUnless at h
  refine a_ite h (fun c1 h => ?_) (fun c1 h => ?_)
  · refine bX5_blameUnless_0 (fun z => absurd c1 z) (fun _ => ?_)
    obtain ⟨q2, hq2, h⟩ := Option.bind_eq_some_iff.mp h
    refine bX5_blameUnless_4 (evX5_blame hq2) (by omega) ?_
    cases h
    exact bX5_blameUnless_9
  · refine bX5_blameUnless_0 (fun _ => ?_) (fun z => absurd z c1)
    cases h
    exact bX5_blameUnless_9

noncomputable def FX6_keep (d : aI) (e : aJ)  : Option (Unit × aI × aJ) := (bif ((decide (¬ (nI 30) = 0))) then ((FX2_write d e 12 ((a_irm ((d 11 1) + (d 11 2)) (nI 30)) * (nI 60))).bind fun q2 => (if (nI 30) ≤ (q2.2.1 11 2) then (bif ((decide (¬ (nI 30) = 0))) then (some ((), (uI q2.2.1 11 1 (a_irm ((q2.2.1 11 1) + (nI 1)) (nI 30))), q2.2.2)) else none) else (some ((), (uI q2.2.1 11 2 ((q2.2.1 11 2) + (nI 1))), q2.2.2)))) else none)
theorem evX6_keep {Γ : aG × Launch} {d : aI} {e : aJ}  {q : Unit × aI × aJ} (h : FX6_keep d e  = some q) : Ev Γ (1) mX6_keep [.ref 11, .ref 2] d e none q.2.1 q.2.2 := by
  refine Ev.of (by decide) rfl (Nat.le_of_ble_eq_true rfl) (fun z => by cases z) ?_
  show Rn Γ (1) mX6_keep 0 [some (.ref 11), some (.ref 2)] [] d e _ _ _
  unfold FX6_keep at h
  obtain ⟨g1, h⟩ := a_cond h
  obtain ⟨q2, hq2, h⟩ := Option.bind_eq_some_iff.mp h
  refine bX6_keep_0 (of_decide_eq_true g1) (evX2_write hq2) (by omega) ?_
  refine a_ite h (fun c3 h => ?_) (fun c3 h => ?_)
  · refine bX6_keep_23 (fun _ => ?_) (fun z => absurd c3 z)
    obtain ⟨g4, h⟩ := a_cond h
    refine bX6_keep_45 (of_decide_eq_true g4) ?_
    cases h
    exact bX6_keep_58
  · refine bX6_keep_23 (fun z => absurd z c3) (fun _ => ?_)
    refine bX6_keep_32 ?_
    cases h
    exact bX6_keep_58

noncomputable def FX6_takeBack (d : aI) (e : aJ)  : Option (Unit × aI × aJ) := (if (d 11 2) ≤ 0 then (some ((), d, e)) else (bif ((decide (¬ (nI 30) = 0))) then ((FX2_restore (uI d 11 2 ((d 11 2) - (nI 1))) e 12 ((a_irm ((d 11 1) + ((d 11 2) - (nI 1))) (nI 30)) * (nI 60))).bind fun q3 => (some ((), q3.2.1, q3.2.2))) else none))
theorem evX6_takeBack {Γ : aG × Launch} {d : aI} {e : aJ}  {q : Unit × aI × aJ} (h : FX6_takeBack d e  = some q) : Ev Γ (1) mX6_takeBack [.ref 11, .ref 2] d e none q.2.1 q.2.2 := by
  refine Ev.of (by decide) rfl (Nat.le_of_ble_eq_true rfl) (fun z => by cases z) ?_
  show Rn Γ (1) mX6_takeBack 0 [some (.ref 11), some (.ref 2)] [] d e _ _ _
  unfold FX6_takeBack at h
  refine a_ite h (fun c1 h => ?_) (fun c1 h => ?_)
  · refine bX6_takeBack_0 (fun _ => ?_) (fun z => absurd c1 z)
    cases h
    exact bX6_takeBack_40
  · refine bX6_takeBack_0 (fun z => absurd z c1) (fun _ => ?_)
    obtain ⟨g2, h⟩ := a_cond h
    obtain ⟨q3, hq3, h⟩ := Option.bind_eq_some_iff.mp h
    refine bX6_takeBack_7 (of_decide_eq_true g2) (evX2_restore hq3) (by omega) ?_
    cases h
    exact bX6_takeBack_40

noncomputable def sX6_becomen11_0 (d : aI) (e : aJ)  : Option (Nat × aL × aI × aJ) := (bif ((decide (¬ (nI 0) < 0 ∧ ¬ (nI 0) < 0 ∧ ¬ (nI 1800) < 0 ∧ 0 + 1800 ≤ 1800 ∧ 0 + 1800 ≤ 1800))) then (some (100000, [], (uI (uI (uA d 12 (va_cpy (d 40) (d 12) 0 0 1800)) 11 1 ((uA d 12 (va_cpy (d 40) (d 12) 0 0 1800)) 39 1)) 11 2 ((uA d 12 (va_cpy (d 40) (d 12) 0 0 1800)) 39 2)), e)) else none)
theorem tX6_becomen11_0 {Γ : aG × Launch} {d dF : aI} {e eF : aJ}  {r : Option Value} {p : Nat × aL × aI × aJ} (h : sX6_becomen11_0 d e  = some p) (kc : Nat.beq p.1 100000 = false → Rn Γ (0) mX6_become p.1 p.2.1 [] p.2.2.1 p.2.2.2 r dF eF) (kr : p.1 = 100000 → r = a_rt p.2.1 ∧ dF = p.2.2.1 ∧ eF = p.2.2.2) : Rn Γ (0) mX6_become 0 [some (.ref 11), some (.ref 39)] [] d e r dF eF := by
  unfold sX6_becomen11_0 at h
  obtain ⟨g1, h⟩ := a_cond h
  refine bX6_becomen11_0 (of_decide_eq_true g1) ?_
  cases h
  obtain ⟨k1, k2, k3⟩ := kr rfl
  exact bX6_becomen11_16 k1 k2 k3

noncomputable def stX6_becomen11 (p : Nat × aL × aI × aJ) : Option (Nat × aL × aI × aJ) := match p with
  | (0, [some (.ref 11), some (.ref 39)], d, e) => sX6_becomen11_0 d e 
  | _ => none
theorem uX6_becomen11 {Γ : aG × Launch} {p p2 : Nat × aL × aI × aJ} {r : Option Value} {dF : aI} {eF : aJ} (h : stX6_becomen11 p = some p2) (kc : Nat.beq p2.1 100000 = false → Rn Γ (0) mX6_become p2.1 p2.2.1 [] p2.2.2.1 p2.2.2.2 r dF eF) (kr : p2.1 = 100000 → r = a_rt p2.2.1 ∧ dF = p2.2.2.1 ∧ eF = p2.2.2.2) : Rn Γ (0) mX6_become p.1 p.2.1 [] p.2.2.1 p.2.2.2 r dF eF := by
  unfold stX6_becomen11 at h
  split at h
  · exact tX6_becomen11_0 h kc kr
  · cases h
noncomputable def FX6_becomen11 (d : aI) (e : aJ)  : Option (Unit × aI × aJ) := (a_run (stX6_becomen11) (0, [some (.ref 11), some (.ref 39)], d, e)).bind a_xV
theorem evX6_becomen11 {Γ : aG × Launch} {d : aI} {e : aJ}  {q : Unit × aI × aJ} (h : FX6_becomen11 d e  = some q) : Ev Γ (0) mX6_become [.ref 11, .ref 39] d e none q.2.1 q.2.2 := by
  refine Ev.of (by decide) rfl (Nat.le_of_ble_eq_true rfl) (fun z => by cases z) ?_
  show Rn Γ (0) mX6_become 0 [some (.ref 11), some (.ref 39)] [] d e _ _ _
  obtain ⟨q1, h1, h2⟩ := Option.bind_eq_some_iff.mp h
  obtain ⟨e1, e2, e3⟩ := a_xV_rt h2
  exact Rn.cast (a_run_ok (uX6_becomen11) rfl h1) e1.symm e2.symm e3.symm
noncomputable def sX6_becomek11_0 (d : aI) (e : aJ)  : Option (Nat × aL × aI × aJ) := (bif ((decide (¬ (nI 0) < 0 ∧ ¬ (nI 0) < 0 ∧ ¬ (nI 1800) < 0 ∧ 0 + 1800 ≤ 1800 ∧ 0 + 1800 ≤ 1800))) then (some (100000, [], (uI (uI (uA d 40 (va_cpy (d 12) (d 40) 0 0 1800)) 39 1 ((uA d 40 (va_cpy (d 12) (d 40) 0 0 1800)) 11 1)) 39 2 ((uA d 40 (va_cpy (d 12) (d 40) 0 0 1800)) 11 2)), e)) else none)
theorem tX6_becomek11_0 {Γ : aG × Launch} {d dF : aI} {e eF : aJ}  {r : Option Value} {p : Nat × aL × aI × aJ} (h : sX6_becomek11_0 d e  = some p) (kc : Nat.beq p.1 100000 = false → Rn Γ (0) mX6_become p.1 p.2.1 [] p.2.2.1 p.2.2.2 r dF eF) (kr : p.1 = 100000 → r = a_rt p.2.1 ∧ dF = p.2.2.1 ∧ eF = p.2.2.2) : Rn Γ (0) mX6_become 0 [some (.ref 39), some (.ref 11)] [] d e r dF eF := by
  unfold sX6_becomek11_0 at h
  obtain ⟨g1, h⟩ := a_cond h
  refine bX6_becomek11_0 (of_decide_eq_true g1) ?_
  cases h
  obtain ⟨k1, k2, k3⟩ := kr rfl
  exact bX6_becomek11_16 k1 k2 k3

noncomputable def stX6_becomek11 (p : Nat × aL × aI × aJ) : Option (Nat × aL × aI × aJ) := match p with
  | (0, [some (.ref 39), some (.ref 11)], d, e) => sX6_becomek11_0 d e 
  | _ => none
theorem uX6_becomek11 {Γ : aG × Launch} {p p2 : Nat × aL × aI × aJ} {r : Option Value} {dF : aI} {eF : aJ} (h : stX6_becomek11 p = some p2) (kc : Nat.beq p2.1 100000 = false → Rn Γ (0) mX6_become p2.1 p2.2.1 [] p2.2.2.1 p2.2.2.2 r dF eF) (kr : p2.1 = 100000 → r = a_rt p2.2.1 ∧ dF = p2.2.2.1 ∧ eF = p2.2.2.2) : Rn Γ (0) mX6_become p.1 p.2.1 [] p.2.2.1 p.2.2.2 r dF eF := by
  unfold stX6_becomek11 at h
  split at h
  · exact tX6_becomek11_0 h kc kr
  · cases h
noncomputable def FX6_becomek11 (d : aI) (e : aJ)  : Option (Unit × aI × aJ) := (a_run (stX6_becomek11) (0, [some (.ref 39), some (.ref 11)], d, e)).bind a_xV
theorem evX6_becomek11 {Γ : aG × Launch} {d : aI} {e : aJ}  {q : Unit × aI × aJ} (h : FX6_becomek11 d e  = some q) : Ev Γ (0) mX6_become [.ref 39, .ref 11] d e none q.2.1 q.2.2 := by
  refine Ev.of (by decide) rfl (Nat.le_of_ble_eq_true rfl) (fun z => by cases z) ?_
  show Rn Γ (0) mX6_become 0 [some (.ref 39), some (.ref 11)] [] d e _ _ _
  obtain ⟨q1, h1, h2⟩ := Option.bind_eq_some_iff.mp h
  obtain ⟨e1, e2, e3⟩ := a_xV_rt h2
  exact Rn.cast (a_run_ok (uX6_becomek11) rfl h1) e1.symm e2.symm e3.symm
noncomputable def FX7_wipe (d : aI) (e : aJ)  : Option (Unit × aI × aJ) := (some ((), (uI (uI (uI (uI (uI (uI d 88 4 (nI 0)) 88 5 (nI 0)) 88 6 (-(nI 1))) 88 7 (-(nI 1))) 88 8 (-(nI 1))) 88 9 (-(nI 1))), e))
theorem evX7_wipe {Γ : aG × Launch} {d : aI} {e : aJ}  {q : Unit × aI × aJ} (h : FX7_wipe d e  = some q) : Ev Γ (0) mX7_wipe [.ref 88] d e none q.2.1 q.2.2 := by
  refine Ev.of (by decide) rfl (Nat.le_of_ble_eq_true rfl) (fun z => by cases z) ?_
  show Rn Γ (0) mX7_wipe 0 [some (.ref 88)] [] d e _ _ _
  unfold FX7_wipe at h
  cases h
  exact bX7_wipe_0

noncomputable def FX7_hasTakes (d : aI) (e : aJ) (o0 : Nat) : Option (Int32 × aI × aJ) := (bif (decide (o0 = 58 ∨ o0 = 63 ∨ o0 = 68 ∨ o0 = 73 ∨ o0 = 78 ∨ o0 = 88)) then (if (d o0 6) = (-(nI 1)) then (some ((nI 0), d, e)) else (some ((nI 1), d, e))) else none)
theorem evX7_hasTakes {Γ : aG × Launch} {d : aI} {e : aJ} {o0 : Nat} {q : Int32 × aI × aJ} (h : FX7_hasTakes d e o0 = some q) : Ev Γ (0) mX7_hasTakes [.ref o0] d e (some (.int q.1)) q.2.1 q.2.2 := by
  refine Ev.of (by decide) rfl (Nat.le_of_ble_eq_true rfl) (fun z => by cases z) ?_
  show Rn Γ (0) mX7_hasTakes 0 [some (.ref o0)] [] d e _ _ _
  unfold FX7_hasTakes at h
  obtain ⟨ho0x, h⟩ := a_cond h
  have ho0 := of_decide_eq_true ho0x
  refine a_ite h (fun c1 h => ?_) (fun c1 h => ?_)
  · refine bX7_hasTakes_0 ho0 (fun _ => ?_) (fun z => absurd c1 z)
    refine bX7_hasTakes_12 ?_
    cases h
    exact bX7_hasTakes_13 (a_nz (Or.inl rfl))
  · refine bX7_hasTakes_0 ho0 (fun z => absurd z c1) (fun _ => ?_)
    refine bX7_hasTakes_8 ?_
    cases h
    exact bX7_hasTakes_13 (a_nz (Or.inr rfl))

noncomputable def FX7_hasGoes (d : aI) (e : aJ) (o0 : Nat) : Option (Int32 × aI × aJ) := (bif (decide (o0 = 58 ∨ o0 = 63 ∨ o0 = 68 ∨ o0 = 73 ∨ o0 = 78 ∨ o0 = 88)) then (if (d o0 8) = (-(nI 1)) then (some ((nI 0), d, e)) else (some ((nI 1), d, e))) else none)
theorem evX7_hasGoes {Γ : aG × Launch} {d : aI} {e : aJ} {o0 : Nat} {q : Int32 × aI × aJ} (h : FX7_hasGoes d e o0 = some q) : Ev Γ (0) mX7_hasGoes [.ref o0] d e (some (.int q.1)) q.2.1 q.2.2 := by
  refine Ev.of (by decide) rfl (Nat.le_of_ble_eq_true rfl) (fun z => by cases z) ?_
  show Rn Γ (0) mX7_hasGoes 0 [some (.ref o0)] [] d e _ _ _
  unfold FX7_hasGoes at h
  obtain ⟨ho0x, h⟩ := a_cond h
  have ho0 := of_decide_eq_true ho0x
  refine a_ite h (fun c1 h => ?_) (fun c1 h => ?_)
  · refine bX7_hasGoes_0 ho0 (fun _ => ?_) (fun z => absurd c1 z)
    refine bX7_hasGoes_12 ?_
    cases h
    exact bX7_hasGoes_13 (a_nz (Or.inl rfl))
  · refine bX7_hasGoes_0 ho0 (fun z => absurd z c1) (fun _ => ?_)
    refine bX7_hasGoes_8 ?_
    cases h
    exact bX7_hasGoes_13 (a_nz (Or.inr rfl))

noncomputable def FX7_add (d : aI) (e : aJ) (x1 : Int32) (x2 : Int32) (x3 : Int32) : Option (Unit × aI × aJ) := (if (nI 24) ≤ (d 88 4) then (some ((), d, e)) else (bif ((a_inb (d 88 4) 24) && (a_inb (d 88 4) 24) && (a_inb (d 88 4) 24)) then (some ((), (uI (uI (uI (uI d 89 ((d 88 4)).toNatClampNeg x1) 90 ((d 88 4)).toNatClampNeg x2) 91 ((d 88 4)).toNatClampNeg x3) 88 4 ((d 88 4) + (nI 1))), e)) else none))
theorem evX7_add {Γ : aG × Launch} {d : aI} {e : aJ} {x1 : Int32} {x2 : Int32} {x3 : Int32} {q : Unit × aI × aJ} (h : FX7_add d e x1 x2 x3 = some q) : Ev Γ (0) mX7_add [.ref 88, .int x1, .int x2, .int x3] d e none q.2.1 q.2.2 := by
  refine Ev.of (by decide) rfl (Nat.le_of_ble_eq_true rfl) (fun z => by cases z) ?_
  show Rn Γ (0) mX7_add 0 [some (.ref 88), some (.int x1), some (.int x2), some (.int x3)] [] d e _ _ _
  unfold FX7_add at h
  refine a_ite h (fun c1 h => ?_) (fun c1 h => ?_)
  · refine bX7_add_0 (fun _ => ?_) (fun z => absurd c1 z)
    cases h
    exact bX7_add_49
  · refine bX7_add_0 (fun z => absurd z c1) (fun _ => ?_)
    obtain ⟨g2, h⟩ := a_cond h
    obtain ⟨g2x2, g2_2⟩ := a_and g2
    obtain ⟨g2x1, g2_1⟩ := a_and g2x2
    have g2_0 := g2x1
    refine bX7_add_9 ⟨(a_inb_vp g2_0), (a_inb_vp g2_1), (a_inb_vp g2_2)⟩ ?_
    cases h
    exact bX7_add_49

noncomputable def FX7_put (d : aI) (e : aJ) (x1 : Int32) : Option (Int32 × aI × aJ) := (if (nI 300) ≤ (d 88 5) then (some (((d 88 5) - (nI 1)), d, e)) else (bif ((a_inb (d 88 5) 300)) then (some ((((uI (uI d 92 ((d 88 5)).toNatClampNeg x1) 88 5 ((d 88 5) + (nI 1))) 88 5) - (nI 1)), (uI (uI d 92 ((d 88 5)).toNatClampNeg x1) 88 5 ((d 88 5) + (nI 1))), e)) else none))
theorem evX7_put {Γ : aG × Launch} {d : aI} {e : aJ} {x1 : Int32} {q : Int32 × aI × aJ} (h : FX7_put d e x1 = some q) : Ev Γ (0) mX7_put [.ref 88, .int x1] d e (some (.int q.1)) q.2.1 q.2.2 := by
  refine Ev.of (by decide) rfl (Nat.le_of_ble_eq_true rfl) (fun z => by cases z) ?_
  show Rn Γ (0) mX7_put 0 [some (.ref 88), some (.int x1)] [] d e _ _ _
  unfold FX7_put at h
  refine a_ite h (fun c1 h => ?_) (fun c1 h => ?_)
  · refine bX7_put_0 (fun _ => ?_) (fun z => absurd c1 z)
    cases h
    exact bX7_put_30
  · refine bX7_put_0 (fun z => absurd z c1) (fun _ => ?_)
    obtain ⟨g2, h⟩ := a_cond h
    refine bX7_put_10 (a_inb_vp g2) ?_
    cases h
    exact bX7_put_30

noncomputable def FX7_land (d : aI) (e : aJ) (x1 : Int32) : Option (Unit × aI × aJ) := (if x1 < 0 then (some ((), d, e)) else (if (nI 300) ≤ x1 then (some ((), d, e)) else (bif ((a_inb x1 300)) then (some ((), (uI d 92 (x1).toNatClampNeg (d 88 5)), e)) else none)))
theorem evX7_land {Γ : aG × Launch} {d : aI} {e : aJ} {x1 : Int32} {q : Unit × aI × aJ} (h : FX7_land d e x1 = some q) : Ev Γ (0) mX7_land [.ref 88, .int x1] d e none q.2.1 q.2.2 := by
  refine Ev.of (by decide) rfl (Nat.le_of_ble_eq_true rfl) (fun z => by cases z) ?_
  show Rn Γ (0) mX7_land 0 [some (.ref 88), some (.int x1)] [] d e _ _ _
  unfold FX7_land at h
  refine a_ite h (fun c1 h => ?_) (fun c1 h => ?_)
  · refine bX7_land_0 (fun _ => ?_) (fun z => absurd c1 z)
    cases h
    exact bX7_land_21
  · refine bX7_land_0 (fun z => absurd z c1) (fun _ => ?_)
    refine a_ite h (fun c2 h => ?_) (fun c2 h => ?_)
    · refine bX7_land_4 (fun _ => ?_) (fun z => absurd c2 z)
      cases h
      exact bX7_land_21
    · refine bX7_land_4 (fun z => absurd z c2) (fun _ => ?_)
      obtain ⟨g3, h⟩ := a_cond h
      refine bX7_land_11 (a_inb_vp g3) ?_
      cases h
      exact bX7_land_21

noncomputable def sX7_become_0 (d : aI) (e : aJ) (o0 : Nat) : Option (Nat × aL × aI × aJ) := (bif (decide (o0 = 58 ∨ o0 = 63 ∨ o0 = 68 ∨ o0 = 73)) then (bif ((decide (¬ (nI 0) < 0 ∧ ¬ (nI 0) < 0 ∧ ¬ (nI 24) < 0 ∧ 0 + 24 ≤ 24 ∧ 0 + 24 ≤ 24))) then (some (15, [some (.ref o0), some (.ref 88)], (uA d (o0 + 1) (va_cpy (d 89) (d (o0 + 1)) 0 0 24)), e)) else none) else none)
theorem tX7_become_0 {Γ : aG × Launch} {d dF : aI} {e eF : aJ} {o0 : Nat} {r : Option Value} {p : Nat × aL × aI × aJ} (h : sX7_become_0 d e o0 = some p) (kc : Nat.beq p.1 100000 = false → Rn Γ (0) mX7_become p.1 p.2.1 [] p.2.2.1 p.2.2.2 r dF eF) (kr : p.1 = 100000 → r = a_rt p.2.1 ∧ dF = p.2.2.1 ∧ eF = p.2.2.2) : Rn Γ (0) mX7_become 0 [some (.ref o0), some (.ref 88)] [] d e r dF eF := by
  unfold sX7_become_0 at h
  obtain ⟨ho0x, h⟩ := a_cond h
  have ho0 := of_decide_eq_true ho0x
  obtain ⟨g1, h⟩ := a_cond h
  refine bX7_become_0 ho0 (of_decide_eq_true g1) ?_
  cases h
  exact kc rfl

noncomputable def sX7_become_15 (d : aI) (e : aJ) (o0 : Nat) : Option (Nat × aL × aI × aJ) := (bif (decide (o0 = 58 ∨ o0 = 63 ∨ o0 = 68 ∨ o0 = 73)) then (bif ((decide (¬ (nI 0) < 0 ∧ ¬ (nI 0) < 0 ∧ ¬ (nI 24) < 0 ∧ 0 + 24 ≤ 24 ∧ 0 + 24 ≤ 24))) then (some (30, [some (.ref o0), some (.ref 88)], (uA d (o0 + 2) (va_cpy (d 90) (d (o0 + 2)) 0 0 24)), e)) else none) else none)
theorem tX7_become_15 {Γ : aG × Launch} {d dF : aI} {e eF : aJ} {o0 : Nat} {r : Option Value} {p : Nat × aL × aI × aJ} (h : sX7_become_15 d e o0 = some p) (kc : Nat.beq p.1 100000 = false → Rn Γ (0) mX7_become p.1 p.2.1 [] p.2.2.1 p.2.2.2 r dF eF) (kr : p.1 = 100000 → r = a_rt p.2.1 ∧ dF = p.2.2.1 ∧ eF = p.2.2.2) : Rn Γ (0) mX7_become 15 [some (.ref o0), some (.ref 88)] [] d e r dF eF := by
  unfold sX7_become_15 at h
  obtain ⟨ho0x, h⟩ := a_cond h
  have ho0 := of_decide_eq_true ho0x
  obtain ⟨g1, h⟩ := a_cond h
  refine bX7_become_15 ho0 (of_decide_eq_true g1) ?_
  cases h
  exact kc rfl

noncomputable def sX7_become_30 (d : aI) (e : aJ) (o0 : Nat) : Option (Nat × aL × aI × aJ) := (bif (decide (o0 = 58 ∨ o0 = 63 ∨ o0 = 68 ∨ o0 = 73)) then (bif ((decide (¬ (nI 0) < 0 ∧ ¬ (nI 0) < 0 ∧ ¬ (nI 24) < 0 ∧ 0 + 24 ≤ 24 ∧ 0 + 24 ≤ 24))) then (some (45, [some (.ref o0), some (.ref 88)], (uA d (o0 + 3) (va_cpy (d 91) (d (o0 + 3)) 0 0 24)), e)) else none) else none)
theorem tX7_become_30 {Γ : aG × Launch} {d dF : aI} {e eF : aJ} {o0 : Nat} {r : Option Value} {p : Nat × aL × aI × aJ} (h : sX7_become_30 d e o0 = some p) (kc : Nat.beq p.1 100000 = false → Rn Γ (0) mX7_become p.1 p.2.1 [] p.2.2.1 p.2.2.2 r dF eF) (kr : p.1 = 100000 → r = a_rt p.2.1 ∧ dF = p.2.2.1 ∧ eF = p.2.2.2) : Rn Γ (0) mX7_become 30 [some (.ref o0), some (.ref 88)] [] d e r dF eF := by
  unfold sX7_become_30 at h
  obtain ⟨ho0x, h⟩ := a_cond h
  have ho0 := of_decide_eq_true ho0x
  obtain ⟨g1, h⟩ := a_cond h
  refine bX7_become_30 ho0 (of_decide_eq_true g1) ?_
  cases h
  exact kc rfl

noncomputable def sX7_become_45 (d : aI) (e : aJ) (o0 : Nat) : Option (Nat × aL × aI × aJ) := (bif (decide (o0 = 58 ∨ o0 = 63 ∨ o0 = 68 ∨ o0 = 73)) then (bif ((decide (¬ (nI 0) < 0 ∧ ¬ (nI 0) < 0 ∧ ¬ (nI 300) < 0 ∧ 0 + 300 ≤ 300 ∧ 0 + 300 ≤ 300))) then (some (61, [some (.ref o0), some (.ref 88)], (uA d (o0 + 4) (va_cpy (d 92) (d (o0 + 4)) 0 0 300)), e)) else none) else none)
theorem tX7_become_45 {Γ : aG × Launch} {d dF : aI} {e eF : aJ} {o0 : Nat} {r : Option Value} {p : Nat × aL × aI × aJ} (h : sX7_become_45 d e o0 = some p) (kc : Nat.beq p.1 100000 = false → Rn Γ (0) mX7_become p.1 p.2.1 [] p.2.2.1 p.2.2.2 r dF eF) (kr : p.1 = 100000 → r = a_rt p.2.1 ∧ dF = p.2.2.1 ∧ eF = p.2.2.2) : Rn Γ (0) mX7_become 45 [some (.ref o0), some (.ref 88)] [] d e r dF eF := by
  unfold sX7_become_45 at h
  obtain ⟨ho0x, h⟩ := a_cond h
  have ho0 := of_decide_eq_true ho0x
  obtain ⟨g1, h⟩ := a_cond h
  refine bX7_become_45 ho0 (of_decide_eq_true g1) ?_
  cases h
  exact kc rfl

noncomputable def sX7_become_61 (d : aI) (e : aJ) (o0 : Nat) : Option (Nat × aL × aI × aJ) := (bif (decide (o0 = 58 ∨ o0 = 63 ∨ o0 = 68 ∨ o0 = 73)) then (some (100000, [], (uI (uI (uI (uI (uI (uI d o0 4 (d 88 4)) o0 5 ((uI d o0 4 (d 88 4)) 88 5)) o0 6 ((uI (uI d o0 4 (d 88 4)) o0 5 ((uI d o0 4 (d 88 4)) 88 5)) 88 6)) o0 7 ((uI (uI (uI d o0 4 (d 88 4)) o0 5 ((uI d o0 4 (d 88 4)) 88 5)) o0 6 ((uI (uI d o0 4 (d 88 4)) o0 5 ((uI d o0 4 (d 88 4)) 88 5)) 88 6)) 88 7)) o0 8 ((uI (uI (uI (uI d o0 4 (d 88 4)) o0 5 ((uI d o0 4 (d 88 4)) 88 5)) o0 6 ((uI (uI d o0 4 (d 88 4)) o0 5 ((uI d o0 4 (d 88 4)) 88 5)) 88 6)) o0 7 ((uI (uI (uI d o0 4 (d 88 4)) o0 5 ((uI d o0 4 (d 88 4)) 88 5)) o0 6 ((uI (uI d o0 4 (d 88 4)) o0 5 ((uI d o0 4 (d 88 4)) 88 5)) 88 6)) 88 7)) 88 8)) o0 9 ((uI (uI (uI (uI (uI d o0 4 (d 88 4)) o0 5 ((uI d o0 4 (d 88 4)) 88 5)) o0 6 ((uI (uI d o0 4 (d 88 4)) o0 5 ((uI d o0 4 (d 88 4)) 88 5)) 88 6)) o0 7 ((uI (uI (uI d o0 4 (d 88 4)) o0 5 ((uI d o0 4 (d 88 4)) 88 5)) o0 6 ((uI (uI d o0 4 (d 88 4)) o0 5 ((uI d o0 4 (d 88 4)) 88 5)) 88 6)) 88 7)) o0 8 ((uI (uI (uI (uI d o0 4 (d 88 4)) o0 5 ((uI d o0 4 (d 88 4)) 88 5)) o0 6 ((uI (uI d o0 4 (d 88 4)) o0 5 ((uI d o0 4 (d 88 4)) 88 5)) 88 6)) o0 7 ((uI (uI (uI d o0 4 (d 88 4)) o0 5 ((uI d o0 4 (d 88 4)) 88 5)) o0 6 ((uI (uI d o0 4 (d 88 4)) o0 5 ((uI d o0 4 (d 88 4)) 88 5)) 88 6)) 88 7)) 88 8)) 88 9)), e)) else none)
theorem tX7_become_61 {Γ : aG × Launch} {d dF : aI} {e eF : aJ} {o0 : Nat} {r : Option Value} {p : Nat × aL × aI × aJ} (h : sX7_become_61 d e o0 = some p) (kc : Nat.beq p.1 100000 = false → Rn Γ (0) mX7_become p.1 p.2.1 [] p.2.2.1 p.2.2.2 r dF eF) (kr : p.1 = 100000 → r = a_rt p.2.1 ∧ dF = p.2.2.1 ∧ eF = p.2.2.2) : Rn Γ (0) mX7_become 61 [some (.ref o0), some (.ref 88)] [] d e r dF eF := by
  unfold sX7_become_61 at h
  obtain ⟨ho0x, h⟩ := a_cond h
  have ho0 := of_decide_eq_true ho0x
  cases h
  obtain ⟨k1, k2, k3⟩ := kr rfl
  exact bX7_become_61 ho0 k1 k2 k3

noncomputable def stX7_become (p : Nat × aL × aI × aJ) : Option (Nat × aL × aI × aJ) := match p with
  | (0, [some (.ref o0), some (.ref 88)], d, e) => sX7_become_0 d e o0
  | (15, [some (.ref o0), some (.ref 88)], d, e) => sX7_become_15 d e o0
  | (30, [some (.ref o0), some (.ref 88)], d, e) => sX7_become_30 d e o0
  | (45, [some (.ref o0), some (.ref 88)], d, e) => sX7_become_45 d e o0
  | (61, [some (.ref o0), some (.ref 88)], d, e) => sX7_become_61 d e o0
  | _ => none
theorem uX7_become {Γ : aG × Launch} {p p2 : Nat × aL × aI × aJ} {r : Option Value} {dF : aI} {eF : aJ} (h : stX7_become p = some p2) (kc : Nat.beq p2.1 100000 = false → Rn Γ (0) mX7_become p2.1 p2.2.1 [] p2.2.2.1 p2.2.2.2 r dF eF) (kr : p2.1 = 100000 → r = a_rt p2.2.1 ∧ dF = p2.2.2.1 ∧ eF = p2.2.2.2) : Rn Γ (0) mX7_become p.1 p.2.1 [] p.2.2.1 p.2.2.2 r dF eF := by
  unfold stX7_become at h
  split at h
  · exact tX7_become_0 h kc kr
  · exact tX7_become_15 h kc kr
  · exact tX7_become_30 h kc kr
  · exact tX7_become_45 h kc kr
  · exact tX7_become_61 h kc kr
  · cases h
noncomputable def FX7_become (d : aI) (e : aJ) (o0 : Nat) : Option (Unit × aI × aJ) := (a_run (stX7_become) (0, [some (.ref o0), some (.ref 88)], d, e)).bind a_xV
theorem evX7_become {Γ : aG × Launch} {d : aI} {e : aJ} {o0 : Nat} {q : Unit × aI × aJ} (h : FX7_become d e o0 = some q) : Ev Γ (0) mX7_become [.ref o0, .ref 88] d e none q.2.1 q.2.2 := by
  refine Ev.of (by decide) rfl (Nat.le_of_ble_eq_true rfl) (fun z => by cases z) ?_
  show Rn Γ (0) mX7_become 0 [some (.ref o0), some (.ref 88)] [] d e _ _ _
  obtain ⟨q1, h1, h2⟩ := Option.bind_eq_some_iff.mp h
  obtain ⟨e1, e2, e3⟩ := a_xV_rt h2
  exact Rn.cast (a_run_ok (uX7_become) rfl h1) e1.symm e2.symm e3.symm
noncomputable def sX8_assign_0 (Fo : aI → aJ → Int32 → Int32 → Int32 → Int32 → Option (Int32 × aI × aJ)) (d : aI) (e : aJ) (x1 : Int32) (x2 : Int32) (x3 : Int32) (x4 : Int32) : Option (Nat × aL × aI × aJ) := (if x1 < x2 then (some (10, [some (.ref 99), some (.int x1), some (.int x2), some (.int x3), some (.int x4), some (.int (nI 0))], d, e)) else (some (100000, [some (.int (nI 1))], d, e)))
theorem tX8_assign_0 {Γ : aG × Launch} {Fo : aI → aJ → Int32 → Int32 → Int32 → Int32 → Option (Int32 × aI × aJ)} {dc : Nat} (hFo : ∀ {d : aI} {e : aJ} {z0 z1 z2 z3 : Int32} {q : Int32 × aI × aJ}, Fo d e z0 z1 z2 z3 = some q → Ev Γ dc mX8_assign [.ref 99, .int z0, .int z1, .int z2, .int z3] d e (some (.int q.1)) q.2.1 q.2.2) {d dF : aI} {e eF : aJ} {x1 : Int32} {x2 : Int32} {x3 : Int32} {x4 : Int32} {r : Option Value} {p : Nat × aL × aI × aJ} (h : sX8_assign_0 Fo d e x1 x2 x3 x4 = some p) (kc : Nat.beq p.1 100000 = false → Rn Γ (dc + 1) mX8_assign p.1 p.2.1 [] p.2.2.1 p.2.2.2 r dF eF) (kr : p.1 = 100000 → r = a_rt p.2.1 ∧ dF = p.2.2.1 ∧ eF = p.2.2.2) : Rn Γ (dc + 1) mX8_assign 0 [some (.ref 99), some (.int x1), some (.int x2), some (.int x3), some (.int x4), none] [] d e r dF eF := by
  unfold sX8_assign_0 at h
  refine a_ite h (fun c1 h => ?_) (fun c1 h => ?_)
  · refine bX8_assign_0 (fun _ => ?_) (fun z => absurd c1 z)
    refine bX8_assign_7 ?_
    cases h
    exact kc rfl
  · refine bX8_assign_0 (fun z => absurd z c1) (fun _ => ?_)
    cases h
    obtain ⟨k1, k2, k3⟩ := kr rfl
    exact bX8_assign_5 k1 k2 k3

noncomputable def sX8_assign_10 (Fo : aI → aJ → Int32 → Int32 → Int32 → Int32 → Option (Int32 × aI × aJ)) (d : aI) (e : aJ) (x1 : Int32) (x2 : Int32) (x3 : Int32) (x4 : Int32) (x5 : Int32) : Option (Nat × aL × aI × aJ) := (if x3 < x5 then (some (100000, [some (.int (nI 0))], d, e)) else (if x4 ≤ x5 then (some (100000, [some (.int (nI 0))], d, e)) else (bif ((a_inb x5 10) && (a_inb x1 10)) then (if ((d 102 (x5).toNatClampNeg) &&& ((d 101 (x1).toNatClampNeg) ^^^ (-(nI 1)))) = 0 then (bif ((a_inb x1 10) && (a_inb x5 10) && (a_inb x5 10)) then ((Fo (uI (uI d 100 (x1).toNatClampNeg x5) 102 (x5).toNatClampNeg ((d 102 (x5).toNatClampNeg) ||| (a_shl (nI 1) x1))) e (x1 + (nI 1)) x2 (a_max x3 (x5 + (nI 1))) x4).bind fun q6 => (if q6.1 = 0 then (bif ((a_inb x5 10) && (a_inb x5 10)) then (some (10, [some (.ref 99), some (.int x1), some (.int x2), some (.int x3), some (.int x4), some (.int (x5 + (nI 1)))], (uI q6.2.1 102 (x5).toNatClampNeg ((q6.2.1 102 (x5).toNatClampNeg) &&& ((a_shl (nI 1) x1) ^^^ (-(nI 1))))), q6.2.2)) else none) else (some (100000, [some (.int (nI 1))], q6.2.1, q6.2.2)))) else none) else (some (10, [some (.ref 99), some (.int x1), some (.int x2), some (.int x3), some (.int x4), some (.int (x5 + (nI 1)))], d, e))) else none)))
theorem tX8_assign_10 {Γ : aG × Launch} {Fo : aI → aJ → Int32 → Int32 → Int32 → Int32 → Option (Int32 × aI × aJ)} {dc : Nat} (hFo : ∀ {d : aI} {e : aJ} {z0 z1 z2 z3 : Int32} {q : Int32 × aI × aJ}, Fo d e z0 z1 z2 z3 = some q → Ev Γ dc mX8_assign [.ref 99, .int z0, .int z1, .int z2, .int z3] d e (some (.int q.1)) q.2.1 q.2.2) {d dF : aI} {e eF : aJ} {x1 : Int32} {x2 : Int32} {x3 : Int32} {x4 : Int32} {x5 : Int32} {r : Option Value} {p : Nat × aL × aI × aJ} (h : sX8_assign_10 Fo d e x1 x2 x3 x4 x5 = some p) (kc : Nat.beq p.1 100000 = false → Rn Γ (dc + 1) mX8_assign p.1 p.2.1 [] p.2.2.1 p.2.2.2 r dF eF) (kr : p.1 = 100000 → r = a_rt p.2.1 ∧ dF = p.2.2.1 ∧ eF = p.2.2.2) : Rn Γ (dc + 1) mX8_assign 10 [some (.ref 99), some (.int x1), some (.int x2), some (.int x3), some (.int x4), some (.int x5)] [] d e r dF eF := by
  unfold sX8_assign_10 at h
  refine a_ite h (fun c1 h => ?_) (fun c1 h => ?_)
  · refine bX8_assign_10 (fun _ => ?_) (fun z => absurd c1 z)
    cases h
    obtain ⟨k1, k2, k3⟩ := kr rfl
    exact bX8_assign_107 k1 k2 k3
  · refine bX8_assign_10 (fun z => absurd z c1) (fun _ => ?_)
    refine a_ite h (fun c2 h => ?_) (fun c2 h => ?_)
    · refine bX8_assign_16 (fun _ => ?_) (fun z => absurd c2 z)
      cases h
      obtain ⟨k1, k2, k3⟩ := kr rfl
      exact bX8_assign_107 k1 k2 k3
    · refine bX8_assign_16 (fun z => absurd z c2) (fun _ => ?_)
      obtain ⟨g3, h⟩ := a_cond h
      obtain ⟨g3x1, g3_1⟩ := a_and g3
      have g3_0 := g3x1
      refine a_ite h (fun c4 h => ?_) (fun c4 h => ?_)
      · refine bX8_assign_23 ⟨(a_inb_vp g3_0), (a_inb_vp g3_1)⟩ (fun z => absurd c4 z) (fun _ => ?_)
        obtain ⟨g5, h⟩ := a_cond h
        obtain ⟨g5x2, g5_2⟩ := a_and g5
        obtain ⟨g5x1, g5_1⟩ := a_and g5x2
        have g5_0 := g5x1
        obtain ⟨q6, hq6, h⟩ := Option.bind_eq_some_iff.mp h
        refine bX8_assign_42 ⟨(a_inb_vp g5_0), (a_inb_vp g5_1), (a_inb_vp g5_2)⟩ (hFo hq6) (by omega) ?_
        refine a_ite h (fun c7 h => ?_) (fun c7 h => ?_)
        · refine bX8_assign_81 (fun _ => ?_) (fun z => absurd c7 z)
          obtain ⟨g8, h⟩ := a_cond h
          obtain ⟨g8x1, g8_1⟩ := a_and g8
          have g8_0 := g8x1
          refine bX8_assign_86 ⟨(a_inb_vp g8_0), (a_inb_vp g8_1)⟩ ?_
          refine bX8_assign_101 ?_
          cases h
          exact kc rfl
        · refine bX8_assign_81 (fun z => absurd z c7) (fun _ => ?_)
          cases h
          obtain ⟨k1, k2, k3⟩ := kr rfl
          exact bX8_assign_84 k1 k2 k3
      · refine bX8_assign_23 ⟨(a_inb_vp g3_0), (a_inb_vp g3_1)⟩ (fun _ => ?_) (fun z => absurd z c4)
        refine bX8_assign_101 ?_
        cases h
        exact kc rfl

noncomputable def stX8_assign (Fo : aI → aJ → Int32 → Int32 → Int32 → Int32 → Option (Int32 × aI × aJ)) (p : Nat × aL × aI × aJ) : Option (Nat × aL × aI × aJ) := match p with
  | (0, [some (.ref 99), some (.int x1), some (.int x2), some (.int x3), some (.int x4), none], d, e) => sX8_assign_0 Fo d e x1 x2 x3 x4
  | (10, [some (.ref 99), some (.int x1), some (.int x2), some (.int x3), some (.int x4), some (.int x5)], d, e) => sX8_assign_10 Fo d e x1 x2 x3 x4 x5
  | _ => none
theorem uX8_assign {Γ : aG × Launch} {Fo : aI → aJ → Int32 → Int32 → Int32 → Int32 → Option (Int32 × aI × aJ)} {dc : Nat} (hFo : ∀ {d : aI} {e : aJ} {z0 z1 z2 z3 : Int32} {q : Int32 × aI × aJ}, Fo d e z0 z1 z2 z3 = some q → Ev Γ dc mX8_assign [.ref 99, .int z0, .int z1, .int z2, .int z3] d e (some (.int q.1)) q.2.1 q.2.2) {p p2 : Nat × aL × aI × aJ} {r : Option Value} {dF : aI} {eF : aJ} (h : stX8_assign Fo p = some p2) (kc : Nat.beq p2.1 100000 = false → Rn Γ (dc + 1) mX8_assign p2.1 p2.2.1 [] p2.2.2.1 p2.2.2.2 r dF eF) (kr : p2.1 = 100000 → r = a_rt p2.2.1 ∧ dF = p2.2.2.1 ∧ eF = p2.2.2.2) : Rn Γ (dc + 1) mX8_assign p.1 p.2.1 [] p.2.2.1 p.2.2.2 r dF eF := by
  unfold stX8_assign at h
  split at h
  · exact tX8_assign_0 hFo h kc kr
  · exact tX8_assign_10 hFo h kc kr
  · cases h
noncomputable def FX8_assignB (Fo : aI → aJ → Int32 → Int32 → Int32 → Int32 → Option (Int32 × aI × aJ)) (d : aI) (e : aJ) (x1 : Int32) (x2 : Int32) (x3 : Int32) (x4 : Int32) : Option (Int32 × aI × aJ) := (a_run (stX8_assign Fo) (0, [some (.ref 99), some (.int x1), some (.int x2), some (.int x3), some (.int x4), none], d, e)).bind a_xI
theorem evX8_assignB {Γ : aG × Launch} {Fo : aI → aJ → Int32 → Int32 → Int32 → Int32 → Option (Int32 × aI × aJ)} {dc : Nat} (hFo : ∀ {d : aI} {e : aJ} {z0 z1 z2 z3 : Int32} {q : Int32 × aI × aJ}, Fo d e z0 z1 z2 z3 = some q → Ev Γ dc mX8_assign [.ref 99, .int z0, .int z1, .int z2, .int z3] d e (some (.int q.1)) q.2.1 q.2.2) {d : aI} {e : aJ} {x1 : Int32} {x2 : Int32} {x3 : Int32} {x4 : Int32} {q : Int32 × aI × aJ} (h : FX8_assignB Fo d e x1 x2 x3 x4 = some q) : Ev Γ (dc + 1) mX8_assign [.ref 99, .int x1, .int x2, .int x3, .int x4] d e (some (.int q.1)) q.2.1 q.2.2 := by
  refine Ev.of (by decide) rfl (Nat.le_of_ble_eq_true rfl) (fun z => by cases z) ?_
  show Rn Γ (dc + 1) mX8_assign 0 [some (.ref 99), some (.int x1), some (.int x2), some (.int x3), some (.int x4), none] [] d e _ _ _
  obtain ⟨q1, h1, h2⟩ := Option.bind_eq_some_iff.mp h
  obtain ⟨e1, e2, e3⟩ := a_xI_rt h2
  exact Rn.cast (a_run_ok (uX8_assign hFo) rfl h1) e1.symm e2.symm e3.symm
noncomputable def FX8_assign : Nat → aI → aJ → Int32 → Int32 → Int32 → Int32 → Option (Int32 × aI × aJ)
  | 0 => fun _ _ _ _ _ _ => none
  | n + 1 => FX8_assignB (FX8_assign n)
theorem evX8_assign {Γ : aG × Launch} : ∀ (n : Nat) {d : aI} {e : aJ} {x1 : Int32} {x2 : Int32} {x3 : Int32} {x4 : Int32} {q : Int32 × aI × aJ}, FX8_assign n d e x1 x2 x3 x4 = some q → Ev Γ (n * 1) mX8_assign [.ref 99, .int x1, .int x2, .int x3, .int x4] d e (some (.int q.1)) q.2.1 q.2.2
  | 0, _, _, _, _, _, _, _, h => by cases h
  | n + 1, _, _, _, _, _, _, _, h => by
    have h1 := evX8_assignB (Γ := Γ) (dc := n * 1) (fun {d e z0 z1 z2 z3 q} hz => evX8_assign n hz) h
    rw [Nat.succ_mul]
    exact h1
noncomputable def sX9_becomen1_0 (d : aI) (e : aJ)  : Option (Nat × aL × aI × aJ) := ((FX2_becomen2 d e).bind fun q1 => ((FX6_becomen11 q1.2.1 q1.2.2).bind fun q2 => ((FX3_becomen13 q2.2.1 q2.2.2).bind fun q3 => ((FX3_becomen17 q3.2.1 q3.2.2).bind fun q4 => ((FX3_becomen21 q4.2.1 q4.2.2).bind fun q5 => ((FX3_becomen25 q5.2.1 q5.2.2).bind fun q6 => (some (100000, [], (uI (uI q6.2.1 1 6 (q6.2.1 29 6)) 1 7 (q6.2.1 29 7)), q6.2.2))))))))
theorem tX9_becomen1_0 {Γ : aG × Launch} {d dF : aI} {e eF : aJ}  {r : Option Value} {p : Nat × aL × aI × aJ} (h : sX9_becomen1_0 d e  = some p) (kc : Nat.beq p.1 100000 = false → Rn Γ (1) mX9_become p.1 p.2.1 [] p.2.2.1 p.2.2.2 r dF eF) (kr : p.1 = 100000 → r = a_rt p.2.1 ∧ dF = p.2.2.1 ∧ eF = p.2.2.2) : Rn Γ (1) mX9_become 0 [some (.ref 1), some (.ref 29)] [] d e r dF eF := by
  unfold sX9_becomen1_0 at h
  obtain ⟨q1, hq1, h⟩ := Option.bind_eq_some_iff.mp h
  refine bX9_becomen1_0 (evX2_becomen2 hq1) (by omega) ?_
  obtain ⟨q2, hq2, h⟩ := Option.bind_eq_some_iff.mp h
  refine bX9_becomen1_11 (evX6_becomen11 hq2) (by omega) ?_
  obtain ⟨q3, hq3, h⟩ := Option.bind_eq_some_iff.mp h
  refine bX9_becomen1_22 (evX3_becomen13 hq3) (by omega) ?_
  obtain ⟨q4, hq4, h⟩ := Option.bind_eq_some_iff.mp h
  refine bX9_becomen1_33 (evX3_becomen17 hq4) (by omega) ?_
  obtain ⟨q5, hq5, h⟩ := Option.bind_eq_some_iff.mp h
  refine bX9_becomen1_44 (evX3_becomen21 hq5) (by omega) ?_
  obtain ⟨q6, hq6, h⟩ := Option.bind_eq_some_iff.mp h
  refine bX9_becomen1_55 (evX3_becomen25 hq6) (by omega) ?_
  cases h
  obtain ⟨k1, k2, k3⟩ := kr rfl
  exact bX9_becomen1_66 k1 k2 k3

noncomputable def stX9_becomen1 (p : Nat × aL × aI × aJ) : Option (Nat × aL × aI × aJ) := match p with
  | (0, [some (.ref 1), some (.ref 29)], d, e) => sX9_becomen1_0 d e 
  | _ => none
theorem uX9_becomen1 {Γ : aG × Launch} {p p2 : Nat × aL × aI × aJ} {r : Option Value} {dF : aI} {eF : aJ} (h : stX9_becomen1 p = some p2) (kc : Nat.beq p2.1 100000 = false → Rn Γ (1) mX9_become p2.1 p2.2.1 [] p2.2.2.1 p2.2.2.2 r dF eF) (kr : p2.1 = 100000 → r = a_rt p2.2.1 ∧ dF = p2.2.2.1 ∧ eF = p2.2.2.2) : Rn Γ (1) mX9_become p.1 p.2.1 [] p.2.2.1 p.2.2.2 r dF eF := by
  unfold stX9_becomen1 at h
  split at h
  · exact tX9_becomen1_0 h kc kr
  · cases h
noncomputable def FX9_becomen1 (d : aI) (e : aJ)  : Option (Unit × aI × aJ) := (a_run (stX9_becomen1) (0, [some (.ref 1), some (.ref 29)], d, e)).bind a_xV
theorem evX9_becomen1 {Γ : aG × Launch} {d : aI} {e : aJ}  {q : Unit × aI × aJ} (h : FX9_becomen1 d e  = some q) : Ev Γ (1) mX9_become [.ref 1, .ref 29] d e none q.2.1 q.2.2 := by
  refine Ev.of (by decide) rfl (Nat.le_of_ble_eq_true rfl) (fun z => by cases z) ?_
  show Rn Γ (1) mX9_become 0 [some (.ref 1), some (.ref 29)] [] d e _ _ _
  obtain ⟨q1, h1, h2⟩ := Option.bind_eq_some_iff.mp h
  obtain ⟨e1, e2, e3⟩ := a_xV_rt h2
  exact Rn.cast (a_run_ok (uX9_becomen1) rfl h1) e1.symm e2.symm e3.symm
noncomputable def sX9_becomek1_0 (d : aI) (e : aJ)  : Option (Nat × aL × aI × aJ) := ((FX2_becomek2 d e).bind fun q1 => ((FX6_becomek11 q1.2.1 q1.2.2).bind fun q2 => ((FX3_becomek13 q2.2.1 q2.2.2).bind fun q3 => ((FX3_becomek17 q3.2.1 q3.2.2).bind fun q4 => ((FX3_becomek21 q4.2.1 q4.2.2).bind fun q5 => ((FX3_becomek25 q5.2.1 q5.2.2).bind fun q6 => (some (100000, [], (uI (uI q6.2.1 29 6 (q6.2.1 1 6)) 29 7 (q6.2.1 1 7)), q6.2.2))))))))
theorem tX9_becomek1_0 {Γ : aG × Launch} {d dF : aI} {e eF : aJ}  {r : Option Value} {p : Nat × aL × aI × aJ} (h : sX9_becomek1_0 d e  = some p) (kc : Nat.beq p.1 100000 = false → Rn Γ (1) mX9_become p.1 p.2.1 [] p.2.2.1 p.2.2.2 r dF eF) (kr : p.1 = 100000 → r = a_rt p.2.1 ∧ dF = p.2.2.1 ∧ eF = p.2.2.2) : Rn Γ (1) mX9_become 0 [some (.ref 29), some (.ref 1)] [] d e r dF eF := by
  unfold sX9_becomek1_0 at h
  obtain ⟨q1, hq1, h⟩ := Option.bind_eq_some_iff.mp h
  refine bX9_becomek1_0 (evX2_becomek2 hq1) (by omega) ?_
  obtain ⟨q2, hq2, h⟩ := Option.bind_eq_some_iff.mp h
  refine bX9_becomek1_11 (evX6_becomek11 hq2) (by omega) ?_
  obtain ⟨q3, hq3, h⟩ := Option.bind_eq_some_iff.mp h
  refine bX9_becomek1_22 (evX3_becomek13 hq3) (by omega) ?_
  obtain ⟨q4, hq4, h⟩ := Option.bind_eq_some_iff.mp h
  refine bX9_becomek1_33 (evX3_becomek17 hq4) (by omega) ?_
  obtain ⟨q5, hq5, h⟩ := Option.bind_eq_some_iff.mp h
  refine bX9_becomek1_44 (evX3_becomek21 hq5) (by omega) ?_
  obtain ⟨q6, hq6, h⟩ := Option.bind_eq_some_iff.mp h
  refine bX9_becomek1_55 (evX3_becomek25 hq6) (by omega) ?_
  cases h
  obtain ⟨k1, k2, k3⟩ := kr rfl
  exact bX9_becomek1_66 k1 k2 k3

noncomputable def stX9_becomek1 (p : Nat × aL × aI × aJ) : Option (Nat × aL × aI × aJ) := match p with
  | (0, [some (.ref 29), some (.ref 1)], d, e) => sX9_becomek1_0 d e 
  | _ => none
theorem uX9_becomek1 {Γ : aG × Launch} {p p2 : Nat × aL × aI × aJ} {r : Option Value} {dF : aI} {eF : aJ} (h : stX9_becomek1 p = some p2) (kc : Nat.beq p2.1 100000 = false → Rn Γ (1) mX9_become p2.1 p2.2.1 [] p2.2.2.1 p2.2.2.2 r dF eF) (kr : p2.1 = 100000 → r = a_rt p2.2.1 ∧ dF = p2.2.2.1 ∧ eF = p2.2.2.2) : Rn Γ (1) mX9_become p.1 p.2.1 [] p.2.2.1 p.2.2.2 r dF eF := by
  unfold stX9_becomek1 at h
  split at h
  · exact tX9_becomek1_0 h kc kr
  · cases h
noncomputable def FX9_becomek1 (d : aI) (e : aJ)  : Option (Unit × aI × aJ) := (a_run (stX9_becomek1) (0, [some (.ref 29), some (.ref 1)], d, e)).bind a_xV
theorem evX9_becomek1 {Γ : aG × Launch} {d : aI} {e : aJ}  {q : Unit × aI × aJ} (h : FX9_becomek1 d e  = some q) : Ev Γ (1) mX9_become [.ref 29, .ref 1] d e none q.2.1 q.2.2 := by
  refine Ev.of (by decide) rfl (Nat.le_of_ble_eq_true rfl) (fun z => by cases z) ?_
  show Rn Γ (1) mX9_become 0 [some (.ref 29), some (.ref 1)] [] d e _ _ _
  obtain ⟨q1, h1, h2⟩ := Option.bind_eq_some_iff.mp h
  obtain ⟨e1, e2, e3⟩ := a_xV_rt h2
  exact Rn.cast (a_run_ok (uX9_becomek1) rfl h1) e1.symm e2.symm e3.symm
noncomputable def FX10_feed (d : aI) (e : aJ) (x1 : Int32) (x2 : Int32) (x3 : Int32) (x4 : Int32) (x5 : Int32) : Option (Int32 × aI × aJ) := (if ((d 83 2) + (nI 20)) ≤ (nI 300) then ((FX5_append d e x1).bind fun q2 => ((FX5_append q2.2.1 q2.2.2 x2).bind fun q3 => ((FX5_append q3.2.1 q3.2.2 x3).bind fun q4 => ((FX5_append q4.2.1 q4.2.2 x4).bind fun q5 => ((FX5_append q5.2.1 q5.2.2 x5).bind fun q6 => (some ((q6.2.1 83 2), q6.2.1, q6.2.2))))))) else (some ((-(nI 1)), d, e)))
theorem evX10_feed {Γ : aG × Launch} {d : aI} {e : aJ} {x1 : Int32} {x2 : Int32} {x3 : Int32} {x4 : Int32} {x5 : Int32} {q : Int32 × aI × aJ} (h : FX10_feed d e x1 x2 x3 x4 x5 = some q) : Ev Γ (1) mX10_feed [.ref 0, .int x1, .int x2, .int x3, .int x4, .int x5] d e (some (.int q.1)) q.2.1 q.2.2 := by
  refine Ev.of (by decide) rfl (Nat.le_of_ble_eq_true rfl) (fun z => by cases z) ?_
  show Rn Γ (1) mX10_feed 0 [some (.ref 0), some (.int x1), some (.int x2), some (.int x3), some (.int x4), some (.int x5)] [] d e _ _ _
  unfold FX10_feed at h
  refine a_ite h (fun c1 h => ?_) (fun c1 h => ?_)
  · refine bX10_feed_0 (fun _ => ?_) (fun z => absurd c1 z)
    obtain ⟨q2, hq2, h⟩ := Option.bind_eq_some_iff.mp h
    refine bX10_feed_18 (evX5_append hq2) (by omega) ?_
    obtain ⟨q3, hq3, h⟩ := Option.bind_eq_some_iff.mp h
    refine bX10_feed_26 (evX5_append hq3) (by omega) ?_
    obtain ⟨q4, hq4, h⟩ := Option.bind_eq_some_iff.mp h
    refine bX10_feed_34 (evX5_append hq4) (by omega) ?_
    obtain ⟨q5, hq5, h⟩ := Option.bind_eq_some_iff.mp h
    refine bX10_feed_42 (evX5_append hq5) (by omega) ?_
    obtain ⟨q6, hq6, h⟩ := Option.bind_eq_some_iff.mp h
    refine bX10_feed_51 (evX5_append hq6) (by omega) ?_
    cases h
    exact bX10_feed_60
  · refine bX10_feed_0 (fun z => absurd z c1) (fun _ => ?_)
    cases h
    exact bX10_feed_16

noncomputable def FX10_fault (d : aI) (e : aJ) (x1 : Int32) : Option (Int32 × aI × aJ) := (if x1 = (nI 0) then (some ((d 83 3), d, e)) else (if x1 = (nI 1) then (some ((d 83 4), d, e)) else (some ((-(nI 1)), d, e))))
theorem evX10_fault {Γ : aG × Launch} {d : aI} {e : aJ} {x1 : Int32} {q : Int32 × aI × aJ} (h : FX10_fault d e x1 = some q) : Ev Γ (0) mX10_fault [.ref 0, .int x1] d e (some (.int q.1)) q.2.1 q.2.2 := by
  refine Ev.of (by decide) rfl (Nat.le_of_ble_eq_true rfl) (fun z => by cases z) ?_
  show Rn Γ (0) mX10_fault 0 [some (.ref 0), some (.int x1)] [] d e _ _ _
  unfold FX10_fault at h
  refine a_ite h (fun c1 h => ?_) (fun c1 h => ?_)
  · refine bX10_fault_0 (fun n0 _ => absurd c1 n0) (fun _ => ?_) (fun z => absurd (c1.symm.trans z) (by decide))
    cases h
    exact bX10_fault_28
  · skip
    refine a_ite h (fun c2 h => ?_) (fun c2 h => ?_)
    · refine bX10_fault_0 (fun _ n1 => absurd c2 n1) (fun z => absurd z c1) (fun _ => ?_)
      cases h
      exact bX10_fault_36
    · skip
      refine bX10_fault_0 (fun _ _ => ?_) (fun z => absurd z c1) (fun z => absurd z c2)
      cases h
      exact bX10_fault_44

noncomputable def FX10_undo (d : aI) (e : aJ)  : Option (Int32 × aI × aJ) := (if (d 11 2) = 0 then (some ((-(nI 1)), d, e)) else ((FX6_takeBack d e).bind fun q2 => (some ((q2.2.1 11 2), q2.2.1, q2.2.2))))
theorem evX10_undo {Γ : aG × Launch} {d : aI} {e : aJ}  {q : Int32 × aI × aJ} (h : FX10_undo d e  = some q) : Ev Γ (2) mX10_undo [.ref 0] d e (some (.int q.1)) q.2.1 q.2.2 := by
  refine Ev.of (by decide) rfl (Nat.le_of_ble_eq_true rfl) (fun z => by cases z) ?_
  show Rn Γ (2) mX10_undo 0 [some (.ref 0)] [] d e _ _ _
  unfold FX10_undo at h
  refine a_ite h (fun c1 h => ?_) (fun c1 h => ?_)
  · refine bX10_undo_0 (fun z => absurd c1 z) (fun _ => ?_)
    cases h
    exact bX10_undo_13
  · refine bX10_undo_0 (fun _ => ?_) (fun z => absurd z c1)
    obtain ⟨q2, hq2, h⟩ := Option.bind_eq_some_iff.mp h
    refine bX10_undo_15 (evX6_takeBack hq2) (by omega) ?_
    cases h
    exact bX10_undo_32

noncomputable def FX10_of (d : aI) (e : aJ) (x1 : Int32) (x2 : Int32) : Option (Int32 × aI × aJ) := ((FX2_isCat d e x1).bind fun q1 => (if q1.1 = 0 then (some ((-(nI 2)), q1.2.1, q1.2.2)) else (if x2 = (nI 0) then (bif ((a_inb x1 6)) then (some ((q1.2.1 7 (x1).toNatClampNeg), q1.2.1, q1.2.2)) else none) else (if x2 = (nI 1) then (bif ((a_inb x1 6)) then (some ((q1.2.1 6 (x1).toNatClampNeg), q1.2.1, q1.2.2)) else none) else (if x2 = (nI 2) then (bif ((a_inb x1 6)) then (some ((q1.2.1 8 (x1).toNatClampNeg), q1.2.1, q1.2.2)) else none) else (if x2 = (nI 3) then (bif ((a_inb x1 6)) then (some ((q1.2.1 9 (x1).toNatClampNeg), q1.2.1, q1.2.2)) else none) else (some ((-(nI 2)), q1.2.1, q1.2.2))))))))
theorem evX10_of {Γ : aG × Launch} {d : aI} {e : aJ} {x1 : Int32} {x2 : Int32} {q : Int32 × aI × aJ} (h : FX10_of d e x1 x2 = some q) : Ev Γ (1) mX10_of [.ref 0, .int x1, .int x2] d e (some (.int q.1)) q.2.1 q.2.2 := by
  refine Ev.of (by decide) rfl (Nat.le_of_ble_eq_true rfl) (fun z => by cases z) ?_
  show Rn Γ (1) mX10_of 0 [some (.ref 0), some (.int x1), some (.int x2), none] [] d e _ _ _
  unfold FX10_of at h
  obtain ⟨q1, hq1, h⟩ := Option.bind_eq_some_iff.mp h
  refine bX10_of_0 (evX2_isCat hq1) (by omega) ?_
  refine a_ite h (fun c2 h => ?_) (fun c2 h => ?_)
  · refine bX10_of_13 (fun z => absurd c2 z) (fun _ => ?_)
    cases h
    exact bX10_of_16
  · refine bX10_of_13 (fun _ => ?_) (fun z => absurd z c2)
    refine a_ite h (fun c3 h => ?_) (fun c3 h => ?_)
    · refine bX10_of_19 (fun n0 _ _ _ => absurd c3 n0) (fun _ => ?_) (fun z => absurd (c3.symm.trans z) (by decide)) (fun z => absurd (c3.symm.trans z) (by decide)) (fun z => absurd (c3.symm.trans z) (by decide))
      obtain ⟨g4, h⟩ := a_cond h
      cases h
      exact bX10_of_52 (a_inb_vp g4)
    · skip
      refine a_ite h (fun c5 h => ?_) (fun c5 h => ?_)
      · refine bX10_of_19 (fun _ n1 _ _ => absurd c5 n1) (fun z => absurd z c3) (fun _ => ?_) (fun z => absurd (c5.symm.trans z) (by decide)) (fun z => absurd (c5.symm.trans z) (by decide))
        obtain ⟨g6, h⟩ := a_cond h
        cases h
        exact bX10_of_59 (a_inb_vp g6)
      · skip
        refine a_ite h (fun c7 h => ?_) (fun c7 h => ?_)
        · refine bX10_of_19 (fun _ _ n2 _ => absurd c7 n2) (fun z => absurd z c3) (fun z => absurd z c5) (fun _ => ?_) (fun z => absurd (c7.symm.trans z) (by decide))
          obtain ⟨g8, h⟩ := a_cond h
          cases h
          exact bX10_of_66 (a_inb_vp g8)
        · skip
          refine a_ite h (fun c9 h => ?_) (fun c9 h => ?_)
          · refine bX10_of_19 (fun _ _ _ n3 => absurd c9 n3) (fun z => absurd z c3) (fun z => absurd z c5) (fun z => absurd z c7) (fun _ => ?_)
            obtain ⟨g10, h⟩ := a_cond h
            cases h
            exact bX10_of_73 (a_inb_vp g10)
          · skip
            refine bX10_of_19 (fun _ _ _ _ => ?_) (fun z => absurd z c3) (fun z => absurd z c5) (fun z => absurd z c7) (fun z => absurd z c9)
            cases h
            exact bX10_of_80

noncomputable def FX10_ofHouse (d : aI) (e : aJ) (x1 : Int32) (x2 : Int32) : Option (Int32 × aI × aJ) := ((FX2_isHouse d e x1).bind fun q1 => (if q1.1 = 0 then (some ((-(nI 2)), q1.2.1, q1.2.2)) else (if x2 = (nI 0) then (bif ((a_inb x1 6)) then (some ((q1.2.1 3 (x1).toNatClampNeg), q1.2.1, q1.2.2)) else none) else (if x2 = (nI 1) then (bif ((a_inb x1 6)) then (some ((q1.2.1 4 (x1).toNatClampNeg), q1.2.1, q1.2.2)) else none) else (if x2 = (nI 2) then ((FX2_guest q1.2.1 q1.2.2 x1).bind fun q8 => (some (q8.1, q8.2.1, q8.2.2))) else (if x2 = (nI 3) then (bif ((a_inb x1 6)) then (some ((q1.2.1 5 (x1).toNatClampNeg), q1.2.1, q1.2.2)) else none) else (some ((-(nI 2)), q1.2.1, q1.2.2))))))))
theorem evX10_ofHouse {Γ : aG × Launch} {d : aI} {e : aJ} {x1 : Int32} {x2 : Int32} {q : Int32 × aI × aJ} (h : FX10_ofHouse d e x1 x2 = some q) : Ev Γ (2) mX10_ofHouse [.ref 0, .int x1, .int x2] d e (some (.int q.1)) q.2.1 q.2.2 := by
  refine Ev.of (by decide) rfl (Nat.le_of_ble_eq_true rfl) (fun z => by cases z) ?_
  show Rn Γ (2) mX10_ofHouse 0 [some (.ref 0), some (.int x1), some (.int x2), none] [] d e _ _ _
  unfold FX10_ofHouse at h
  obtain ⟨q1, hq1, h⟩ := Option.bind_eq_some_iff.mp h
  refine bX10_ofHouse_0 (evX2_isHouse hq1) (by omega) ?_
  refine a_ite h (fun c2 h => ?_) (fun c2 h => ?_)
  · refine bX10_ofHouse_13 (fun z => absurd c2 z) (fun _ => ?_)
    cases h
    exact bX10_ofHouse_16
  · refine bX10_ofHouse_13 (fun _ => ?_) (fun z => absurd z c2)
    refine a_ite h (fun c3 h => ?_) (fun c3 h => ?_)
    · refine bX10_ofHouse_19 (fun n0 _ _ _ => absurd c3 n0) (fun _ => ?_) (fun z => absurd (c3.symm.trans z) (by decide)) (fun z => absurd (c3.symm.trans z) (by decide)) (fun z => absurd (c3.symm.trans z) (by decide))
      obtain ⟨g4, h⟩ := a_cond h
      cases h
      exact bX10_ofHouse_52 (a_inb_vp g4)
    · skip
      refine a_ite h (fun c5 h => ?_) (fun c5 h => ?_)
      · refine bX10_ofHouse_19 (fun _ n1 _ _ => absurd c5 n1) (fun z => absurd z c3) (fun _ => ?_) (fun z => absurd (c5.symm.trans z) (by decide)) (fun z => absurd (c5.symm.trans z) (by decide))
        obtain ⟨g6, h⟩ := a_cond h
        cases h
        exact bX10_ofHouse_59 (a_inb_vp g6)
      · skip
        refine a_ite h (fun c7 h => ?_) (fun c7 h => ?_)
        · refine bX10_ofHouse_19 (fun _ _ n2 _ => absurd c7 n2) (fun z => absurd z c3) (fun z => absurd z c5) (fun _ => ?_) (fun z => absurd (c7.symm.trans z) (by decide))
          obtain ⟨q8, hq8, h⟩ := Option.bind_eq_some_iff.mp h
          refine bX10_ofHouse_66 (evX2_guest hq8) (by omega) ?_
          cases h
          exact bX10_ofHouse_71
        · skip
          refine a_ite h (fun c9 h => ?_) (fun c9 h => ?_)
          · refine bX10_ofHouse_19 (fun _ _ _ n3 => absurd c9 n3) (fun z => absurd z c3) (fun z => absurd z c5) (fun z => absurd z c7) (fun _ => ?_)
            obtain ⟨g10, h⟩ := a_cond h
            cases h
            exact bX10_ofHouse_72 (a_inb_vp g10)
          · skip
            refine bX10_ofHouse_19 (fun _ _ _ _ => ?_) (fun z => absurd z c3) (fun z => absurd z c5) (fun z => absurd z c7) (fun z => absurd z c9)
            cases h
            exact bX10_ofHouse_79

noncomputable def sX10_orders_0 (d : aI) (e : aJ)  : Option (Nat × aL × aI × aJ) := (some (4, [some (.ref 0), some (.long (lN 1)), none, some (.int (nI 0)), none, none], d, e))
theorem tX10_orders_0 {Γ : aG × Launch} {d dF : aI} {e eF : aJ}  {r : Option Value} {p : Nat × aL × aI × aJ} (h : sX10_orders_0 d e  = some p) (kc : Nat.beq p.1 100000 = false → Rn Γ (0) mX10_orders p.1 p.2.1 [] p.2.2.1 p.2.2.2 r dF eF) (kr : p.1 = 100000 → r = a_rt p.2.1 ∧ dF = p.2.2.1 ∧ eF = p.2.2.2) : Rn Γ (0) mX10_orders 0 [some (.ref 0), none, none, none, none, none] [] d e r dF eF := by
  unfold sX10_orders_0 at h
  refine bX10_orders_0 ?_
  cases h
  exact kc rfl

noncomputable def sX10_orders_4 (d : aI) (e : aJ) (y1 : Int64) (x3 : Int32) (v4 : Option Value) (v5 : Option Value) : Option (Nat × aL × aI × aJ) := (if (d 2 9) ≤ x3 then (some (100000, [some (.long y1)], d, e)) else (some (24, [some (.ref 0), some (.long y1), none, some (.int x3), some (.int (nI 1)), some (.int (nI 0))], d, e)))
theorem tX10_orders_4 {Γ : aG × Launch} {d dF : aI} {e eF : aJ} {y1 : Int64} {x3 : Int32} {v4 : Option Value} {v5 : Option Value} {r : Option Value} {p : Nat × aL × aI × aJ} (h : sX10_orders_4 d e y1 x3 v4 v5 = some p) (kc : Nat.beq p.1 100000 = false → Rn Γ (0) mX10_orders p.1 p.2.1 [] p.2.2.1 p.2.2.2 r dF eF) (kr : p.1 = 100000 → r = a_rt p.2.1 ∧ dF = p.2.2.1 ∧ eF = p.2.2.2) : Rn Γ (0) mX10_orders 4 [some (.ref 0), some (.long y1), none, some (.int x3), v4, v5] [] d e r dF eF := by
  unfold sX10_orders_4 at h
  refine a_ite h (fun c1 h => ?_) (fun c1 h => ?_)
  · refine bX10_orders_4 (fun _ => ?_) (fun z => absurd c1 z)
    cases h
    obtain ⟨k1, k2, k3⟩ := kr rfl
    exact bX10_orders_86 k1 k2 k3
  · refine bX10_orders_4 (fun z => absurd z c1) (fun _ => ?_)
    refine bX10_orders_18 ?_
    cases h
    exact kc rfl

noncomputable def sX10_orders_24 (d : aI) (e : aJ) (y1 : Int64) (x3 : Int32) (x4 : Int32) (x5 : Int32) : Option (Nat × aL × aI × aJ) := (if x3 ≤ x5 then (some (4, [some (.ref 0), some (.long (y1 * (Int32.toInt64 x4))), none, some (.int (x3 + (nI 1))), some (.int x4), some (.int x5)], d, e)) else (bif ((a_inb x5 6) && (a_inb x3 6)) then (if (d 6 (x5).toNatClampNeg) = (d 6 (x3).toNatClampNeg) then (some (24, [some (.ref 0), some (.long y1), none, some (.int x3), some (.int (x4 + (nI 1))), some (.int (x5 + (nI 1)))], d, e)) else (some (24, [some (.ref 0), some (.long y1), none, some (.int x3), some (.int (x4 + (nI 0))), some (.int (x5 + (nI 1)))], d, e))) else none))
theorem tX10_orders_24 {Γ : aG × Launch} {d dF : aI} {e eF : aJ} {y1 : Int64} {x3 : Int32} {x4 : Int32} {x5 : Int32} {r : Option Value} {p : Nat × aL × aI × aJ} (h : sX10_orders_24 d e y1 x3 x4 x5 = some p) (kc : Nat.beq p.1 100000 = false → Rn Γ (0) mX10_orders p.1 p.2.1 [] p.2.2.1 p.2.2.2 r dF eF) (kr : p.1 = 100000 → r = a_rt p.2.1 ∧ dF = p.2.2.1 ∧ eF = p.2.2.2) : Rn Γ (0) mX10_orders 24 [some (.ref 0), some (.long y1), none, some (.int x3), some (.int x4), some (.int x5)] [] d e r dF eF := by
  unfold sX10_orders_24 at h
  refine a_ite h (fun c1 h => ?_) (fun c1 h => ?_)
  · refine bX10_orders_24 (fun _ => ?_) (fun z => absurd c1 z)
    refine bX10_orders_74 ?_
    cases h
    exact kc rfl
  · refine bX10_orders_24 (fun z => absurd z c1) (fun _ => ?_)
    obtain ⟨g2, h⟩ := a_cond h
    obtain ⟨g2x1, g2_1⟩ := a_and g2
    have g2_0 := g2x1
    refine a_ite h (fun c3 h => ?_) (fun c3 h => ?_)
    · refine bX10_orders_30 ⟨(a_inb_vp g2_0), (a_inb_vp g2_1)⟩ (fun z => absurd c3 z) (fun _ => ?_)
      refine bX10_orders_60 ?_
      refine bX10_orders_65 ?_
      cases h
      exact kc rfl
    · refine bX10_orders_30 ⟨(a_inb_vp g2_0), (a_inb_vp g2_1)⟩ (fun _ => ?_) (fun z => absurd z c3)
      refine bX10_orders_64 ?_
      refine bX10_orders_65 ?_
      cases h
      exact kc rfl

noncomputable def stX10_orders (p : Nat × aL × aI × aJ) : Option (Nat × aL × aI × aJ) := match p with
  | (0, [some (.ref 0), none, none, none, none, none], d, e) => sX10_orders_0 d e 
  | (4, [some (.ref 0), some (.long y1), none, some (.int x3), v4, v5], d, e) => sX10_orders_4 d e y1 x3 v4 v5
  | (24, [some (.ref 0), some (.long y1), none, some (.int x3), some (.int x4), some (.int x5)], d, e) => sX10_orders_24 d e y1 x3 x4 x5
  | _ => none
theorem uX10_orders {Γ : aG × Launch} {p p2 : Nat × aL × aI × aJ} {r : Option Value} {dF : aI} {eF : aJ} (h : stX10_orders p = some p2) (kc : Nat.beq p2.1 100000 = false → Rn Γ (0) mX10_orders p2.1 p2.2.1 [] p2.2.2.1 p2.2.2.2 r dF eF) (kr : p2.1 = 100000 → r = a_rt p2.2.1 ∧ dF = p2.2.2.1 ∧ eF = p2.2.2.2) : Rn Γ (0) mX10_orders p.1 p.2.1 [] p.2.2.1 p.2.2.2 r dF eF := by
  unfold stX10_orders at h
  split at h
  · exact tX10_orders_0 h kc kr
  · exact tX10_orders_4 h kc kr
  · exact tX10_orders_24 h kc kr
  · cases h
noncomputable def FX10_orders (d : aI) (e : aJ)  : Option (Int64 × aI × aJ) := (a_run (stX10_orders) (0, [some (.ref 0), none, none, none, none, none], d, e)).bind a_xJ
theorem evX10_orders {Γ : aG × Launch} {d : aI} {e : aJ}  {q : Int64 × aI × aJ} (h : FX10_orders d e  = some q) : Ev Γ (0) mX10_orders [.ref 0] d e (some (.long q.1)) q.2.1 q.2.2 := by
  refine Ev.of (by decide) rfl (Nat.le_of_ble_eq_true rfl) (fun z => by cases z) ?_
  show Rn Γ (0) mX10_orders 0 [some (.ref 0), none, none, none, none, none] [] d e _ _ _
  obtain ⟨q1, h1, h2⟩ := Option.bind_eq_some_iff.mp h
  obtain ⟨e1, e2, e3⟩ := a_xJ_rt h2
  exact Rn.cast (a_run_ok (uX10_orders) rfl h1) e1.symm e2.symm e3.symm
noncomputable def sX10_order_0 (d : aI) (e : aJ) (x1 : Int32) : Option (Nat × aL × aI × aJ) := (some (2, [some (.ref 0), some (.int x1), some (.int (nI 0))], d, e))
theorem tX10_order_0 {Γ : aG × Launch} {d dF : aI} {e eF : aJ} {x1 : Int32} {r : Option Value} {p : Nat × aL × aI × aJ} (h : sX10_order_0 d e x1 = some p) (kc : Nat.beq p.1 100000 = false → Rn Γ (1) mX10_order p.1 p.2.1 [] p.2.2.1 p.2.2.2 r dF eF) (kr : p.1 = 100000 → r = a_rt p.2.1 ∧ dF = p.2.2.1 ∧ eF = p.2.2.2) : Rn Γ (1) mX10_order 0 [some (.ref 0), some (.int x1), none] [] d e r dF eF := by
  unfold sX10_order_0 at h
  refine bX10_order_0 ?_
  cases h
  exact kc rfl

noncomputable def sX10_order_2 (d : aI) (e : aJ) (x1 : Int32) (x2 : Int32) : Option (Nat × aL × aI × aJ) := (if (d 2 9) ≤ x2 then (some (100000, [some (.int (-(nI 1)))], d, e)) else ((FX2_rank d e x2).bind fun q2 => (if q2.1 = x1 then (some (100000, [some (.int x2)], q2.2.1, q2.2.2)) else (some (2, [some (.ref 0), some (.int x1), some (.int (x2 + (nI 1)))], q2.2.1, q2.2.2)))))
theorem tX10_order_2 {Γ : aG × Launch} {d dF : aI} {e eF : aJ} {x1 : Int32} {x2 : Int32} {r : Option Value} {p : Nat × aL × aI × aJ} (h : sX10_order_2 d e x1 x2 = some p) (kc : Nat.beq p.1 100000 = false → Rn Γ (1) mX10_order p.1 p.2.1 [] p.2.2.1 p.2.2.2 r dF eF) (kr : p.1 = 100000 → r = a_rt p.2.1 ∧ dF = p.2.2.1 ∧ eF = p.2.2.2) : Rn Γ (1) mX10_order 2 [some (.ref 0), some (.int x1), some (.int x2)] [] d e r dF eF := by
  unfold sX10_order_2 at h
  refine a_ite h (fun c1 h => ?_) (fun c1 h => ?_)
  · refine bX10_order_2 (fun _ => ?_) (fun z => absurd c1 z)
    cases h
    obtain ⟨k1, k2, k3⟩ := kr rfl
    exact bX10_order_39 k1 k2 k3
  · refine bX10_order_2 (fun z => absurd z c1) (fun _ => ?_)
    obtain ⟨q2, hq2, h⟩ := Option.bind_eq_some_iff.mp h
    refine bX10_order_16 (evX2_rank hq2) (by omega) ?_
    refine a_ite h (fun c3 h => ?_) (fun c3 h => ?_)
    · refine bX10_order_27 (fun z => absurd c3 z) (fun _ => ?_)
      cases h
      obtain ⟨k1, k2, k3⟩ := kr rfl
      exact bX10_order_31 k1 k2 k3
    · refine bX10_order_27 (fun _ => ?_) (fun z => absurd z c3)
      refine bX10_order_33 ?_
      cases h
      exact kc rfl

noncomputable def stX10_order (p : Nat × aL × aI × aJ) : Option (Nat × aL × aI × aJ) := match p with
  | (0, [some (.ref 0), some (.int x1), none], d, e) => sX10_order_0 d e x1
  | (2, [some (.ref 0), some (.int x1), some (.int x2)], d, e) => sX10_order_2 d e x1 x2
  | _ => none
theorem uX10_order {Γ : aG × Launch} {p p2 : Nat × aL × aI × aJ} {r : Option Value} {dF : aI} {eF : aJ} (h : stX10_order p = some p2) (kc : Nat.beq p2.1 100000 = false → Rn Γ (1) mX10_order p2.1 p2.2.1 [] p2.2.2.1 p2.2.2.2 r dF eF) (kr : p2.1 = 100000 → r = a_rt p2.2.1 ∧ dF = p2.2.2.1 ∧ eF = p2.2.2.2) : Rn Γ (1) mX10_order p.1 p.2.1 [] p.2.2.1 p.2.2.2 r dF eF := by
  unfold stX10_order at h
  split at h
  · exact tX10_order_0 h kc kr
  · exact tX10_order_2 h kc kr
  · cases h
noncomputable def FX10_order (d : aI) (e : aJ) (x1 : Int32) : Option (Int32 × aI × aJ) := (a_run (stX10_order) (0, [some (.ref 0), some (.int x1), none], d, e)).bind a_xI
theorem evX10_order {Γ : aG × Launch} {d : aI} {e : aJ} {x1 : Int32} {q : Int32 × aI × aJ} (h : FX10_order d e x1 = some q) : Ev Γ (1) mX10_order [.ref 0, .int x1] d e (some (.int q.1)) q.2.1 q.2.2 := by
  refine Ev.of (by decide) rfl (Nat.le_of_ble_eq_true rfl) (fun z => by cases z) ?_
  show Rn Γ (1) mX10_order 0 [some (.ref 0), some (.int x1), none] [] d e _ _ _
  obtain ⟨q1, h1, h2⟩ := Option.bind_eq_some_iff.mp h
  obtain ⟨e1, e2, e3⟩ := a_xI_rt h2
  exact Rn.cast (a_run_ok (uX10_order) rfl h1) e1.symm e2.symm e3.symm
noncomputable def sX10_gap_0 (d : aI) (e : aJ)  : Option (Nat × aL × aI × aJ) := (some (6, [some (.ref 0), some (.int (nI 0)), some (.int (nI 0)), some (.int (nI 0))], d, e))
theorem tX10_gap_0 {Γ : aG × Launch} {d dF : aI} {e eF : aJ}  {r : Option Value} {p : Nat × aL × aI × aJ} (h : sX10_gap_0 d e  = some p) (kc : Nat.beq p.1 100000 = false → Rn Γ (1) mX10_gap p.1 p.2.1 [] p.2.2.1 p.2.2.2 r dF eF) (kr : p.1 = 100000 → r = a_rt p.2.1 ∧ dF = p.2.2.1 ∧ eF = p.2.2.2) : Rn Γ (1) mX10_gap 0 [some (.ref 0), none, none, none] [] d e r dF eF := by
  unfold sX10_gap_0 at h
  refine bX10_gap_0 ?_
  cases h
  exact kc rfl

noncomputable def sX10_gap_6 (d : aI) (e : aJ) (x1 : Int32) (x2 : Int32) (x3 : Int32) : Option (Nat × aL × aI × aJ) := (if (nI 20) ≤ x3 then (some (100000, [some (.int (a_min x1 (nI 10)))], d, e)) else (bif ((decide (¬ (nI 10) = 0))) then ((FX2_catsAt d e (a_irm x3 (nI 10))).bind fun q3 => (if q3.1 = 0 then (some (6, [some (.ref 0), some (.int (a_max x1 (x2 + (nI 1)))), some (.int (x2 + (nI 1))), some (.int (x3 + (nI 1)))], q3.2.1, q3.2.2)) else (some (6, [some (.ref 0), some (.int (a_max x1 (nI 0))), some (.int (nI 0)), some (.int (x3 + (nI 1)))], q3.2.1, q3.2.2)))) else none))
theorem tX10_gap_6 {Γ : aG × Launch} {d dF : aI} {e eF : aJ} {x1 : Int32} {x2 : Int32} {x3 : Int32} {r : Option Value} {p : Nat × aL × aI × aJ} (h : sX10_gap_6 d e x1 x2 x3 = some p) (kc : Nat.beq p.1 100000 = false → Rn Γ (1) mX10_gap p.1 p.2.1 [] p.2.2.1 p.2.2.2 r dF eF) (kr : p.1 = 100000 → r = a_rt p.2.1 ∧ dF = p.2.2.1 ∧ eF = p.2.2.2) : Rn Γ (1) mX10_gap 6 [some (.ref 0), some (.int x1), some (.int x2), some (.int x3)] [] d e r dF eF := by
  unfold sX10_gap_6 at h
  refine a_ite h (fun c1 h => ?_) (fun c1 h => ?_)
  · refine bX10_gap_6 (fun _ => ?_) (fun z => absurd c1 z)
    cases h
    obtain ⟨k1, k2, k3⟩ := kr rfl
    exact bX10_gap_49 k1 k2 k3
  · refine bX10_gap_6 (fun z => absurd z c1) (fun _ => ?_)
    obtain ⟨g2, h⟩ := a_cond h
    obtain ⟨q3, hq3, h⟩ := Option.bind_eq_some_iff.mp h
    refine bX10_gap_12 (of_decide_eq_true g2) (evX2_catsAt hq3) (by omega) ?_
    refine a_ite h (fun c4 h => ?_) (fun c4 h => ?_)
    · refine bX10_gap_26 (fun z => absurd c4 z) (fun _ => ?_)
      refine bX10_gap_29 ?_
      refine bX10_gap_36 ?_
      cases h
      exact kc rfl
    · refine bX10_gap_26 (fun _ => ?_) (fun z => absurd z c4)
      refine bX10_gap_35 ?_
      refine bX10_gap_36 ?_
      cases h
      exact kc rfl

noncomputable def stX10_gap (p : Nat × aL × aI × aJ) : Option (Nat × aL × aI × aJ) := match p with
  | (0, [some (.ref 0), none, none, none], d, e) => sX10_gap_0 d e 
  | (6, [some (.ref 0), some (.int x1), some (.int x2), some (.int x3)], d, e) => sX10_gap_6 d e x1 x2 x3
  | _ => none
theorem uX10_gap {Γ : aG × Launch} {p p2 : Nat × aL × aI × aJ} {r : Option Value} {dF : aI} {eF : aJ} (h : stX10_gap p = some p2) (kc : Nat.beq p2.1 100000 = false → Rn Γ (1) mX10_gap p2.1 p2.2.1 [] p2.2.2.1 p2.2.2.2 r dF eF) (kr : p2.1 = 100000 → r = a_rt p2.2.1 ∧ dF = p2.2.2.1 ∧ eF = p2.2.2.2) : Rn Γ (1) mX10_gap p.1 p.2.1 [] p.2.2.1 p.2.2.2 r dF eF := by
  unfold stX10_gap at h
  split at h
  · exact tX10_gap_0 h kc kr
  · exact tX10_gap_6 h kc kr
  · cases h
noncomputable def FX10_gap (d : aI) (e : aJ)  : Option (Int32 × aI × aJ) := (a_run (stX10_gap) (0, [some (.ref 0), none, none, none], d, e)).bind a_xI
theorem evX10_gap {Γ : aG × Launch} {d : aI} {e : aJ}  {q : Int32 × aI × aJ} (h : FX10_gap d e  = some q) : Ev Γ (1) mX10_gap [.ref 0] d e (some (.int q.1)) q.2.1 q.2.2 := by
  refine Ev.of (by decide) rfl (Nat.le_of_ble_eq_true rfl) (fun z => by cases z) ?_
  show Rn Γ (1) mX10_gap 0 [some (.ref 0), none, none, none] [] d e _ _ _
  obtain ⟨q1, h1, h2⟩ := Option.bind_eq_some_iff.mp h
  obtain ⟨e1, e2, e3⟩ := a_xI_rt h2
  exact Rn.cast (a_run_ok (uX10_gap) rfl h1) e1.symm e2.symm e3.symm
noncomputable def sX10_coldest_0 (d : aI) (e : aJ)  : Option (Nat × aL × aI × aJ) := (some (4, [some (.ref 0), some (.int (-(nI 1))), some (.int (nI 0))], d, e))
theorem tX10_coldest_0 {Γ : aG × Launch} {d dF : aI} {e eF : aJ}  {r : Option Value} {p : Nat × aL × aI × aJ} (h : sX10_coldest_0 d e  = some p) (kc : Nat.beq p.1 100000 = false → Rn Γ (0) mX10_coldest p.1 p.2.1 [] p.2.2.1 p.2.2.2 r dF eF) (kr : p.1 = 100000 → r = a_rt p.2.1 ∧ dF = p.2.2.1 ∧ eF = p.2.2.2) : Rn Γ (0) mX10_coldest 0 [some (.ref 0), none, none] [] d e r dF eF := by
  unfold sX10_coldest_0 at h
  refine bX10_coldest_0 ?_
  cases h
  exact kc rfl

noncomputable def sX10_coldest_4 (d : aI) (e : aJ) (x1 : Int32) (x2 : Int32) : Option (Nat × aL × aI × aJ) := (if (d 2 9) ≤ x2 then (some (100000, [some (.int x1)], d, e)) else (if x1 = (-(nI 1)) then (some (4, [some (.ref 0), some (.int x2), some (.int (x2 + (nI 1)))], d, e)) else (bif ((a_inb x2 6) && (a_inb x1 6)) then (if (d 6 (x2).toNatClampNeg) ≤ (d 6 (x1).toNatClampNeg) then (some (4, [some (.ref 0), some (.int x1), some (.int (x2 + (nI 1)))], d, e)) else (some (4, [some (.ref 0), some (.int x2), some (.int (x2 + (nI 1)))], d, e))) else none)))
theorem tX10_coldest_4 {Γ : aG × Launch} {d dF : aI} {e eF : aJ} {x1 : Int32} {x2 : Int32} {r : Option Value} {p : Nat × aL × aI × aJ} (h : sX10_coldest_4 d e x1 x2 = some p) (kc : Nat.beq p.1 100000 = false → Rn Γ (0) mX10_coldest p.1 p.2.1 [] p.2.2.1 p.2.2.2 r dF eF) (kr : p.1 = 100000 → r = a_rt p.2.1 ∧ dF = p.2.2.1 ∧ eF = p.2.2.2) : Rn Γ (0) mX10_coldest 4 [some (.ref 0), some (.int x1), some (.int x2)] [] d e r dF eF := by
  unfold sX10_coldest_4 at h
  refine a_ite h (fun c1 h => ?_) (fun c1 h => ?_)
  · refine bX10_coldest_4 (fun _ => ?_) (fun z => absurd c1 z)
    cases h
    obtain ⟨k1, k2, k3⟩ := kr rfl
    exact bX10_coldest_58 k1 k2 k3
  · refine bX10_coldest_4 (fun z => absurd z c1) (fun _ => ?_)
    refine a_ite h (fun c2 h => ?_) (fun c2 h => ?_)
    · refine bX10_coldest_18 (fun _ => ?_) (fun z => absurd c2 z)
      refine bX10_coldest_50 ?_
      refine bX10_coldest_52 ?_
      cases h
      exact kc rfl
    · refine bX10_coldest_18 (fun z => absurd z c2) (fun _ => ?_)
      obtain ⟨g3, h⟩ := a_cond h
      obtain ⟨g3x1, g3_1⟩ := a_and g3
      have g3_0 := g3x1
      refine a_ite h (fun c4 h => ?_) (fun c4 h => ?_)
      · refine bX10_coldest_23 ⟨(a_inb_vp g3_0), (a_inb_vp g3_1)⟩ (fun _ => ?_) (fun z => absurd c4 z)
        refine bX10_coldest_52 ?_
        cases h
        exact kc rfl
      · refine bX10_coldest_23 ⟨(a_inb_vp g3_0), (a_inb_vp g3_1)⟩ (fun z => absurd z c4) (fun _ => ?_)
        refine bX10_coldest_50 ?_
        refine bX10_coldest_52 ?_
        cases h
        exact kc rfl

noncomputable def stX10_coldest (p : Nat × aL × aI × aJ) : Option (Nat × aL × aI × aJ) := match p with
  | (0, [some (.ref 0), none, none], d, e) => sX10_coldest_0 d e 
  | (4, [some (.ref 0), some (.int x1), some (.int x2)], d, e) => sX10_coldest_4 d e x1 x2
  | _ => none
theorem uX10_coldest {Γ : aG × Launch} {p p2 : Nat × aL × aI × aJ} {r : Option Value} {dF : aI} {eF : aJ} (h : stX10_coldest p = some p2) (kc : Nat.beq p2.1 100000 = false → Rn Γ (0) mX10_coldest p2.1 p2.2.1 [] p2.2.2.1 p2.2.2.2 r dF eF) (kr : p2.1 = 100000 → r = a_rt p2.2.1 ∧ dF = p2.2.2.1 ∧ eF = p2.2.2.2) : Rn Γ (0) mX10_coldest p.1 p.2.1 [] p.2.2.1 p.2.2.2 r dF eF := by
  unfold stX10_coldest at h
  split at h
  · exact tX10_coldest_0 h kc kr
  · exact tX10_coldest_4 h kc kr
  · cases h
noncomputable def FX10_coldest (d : aI) (e : aJ)  : Option (Int32 × aI × aJ) := (a_run (stX10_coldest) (0, [some (.ref 0), none, none], d, e)).bind a_xI
theorem evX10_coldest {Γ : aG × Launch} {d : aI} {e : aJ}  {q : Int32 × aI × aJ} (h : FX10_coldest d e  = some q) : Ev Γ (0) mX10_coldest [.ref 0] d e (some (.int q.1)) q.2.1 q.2.2 := by
  refine Ev.of (by decide) rfl (Nat.le_of_ble_eq_true rfl) (fun z => by cases z) ?_
  show Rn Γ (0) mX10_coldest 0 [some (.ref 0), none, none] [] d e _ _ _
  obtain ⟨q1, h1, h2⟩ := Option.bind_eq_some_iff.mp h
  obtain ⟨e1, e2, e3⟩ := a_xI_rt h2
  exact Rn.cast (a_run_ok (uX10_coldest) rfl h1) e1.symm e2.symm e3.symm
noncomputable def sX10_dreamless_0 (d : aI) (e : aJ)  : Option (Nat × aL × aI × aJ) := (some (4, [some (.ref 0), some (.int (nI 0)), some (.int (nI 0))], d, e))
theorem tX10_dreamless_0 {Γ : aG × Launch} {d dF : aI} {e eF : aJ}  {r : Option Value} {p : Nat × aL × aI × aJ} (h : sX10_dreamless_0 d e  = some p) (kc : Nat.beq p.1 100000 = false → Rn Γ (0) mX10_dreamless p.1 p.2.1 [] p.2.2.1 p.2.2.2 r dF eF) (kr : p.1 = 100000 → r = a_rt p.2.1 ∧ dF = p.2.2.1 ∧ eF = p.2.2.2) : Rn Γ (0) mX10_dreamless 0 [some (.ref 0), none, none] [] d e r dF eF := by
  unfold sX10_dreamless_0 at h
  refine bX10_dreamless_0 ?_
  cases h
  exact kc rfl

noncomputable def sX10_dreamless_4 (d : aI) (e : aJ) (x1 : Int32) (x2 : Int32) : Option (Nat × aL × aI × aJ) := (if (d 2 8) ≤ x2 then (some (100000, [some (.int x1)], d, e)) else (bif ((a_inb x2 6)) then (if (d 4 (x2).toNatClampNeg) = 0 then (some (4, [some (.ref 0), some (.int (x1 ||| (a_shl (nI 1) x2))), some (.int (x2 + (nI 1)))], d, e)) else (some (4, [some (.ref 0), some (.int (x1 ||| (nI 0))), some (.int (x2 + (nI 1)))], d, e))) else none))
theorem tX10_dreamless_4 {Γ : aG × Launch} {d dF : aI} {e eF : aJ} {x1 : Int32} {x2 : Int32} {r : Option Value} {p : Nat × aL × aI × aJ} (h : sX10_dreamless_4 d e x1 x2 = some p) (kc : Nat.beq p.1 100000 = false → Rn Γ (0) mX10_dreamless p.1 p.2.1 [] p.2.2.1 p.2.2.2 r dF eF) (kr : p.1 = 100000 → r = a_rt p.2.1 ∧ dF = p.2.2.1 ∧ eF = p.2.2.2) : Rn Γ (0) mX10_dreamless 4 [some (.ref 0), some (.int x1), some (.int x2)] [] d e r dF eF := by
  unfold sX10_dreamless_4 at h
  refine a_ite h (fun c1 h => ?_) (fun c1 h => ?_)
  · refine bX10_dreamless_4 (fun _ => ?_) (fun z => absurd c1 z)
    cases h
    obtain ⟨k1, k2, k3⟩ := kr rfl
    exact bX10_dreamless_49 k1 k2 k3
  · refine bX10_dreamless_4 (fun z => absurd z c1) (fun _ => ?_)
    obtain ⟨g2, h⟩ := a_cond h
    refine a_ite h (fun c3 h => ?_) (fun c3 h => ?_)
    · refine bX10_dreamless_18 (a_inb_vp g2) (fun z => absurd c3 z) (fun _ => ?_)
      refine bX10_dreamless_34 ?_
      refine bX10_dreamless_41 ?_
      cases h
      exact kc rfl
    · refine bX10_dreamless_18 (a_inb_vp g2) (fun _ => ?_) (fun z => absurd z c3)
      refine bX10_dreamless_40 ?_
      refine bX10_dreamless_41 ?_
      cases h
      exact kc rfl

noncomputable def stX10_dreamless (p : Nat × aL × aI × aJ) : Option (Nat × aL × aI × aJ) := match p with
  | (0, [some (.ref 0), none, none], d, e) => sX10_dreamless_0 d e 
  | (4, [some (.ref 0), some (.int x1), some (.int x2)], d, e) => sX10_dreamless_4 d e x1 x2
  | _ => none
theorem uX10_dreamless {Γ : aG × Launch} {p p2 : Nat × aL × aI × aJ} {r : Option Value} {dF : aI} {eF : aJ} (h : stX10_dreamless p = some p2) (kc : Nat.beq p2.1 100000 = false → Rn Γ (0) mX10_dreamless p2.1 p2.2.1 [] p2.2.2.1 p2.2.2.2 r dF eF) (kr : p2.1 = 100000 → r = a_rt p2.2.1 ∧ dF = p2.2.2.1 ∧ eF = p2.2.2.2) : Rn Γ (0) mX10_dreamless p.1 p.2.1 [] p.2.2.1 p.2.2.2 r dF eF := by
  unfold stX10_dreamless at h
  split at h
  · exact tX10_dreamless_0 h kc kr
  · exact tX10_dreamless_4 h kc kr
  · cases h
noncomputable def FX10_dreamless (d : aI) (e : aJ)  : Option (Int32 × aI × aJ) := (a_run (stX10_dreamless) (0, [some (.ref 0), none, none], d, e)).bind a_xI
theorem evX10_dreamless {Γ : aG × Launch} {d : aI} {e : aJ}  {q : Int32 × aI × aJ} (h : FX10_dreamless d e  = some q) : Ev Γ (0) mX10_dreamless [.ref 0] d e (some (.int q.1)) q.2.1 q.2.2 := by
  refine Ev.of (by decide) rfl (Nat.le_of_ble_eq_true rfl) (fun z => by cases z) ?_
  show Rn Γ (0) mX10_dreamless 0 [some (.ref 0), none, none] [] d e _ _ _
  obtain ⟨q1, h1, h2⟩ := Option.bind_eq_some_iff.mp h
  obtain ⟨e1, e2, e3⟩ := a_xI_rt h2
  exact Rn.cast (a_run_ok (uX10_dreamless) rfl h1) e1.symm e2.symm e3.symm
noncomputable def sX10_free_0 (d : aI) (e : aJ)  : Option (Nat × aL × aI × aJ) := (some (4, [some (.ref 0), some (.int (nI 0)), some (.int (nI 0))], d, e))
theorem tX10_free_0 {Γ : aG × Launch} {d dF : aI} {e eF : aJ}  {r : Option Value} {p : Nat × aL × aI × aJ} (h : sX10_free_0 d e  = some p) (kc : Nat.beq p.1 100000 = false → Rn Γ (2) mX10_free p.1 p.2.1 [] p.2.2.1 p.2.2.2 r dF eF) (kr : p.1 = 100000 → r = a_rt p.2.1 ∧ dF = p.2.2.1 ∧ eF = p.2.2.2) : Rn Γ (2) mX10_free 0 [some (.ref 0), none, none] [] d e r dF eF := by
  unfold sX10_free_0 at h
  refine bX10_free_0 ?_
  cases h
  exact kc rfl

noncomputable def sX10_free_4 (d : aI) (e : aJ) (x1 : Int32) (x2 : Int32) : Option (Nat × aL × aI × aJ) := (if (d 2 8) ≤ x2 then (some (100000, [some (.int x1)], d, e)) else ((FX2_guest d e x2).bind fun q2 => (if q2.1 = (-(nI 1)) then (some (4, [some (.ref 0), some (.int (x1 ||| (a_shl (nI 1) x2))), some (.int (x2 + (nI 1)))], q2.2.1, q2.2.2)) else (some (4, [some (.ref 0), some (.int (x1 ||| (nI 0))), some (.int (x2 + (nI 1)))], q2.2.1, q2.2.2)))))
theorem tX10_free_4 {Γ : aG × Launch} {d dF : aI} {e eF : aJ} {x1 : Int32} {x2 : Int32} {r : Option Value} {p : Nat × aL × aI × aJ} (h : sX10_free_4 d e x1 x2 = some p) (kc : Nat.beq p.1 100000 = false → Rn Γ (2) mX10_free p.1 p.2.1 [] p.2.2.1 p.2.2.2 r dF eF) (kr : p.1 = 100000 → r = a_rt p.2.1 ∧ dF = p.2.2.1 ∧ eF = p.2.2.2) : Rn Γ (2) mX10_free 4 [some (.ref 0), some (.int x1), some (.int x2)] [] d e r dF eF := by
  unfold sX10_free_4 at h
  refine a_ite h (fun c1 h => ?_) (fun c1 h => ?_)
  · refine bX10_free_4 (fun _ => ?_) (fun z => absurd c1 z)
    cases h
    obtain ⟨k1, k2, k3⟩ := kr rfl
    exact bX10_free_49 k1 k2 k3
  · refine bX10_free_4 (fun z => absurd z c1) (fun _ => ?_)
    obtain ⟨q2, hq2, h⟩ := Option.bind_eq_some_iff.mp h
    refine bX10_free_18 (evX2_guest hq2) (by omega) ?_
    refine a_ite h (fun c3 h => ?_) (fun c3 h => ?_)
    · refine bX10_free_30 (fun z => absurd c3 z) (fun _ => ?_)
      refine bX10_free_34 ?_
      refine bX10_free_41 ?_
      cases h
      exact kc rfl
    · refine bX10_free_30 (fun _ => ?_) (fun z => absurd z c3)
      refine bX10_free_40 ?_
      refine bX10_free_41 ?_
      cases h
      exact kc rfl

noncomputable def stX10_free (p : Nat × aL × aI × aJ) : Option (Nat × aL × aI × aJ) := match p with
  | (0, [some (.ref 0), none, none], d, e) => sX10_free_0 d e 
  | (4, [some (.ref 0), some (.int x1), some (.int x2)], d, e) => sX10_free_4 d e x1 x2
  | _ => none
theorem uX10_free {Γ : aG × Launch} {p p2 : Nat × aL × aI × aJ} {r : Option Value} {dF : aI} {eF : aJ} (h : stX10_free p = some p2) (kc : Nat.beq p2.1 100000 = false → Rn Γ (2) mX10_free p2.1 p2.2.1 [] p2.2.2.1 p2.2.2.2 r dF eF) (kr : p2.1 = 100000 → r = a_rt p2.2.1 ∧ dF = p2.2.2.1 ∧ eF = p2.2.2.2) : Rn Γ (2) mX10_free p.1 p.2.1 [] p.2.2.1 p.2.2.2 r dF eF := by
  unfold stX10_free at h
  split at h
  · exact tX10_free_0 h kc kr
  · exact tX10_free_4 h kc kr
  · cases h
noncomputable def FX10_free (d : aI) (e : aJ)  : Option (Int32 × aI × aJ) := (a_run (stX10_free) (0, [some (.ref 0), none, none], d, e)).bind a_xI
theorem evX10_free {Γ : aG × Launch} {d : aI} {e : aJ}  {q : Int32 × aI × aJ} (h : FX10_free d e  = some q) : Ev Γ (2) mX10_free [.ref 0] d e (some (.int q.1)) q.2.1 q.2.2 := by
  refine Ev.of (by decide) rfl (Nat.le_of_ble_eq_true rfl) (fun z => by cases z) ?_
  show Rn Γ (2) mX10_free 0 [some (.ref 0), none, none] [] d e _ _ _
  obtain ⟨q1, h1, h2⟩ := Option.bind_eq_some_iff.mp h
  obtain ⟨e1, e2, e3⟩ := a_xI_rt h2
  exact Rn.cast (a_run_ok (uX10_free) rfl h1) e1.symm e2.symm e3.symm
noncomputable def FX10_image (d : aI) (e : aJ)  : Option (Int32 × aI × aJ) := ((FX9_becomek1 d e).bind fun q1 => (some ((q1.2.1 2 11), q1.2.1, q1.2.2)))
theorem evX10_image {Γ : aG × Launch} {d : aI} {e : aJ}  {q : Int32 × aI × aJ} (h : FX10_image d e  = some q) : Ev Γ (2) mX10_image [.ref 0] d e (some (.int q.1)) q.2.1 q.2.2 := by
  refine Ev.of (by decide) rfl (Nat.le_of_ble_eq_true rfl) (fun z => by cases z) ?_
  show Rn Γ (2) mX10_image 0 [some (.ref 0)] [] d e _ _ _
  unfold FX10_image at h
  obtain ⟨q1, hq1, h⟩ := Option.bind_eq_some_iff.mp h
  refine bX10_image_0 (evX9_becomek1 hq1) (by omega) ?_
  cases h
  exact bX10_image_11

noncomputable def FX10_back (d : aI) (e : aJ)  : Option (Int32 × aI × aJ) := ((FX9_becomen1 d e).bind fun q1 => (some ((q1.2.1 2 11), q1.2.1, q1.2.2)))
theorem evX10_back {Γ : aG × Launch} {d : aI} {e : aJ}  {q : Int32 × aI × aJ} (h : FX10_back d e  = some q) : Ev Γ (2) mX10_back [.ref 0] d e (some (.int q.1)) q.2.1 q.2.2 := by
  refine Ev.of (by decide) rfl (Nat.le_of_ble_eq_true rfl) (fun z => by cases z) ?_
  show Rn Γ (2) mX10_back 0 [some (.ref 0)] [] d e _ _ _
  unfold FX10_back at h
  obtain ⟨q1, hq1, h⟩ := Option.bind_eq_some_iff.mp h
  refine bX10_back_0 (evX9_becomen1 hq1) (by omega) ?_
  cases h
  exact bX10_back_11

noncomputable def FX10_about (d : aI) (e : aJ) (x1 : Int32) : Option (Int32 × aI × aJ) := (if x1 = (nI 0) then (some ((d 2 8), d, e)) else (if x1 = (nI 1) then (some ((d 2 9), d, e)) else (if x1 = (nI 2) then (some ((d 1 6), d, e)) else (if x1 = (nI 3) then (some ((d 1 7), d, e)) else (if x1 = (nI 4) then (some ((d 11 2), d, e)) else (if x1 = (nI 5) then (some ((d 13 4), d, e)) else (if x1 = (nI 6) then (some ((d 17 4), d, e)) else (if x1 = (nI 7) then (some ((d 21 4), d, e)) else (if x1 = (nI 8) then (some ((d 25 4), d, e)) else (if x1 = (nI 9) then (some ((d 83 2), d, e)) else (some ((-(nI 2)), d, e))))))))))))
theorem evX10_about {Γ : aG × Launch} {d : aI} {e : aJ} {x1 : Int32} {q : Int32 × aI × aJ} (h : FX10_about d e x1 = some q) : Ev Γ (0) mX10_about [.ref 0, .int x1] d e (some (.int q.1)) q.2.1 q.2.2 := by
  refine Ev.of (by decide) rfl (Nat.le_of_ble_eq_true rfl) (fun z => by cases z) ?_
  show Rn Γ (0) mX10_about 0 [some (.ref 0), some (.int x1)] [] d e _ _ _
  unfold FX10_about at h
  refine a_ite h (fun c1 h => ?_) (fun c1 h => ?_)
  · refine bX10_about_0 (fun n0 _ _ _ _ _ _ _ _ _ => absurd c1 n0) (fun _ => ?_) (fun z => absurd (c1.symm.trans z) (by decide)) (fun z => absurd (c1.symm.trans z) (by decide)) (fun z => absurd (c1.symm.trans z) (by decide)) (fun z => absurd (c1.symm.trans z) (by decide)) (fun z => absurd (c1.symm.trans z) (by decide)) (fun z => absurd (c1.symm.trans z) (by decide)) (fun z => absurd (c1.symm.trans z) (by decide)) (fun z => absurd (c1.symm.trans z) (by decide)) (fun z => absurd (c1.symm.trans z) (by decide))
    cases h
    exact bX10_about_56
  · skip
    refine a_ite h (fun c2 h => ?_) (fun c2 h => ?_)
    · refine bX10_about_0 (fun _ n1 _ _ _ _ _ _ _ _ => absurd c2 n1) (fun z => absurd z c1) (fun _ => ?_) (fun z => absurd (c2.symm.trans z) (by decide)) (fun z => absurd (c2.symm.trans z) (by decide)) (fun z => absurd (c2.symm.trans z) (by decide)) (fun z => absurd (c2.symm.trans z) (by decide)) (fun z => absurd (c2.symm.trans z) (by decide)) (fun z => absurd (c2.symm.trans z) (by decide)) (fun z => absurd (c2.symm.trans z) (by decide)) (fun z => absurd (c2.symm.trans z) (by decide))
      cases h
      exact bX10_about_67
    · skip
      refine a_ite h (fun c3 h => ?_) (fun c3 h => ?_)
      · refine bX10_about_0 (fun _ _ n2 _ _ _ _ _ _ _ => absurd c3 n2) (fun z => absurd z c1) (fun z => absurd z c2) (fun _ => ?_) (fun z => absurd (c3.symm.trans z) (by decide)) (fun z => absurd (c3.symm.trans z) (by decide)) (fun z => absurd (c3.symm.trans z) (by decide)) (fun z => absurd (c3.symm.trans z) (by decide)) (fun z => absurd (c3.symm.trans z) (by decide)) (fun z => absurd (c3.symm.trans z) (by decide)) (fun z => absurd (c3.symm.trans z) (by decide))
        cases h
        exact bX10_about_78
      · skip
        refine a_ite h (fun c4 h => ?_) (fun c4 h => ?_)
        · refine bX10_about_0 (fun _ _ _ n3 _ _ _ _ _ _ => absurd c4 n3) (fun z => absurd z c1) (fun z => absurd z c2) (fun z => absurd z c3) (fun _ => ?_) (fun z => absurd (c4.symm.trans z) (by decide)) (fun z => absurd (c4.symm.trans z) (by decide)) (fun z => absurd (c4.symm.trans z) (by decide)) (fun z => absurd (c4.symm.trans z) (by decide)) (fun z => absurd (c4.symm.trans z) (by decide)) (fun z => absurd (c4.symm.trans z) (by decide))
          cases h
          exact bX10_about_86
        · skip
          refine a_ite h (fun c5 h => ?_) (fun c5 h => ?_)
          · refine bX10_about_0 (fun _ _ _ _ n4 _ _ _ _ _ => absurd c5 n4) (fun z => absurd z c1) (fun z => absurd z c2) (fun z => absurd z c3) (fun z => absurd z c4) (fun _ => ?_) (fun z => absurd (c5.symm.trans z) (by decide)) (fun z => absurd (c5.symm.trans z) (by decide)) (fun z => absurd (c5.symm.trans z) (by decide)) (fun z => absurd (c5.symm.trans z) (by decide)) (fun z => absurd (c5.symm.trans z) (by decide))
            cases h
            exact bX10_about_94
          · skip
            refine a_ite h (fun c6 h => ?_) (fun c6 h => ?_)
            · refine bX10_about_0 (fun _ _ _ _ _ n5 _ _ _ _ => absurd c6 n5) (fun z => absurd z c1) (fun z => absurd z c2) (fun z => absurd z c3) (fun z => absurd z c4) (fun z => absurd z c5) (fun _ => ?_) (fun z => absurd (c6.symm.trans z) (by decide)) (fun z => absurd (c6.symm.trans z) (by decide)) (fun z => absurd (c6.symm.trans z) (by decide)) (fun z => absurd (c6.symm.trans z) (by decide))
              cases h
              exact bX10_about_105
            · skip
              refine a_ite h (fun c7 h => ?_) (fun c7 h => ?_)
              · refine bX10_about_0 (fun _ _ _ _ _ _ n6 _ _ _ => absurd c7 n6) (fun z => absurd z c1) (fun z => absurd z c2) (fun z => absurd z c3) (fun z => absurd z c4) (fun z => absurd z c5) (fun z => absurd z c6) (fun _ => ?_) (fun z => absurd (c7.symm.trans z) (by decide)) (fun z => absurd (c7.symm.trans z) (by decide)) (fun z => absurd (c7.symm.trans z) (by decide))
                cases h
                exact bX10_about_116
              · skip
                refine a_ite h (fun c8 h => ?_) (fun c8 h => ?_)
                · refine bX10_about_0 (fun _ _ _ _ _ _ _ n7 _ _ => absurd c8 n7) (fun z => absurd z c1) (fun z => absurd z c2) (fun z => absurd z c3) (fun z => absurd z c4) (fun z => absurd z c5) (fun z => absurd z c6) (fun z => absurd z c7) (fun _ => ?_) (fun z => absurd (c8.symm.trans z) (by decide)) (fun z => absurd (c8.symm.trans z) (by decide))
                  cases h
                  exact bX10_about_127
                · skip
                  refine a_ite h (fun c9 h => ?_) (fun c9 h => ?_)
                  · refine bX10_about_0 (fun _ _ _ _ _ _ _ _ n8 _ => absurd c9 n8) (fun z => absurd z c1) (fun z => absurd z c2) (fun z => absurd z c3) (fun z => absurd z c4) (fun z => absurd z c5) (fun z => absurd z c6) (fun z => absurd z c7) (fun z => absurd z c8) (fun _ => ?_) (fun z => absurd (c9.symm.trans z) (by decide))
                    cases h
                    exact bX10_about_138
                  · skip
                    refine a_ite h (fun c10 h => ?_) (fun c10 h => ?_)
                    · refine bX10_about_0 (fun _ _ _ _ _ _ _ _ _ n9 => absurd c10 n9) (fun z => absurd z c1) (fun z => absurd z c2) (fun z => absurd z c3) (fun z => absurd z c4) (fun z => absurd z c5) (fun z => absurd z c6) (fun z => absurd z c7) (fun z => absurd z c8) (fun z => absurd z c9) (fun _ => ?_)
                      cases h
                      exact bX10_about_149
                    · skip
                      refine bX10_about_0 (fun _ _ _ _ _ _ _ _ _ _ => ?_) (fun z => absurd z c1) (fun z => absurd z c2) (fun z => absurd z c3) (fun z => absurd z c4) (fun z => absurd z c5) (fun z => absurd z c6) (fun z => absurd z c7) (fun z => absurd z c8) (fun z => absurd z c9) (fun z => absurd z c10)
                      cases h
                      exact bX10_about_157

noncomputable def FX10_within (d : aI) (e : aJ) (x0 : Int32) (x1 : Int32) (x2 : Int32) : Option (Int32 × aI × aJ) := (if x0 < x1 then (some ((nI 0), d, e)) else (if x2 < x0 then (some ((nI 0), d, e)) else (some ((nI 1), d, e))))
theorem evX10_within {Γ : aG × Launch} {d : aI} {e : aJ} {x0 : Int32} {x1 : Int32} {x2 : Int32} {q : Int32 × aI × aJ} (h : FX10_within d e x0 x1 x2 = some q) : Ev Γ (0) mX10_within [.int x0, .int x1, .int x2] d e (some (.int q.1)) q.2.1 q.2.2 := by
  refine Ev.of (by decide) rfl (Nat.le_of_ble_eq_true rfl) (fun z => by cases z) ?_
  show Rn Γ (0) mX10_within 0 [some (.int x0), some (.int x1), some (.int x2)] [] d e _ _ _
  unfold FX10_within at h
  refine a_ite h (fun c1 h => ?_) (fun c1 h => ?_)
  · refine bX10_within_0 (fun _ => ?_) (fun z => absurd c1 z)
    refine bX10_within_14 ?_
    cases h
    exact bX10_within_15 (a_nz (Or.inl rfl))
  · refine bX10_within_0 (fun z => absurd z c1) (fun _ => ?_)
    refine a_ite h (fun c2 h => ?_) (fun c2 h => ?_)
    · refine bX10_within_5 (fun _ => ?_) (fun z => absurd c2 z)
      refine bX10_within_14 ?_
      cases h
      exact bX10_within_15 (a_nz (Or.inl rfl))
    · refine bX10_within_5 (fun z => absurd z c2) (fun _ => ?_)
      refine bX10_within_10 ?_
      cases h
      exact bX10_within_15 (a_nz (Or.inr rfl))

noncomputable def FX10_hasBit (d : aI) (e : aJ) (x0 : Int32) (x1 : Int32) : Option (Int32 × aI × aJ) := (if ((a_shr x0 x1) &&& (nI 1)) = (nI 1) then (some ((nI 1), d, e)) else (some ((nI 0), d, e)))
theorem evX10_hasBit {Γ : aG × Launch} {d : aI} {e : aJ} {x0 : Int32} {x1 : Int32} {q : Int32 × aI × aJ} (h : FX10_hasBit d e x0 x1 = some q) : Ev Γ (0) mX10_hasBit [.int x0, .int x1] d e (some (.int q.1)) q.2.1 q.2.2 := by
  refine Ev.of (by decide) rfl (Nat.le_of_ble_eq_true rfl) (fun z => by cases z) ?_
  show Rn Γ (0) mX10_hasBit 0 [some (.int x0), some (.int x1)] [] d e _ _ _
  unfold FX10_hasBit at h
  refine a_ite h (fun c1 h => ?_) (fun c1 h => ?_)
  · refine bX10_hasBit_0 (fun z => absurd c1 z) (fun _ => ?_)
    refine bX10_hasBit_9 ?_
    cases h
    exact bX10_hasBit_14 (a_nz (Or.inr rfl))
  · refine bX10_hasBit_0 (fun _ => ?_) (fun z => absurd z c1)
    refine bX10_hasBit_13 ?_
    cases h
    exact bX10_hasBit_14 (a_nz (Or.inl rfl))

noncomputable def sX10_total_0 (d : aI) (e : aJ) (o0 : Nat) (x1 : Int32) : Option (Nat × aL × aI × aJ) := (bif (decide (o0 = 4 ∨ o0 = 9)) then (some (4, [some (.ref o0), some (.int x1), some (.int (nI 0)), some (.int (nI 0))], d, e)) else none)
theorem tX10_total_0 {Γ : aG × Launch} {d dF : aI} {e eF : aJ} {o0 : Nat} {x1 : Int32} {r : Option Value} {p : Nat × aL × aI × aJ} (h : sX10_total_0 d e o0 x1 = some p) (kc : Nat.beq p.1 100000 = false → Rn Γ (0) mX10_total p.1 p.2.1 [] p.2.2.1 p.2.2.2 r dF eF) (kr : p.1 = 100000 → r = a_rt p.2.1 ∧ dF = p.2.2.1 ∧ eF = p.2.2.2) : Rn Γ (0) mX10_total 0 [some (.ref o0), some (.int x1), none, none] [] d e r dF eF := by
  unfold sX10_total_0 at h
  obtain ⟨ho0x, h⟩ := a_cond h
  have ho0 := of_decide_eq_true ho0x
  refine bX10_total_0 ?_
  cases h
  exact kc rfl

noncomputable def sX10_total_4 (d : aI) (e : aJ) (o0 : Nat) (x1 : Int32) (x2 : Int32) (x3 : Int32) : Option (Nat × aL × aI × aJ) := (bif (decide (o0 = 4 ∨ o0 = 9)) then (if x1 ≤ x3 then (some (100000, [some (.int x2)], d, e)) else (if (nI 6) ≤ x3 then (some (100000, [some (.int x2)], d, e)) else (bif ((a_inb x3 6)) then (some (4, [some (.ref o0), some (.int x1), some (.int (x2 + (d o0 (x3).toNatClampNeg))), some (.int (x3 + (nI 1)))], d, e)) else none))) else none)
theorem tX10_total_4 {Γ : aG × Launch} {d dF : aI} {e eF : aJ} {o0 : Nat} {x1 : Int32} {x2 : Int32} {x3 : Int32} {r : Option Value} {p : Nat × aL × aI × aJ} (h : sX10_total_4 d e o0 x1 x2 x3 = some p) (kc : Nat.beq p.1 100000 = false → Rn Γ (0) mX10_total p.1 p.2.1 [] p.2.2.1 p.2.2.2 r dF eF) (kr : p.1 = 100000 → r = a_rt p.2.1 ∧ dF = p.2.2.1 ∧ eF = p.2.2.2) : Rn Γ (0) mX10_total 4 [some (.ref o0), some (.int x1), some (.int x2), some (.int x3)] [] d e r dF eF := by
  unfold sX10_total_4 at h
  obtain ⟨ho0x, h⟩ := a_cond h
  have ho0 := of_decide_eq_true ho0x
  refine a_ite h (fun c1 h => ?_) (fun c1 h => ?_)
  · refine bX10_total_4 (fun _ => ?_) (fun z => absurd c1 z)
    cases h
    obtain ⟨k1, k2, k3⟩ := kr rfl
    exact bX10_total_27 k1 k2 k3
  · refine bX10_total_4 (fun z => absurd z c1) (fun _ => ?_)
    refine a_ite h (fun c2 h => ?_) (fun c2 h => ?_)
    · refine bX10_total_9 ho0 (fun _ => ?_) (fun z => absurd c2 z)
      cases h
      obtain ⟨k1, k2, k3⟩ := kr rfl
      exact bX10_total_27 k1 k2 k3
    · refine bX10_total_9 ho0 (fun z => absurd z c2) (fun _ => ?_)
      obtain ⟨g3, h⟩ := a_cond h
      refine bX10_total_15 ho0 (a_inb_vp g3) ?_
      cases h
      exact kc rfl

noncomputable def stX10_total (p : Nat × aL × aI × aJ) : Option (Nat × aL × aI × aJ) := match p with
  | (0, [some (.ref o0), some (.int x1), none, none], d, e) => sX10_total_0 d e o0 x1
  | (4, [some (.ref o0), some (.int x1), some (.int x2), some (.int x3)], d, e) => sX10_total_4 d e o0 x1 x2 x3
  | _ => none
theorem uX10_total {Γ : aG × Launch} {p p2 : Nat × aL × aI × aJ} {r : Option Value} {dF : aI} {eF : aJ} (h : stX10_total p = some p2) (kc : Nat.beq p2.1 100000 = false → Rn Γ (0) mX10_total p2.1 p2.2.1 [] p2.2.2.1 p2.2.2.2 r dF eF) (kr : p2.1 = 100000 → r = a_rt p2.2.1 ∧ dF = p2.2.2.1 ∧ eF = p2.2.2.2) : Rn Γ (0) mX10_total p.1 p.2.1 [] p.2.2.1 p.2.2.2 r dF eF := by
  unfold stX10_total at h
  split at h
  · exact tX10_total_0 h kc kr
  · exact tX10_total_4 h kc kr
  · cases h
noncomputable def FX10_total (d : aI) (e : aJ) (o0 : Nat) (x1 : Int32) : Option (Int32 × aI × aJ) := (a_run (stX10_total) (0, [some (.ref o0), some (.int x1), none, none], d, e)).bind a_xI
theorem evX10_total {Γ : aG × Launch} {d : aI} {e : aJ} {o0 : Nat} {x1 : Int32} {q : Int32 × aI × aJ} (h : FX10_total d e o0 x1 = some q) : Ev Γ (0) mX10_total [.ref o0, .int x1] d e (some (.int q.1)) q.2.1 q.2.2 := by
  refine Ev.of (by decide) rfl (Nat.le_of_ble_eq_true rfl) (fun z => by cases z) ?_
  show Rn Γ (0) mX10_total 0 [some (.ref o0), some (.int x1), none, none] [] d e _ _ _
  obtain ⟨q1, h1, h2⟩ := Option.bind_eq_some_iff.mp h
  obtain ⟨e1, e2, e3⟩ := a_xI_rt h2
  exact Rn.cast (a_run_ok (uX10_total) rfl h1) e1.symm e2.symm e3.symm
noncomputable def sX10_ratio_0 (d : aI) (e : aJ) (y0 : Int64) (y2 : Int64) (x4 : Int32) : Option (Nat × aL × aI × aJ) := (some (9, [some (.long y0), none, some (.long y2), none, some (.int x4), some (.long y2), none, some (.long y0), none, some (.int (nI 0)), none, none], d, e))
theorem tX10_ratio_0 {Γ : aG × Launch} {d dF : aI} {e eF : aJ} {y0 : Int64} {y2 : Int64} {x4 : Int32} {r : Option Value} {p : Nat × aL × aI × aJ} (h : sX10_ratio_0 d e y0 y2 x4 = some p) (kc : Nat.beq p.1 100000 = false → Rn Γ (0) mX10_ratio p.1 p.2.1 [] p.2.2.1 p.2.2.2 r dF eF) (kr : p.1 = 100000 → r = a_rt p.2.1 ∧ dF = p.2.2.1 ∧ eF = p.2.2.2) : Rn Γ (0) mX10_ratio 0 [some (.long y0), none, some (.long y2), none, some (.int x4), none, none, none, none, none, none, none] [] d e r dF eF := by
  unfold sX10_ratio_0 at h
  refine bX10_ratio_0 ?_
  cases h
  exact kc rfl

noncomputable def sX10_ratio_9 (d : aI) (e : aJ) (y0 : Int64) (y2 : Int64) (x4 : Int32) (y5 : Int64) (y7 : Int64) (x9 : Int32) (v10 : Option Value) (v11 : Option Value) : Option (Nat × aL × aI × aJ) := (if (nI 100) ≤ x9 then (if (lg_cmp y5 (lN 0)) = 0 then (if x4 = 0 then (some (100000, [some (.long (lN 0))], d, e)) else (some (100000, [some (.long (lN 1))], d, e))) else (if x4 = 0 then (bif ((decide (¬ y5 = 0))) then (some (100000, [some (.long (y0 / y5))], d, e)) else none) else (bif ((decide (¬ y5 = 0))) then (some (100000, [some (.long (y2 / y5))], d, e)) else none))) else (if (lg_cmp y7 (lN 0)) = 0 then (if (lg_cmp y5 (lN 0)) = 0 then (if x4 = 0 then (some (100000, [some (.long (lN 0))], d, e)) else (some (100000, [some (.long (lN 1))], d, e))) else (if x4 = 0 then (bif ((decide (¬ y5 = 0))) then (some (100000, [some (.long (y0 / y5))], d, e)) else none) else (bif ((decide (¬ y5 = 0))) then (some (100000, [some (.long (y2 / y5))], d, e)) else none))) else (bif ((decide (¬ y7 = 0))) then (some (9, [some (.long y0), none, some (.long y2), none, some (.int x4), some (.long y7), none, some (.long (a_jrm y5 y7)), none, some (.int (x9 + (nI 1))), some (.long (a_jrm y5 y7)), none], d, e)) else none)))
theorem tX10_ratio_9 {Γ : aG × Launch} {d dF : aI} {e eF : aJ} {y0 : Int64} {y2 : Int64} {x4 : Int32} {y5 : Int64} {y7 : Int64} {x9 : Int32} {v10 : Option Value} {v11 : Option Value} {r : Option Value} {p : Nat × aL × aI × aJ} (h : sX10_ratio_9 d e y0 y2 x4 y5 y7 x9 v10 v11 = some p) (kc : Nat.beq p.1 100000 = false → Rn Γ (0) mX10_ratio p.1 p.2.1 [] p.2.2.1 p.2.2.2 r dF eF) (kr : p.1 = 100000 → r = a_rt p.2.1 ∧ dF = p.2.2.1 ∧ eF = p.2.2.2) : Rn Γ (0) mX10_ratio 9 [some (.long y0), none, some (.long y2), none, some (.int x4), some (.long y5), none, some (.long y7), none, some (.int x9), v10, v11] [] d e r dF eF := by
  unfold sX10_ratio_9 at h
  refine a_ite h (fun c1 h => ?_) (fun c1 h => ?_)
  · refine bX10_ratio_9 (fun _ => ?_) (fun z => absurd c1 z)
    refine a_ite h (fun c2 h => ?_) (fun c2 h => ?_)
    · refine bX10_ratio_44 (fun z => absurd c2 z) (fun _ => ?_)
      refine a_ite h (fun c3 h => ?_) (fun c3 h => ?_)
      · refine bX10_ratio_51 (fun _ => ?_) (fun z => absurd c3 z)
        refine bX10_ratio_60 ?_
        cases h
        obtain ⟨k1, k2, k3⟩ := kr rfl
        exact bX10_ratio_61 k1 k2 k3
      · refine bX10_ratio_51 (fun z => absurd z c3) (fun _ => ?_)
        refine bX10_ratio_56 ?_
        cases h
        obtain ⟨k1, k2, k3⟩ := kr rfl
        exact bX10_ratio_61 k1 k2 k3
    · refine bX10_ratio_44 (fun _ => ?_) (fun z => absurd z c2)
      refine a_ite h (fun c4 h => ?_) (fun c4 h => ?_)
      · refine bX10_ratio_62 (fun _ => ?_) (fun z => absurd c4 z)
        refine bX10_ratio_71 ?_
        obtain ⟨g5, h⟩ := a_cond h
        cases h
        obtain ⟨k1, k2, k3⟩ := kr rfl
        exact bX10_ratio_72 (of_decide_eq_true g5) k1 k2 k3
      · refine bX10_ratio_62 (fun z => absurd z c4) (fun _ => ?_)
        refine bX10_ratio_67 ?_
        obtain ⟨g6, h⟩ := a_cond h
        cases h
        obtain ⟨k1, k2, k3⟩ := kr rfl
        exact bX10_ratio_72 (of_decide_eq_true g6) k1 k2 k3
  · refine bX10_ratio_9 (fun z => absurd z c1) (fun _ => ?_)
    refine a_ite h (fun c7 h => ?_) (fun c7 h => ?_)
    · refine bX10_ratio_16 (fun _ => ?_) (fun z => absurd c7 z)
      refine a_ite h (fun c8 h => ?_) (fun c8 h => ?_)
      · refine bX10_ratio_44 (fun z => absurd c8 z) (fun _ => ?_)
        refine a_ite h (fun c9 h => ?_) (fun c9 h => ?_)
        · refine bX10_ratio_51 (fun _ => ?_) (fun z => absurd c9 z)
          refine bX10_ratio_60 ?_
          cases h
          obtain ⟨k1, k2, k3⟩ := kr rfl
          exact bX10_ratio_61 k1 k2 k3
        · refine bX10_ratio_51 (fun z => absurd z c9) (fun _ => ?_)
          refine bX10_ratio_56 ?_
          cases h
          obtain ⟨k1, k2, k3⟩ := kr rfl
          exact bX10_ratio_61 k1 k2 k3
      · refine bX10_ratio_44 (fun _ => ?_) (fun z => absurd z c8)
        refine a_ite h (fun c10 h => ?_) (fun c10 h => ?_)
        · refine bX10_ratio_62 (fun _ => ?_) (fun z => absurd c10 z)
          refine bX10_ratio_71 ?_
          obtain ⟨g11, h⟩ := a_cond h
          cases h
          obtain ⟨k1, k2, k3⟩ := kr rfl
          exact bX10_ratio_72 (of_decide_eq_true g11) k1 k2 k3
        · refine bX10_ratio_62 (fun z => absurd z c10) (fun _ => ?_)
          refine bX10_ratio_67 ?_
          obtain ⟨g12, h⟩ := a_cond h
          cases h
          obtain ⟨k1, k2, k3⟩ := kr rfl
          exact bX10_ratio_72 (of_decide_eq_true g12) k1 k2 k3
    · refine bX10_ratio_16 (fun z => absurd z c7) (fun _ => ?_)
      obtain ⟨g13, h⟩ := a_cond h
      refine bX10_ratio_23 (of_decide_eq_true g13) ?_
      cases h
      exact kc rfl

noncomputable def stX10_ratio (p : Nat × aL × aI × aJ) : Option (Nat × aL × aI × aJ) := match p with
  | (0, [some (.long y0), none, some (.long y2), none, some (.int x4), none, none, none, none, none, none, none], d, e) => sX10_ratio_0 d e y0 y2 x4
  | (9, [some (.long y0), none, some (.long y2), none, some (.int x4), some (.long y5), none, some (.long y7), none, some (.int x9), v10, v11], d, e) => sX10_ratio_9 d e y0 y2 x4 y5 y7 x9 v10 v11
  | _ => none
theorem uX10_ratio {Γ : aG × Launch} {p p2 : Nat × aL × aI × aJ} {r : Option Value} {dF : aI} {eF : aJ} (h : stX10_ratio p = some p2) (kc : Nat.beq p2.1 100000 = false → Rn Γ (0) mX10_ratio p2.1 p2.2.1 [] p2.2.2.1 p2.2.2.2 r dF eF) (kr : p2.1 = 100000 → r = a_rt p2.2.1 ∧ dF = p2.2.2.1 ∧ eF = p2.2.2.2) : Rn Γ (0) mX10_ratio p.1 p.2.1 [] p.2.2.1 p.2.2.2 r dF eF := by
  unfold stX10_ratio at h
  split at h
  · exact tX10_ratio_0 h kc kr
  · exact tX10_ratio_9 h kc kr
  · cases h
noncomputable def FX10_ratio (d : aI) (e : aJ) (y0 : Int64) (y2 : Int64) (x4 : Int32) : Option (Int64 × aI × aJ) := (a_run (stX10_ratio) (0, [some (.long y0), none, some (.long y2), none, some (.int x4), none, none, none, none, none, none, none], d, e)).bind a_xJ
theorem evX10_ratio {Γ : aG × Launch} {d : aI} {e : aJ} {y0 : Int64} {y2 : Int64} {x4 : Int32} {q : Int64 × aI × aJ} (h : FX10_ratio d e y0 y2 x4 = some q) : Ev Γ (0) mX10_ratio [.long y0, .long y2, .int x4] d e (some (.long q.1)) q.2.1 q.2.2 := by
  refine Ev.of (by decide) rfl (Nat.le_of_ble_eq_true rfl) (fun z => by cases z) ?_
  show Rn Γ (0) mX10_ratio 0 [some (.long y0), none, some (.long y2), none, some (.int x4), none, none, none, none, none, none, none] [] d e _ _ _
  obtain ⟨q1, h1, h2⟩ := Option.bind_eq_some_iff.mp h
  obtain ⟨e1, e2, e3⟩ := a_xJ_rt h2
  exact Rn.cast (a_run_ok (uX10_ratio) rfl h1) e1.symm e2.symm e3.symm
