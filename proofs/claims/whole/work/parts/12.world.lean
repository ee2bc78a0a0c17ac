/-! ===== the world behind the constructors: which cells there are, and their references ===== -/
def SH : aK := [(14, 11), (13, 8), (6, 13), (0, 6), (0, 6), (0, 6), (0, 6), (0, 6), (0, 6), (0, 6), (0, 25), (10, 3), (0, 1800), (7, 5), (0, 10), (0, 10), (0, 10), (7, 5), (0, 8), (0, 8), (0, 8), (7, 5), (0, 5), (0, 5), (0, 5), (7, 5), (0, 8), (0, 8), (0, 8), (13, 8), (6, 13), (0, 6), (0, 6), (0, 6), (0, 6), (0, 6), (0, 6), (0, 6), (0, 25), (10, 3), (0, 1800), (7, 5), (0, 10), (0, 10), (0, 10), (7, 5), (0, 8), (0, 8), (0, 8), (7, 5), (0, 5), (0, 5), (0, 5), (7, 5), (0, 8), (0, 8), (0, 8), (3, 4), (11, 10), (0, 24), (0, 24), (0, 24), (0, 300), (11, 10), (0, 24), (0, 24), (0, 24), (0, 300), (11, 10), (0, 24), (0, 24), (0, 24), (0, 300), (11, 10), (0, 24), (0, 24), (0, 24), (0, 300), (11, 10), (0, 24), (0, 24), (0, 24), (0, 300), (9, 12), (0, 300), (0, 301), (0, 301), (0, 301), (11, 10), (0, 24), (0, 24), (0, 24), (0, 300), (5, 2), (0, 64), (8, 7), (0, 448), (0, 6), (0, 6), (12, 4), (0, 10), (0, 10), (0, 10), (4, 3), (0, 5), (0, 5), (0, 6), (0, 60), (15, 33), (0, 1961), (0, 1961), (0, 2724), (0, 300), (0, 160), (0, 8), (1, 330), (2, 330), (0, 42), (0, 10), (2, 169)]
def RFt : List (List (Option Nat)) := [[some 1, some 29, some 57, some 78, some 83, some 93, some 95, some 99, some 103, some 106, some 107], [some 2, some 11, some 13, some 17, some 21, some 25, none, none], [some 3, some 4, some 5, some 6, some 7, some 8, some 9, some 10, none, none, none, none, none], [], [], [], [], [], [], [], [], [some 12, none, none], [], [none, some 14, some 15, some 16, none], [], [], [], [none, some 18, some 19, some 20, none], [], [], [], [none, some 22, some 23, some 24, none], [], [], [], [none, some 26, some 27, some 28, none], [], [], [], [some 30, some 39, some 41, some 45, some 49, some 53, none, none], [some 31, some 32, some 33, some 34, some 35, some 36, some 37, some 38, none, none, none, none, none], [], [], [], [], [], [], [], [], [some 40, none, none], [], [none, some 42, some 43, some 44, none], [], [], [], [none, some 46, some 47, some 48, none], [], [], [], [none, some 50, some 51, some 52, none], [], [], [], [none, some 54, some 55, some 56, none], [], [], [], [some 58, some 63, some 68, some 73], [some 59, some 60, some 61, some 62, none, none, none, none, none, none], [], [], [], [], [some 64, some 65, some 66, some 67, none, none, none, none, none, none], [], [], [], [], [some 69, some 70, some 71, some 72, none, none, none, none, none, none], [], [], [], [], [some 74, some 75, some 76, some 77, none, none, none, none, none, none], [], [], [], [], [some 79, some 80, some 81, some 82, none, none, none, none, none, none], [], [], [], [], [some 84, some 88, none, none, none, some 85, some 86, some 87, none, none, none, none], [], [], [], [], [some 89, some 90, some 91, some 92, none, none, none, none, none, none], [], [], [], [], [some 94, none], [], [some 96, some 97, some 98, none, none, none, none], [], [], [], [some 100, some 101, some 102, none], [], [], [], [some 104, some 105, none], [], [], [], [], [some 109, some 110, some 111, some 112, none, none, none, none, none, none, none, none, none, none, none, some 113, none, none, none, none, some 114, some 115, some 116, none, none, some 117, none, none, none, some 118, none, none, some 119], [], [], [], [], [], [], [], [], [], [], []]
def a_nth {α : Type} : List α → Nat → α → α
  | [], _, z => z
  | a :: _, 0, _ => a
  | _ :: l, i + 1, z => a_nth l i z
def RF (o j : Nat) : Option Nat := a_nth (a_nth RFt o []) j none
abbrev aI : Type := Nat → Nat → Int32
abbrev aJ : Type := Nat → Nat → Int64
abbrev hp (d : aI) (e : aJ) : aH := (SH, RF, d, e)
def uI (d : aI) (o f : Nat) (x : Int32) : aI := fun k => if k = o then upd (d o) f x else d k
def uA (d : aI) (o : Nat) (f : Nat → Int32) : aI := fun k => if k = o then f else d k
def uJ (e : aJ) (o f : Nat) (x : Int64) : aJ := fun k => if k = o then vp_updL (e o) f x else e k
def szOf (o : Nat) : Nat := (SH.getD o (0, 0)).2
abbrev Rn (Γ : aG × Launch) (dp : Nat) (M : aM) (pc : Nat) (L : aL) (S : List Value) (d : aI) (e : aJ) (r : Option Value) (dF : aI) (eF : aJ) : Prop := a_Rn Γ.1 Γ.2 dp M SH.length (a_sz SH) pc L S (hp d e) r (hp dF eF)
abbrev Ev (Γ : aG × Launch) (dp : Nat) (M : aM) (as : List Value) (d : aI) (e : aJ) (r : Option Value) (dF : aI) (eF : aJ) : Prop := a_Ev Γ.1 Γ.2 dp M as (hp d e) r (hp dF eF)
theorem a_toInt {x : Int32} {q : Nat} (h : x.toInt = (q : Int)) : x = nI q := by
  have hq : q < 2 ^ 31 := by have := x.toInt_lt; omega
  exact Int32.toInt_inj.mp (by rw [h, nI_toInt hq])
theorem a_out (lo hi : Int) (x : Int32) (hl : lo ≤ hi) (h : ∀ j : Int, lo ≤ j → j ≤ hi → ¬ x.toInt = j) : x.toInt < lo ∨ hi < x.toInt := by
  rcases Int.lt_or_le x.toInt lo with h1 | h1
  · exact Or.inl h1
  · rcases Int.lt_or_le hi x.toInt with h2 | h2
    · exact Or.inr h2
    · exact absurd rfl (h x.toInt h1 h2)
theorem a_texts {Γ : aG × Launch} {dp : Nat} {M : aM} {pc : Nat} {L : aL} {S : List Value} {d dF : aI} {e eF : aJ} {r : Option Value} {x : Int32} {j : Nat} (hj : j < 4) (hi : x = nI j) (hd : decode M.2.1 pc = .ok (.aaload, 1)) (k : Rn Γ dp M (pc + 1) L (.ref (58 + 5 * j) :: S) d e r dF eF) : Rn Γ dp M pc L (.int x :: .ref 57 :: S) d e r dF eF := by
  subst hi
  refine a_o_aald (o := 57) (n := 4) rfl (vp_in_nI hj (by omega)) hd ?_
  have e1 : a_rf ((hp d e).2.1 57 (nI j).toNatClampNeg) = .ref (58 + 5 * j) := by
    rw [nI_clamp (by omega)]
    rcases (show j = 0 ∨ j = 1 ∨ j = 2 ∨ j = 3 by omega) with rfl | rfl | rfl | rfl <;> rfl
  rw [e1]
  exact k
theorem Rn.cast {Γ : aG × Launch} {dp : Nat} {M : aM} {pc : Nat} {L : aL} {S : List Value} {d dF d0 : aI} {e eF e0 : aJ} {r r0 : Option Value} (k : Rn Γ dp M pc L S d e r0 d0 e0) (hr : r = r0) (hF : dF = d0) (hE : eF = e0) : Rn Γ dp M pc L S d e r dF eF := by
  subst hr; subst hF; subst hE; exact k
/-- a call's contract by a run from its entry -/
theorem Ev.of {Γ : aG × Launch} {dp : Nat} {M : aM} {as : List Value} {d dF : aI} {e eF : aJ} {r : Option Value} (hy : plainName M.1.cls = true) (hd : as.all (fun a => match a with | .double _ => false | _ => true) = true) (hn : (a_ar as).length ≤ M.2.2.1)
    (hi : M.2.2.2.2.2.1 = true → M.1.name = "<init>") (k : Rn Γ dp M 0 (a_pad M.2.2.1 (a_ar as)) [] d e r dF eF) : Ev Γ dp M as d e r dF eF :=
  a_Ev.of hy ⟨Nat.le_refl _, Nat.le_refl _⟩ hd hn hi k
