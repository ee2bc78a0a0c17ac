/-! ===== the reference reads: one, levels ===== -/
/-- tokens: how many, each with a byte -/
def TN (tp : Nat → Int) (L N : Nat) : Prop := L ≤ 300 ∧ (∀ i, KT tp L i ≠ 0 → i < N ∧ psT tp L i + 1 ≤ psT tp L (i + 1)) ∧ ∀ i, psT tp L i ≤ L
def FLT (T : Nat) (tp : Nat → Int) (L : Nat) (d : aI) (e : aJ) (b : Int × Nat) : Prop := (1 ≤ b.1 ∧ b.1 ≤ 6) ∧ ∃ d' e', SMR d e = some ([some (.int (iI b.1))], d', e') ∧ d' 108 8 = iI (psT tp L b.2 : Nat) ∧ KM T d d' e e'
theorem FLT.of {T : Nat} {tp : Nat → Int} {L : Nat} {d d' : aI} {e e' : aJ} {b : Int × Nat} (h : FLT T tp L d' e' b) (g : SMR d e = SMR d' e') (k : KM T d d' e e') : FLT T tp L d e b := by
  obtain ⟨h1, d2, e2, x, y, z⟩ := h
  exact ⟨h1, d2, e2, g.trans x, y, k.trans z⟩
abbrev WT (α : Type) : Type := (Int → Int) → (Int → Int) → Int → Int → α → Prop
def PD {α : Type} (W : WT α) (pend : List Int) (O V : Int → Int) (a b : Nat) (x : α) : Prop := ∀ O' V' : Int → Int, (∀ i : Int, a ≤ i → i < b → O' i = O i ∧ V' i = V i) → (∀ (m : Nat) (o : Int), pend[m]? = some o → O' (b + m) = o) → W O' V' a (b + pend.length : Nat) x
/-- what comes of reading a part that may wait -/
def RSM {α : Type} (T : Nat) (s : Int) (tp : Nat → Int) (L : Nat) (W : WT α) (lo : Int) (mx : Nat) (X : Int → List Int → Prop) (d : aI) (e : aJ) (i : Nat) (base : List Int) (a k : Nat) (O V : Int → Int) (x : Rs α) : Prop := match x with
  | .inl b => FLT T tp L d e b
  | .inr q => ∃ d' e' O' V' b pend, SMR d e = SMR d' e' ∧ MS d' e' T s tp L q.1 (pend ++ base) b (k + dcO pend) true O' V' ∧ PD W pend O' V' a b q.2 ∧ (∀ o, o ∈ pend → lo ≤ rkO o) ∧ pend.length ≤ mx ∧ (∀ i : Int, i < a → O' i = O i ∧ V' i = V i) ∧ KM T d d' e e' ∧ i < q.1 ∧ b + pend.length + psT tp L i ≤ a + psT tp L q.1 ∧ a ≤ b ∧ X (KT tp L q.1) (pend ++ base)
def SML {α : Type} (T : Nat) (s : Int) (tp : Nat → Int) (L : Nat) (W : WT α) (lo : Int) (mx : Nat) (Q : Nat → List Int → Prop) (X : Int → List Int → Prop) (P : Nat → Rs α) (cap k : Nat) : Prop := ∀ d e i base a O V, MS d e T s tp L i base a k false O V → Q i base → base.length ≤ cap → a ≤ psT tp L i → RSM T s tp L W lo mx X d e i base a k O V (P i)
def ONR (T : Nat) (s : Int) (tp : Nat → Int) (L : Nat) (d : aI) (e : aJ) (i : Nat) (base : List Int) (a k : Nat) (O V : Int → Int) (x : Rs Fn) : Prop := match x with
  | .inl b => FLT T tp L d e b
  | .inr q => ∃ d' e' O' V' b w, MS d' e' T s tp L q.1 base b k w O' V' ∧ RV s O' V' (a : Nat) (b : Nat) q.2 ∧ (∀ i : Int, i < a → O' i = O i ∧ V' i = V i) ∧ KM T d d' e e' ∧ i < q.1 ∧ b + psT tp L i ≤ a + psT tp L q.1 ∧ (∀ f d2 e2, 0 ≤ f ∧ f ≤ 6 → FX11_endOne d' e' = some (iI f, d2, e2) → SMR d e = FNs f d2 e2)
def ONE (T : Nat) (s : Int) (tp : Nat → Int) (L : Nat) (P : Nat → Rs Fn) (cap k : Nat) : Prop := ∀ d e i base a O V, MS d e T s tp L i base a k false O V → (KT tp L i = 320 → akD base = false) → base.length ≤ cap → a ≤ psT tp L i → ONR T s tp L d e i base a k O V (P i)
def OPN (T : Nat) (s : Int) (tp : Nat → Int) (L n : Nat) (opd : Nat → Nat → Rs Fn) : Prop := ∀ k : Nat, k < 8 → 8 ≤ k + n → ∀ d e i base a O V, MS d e T s tp L i base a k false O V → base.length ≤ 7 * k + 6 → a ≤ psT tp L i → opnT (KT tp L i) → ONR T s tp L d e i base a k O V (opd (k + 1) i)
/-- a fault where one begins -/
theorem b_flt {d : aI} {e : aJ} {T : Nat} {s : Int} {tp : Nat → Int} {L t : Nat} {pl : List Int} {a k : Nat} {O V : Int → Int} {f : Int} (h : MS d e T s tp L t pl a k false O V) (b : FX11_beginOne d e = some (iI f, d, e)) (hf : 1 ≤ f ∧ f ≤ 6) : FLT T tp L d e (f, t) := by
  refine ⟨hf, d, e, ?_, h.2.1.1, KM.refl d e⟩
  show SMR d e = _
  unfold SMR
  rw [run_b h.w0 b (by omega)]
  unfold FNs
  rw [if_neg (by omega)]
theorem m_one {T : Nat} {s : Int} {tp : Nat → Int} {L N n : Nat} {opd : Nat → Nat → Rs Fn} (tn : TN tp L N) (ho : OPN T s tp L n opd) {k : Nat} (hk : k ≤ 8) (hkn : 8 ≤ k + n) : ONE T s tp L (pOne (KT tp L) (VT tp L) s opd k) (7 * k + 6) k := by
  intro d e i base a O V ms hak hl ha
  have h5 := ms.1.2.2.2
  have kr := KT_in h5 (L := L) i
  have ps1 := tn.2.2 (i + 1)
  have st := tn.2.1 i
  have l3 := tn.1
  unfold pOne
  by_cases q1 : KT tp L i = 1
  · rw [if_pos q1]
    have b := b_num ms q1
    have vi := VT_in (tp := tp) (L := L) (t := i)
    have st1 := st (by omega)
    by_cases v : VT tp L i ≤ 9999
    · rw [if_pos v]
      obtain ⟨d1, x1, x2, x3, x4, x5⟩ := ms.emit (o := 0) (v := VT tp L i) (by omega)
      obtain ⟨d2, e2, n1, n2, n3, n4, n5⟩ := x2.next
      refine ⟨d2, e2, _, _, a + 1, false, n2, RV.num (by omega) ⟨vi.1, v⟩ (if_pos rfl) (if_pos rfl), fun j hj => ⟨if_neg (by omega), if_neg (by omega)⟩, x3.trans n3, Nat.lt_succ_self i, by show a + 1 + psT tp L i ≤ a + psT tp L (i + 1); omega, fun f d3 e3 hf he => ?_⟩
      exact run_b ms.w0 (b.1 v d1 d2 e2 f d3 e3 x1 n1 he) hf
    · rw [if_neg v]
      exact b_flt ms (b.2 v) (by omega)
  · rw [if_neg q1]
    by_cases q2 : opnT (KT tp L i)
    · rw [if_pos q2]
      by_cases k8 : 8 ≤ k
      · rw [if_pos k8]
        have oi : 0 ≤ opnO (KT tp L i) ∧ opnO (KT tp L i) ≤ 44 := by
          unfold opnO
          repeat' split
          all_goals omega
        have op := (m_opened (o := opnO (KT tp L i)) ms oi (by omega)).1 (by omega)
        exact b_flt ms (b_open ms q2 op) (by omega)
      · rw [if_neg k8]
        exact ho k (by omega) hkn d e i base a O V ms hl ha q2
    · rw [if_neg q2]
      by_cases q3 : nmI (KT tp L i) < 8
      · rw [if_pos q3]
        have b := b_name ms q3
        have nc := nm_cases q3
        have st1 := st (by omega)
        by_cases v : nmP s (nmI (KT tp L i))
        · rw [if_pos v]
          obtain ⟨d1, x1, x2, x3, x4, x5⟩ := ms.emit (o := 1) (v := (nmI (KT tp L i) : Nat)) (by omega)
          obtain ⟨d2, e2, n1, n2, n3, n4, n5⟩ := x2.next
          refine ⟨d2, e2, _, _, a + 1, false, n2, RV.name (by omega) q3 v (if_pos rfl) (if_pos rfl), fun j hj => ⟨if_neg (by omega), if_neg (by omega)⟩, x3.trans n3, Nat.lt_succ_self i, by show a + 1 + psT tp L i ≤ a + psT tp L (i + 1); omega, fun f d3 e3 hf he => ?_⟩
          exact run_b ms.w0 (b.1 v d1 d2 e2 f d3 e3 x1 n1 he) hf
        · rw [if_neg v]
          exact b_flt ms (b.2 v) (by omega)
      · rw [if_neg q3]
        exact b_flt ms (b_none ms q1 q2 q3 hak) (by omega)
/-- parts of a kind with signs between, by the reference -/
theorem m_loop {α : Type} {T : Nat} {s : Int} {tp : Nat → Int} {L N : Nat} {W : WT α} {lvl los : Int} {mx mxs cap k : Nat} {Q Qs : Nat → List Int → Prop} {Xs : Int → List Int → Prop} {op : Int → Option (α → α → α)} {sub : Nat → Rs α} (tn : TN tp L N) (hsub : SML T s tp L W los mxs Qs Xs sub (cap + 1) k) (op0 : op 0 = none) (hlv : 1 ≤ lvl ∧ lvl ≤ 6 ∧ lvl ≤ los) (hmx : mxs + 1 ≤ mx) (hm : mx ≤ 300) (hcap : cap < 100)
    (hQb : ∀ i base, Q i base → ∀ o r, base = o :: r → rkO o < lvl)
    (hop : ∀ i c g pend base, Q i base → op c = some g → Xs c (pend ++ base) → (∀ o, o ∈ pend → 1 ≤ rkO o) → ∃ oc, btO c (pend ++ base) = oc ∧ 0 ≤ oc ∧ rkO oc = lvl ∧ lvl ≠ 4 ∧ oc ≠ 20 ∧ (∀ j, Qs j (oc :: base)) ∧ (∀ O V a b m f g', W O V a b f → W O V b m g' → O m = oc → W O V a (m + 1) (g f g')))
    {d0 : aI} {e0 : aJ} {i a : Nat} {base : List Int} {O0 V0 : Int → Int} (hQ : Q i base) (hc : base.length ≤ cap) (ha : a ≤ psT tp L i) : ∀ (r j : Nat) (f : α), N ≤ j + r → RSM T s tp L W lvl mx Xs d0 e0 i base a k O0 V0 (.inr (j, f)) → RSM T s tp L W lvl mx (fun c pl => Xs c pl ∧ op c = none) d0 e0 i base a k O0 V0 (lpP op sub (KT tp L) r j f)
  | 0, j, f, hN, h => by
    obtain ⟨d, e, O, V, b, pend, h1, h2, h3, h4, h5, h6, h7, h8, h9, h10, h11⟩ := h
    have k0 : KT tp L j = 0 := Classical.byContradiction (fun z => by have := (tn.2.1 j z).1; omega)
    refine ⟨d, e, O, V, b, pend, h1, h2, h3, h4, h5, h6, h7, h8, h9, h10, h11, ?_⟩
    show op (KT tp L j) = none
    rw [k0]; exact op0
  | r + 1, j, f, hN, h => by
    obtain ⟨d, e, O, V, b, pend, h1, h2, h3, h4, h5, h6, h7, h8, h9, h10, h11⟩ := h
    cases hg : op (KT tp L j) with
    | none =>
      have e1 : lpP op sub (KT tp L) (r + 1) j f = .inr (j, f) := by unfold lpP; rw [hg]
      rw [e1]
      exact ⟨d, e, O, V, b, pend, h1, h2, h3, h4, h5, h6, h7, h8, h9, h10, h11, hg⟩
    | some g =>
      have kn : KT tp L j ≠ 0 := fun z => by rw [z, op0] at hg; cases hg
      have st := tn.2.1 j kn
      have pj := tn.2.2 j
      have l3 := tn.1
      have h9' : b + pend.length + psT tp L i ≤ a + psT tp L j := h9
      have h8' : i < j := h8
      obtain ⟨oc, o1, o2, o3, o4, o5, o6, o7⟩ := hop i _ g pend base hQ hg h11 (fun o hx => by have := h4 o hx; omega)
      obtain ⟨d1, e1, O1, V1, x1, x2, x3, x4, x5⟩ := h_bt (lv := lvl) h2 o1 o2 (by rw [o3, if_neg o4]) (hQb i base hQ) h4 (by omega) (by omega)
      have sb := hsub d1 e1 (j + 1) (oc :: base) (b + pend.length) O1 V1 x2 (o6 (j + 1)) (by show base.length + 1 ≤ cap + 1; omega) (by omega)
      have m1 : ∀ i : Int, i < a → O1 i = O0 i ∧ V1 i = V0 i := fun i hi => by
        have y := x4 i (by omega)
        have z := h6 i hi
        exact ⟨y.1.trans z.1, y.2.trans z.2⟩
      cases hs : sub (j + 1) with
      | inl bd =>
        rw [hs] at sb
        have e2 : lpP op sub (KT tp L) (r + 1) j f = .inl bd := by
          show (match op (KT tp L j) with | none => _ | some g => _) = _
          rw [hg]
          simp only [hs]
        rw [e2]
        exact FLT.of (d' := d1) (e' := e1) sb (h1.trans x1) (h7.trans x3)
      | inr q =>
        rw [hs] at sb
        obtain ⟨d2, e2, O2, V2, b2, pend2, y1, y2, y3, y4, y5, y6, y7, y8, y9, y10, y11⟩ := sb
        have e3 : lpP op sub (KT tp L) (r + 1) j f = lpP op sub (KT tp L) r q.1 (g f q.2) := by
          show (match op (KT tp L j) with | none => _ | some g => _) = _
          rw [hg]
          simp only [hs]
        rw [e3]
        have ap : pend2 ++ oc :: base = (pend2 ++ [oc]) ++ base := by rw [List.append_assoc]; rfl
        have dcA : ∀ l : List Int, dcO (l ++ [oc]) = dcO l := by
          intro l
          induction l with
          | nil =>
            show (if rkO oc = 7 ∨ oc = 20 then 1 else 0) + 0 = 0
            rw [if_neg (by omega)]
          | cons x l ih =>
            show (if rkO x = 7 ∨ x = 20 then 1 else 0) + dcO (l ++ [oc]) = (if rkO x = 7 ∨ x = 20 then 1 else 0) + dcO l
            rw [ih]
        have ln : (pend2 ++ [oc]).length = pend2.length + 1 := by rw [List.length_append]; rfl
        refine m_loop tn hsub op0 hlv hmx hm hcap hQb hop hQ hc ha r q.1 (g f q.2) (by omega) ⟨d2, e2, O2, V2, b2, pend2 ++ [oc], h1.trans (x1.trans y1), ?_, ?_, ?_, by omega, fun i hi => ?_, h7.trans (x3.trans y7), by show i < q.1; omega, by rw [ln]; show b2 + (pend2.length + 1) + psT tp L i ≤ a + psT tp L q.1; omega, by omega, ?_⟩
        · rw [dcA, ← ap]; exact y2
        · intro O3 V3 z1 z2
          have w1 : W O3 V3 a (b + pend.length : Nat) f := h3 O3 V3 (fun i i1 i2 => by
            have u1 := z1 i i1 (by omega)
            have u2 := y6 i (by omega)
            have u3 := x4 i i2
            exact ⟨u1.1.trans (u2.1.trans u3.1), u1.2.trans (u2.2.trans u3.2)⟩) (fun m o hm => by
            have ml : m < pend.length := (List.getElem?_eq_some_iff.mp hm).1
            have u1 := z1 ((b : Int) + m) (by omega) (by omega)
            have u2 := y6 ((b : Int) + m) (by omega)
            rw [u1.1, u2.1]
            exact x5 m o hm)
          have w2 : W O3 V3 (b + pend.length : Nat) (b2 + pend2.length : Nat) q.2 := y3 O3 V3 (fun i i1 i2 => z1 i (by omega) i2) (fun m o hm => z2 m o (by rw [List.getElem?_append_left (List.getElem?_eq_some_iff.mp hm).1]; exact hm))
          have w3 := o7 O3 V3 _ _ _ _ _ w1 w2 (by
            have u := z2 pend2.length oc (by rw [List.getElem?_append_right (Nat.le_refl _), Nat.sub_self]; rfl)
            rw [Int.natCast_add]; exact u)
          rw [ln]
          exact w3
        · intro o hx
          rcases List.mem_append.mp hx with z | z
          · have := y4 o z; omega
          · rw [List.mem_singleton.mp z]; omega
        · have u1 := y6 i (by omega)
          have u2 := m1 i hi
          exact ⟨u1.1.trans u2.1, u1.2.trans u2.2⟩
        · rw [← ap]; exact y11
theorem m_mn {α : Type} {T : Nat} {s : Int} {tp : Nat → Int} {L N : Nat} {W : WT α} {lvl los : Int} {mx mxs cap k : Nat} {Q Qs : Nat → List Int → Prop} {Xs : Int → List Int → Prop} {op : Int → Option (α → α → α)} {sub : Nat → Rs α} (tn : TN tp L N) (hN : N ≤ 300) (hsub : SML T s tp L W los mxs Qs Xs sub (cap + 1) k) (op0 : op 0 = none) (hlv : 1 ≤ lvl ∧ lvl ≤ 6 ∧ lvl ≤ los) (hmx : mxs + 1 ≤ mx) (hm : mx ≤ 300) (hcap : cap < 100)
    (hQs : ∀ i base, Q i base → Qs i base)
    (hQb : ∀ i base, Q i base → ∀ o r, base = o :: r → rkO o < lvl)
    (hop : ∀ i c g pend base, Q i base → op c = some g → Xs c (pend ++ base) → (∀ o, o ∈ pend → 1 ≤ rkO o) → ∃ oc, btO c (pend ++ base) = oc ∧ 0 ≤ oc ∧ rkO oc = lvl ∧ lvl ≠ 4 ∧ oc ≠ 20 ∧ (∀ j, Qs j (oc :: base)) ∧ (∀ O V a b m f g', W O V a b f → W O V b m g' → O m = oc → W O V a (m + 1) (g f g'))) : SML T s tp L W lvl mx Q (fun c pl => Xs c pl ∧ op c = none) (mnP op sub (KT tp L)) cap k := by
  intro d e i base a O V ms hQ hc ha
  have sb := hsub d e i base a O V ms (hQs i base hQ) (by omega) ha
  unfold mnP
  cases hs : sub i with
  | inl b => rw [hs] at sb; exact sb
  | inr q =>
    rw [hs] at sb
    obtain ⟨d1, e1, O1, V1, b, pend, h1, h2, h3, h4, h5, h6, h7, h8, h9, h10, h11⟩ := sb
    exact m_loop tn hsub op0 hlv hmx hm hcap hQb hop hQ hc ha 300 q.1 q.2 (by omega) ⟨d1, e1, O1, V1, b, pend, h1, h2, h3, fun o hx => by have := h4 o hx; omega, by omega, h6, h7, h8, h9, h10, h11⟩
