/-! ===== the reference reads: products, sums, asks ===== -/
def Qv (tp : Nat → Int) (L : Nat) (lv : Int) (i : Nat) (base : List Int) : Prop := (KT tp L i = 320 → akD base = false) ∧ ∀ o r, base = o :: r → rkO o < lv ∧ o ≠ 41
theorem one_sml {T : Nat} {s : Int} {tp : Nat → Int} {L cap k : Nat} {P : Nat → Rs Fn} (h : ONE T s tp L P cap k) : SML T s tp L (RV s) 7 0 (Qv tp L 7) (fun _ _ => True) P cap k := by
  intro d e i base a O V ms hQ hc ha
  have o := h d e i base a O V ms hQ.1 hc ha
  cases hp : P i with
  | inl b => rw [hp] at o; exact o
  | inr q =>
    rw [hp] at o
    obtain ⟨d1, e1, O1, V1, b, w, x1, x2, x3, x4, x5, x6, x7⟩ := o
    obtain ⟨d2, y1, y2, y3⟩ := x1.endA hQ.2
    have sm := x7 0 d2 e1 (by omega) y1
    have sm' : SMR d e = SMR d2 e1 := sm.trans (if_pos rfl)
    refine ⟨d2, e1, O1, V1, b, [], sm', y2, fun O3 V3 z1 z2 => x2.ext z1, fun o ho => (List.not_mem_nil ho).elim, Nat.le_refl _, x3, x4.trans y3, x5, x6, by have := x2.2.1; omega, trivial⟩
theorem akD_ar {o : Int} {base : List Int} (h : 4 ≤ rkO o) : akD (o :: base) = false := by
  have := rk_lt (o := o) (by omega)
  show (decide (opN (o :: base) = 42) && (decide (40 ≤ o) || decide (1 ≤ rkO o ∧ rkO o ≤ 3))) = false
  rw [decide_eq_false (show ¬(40 ≤ o) by omega), decide_eq_false (show ¬(1 ≤ rkO o ∧ rkO o ≤ 3) by omega), Bool.false_or, Bool.and_false]
theorem m_prd {T : Nat} {s : Int} {tp : Nat → Int} {L N n : Nat} {opd : Nat → Nat → Rs Fn} (tn : TN tp L N) (hN : N ≤ 300) (ho : OPN T s tp L n opd) {k : Nat} (hk : k ≤ 8) (hkn : 8 ≤ k + n) : SML T s tp L (RV s) 6 1 (Qv tp L 6) (fun c _ => True ∧ opT c = none) (pPrd (KT tp L) (VT tp L) s opd k) (7 * k + 5) k := by
  refine m_mn tn hN (one_sml (m_one tn ho hk hkn)) rfl (by omega) (by omega) (by omega) (by omega) (fun i base h => ⟨h.1, fun o r hr => by have := h.2 o r hr; omega⟩) (fun i base h o r hr => (h.2 o r hr).1) (fun i c g pend base hQ hg hX hp => ?_)
  rcases opT_s hg with ⟨q, qg⟩ | ⟨q, qg⟩
  · subst q
    refine ⟨8, rfl, by omega, rfl, by omega, by omega, fun j => ⟨fun _ => akD_ar (by decide), fun o r hr => by injection hr with h1 h2; rw [← h1]; decide⟩, fun O V a b m f g' w1 w2 hO => ?_⟩
    rw [qg]
    exact w1.ar w2 hO (by omega)
  · subst q
    refine ⟨9, rfl, by omega, rfl, by omega, by omega, fun j => ⟨fun _ => akD_ar (by decide), fun o r hr => by injection hr with h1 h2; rw [← h1]; decide⟩, fun O V a b m f g' w1 w2 hO => ?_⟩
    rw [qg]
    exact w1.ar w2 hO (by omega)
theorem m_sum {T : Nat} {s : Int} {tp : Nat → Int} {L N n : Nat} {opd : Nat → Nat → Rs Fn} (tn : TN tp L N) (hN : N ≤ 300) (ho : OPN T s tp L n opd) {k : Nat} (hk : k ≤ 8) (hkn : 8 ≤ k + n) : SML T s tp L (RV s) 5 2 (Qv tp L 5) (fun c _ => (True ∧ opT c = none) ∧ opP c = none) (pSum (KT tp L) (VT tp L) s opd k) (7 * k + 4) k := by
  refine m_mn (Qs := Qv tp L 6) (Xs := fun c _ => True ∧ opT c = none) tn hN (m_prd tn hN ho hk hkn) rfl (by omega) (by omega) (by omega) (by omega) (fun i base h => ⟨h.1, fun o r hr => by have := h.2 o r hr; omega⟩) (fun i base h o r hr => (h.2 o r hr).1) (fun i c g pend base hQ hg hX hp => ?_)
  rcases opP_s hg with ⟨q, qg⟩ | ⟨q, qg⟩
  · subst q
    refine ⟨6, rfl, by omega, rfl, by omega, by omega, fun j => ⟨fun _ => akD_ar (by decide), fun o r hr => by injection hr with h1 h2; rw [← h1]; decide⟩, fun O V a b m f g' w1 w2 hO => ?_⟩
    rw [qg]
    exact w1.ar w2 hO (by omega)
  · subst q
    refine ⟨7, rfl, by omega, rfl, by omega, by omega, fun j => ⟨fun _ => akD_ar (by decide), fun o r hr => by injection hr with h1 h2; rw [← h1]; decide⟩, fun O V a b m f g' w1 w2 hO => ?_⟩
    rw [qg]
    exact w1.ar w2 hO (by omega)
/-- the nots -/
def n20 (m : Nat) (base : List Int) : List Int := List.replicate m 20 ++ base
theorem n20_len (m : Nat) (base : List Int) : (n20 m base).length = m + base.length := by unfold n20; rw [List.length_append, List.length_replicate]
theorem n20_op : ∀ (m : Nat) (base : List Int), opN (n20 m base) = opN base
  | 0, _ => by unfold n20; rw [List.replicate_zero, List.nil_append]
  | m + 1, base => n20_op m base
theorem n20_ak : ∀ (m : Nat) {base : List Int}, akD base = true → akD (n20 m base) = true
  | 0, base, h => by unfold n20; rw [List.replicate_zero, List.nil_append]; exact h
  | m + 1, base, h => by
    have ih := n20_ak m h
    have op : opN (n20 m base) = 42 := by
      rw [n20_op]
      cases base with
      | nil => cases h
      | cons o r =>
        have h' : (decide (opN (o :: r) = 42) && (decide (40 ≤ o) || decide (1 ≤ rkO o ∧ rkO o ≤ 3))) = true := h
        rw [Bool.and_eq_true] at h'
        exact of_decide_eq_true h'.1
    show (decide (opN (n20 m base) = 42) && (decide ((40 : Int) ≤ 20) || decide (1 ≤ rkO 20 ∧ rkO 20 ≤ 3))) = true
    rw [op]; rfl
theorem m_nots {T : Nat} {s : Int} {tp : Nat → Int} {L N : Nat} (tn : TN tp L N) {k a : Nat} {base : List Int} {O V : Int → Int} (hl : base.length ≤ 80) (hak : akD base = true) : ∀ (r m i : Nat) (d : aI) (e : aJ), m + r = 9 → MS d e T s tp L i (n20 m base) a (k + m) false O V → ∃ d' e', SMR d e = SMR d' e' ∧ MS d' e' T s tp L (pNt (KT tp L) k r i m).1 (n20 (pNt (KT tp L) k r i m).2 base) a (k + (pNt (KT tp L) k r i m).2) false O V ∧ KM T d d' e e' ∧ i ≤ (pNt (KT tp L) k r i m).1 ∧ psT tp L i + (pNt (KT tp L) k r i m).2 ≤ psT tp L (pNt (KT tp L) k r i m).1 + m ∧ ¬(KT tp L (pNt (KT tp L) k r i m).1 = 320 ∧ k + (pNt (KT tp L) k r i m).2 < 8)
  | 0, m, i, d, e, hr, ms => by
    have := ms.2.2.2.2.2.2.2.1.2
    omega
  | r + 1, m, i, d, e, hr, ms => by
    have e1 : pNt (KT tp L) k (r + 1) i m = if KT tp L i = 320 ∧ k + m < 8 then pNt (KT tp L) k r (i + 1) (m + 1) else (i, m) := rfl
    by_cases q : KT tp L i = 320 ∧ k + m < 8
    · rw [if_pos q] at e1
      rw [e1]
      have st := tn.2.1 i (by omega)
      have ll := n20_len m base
      obtain ⟨d1, e1, x1, x2, x3⟩ := (m_opened (o := 20) ms (by omega) (by omega)).2 q.2
      have bb := (b_not ms q.1).1 (n20_ak m hak) 0 d1 e1 x1
      have rb := run_b (v := some (.int (iI 0))) ms.w0 bb (by omega)
      have rb' : SMR d e = SMR d1 e1 := rb.trans (if_pos rfl)
      obtain ⟨d2, e2, y1, y2, y3, y4, y5, y6⟩ := m_nots tn hl hak r (m + 1) (i + 1) d1 e1 (by omega) x2
      exact ⟨d2, e2, rb'.trans y1, y2, x3.trans y3, by omega, by omega, y6⟩
    · rw [if_neg q] at e1
      rw [e1]
      exact ⟨d, e, rfl, ms, KM.refl d e, Nat.le_refl _, Nat.le_refl _, q⟩
theorem RB.nots {s : Int} {O V : Int → Int} {a : Int} {f : En → Bool} : ∀ (m : Nat) (b : Int), RB s O V a b f → (∀ z : Nat, z < m → O (b + z) = 20) → RB s O V a (b + m) (fun v => ntB m (f v))
  | 0, b, h, _ => by
    have e : b + ((0 : Nat) : Int) = b := by omega
    rw [e]; exact h
  | m + 1, b, h, g => by
    have ih := RB.nots m b h (fun z hz => g z (by omega))
    have r := ih.not (g m (by omega))
    rw [show b + ((m + 1 : Nat) : Int) = b + (m : Int) + 1 by omega]
    exact r
theorem dcO_app : ∀ (x y : List Int), dcO (x ++ y) = dcO x + dcO y
  | [], y => (Nat.zero_add _).symm
  | o :: x, y => by
    show (if rkO o = 7 ∨ o = 20 then 1 else 0) + dcO (x ++ y) = (if rkO o = 7 ∨ o = 20 then 1 else 0) + dcO x + dcO y
    rw [dcO_app x y, Nat.add_assoc]
theorem dcO_n : ∀ m : Nat, dcO (List.replicate m 20) = m
  | 0 => rfl
  | m + 1 => by
    show (if rkO 20 = 7 ∨ (20 : Int) = 20 then 1 else 0) + dcO (List.replicate m 20) = m + 1
    rw [dcO_n m, if_pos (Or.inr rfl), Nat.add_comm]
theorem cmO_t (c : Int) : (cmT c → 10 ≤ cmO c ∧ cmO c ≤ 15 ∧ rkO (cmO c) = 4 ∧ cmC (cmO c) = c) ∧ (¬cmT c → cmO c = -1) := by
  constructor
  · intro h
    rcases h with h | h | h | h | h | h <;> subst h <;> decide
  · intro h
    unfold cmO
    repeat' split
    all_goals omega
abbrev Xa (c : Int) (pl : List Int) : Prop := (opT c = none ∧ opP c = none) ∧ cmD pl = true
theorem btO_n {c : Int} {pl : List Int} (h1 : opT c = none) (h2 : opP c = none) : btO c pl = if opN pl = 42 then (if cmD pl = true then (if c = 319 then 21 else if c = 318 then 22 else -1) else cmO c) else -1 := by
  have a := opT_n h1
  have b := opP_n h2
  unfold btO
  rw [if_neg b.1, if_neg b.2, if_neg a.1, if_neg a.2]
theorem m_ask {T : Nat} {s : Int} {tp : Nat → Int} {L N n : Nat} {opd : Nat → Nat → Rs Fn} (tn : TN tp L N) (hN : N ≤ 300) (ho : OPN T s tp L n opd) {k : Nat} (hk : k ≤ 8) (hkn : 8 ≤ k + n) : SML T s tp L (RB s) 3 11 (fun _ base => akD base = true) Xa (pAsk (KT tp L) (VT tp L) s opd k) (7 * k + 2) k := by
  intro d e i base a O V ms hak hc ha
  obtain ⟨d1, e1, x1, x2, x3, x4, x5, x6⟩ := m_nots tn (by omega) hak 9 0 i d e rfl ms
  unfold pAsk
  generalize hp1 : (pNt (KT tp L) k 9 i 0).1 = i1 at *
  generalize hp2 : (pNt (KT tp L) k 9 i 0).2 = m at *
  have ll := n20_len m base
  have akm := n20_ak m hak
  have k8 : k + m ≤ 8 := x2.2.2.2.2.2.2.2.1.2
  by_cases q : KT tp L i1 = 320
  · rw [if_pos q]
    have op := (m_opened (o := 20) x2 (by omega) (by omega)).1 (by omega)
    have bb := (b_not x2 q).1 akm 3 d1 e1 op
    exact (b_flt x2 bb (by omega)).of x1 x3
  · rw [if_neg q]
    -- what stands below
    have hd : opN (n20 m base) = 42 ∧ ∃ o r, n20 m base = o :: r ∧ (o = 42 ∨ (1 ≤ rkO o ∧ rkO o ≤ 3)) := by
      cases hb : n20 m base with
      | nil => rw [hb] at akm; cases akm
      | cons o r =>
        rw [hb] at akm
        have h' : (decide (opN (o :: r) = 42) && (decide (40 ≤ o) || decide (1 ≤ rkO o ∧ rkO o ≤ 3))) = true := akm
        rw [Bool.and_eq_true, Bool.or_eq_true] at h'
        have o1 := of_decide_eq_true h'.1
        refine ⟨o1, o, r, rfl, ?_⟩
        rcases h'.2 with z | z
        · have z2 := of_decide_eq_true z
          have z3 : (if 40 ≤ o then o else opN r) = 42 := o1
          rw [if_pos z2] at z3
          exact Or.inl z3
        · exact Or.inr (of_decide_eq_true z)
    obtain ⟨on, o, r, hb, ohd⟩ := hd
    have oh : rkO o < 4 ∧ o ≠ 41 := by
      rcases ohd with z | z
      · rw [z]; decide
      · have := rk_lt z.1; omega
    have hd5 : ∀ o r, n20 m base = o :: r → rkO o < 5 ∧ o ≠ 41 := fun o2 r2 h2 => by
      rw [hb] at h2
      injection h2 with h3 h4
      rw [← h3]; omega
    have cmb : cmD (n20 m base) = false := by
      rw [hb]
      show (if 4 < rkO o then cmD r else decide (rkO o = 4)) = false
      rw [if_neg (by omega)]
      exact decide_eq_false (by omega)
    have s1 := m_sum tn hN ho k8 (by omega) d1 e1 i1 (n20 m base) a O V x2 ⟨fun z => absurd z q, hd5⟩ (by omega) (by have := tn.2.2 i; omega)
    unfold pAsk2
    cases hs : pSum (KT tp L) (VT tp L) s opd (k + m) i1 with
    | inl bd => rw [hs] at s1; exact FLT.of (d' := d1) (e' := e1) s1 x1 x3
    | inr w =>
      rw [hs] at s1
      obtain ⟨d2, e2, O2, V2, b, pend, y1, y2, y3, y4, y5, y6, y7, y8, y9, y10, y11⟩ := s1
      have bt := btO_n (pl := pend ++ n20 m base) y11.1.2 y11.2
      have y41 : ∀ o, o ∈ pend → 1 ≤ rkO o := fun o hx => by have := y4 o hx; omega
      rw [opN_app pend _ y41, if_pos on, cmD_app pend _ y4, cmb, if_neg (by decide)] at bt
      have cc := cmO_t (KT tp L w.1)
      have pw := tn.2.2 w.1
      have l3 := tn.1
      by_cases qc : cmT (KT tp L w.1)
      · simp only [if_pos qc]
        obtain ⟨c1, c2, c3, c4⟩ := cc.1 qc
        have st := tn.2.1 w.1 (by omega)
        have pw1 := tn.2.2 (w.1 + 1)
        obtain ⟨d3, e3, O3, V3, z1, z2, z3, z4, z5⟩ := h_bt (lv := 5) y2 bt (by omega) (by rw [c3, if_pos rfl]) (fun o r hr => (hd5 o r hr).1) y4 (by omega) (by omega)
        have s2 := m_sum tn hN ho k8 (by omega) d3 e3 (w.1 + 1) _ _ O3 V3 z2 ⟨fun _ => akD_ar (by omega), fun o r hr => by injection hr with h1 h2; rw [← h1]; omega⟩ (by show (n20 m base).length + 1 ≤ _; omega) (by omega)
        cases hs2 : pSum (KT tp L) (VT tp L) s opd (k + m) (w.1 + 1) with
        | inl bd => rw [hs2] at s2; exact FLT.of (d' := d3) (e' := e3) s2 (x1.trans (y1.trans z1)) (x3.trans (y7.trans z3))
        | inr p =>
          rw [hs2] at s2
          obtain ⟨d4, e4, O4, V4, b4, pend4, u1, u2, u3, u4, u5, u6, u7, u8, u9, u10, u11⟩ := s2
          have ln : (pend4 ++ cmO (KT tp L w.1) :: List.replicate m 20).length = pend4.length + 1 + m := by
            rw [List.length_append, List.length_cons, List.length_replicate]; omega
          have ap : (pend4 ++ cmO (KT tp L w.1) :: List.replicate m 20) ++ base = pend4 ++ cmO (KT tp L w.1) :: n20 m base := by
            unfold n20
            rw [List.append_assoc, List.cons_append]
          have dc : dcO (pend4 ++ cmO (KT tp L w.1) :: List.replicate m 20) = dcO pend4 + m := by
            rw [dcO_app]
            show dcO pend4 + ((if rkO (cmO (KT tp L w.1)) = 7 ∨ cmO (KT tp L w.1) = 20 then 1 else 0) + dcO (List.replicate m 20)) = _
            rw [dcO_n, if_neg (by omega), Nat.zero_add]
          refine ⟨d4, e4, O4, V4, b4, pend4 ++ cmO (KT tp L w.1) :: List.replicate m 20, x1.trans (y1.trans (z1.trans u1)), ?_, ?_, ?_, by omega, fun j hj => ?_, x3.trans (y7.trans (z3.trans u7)), by show i < p.1; omega, by rw [ln]; show b4 + (pend4.length + 1 + m) + psT tp L i ≤ a + psT tp L p.1; omega, by omega, ⟨u11.1.2, u11.2⟩, ?_⟩
          · rw [ap, dc, show k + (dcO pend4 + m) = k + m + dcO pend4 by omega]; exact u2
          · intro O5 V5 g1 g2
            have w1 : RV s O5 V5 a (b + pend.length : Nat) w.2 := y3 O5 V5 (fun j j1 j2 => by
              have v1 := g1 j j1 (by omega)
              have v2 := u6 j (by omega)
              have v3 := z4 j j2
              exact ⟨v1.1.trans (v2.1.trans v3.1), v1.2.trans (v2.2.trans v3.2)⟩) (fun t o hm => by
              have ml : t < pend.length := (List.getElem?_eq_some_iff.mp hm).1
              have v1 := g1 ((b : Int) + t) (by omega) (by omega)
              have v2 := u6 ((b : Int) + t) (by omega)
              rw [v1.1, v2.1]
              exact z5 t o hm)
            have w2 : RV s O5 V5 (b + pend.length : Nat) (b4 + pend4.length : Nat) p.2 := u3 O5 V5 (fun j j1 j2 => g1 j (by omega) j2) (fun t o hm => g2 t o (by rw [List.getElem?_append_left (List.getElem?_eq_some_iff.mp hm).1]; exact hm))
            have w3 := RB.cmp (o := cmO (KT tp L w.1)) w1 w2 (by
              have v := g2 pend4.length (cmO (KT tp L w.1)) (by rw [List.getElem?_append_right (Nat.le_refl _), Nat.sub_self]; rfl)
              rw [Int.natCast_add]; exact v) (by omega)
            rw [c4] at w3
            have w4 := RB.nots m _ w3 (fun z hz => by
              have v := g2 (pend4.length + 1 + z) 20 (by
                rw [List.getElem?_append_right (by omega), show pend4.length + 1 + z - pend4.length = z + 1 by omega, List.getElem?_cons_succ, List.getElem?_replicate, if_pos hz])
              rw [show ((b4 + pend4.length : Nat) : Int) + 1 + (z : Int) = (b4 : Int) + ((pend4.length + 1 + z : Nat) : Int) by omega]
              exact v)
            rw [ln, show ((b4 + (pend4.length + 1 + m) : Nat) : Int) = ((b4 + pend4.length : Nat) : Int) + 1 + (m : Int) by omega]
            exact w4
          · intro o hx
            rcases List.mem_append.mp hx with z | z
            · have := u4 o z; omega
            · rcases List.mem_cons.mp z with z | z
              · rw [z]; omega
              · rw [List.eq_of_mem_replicate z]; decide
          · have v1 := u6 j (by omega)
            have v2 := z4 j (by omega)
            have v3 := y6 j hj
            exact ⟨v1.1.trans (v2.1.trans v3.1), v1.2.trans (v2.2.trans v3.2)⟩
          · rw [ap, cmD_app pend4 _ u4]
            show (if 4 < rkO (cmO (KT tp L w.1)) then _ else decide (rkO (cmO (KT tp L w.1)) = 4)) = true
            rw [if_neg (by omega)]
            exact decide_eq_true c3
      · simp only [if_neg qc]
        rw [cc.2 qc] at bt
        have pt : ptO (KT tp L w.1) (pend ++ n20 m base) = -1 := by
          unfold ptO
          rw [opN_app pend _ y41, on, if_neg (by decide), if_pos rfl, cmD_app pend _ y4, cmb, if_neg (fun z => by cases z.2)]
        have fl := h_flt y2 bt pt (by rw [opN_app pend _ y41, on]; decide)
        exact ⟨(show (1 : Int) ≤ 1 ∧ (1 : Int) ≤ 6 by decide), d2, e2, (x1.trans y1).trans fl, y2.2.1.1, x3.trans y7⟩
def Qb (base : List Int) : Prop := opN base = 42 ∧ ∃ o r, base = o :: r ∧ (o = 42 ∨ o = 22)
theorem Qb.ak {base : List Int} (h : Qb base) : akD base = true := by
  obtain ⟨on, o, r, hb, z⟩ := h
  rw [hb] at on ⊢
  show (decide (opN (o :: r) = 42) && (decide (40 ≤ o) || decide (1 ≤ rkO o ∧ rkO o ≤ 3))) = true
  rw [on]
  rcases z with z | z <;> rw [z] <;> rfl
theorem m_both {T : Nat} {s : Int} {tp : Nat → Int} {L N n : Nat} {opd : Nat → Nat → Rs Fn} (tn : TN tp L N) (hN : N ≤ 300) (ho : OPN T s tp L n opd) {k : Nat} (hk : k ≤ 8) (hkn : 8 ≤ k + n) : SML T s tp L (RB s) 2 12 (fun _ base => Qb base) (fun c pl => Xa c pl ∧ opA c = none) (pBth (KT tp L) (VT tp L) s opd k) (7 * k + 1) k := by
  refine m_mn (Qs := fun _ base => akD base = true) (Xs := Xa) tn hN (m_ask tn hN ho hk hkn) rfl (by omega) (by omega) (by omega) (by omega) (fun i base h => h.ak) (fun i base h o r hr => ?_) (fun i c g pend base hQ hg hX hp => ?_)
  · obtain ⟨on, o2, r2, hb, z⟩ := h
    rw [hb] at hr
    injection hr with h1 h2
    rw [← h1]
    rcases z with z | z <;> rw [z] <;> decide
  · obtain ⟨q, qg⟩ := opA_s hg
    subst q
    refine ⟨21, ?_, by omega, rfl, by omega, by omega, fun j => ?_, fun O V a b m f g' w1 w2 hO => ?_⟩
    · rw [btO_n hX.1.1 hX.1.2, opN_app pend _ hp, if_pos hQ.1, if_pos hX.2]; rfl
    · show (decide (opN base = 42) && (decide ((40 : Int) ≤ 21) || decide (1 ≤ rkO 21 ∧ rkO 21 ≤ 3))) = true
      rw [hQ.1]; rfl
    · rw [qg]
      exact RB.join (o := 21) w1 w2 hO (by omega)
theorem m_eth {T : Nat} {s : Int} {tp : Nat → Int} {L N n : Nat} {opd : Nat → Nat → Rs Fn} (tn : TN tp L N) (hN : N ≤ 300) (ho : OPN T s tp L n opd) {k : Nat} (hk : k ≤ 8) (hkn : 8 ≤ k + n) : SML T s tp L (RB s) 1 13 (fun _ base => ∃ r, base = 42 :: r) (fun c pl => (Xa c pl ∧ opA c = none) ∧ opO c = none) (pEth (KT tp L) (VT tp L) s opd k) (7 * k) k := by
  refine m_mn (Qs := fun _ base => Qb base) (Xs := fun c pl => Xa c pl ∧ opA c = none) tn hN (m_both tn hN ho hk hkn) rfl (by omega) (by omega) (by omega) (by omega) (fun i base h => ?_) (fun i base h o r hr => ?_) (fun i c g pend base hQ hg hX hp => ?_)
  · obtain ⟨r, hr⟩ := h
    rw [hr]
    exact ⟨rfl, 42, r, rfl, Or.inl rfl⟩
  · obtain ⟨r2, hb⟩ := h
    rw [hb] at hr
    injection hr with h1 h2
    rw [← h1]; decide
  · obtain ⟨r, hb⟩ := hQ
    obtain ⟨q, qg⟩ := opO_s hg
    subst q
    have on : opN base = 42 := by rw [hb]; rfl
    refine ⟨22, ?_, by omega, rfl, by omega, by omega, fun j => ⟨on, 22, base, rfl, Or.inr rfl⟩, fun O V a b m f g' w1 w2 hO => ?_⟩
    · rw [btO_n hX.1.1.1 hX.1.1.2, opN_app pend _ hp, if_pos on, if_pos hX.1.2]; rfl
    · rw [qg]
      exact RB.join (o := 22) w1 w2 hO (by omega)
