/-! ===== the reference reads: what opens ===== -/
theorem h_flt1 {d : aI} {e : aJ} {T : Nat} {s : Int} {tp : Nat → Int} {L t : Nat} {pl : List Int} {a k : Nat} {O V : Int → Int} (h : MS d e T s tp L t pl a k true O V) (ho : btO (KT tp L t) pl = -1) (hp : ptO (KT tp L t) pl = -1) (on : 40 ≤ opN pl) : FLT T tp L d e (1, t) :=
  ⟨(show (1 : Int) ≤ 1 ∧ (1 : Int) ≤ 6 by decide), d, e, h_flt h ho hp on, h.2.1.1, KM.refl d e⟩
theorem pd_rv {α : Type} {W : WT α} {pend : List Int} {O V O1 V1 O2 V2 : Int → Int} {a b : Nat} {x : α} (h : PD W pend O V a b x) (h1 : ∀ i : Int, i < b → O1 i = O i ∧ V1 i = V i) (h2 : ∀ (m : Nat) (o : Int), pend[m]? = some o → O1 (b + m) = o) (h3 : ∀ i : Int, i < (b + pend.length : Nat) → O2 i = O1 i ∧ V2 i = V1 i) : W O2 V2 a (b + pend.length : Nat) x := h O2 V2 (fun i i1 i2 => by
    have u1 := h3 i (by omega)
    have u2 := h1 i i2
    exact ⟨u1.1.trans u2.1, u1.2.trans u2.2⟩) (fun m o hm => by
    have ml : m < pend.length := (List.getElem?_eq_some_iff.mp hm).1
    have u1 := h3 ((b : Int) + m) (by omega)
    rw [u1.1]
    exact h2 m o hm)
theorem agr {O V O1 V1 O2 V2 : Int → Int} {a b : Int} (h1 : ∀ i : Int, i < a → O1 i = O i ∧ V1 i = V i) (h2 : ∀ i : Int, i < b → O2 i = O1 i ∧ V2 i = V1 i) (ab : a ≤ b) : ∀ i : Int, i < a → O2 i = O i ∧ V2 i = V i := fun i hi => by
  have u1 := h2 i (by omega)
  have u2 := h1 i hi
  exact ⟨u1.1.trans u2.1, u1.2.trans u2.2⟩
theorem op_step {d : aI} {e : aJ} {T : Nat} {s : Int} {tp : Nat → Int} {L i : Nat} {base : List Int} {a k : Nat} {O V : Int → Int} (ms : MS d e T s tp L i base a k false O V) (hk : k < 8) (hl : base.length < 100) (q : opnT (KT tp L i)) : ∃ d1 e1, SMR d e = SMR d1 e1 ∧ MS d1 e1 T s tp L (i + 1) (opnO (KT tp L i) :: base) a (k + 1) false O V ∧ KM T d d1 e e1 := by
  have oi : 0 ≤ opnO (KT tp L i) ∧ opnO (KT tp L i) ≤ 44 := by
    unfold opnO
    repeat' split
    all_goals omega
  obtain ⟨d1, e1, x1, x2, x3⟩ := (m_opened (o := opnO (KT tp L i)) ms oi hl).2 hk
  have rb := run_b (v := some (.int (iI 0))) ms.w0 (b_open ms q x1) (by omega)
  exact ⟨d1, e1, rb.trans (if_pos rfl), x2, x3⟩
/-- minus and chill -/
def unR (g : Fn → Fn) (x : Rs Fn) : Rs Fn := match x with
  | .inl b => .inl b
  | .inr q => .inr (q.1, g q.2)
theorem on_un {d : aI} {e : aJ} {T : Nat} {s : Int} {tp : Nat → Int} {L i : Nat} {base : List Int} {a k : Nat} {O V : Int → Int} {o : Int} {x : Rs Fn} {g : Fn → Fn} {d1 : aI} {e1 : aJ} (tn : ∀ i, psT tp L i ≤ 300) (st : psT tp L i + 1 ≤ psT tp L (i + 1)) (ha : a ≤ psT tp L i) (sm : SMR d e = SMR d1 e1) (km : KM T d d1 e e1) (ho : rkO o = 7) (hg : ∀ O V b f, RV s O V (a : Nat) (b : Nat) f → O b = o → RV s O V (a : Nat) (b + 1 : Nat) (g f)) (h : ONR T s tp L d1 e1 (i + 1) (o :: base) a (k + 1) O V x) : ONR T s tp L d e i base a k O V (unR g x) := by
  cases x with
  | inl b => exact FLT.of (d' := d1) (e' := e1) h sm km
  | inr q =>
    obtain ⟨d2, e2, O2, V2, b, w, y1, y2, y3, y4, y5, y6, y7⟩ := h
    have pq := tn q.1
    have ab := y2.2.1
    obtain ⟨d3, z1, z2, z3⟩ := y1.pop ho (by omega)
    refine ⟨d3, e2, _, _, b + 1, w, z2, hg _ _ b q.2 (y2.ext (fun j j1 j2 => ⟨if_neg (by omega), if_neg (by omega)⟩)) (if_pos rfl), fun j hj => ?_, km.trans (y4.trans z3), by show i < q.1; omega, by show b + 1 + psT tp L i ≤ a + psT tp L q.1; omega, fun f d4 e4 hf he => ?_⟩
    · have u := y3 j hj
      exact ⟨(if_neg (by omega)).trans u.1, (if_neg (by omega)).trans u.2⟩
    · exact sm.trans (y7 f d4 e4 hf (by rw [end_eq z1]; exact he))
theorem m_opd {T : Nat} {s : Int} {tp : Nat → Int} {L N : Nat} (tn : TN tp L N) (hN : N ≤ 300) : ∀ n, OPN T s tp L n (pOpd (KT tp L) (VT tp L) s n)
  | 0 => fun k h1 h2 => by omega
  | n + 1 => by
    intro k hk hkn d e i base a O V ms hl ha q
    have ih := m_opd (T := T) (s := s) tn hN n
    show ONR T s tp L d e i base a k O V (pOpB (KT tp L) (VT tp L) s (pOpd (KT tp L) (VT tp L) s n) (k + 1) i)
    obtain ⟨d1, e1, x1, x2, x3⟩ := op_step ms hk (by omega) q
    have tl : ∀ i, psT tp L i ≤ 300 := fun i => by have := tn.2.2 i; have := tn.1; omega
    have st := (tn.2.1 i (by omega)).2
    have one := m_one (k := k + 1) tn ih (by omega) (by omega)
    have sum := m_sum (k := k + 1) tn hN ih (by omega) (by omega)
    unfold pOpB
    by_cases q1 : KT tp L i = 40
    · rw [if_pos q1]
      rw [q1] at x2
      have x2' : MS d1 e1 T s tp L (i + 1) (40 :: base) a (k + 1) false O V := x2
      have s1 := sum d1 e1 (i + 1) (40 :: base) a O V x2' ⟨fun _ => rfl, fun o r hr => by injection hr with h1 h2; rw [← h1]; decide⟩ (by show base.length + 1 ≤ _; omega) (by omega)
      cases hs : pSum (KT tp L) (VT tp L) s (pOpd (KT tp L) (VT tp L) s n) (k + 1) (i + 1) with
      | inl b => rw [hs] at s1; exact FLT.of (d' := d1) (e' := e1) s1 x1 x3
      | inr w =>
        rw [hs] at s1
        obtain ⟨d2, e2, O2, V2, b, pend, y1, y2, y3, y4, y5, y6, y7, y8, y9, y10, y11⟩ := s1
        have y41 : ∀ o, o ∈ pend → 1 ≤ rkO o := fun o hx => by have := y4 o hx; omega
        have on : opN (pend ++ 40 :: base) = 40 := opN_app pend _ y41
        have bt := btO_n (pl := pend ++ 40 :: base) y11.1.2 y11.2
        rw [on, if_neg (by decide)] at bt
        have pw := tl w.1
        by_cases qc : KT tp L w.1 = 41
        · simp only [if_pos qc]
          have pt : ptO (KT tp L w.1) (pend ++ 40 :: base) = 0 := by unfold ptO; rw [on, if_pos rfl, if_pos qc]
          have st2 := (tn.2.1 w.1 (by omega)).2
          obtain ⟨d3, e3, O3, V3, b3, z1, z2, z3, z4, z5, z6, z7⟩ := h_shut y2 bt pt (Or.inl rfl) y41 (by omega)
          have b3e := z5 rfl
          subst b3e
          refine ⟨d3, e3, O3, V3, _, true, z1, pd_rv y3 z3 z4 (fun _ _ => ⟨rfl, rfl⟩), agr y6 z3 (by omega), x3.trans (y7.trans z2), by show i < w.1 + 1; omega, by show b + pend.length + psT tp L i ≤ a + psT tp L (w.1 + 1); omega, fun f d4 e4 hf he => x1.trans (y1.trans (z7 f d4 e4 hf he))⟩
        · simp only [if_neg qc]
          have pt : ptO (KT tp L w.1) (pend ++ 40 :: base) = -1 := by unfold ptO; rw [on, if_pos rfl, if_neg qc]
          exact (h_flt1 y2 bt pt (by rw [on]; decide)).of (x1.trans y1) (x3.trans y7)
    · rw [if_neg q1]
      by_cases q2 : KT tp L i = 45
      · rw [if_pos q2]
        rw [q2] at x2
        have x2' : MS d1 e1 T s tp L (i + 1) (5 :: base) a (k + 1) false O V := x2
        have s1 := one d1 e1 (i + 1) (5 :: base) a O V x2' (fun _ => akD_ar (by decide)) (by show base.length + 1 ≤ _; omega) (by omega)
        have ou := on_un (g := fun f v => -f v) tl st ha x1 x3 rfl (fun O V b f h h2 => RV.neg h h2) s1
        cases hs : pOne (KT tp L) (VT tp L) s (pOpd (KT tp L) (VT tp L) s n) (k + 1) (i + 1) with
        | inl b => rw [hs] at ou; exact ou
        | inr w => rw [hs] at ou; exact ou
      · rw [if_neg q2]
        by_cases q3 : KT tp L i = 312
        · rw [if_pos q3]
          rw [q3] at x2
          have x2' : MS d1 e1 T s tp L (i + 1) (41 :: base) a (k + 1) false O V := x2
          have s1 := one d1 e1 (i + 1) (41 :: base) a O V x2' (fun _ => rfl) (by show base.length + 1 ≤ _; omega) (by omega)
          cases hs : pOne (KT tp L) (VT tp L) s (pOpd (KT tp L) (VT tp L) s n) (k + 1) (i + 1) with
          | inl b => rw [hs] at s1; exact FLT.of (d' := d1) (e' := e1) s1 x1 x3
          | inr w =>
            rw [hs] at s1
            obtain ⟨d2, e2, O2, V2, b, ww, y1, y2, y3, y4, y5, y6, y7⟩ := s1
            have et := y1.endT
            have ab := y2.2.1
            by_cases qc : KT tp L w.1 = 311
            · simp only [if_pos qc]
              obtain ⟨d3, e3, z1, z2, z3⟩ := et.1 qc
              have sm3 : SMR d1 e1 = SMR d3 e3 := (y7 0 d3 e3 (by omega) z1).trans (if_pos rfl)
              have st2 := (tn.2.1 w.1 (by omega)).2
              have s2 := one d3 e3 (w.1 + 1) (4 :: base) b O2 V2 z2 (fun _ => akD_ar (by decide)) (by show base.length + 1 ≤ _; omega) (by omega)
              cases hs2 : pOne (KT tp L) (VT tp L) s (pOpd (KT tp L) (VT tp L) s n) (k + 1) (w.1 + 1) with
              | inl bd => rw [hs2] at s2; exact FLT.of (d' := d3) (e' := e3) s2 (x1.trans sm3) (x3.trans (y4.trans z3))
              | inr p =>
                rw [hs2] at s2
                obtain ⟨d4, e4, O4, V4, b4, w4, u1, u2, u3, u4, u5, u6, u7⟩ := s2
                have pp := tl p.1
                have ab4 := u2.2.1
                obtain ⟨d5, v1, v2, v3⟩ := u1.pop (by decide) (by omega)
                have rt : RV s (fun i => if i = (b4 : Int) then 4 else O4 i) (fun i => if i = (b4 : Int) then 0 else V4 i) a ((b4 + 1 : Nat) : Int) (fun v => turnS (w.2 v) (p.2 v)) := RV.turn (y2.ext (fun j j1 j2 => by
                    have uu := u3 j (by omega)
                    exact ⟨(if_neg (by omega)).trans uu.1, (if_neg (by omega)).trans uu.2⟩)) (u2.ext (fun j j1 j2 => ⟨if_neg (by omega), if_neg (by omega)⟩)) (if_pos rfl)
                refine ⟨d5, e4, _, _, b4 + 1, w4, v2, rt, fun j hj => ?_, x3.trans (y4.trans (z3.trans (u4.trans v3))), by show i < p.1; omega, by show b4 + 1 + psT tp L i ≤ a + psT tp L p.1; omega, fun f d6 e6 hf he => ?_⟩
                · have uu := u3 j (by omega)
                  have yy := y3 j hj
                  exact ⟨(if_neg (by omega)).trans (uu.1.trans yy.1), (if_neg (by omega)).trans (uu.2.trans yy.2)⟩
                · exact (x1.trans sm3).trans (u7 f d6 e6 hf (by rw [end_eq v1]; exact he))
            · simp only [if_neg qc]
              obtain ⟨d3, e3, z1, z2, z3⟩ := et.2 qc
              refine ⟨(show (1 : Int) ≤ 1 ∧ (1 : Int) ≤ 6 by decide), d3, e3, (x1.trans (y7 1 d3 e3 (by omega) z1)).trans ?_, z2, x3.trans (y4.trans z3)⟩
              unfold FNs
              exact if_neg (by decide)
        · rw [if_neg q3]
          by_cases q4 : KT tp L i = 313
          · rw [if_pos q4]
            rw [q4] at x2
            have x2' : MS d1 e1 T s tp L (i + 1) (2 :: base) a (k + 1) false O V := x2
            have s1 := one d1 e1 (i + 1) (2 :: base) a O V x2' (fun _ => akD_ar (by decide)) (by show base.length + 1 ≤ _; omega) (by omega)
            have ou := on_un (g := fun f v => v.2 (f v)) tl st ha x1 x3 rfl (fun O V b f h h2 => RV.chill h h2) s1
            cases hs : pOne (KT tp L) (VT tp L) s (pOpd (KT tp L) (VT tp L) s n) (k + 1) (i + 1) with
            | inl b => rw [hs] at ou; exact ou
            | inr w => rw [hs] at ou; exact ou
          · rw [if_neg q4]
            have q5 : KT tp L i = 314 := by omega
            rw [q5] at x2
            have x2' : MS d1 e1 T s tp L (i + 1) (42 :: base) a (k + 1) false O V := x2
            have s1 := m_eth (k := k + 1) tn hN ih (by omega) (by omega) d1 e1 (i + 1) (42 :: base) a O V x2' ⟨base, rfl⟩ (by show base.length + 1 ≤ _; omega) (by omega)
            unfold pCh
            cases hs : pEth (KT tp L) (VT tp L) s (pOpd (KT tp L) (VT tp L) s n) (k + 1) (i + 1) with
            | inl b => rw [hs] at s1; exact FLT.of (d' := d1) (e' := e1) s1 x1 x3
            | inr w =>
              rw [hs] at s1
              obtain ⟨d2, e2, O2, V2, b, pend, y1, y2, y3, y4, y5, y6, y7, y8, y9, y10, y11⟩ := s1
              have on : opN (pend ++ 42 :: base) = 42 := opN_app pend _ y4
              have bt := btO_n (pl := pend ++ 42 :: base) y11.1.1.1.1 y11.1.1.1.2
              rw [on, if_pos rfl, if_pos y11.1.1.2, if_neg (opA_n y11.1.2), if_neg (opO_n y11.2)] at bt
              have pw := tl w.1
              by_cases qc : KT tp L w.1 = 315
              · simp only [if_pos qc]
                have pt : ptO (KT tp L w.1) (pend ++ 42 :: base) = 43 := by
                  unfold ptO
                  rw [on, if_neg (by decide), if_pos rfl, if_pos (show KT tp L w.1 = 315 ∧ cmD (pend ++ 42 :: base) = true from ⟨qc, y11.1.1.2⟩)]
                have st2 := (tn.2.1 w.1 (by omega)).2
                obtain ⟨d3, e3, O3, V3, z1, z2, z3, z4, z5⟩ := h_pt y2 bt pt (Or.inl rfl) (by omega) y4 (by omega)
                have s2 := sum d3 e3 (w.1 + 1) (43 :: base) _ O3 V3 z2 ⟨fun _ => rfl, fun o r hr => by injection hr with h1 h2; rw [← h1]; decide⟩ (by show base.length + 1 ≤ _; omega) (by omega)
                have smA := x1.trans (y1.trans z1)
                have kmA := x3.trans (y7.trans z3)
                cases hs2 : pSum (KT tp L) (VT tp L) s (pOpd (KT tp L) (VT tp L) s n) (k + 1) (w.1 + 1) with
                | inl bd => rw [hs2] at s2; exact FLT.of (d' := d3) (e' := e3) s2 smA kmA
                | inr p =>
                  rw [hs2] at s2
                  obtain ⟨d4, e4, O4, V4, b4, pend4, u1, u2, u3, u4, u5, u6, u7, u8, u9, u10, u11⟩ := s2
                  have u41 : ∀ o, o ∈ pend4 → 1 ≤ rkO o := fun o hx => by have := u4 o hx; omega
                  have on4 : opN (pend4 ++ 43 :: base) = 43 := opN_app pend4 _ u41
                  have bt4 := btO_n (pl := pend4 ++ 43 :: base) u11.1.2 u11.2
                  rw [on4, if_neg (by decide)] at bt4
                  have pp := tl p.1
                  by_cases qd : KT tp L p.1 = 316
                  · simp only [if_pos qd]
                    have pt4 : ptO (KT tp L p.1) (pend4 ++ 43 :: base) = 44 := by
                      unfold ptO
                      rw [on4, if_neg (by decide), if_neg (by decide), if_pos rfl, if_pos qd]
                    have st4 := (tn.2.1 p.1 (by omega)).2
                    obtain ⟨d5, e5, O5, V5, v1, v2, v3, v4, v5⟩ := h_pt u2 bt4 pt4 (Or.inr rfl) (by omega) u41 (by omega)
                    have s3 := sum d5 e5 (p.1 + 1) (44 :: base) _ O5 V5 v2 ⟨fun _ => rfl, fun o r hr => by injection hr with h1 h2; rw [← h1]; decide⟩ (by show base.length + 1 ≤ _; omega) (by omega)
                    have smB := smA.trans (u1.trans v1)
                    have kmB := kmA.trans (u7.trans v3)
                    cases hs3 : pSum (KT tp L) (VT tp L) s (pOpd (KT tp L) (VT tp L) s n) (k + 1) (p.1 + 1) with
                    | inl bd => rw [hs3] at s3; exact FLT.of (d' := d5) (e' := e5) s3 smB kmB
                    | inr r =>
                      rw [hs3] at s3
                      obtain ⟨d6, e6, O6, V6, b6, pend6, t1, t2, t3, t4, t5, t6, t7, t8, t9, t10, t11⟩ := s3
                      have t41 : ∀ o, o ∈ pend6 → 1 ≤ rkO o := fun o hx => by have := t4 o hx; omega
                      have on6 : opN (pend6 ++ 44 :: base) = 44 := opN_app pend6 _ t41
                      have bt6 := btO_n (pl := pend6 ++ 44 :: base) t11.1.2 t11.2
                      rw [on6, if_neg (by decide)] at bt6
                      have pr := tl r.1
                      by_cases qe : KT tp L r.1 = 317
                      · simp only [if_pos qe]
                        have pt6 : ptO (KT tp L r.1) (pend6 ++ 44 :: base) = 0 := by
                          unfold ptO
                          rw [on6, if_neg (by decide), if_neg (by decide), if_neg (by decide), if_pos rfl, if_pos qe]
                        have st6 := kw2 x2.1.2.2.2 (show 300 ≤ KT tp L r.1 by omega)
                        obtain ⟨d7, e7, O7, V7, b7, r1, r2, r3, r4, r5, r6, r7⟩ := h_shut t2 bt6 pt6 (Or.inr rfl) t41 (by omega)
                        obtain ⟨b7e, o3⟩ := r6 rfl
                        subst b7e
                        have A7 : ∀ i : Int, i < (b6 : Int) → O7 i = O6 i ∧ V7 i = V6 i := r3
                        have A5 : ∀ i : Int, i < ((b4 + pend4.length : Nat) : Int) → O7 i = O5 i ∧ V7 i = V5 i := agr t6 A7 (by omega)
                        have A4 : ∀ i : Int, i < (b4 : Int) → O7 i = O4 i ∧ V7 i = V4 i := agr v4 A5 (by omega)
                        have A3 : ∀ i : Int, i < ((b + pend.length : Nat) : Int) → O7 i = O3 i ∧ V7 i = V3 i := agr u6 A4 (by omega)
                        have A2 : ∀ i : Int, i < (b : Int) → O7 i = O2 i ∧ V7 i = V2 i := agr z4 A3 (by omega)
                        have A0 : ∀ i : Int, i < (a : Int) → O7 i = O i ∧ V7 i = V i := agr y6 A2 (by omega)
                        have R1 : RB s O7 V7 a ((b + pend.length : Nat) : Int) w.2 := pd_rv y3 z4 z5 A3
                        have R2 : RV s O7 V7 ((b + pend.length : Nat) : Int) ((b4 + pend4.length : Nat) : Int) p.2 := pd_rv u3 v4 v5 A5
                        have R3 : RV s O7 V7 ((b4 + pend4.length : Nat) : Int) ((b6 + pend6.length : Nat) : Int) r.2 := pd_rv t3 r3 r4 (fun _ _ => ⟨rfl, rfl⟩)
                        have R4 := RV.sel R1 R2 R3 o3
                        refine ⟨d7, e7, O7, V7, _, true, r1, R4, A0, kmB.trans (t7.trans r2), by show i < r.1 + 1; omega, by show b6 + pend6.length + 1 + psT tp L i ≤ a + psT tp L (r.1 + 1); omega, fun f d8 e8 hf he => smB.trans (t1.trans (r7 f d8 e8 hf he))⟩
                      · simp only [if_neg qe]
                        have pt6 : ptO (KT tp L r.1) (pend6 ++ 44 :: base) = -1 := by
                          unfold ptO
                          rw [on6, if_neg (by decide), if_neg (by decide), if_neg (by decide), if_pos rfl, if_neg qe]
                        exact (h_flt1 t2 bt6 pt6 (by rw [on6]; decide)).of (smB.trans t1) (kmB.trans t7)
                  · simp only [if_neg qd]
                    have pt4 : ptO (KT tp L p.1) (pend4 ++ 43 :: base) = -1 := by
                      unfold ptO
                      rw [on4, if_neg (by decide), if_neg (by decide), if_pos rfl, if_neg qd]
                    exact (h_flt1 u2 bt4 pt4 (by rw [on4]; decide)).of (smA.trans u1) (kmA.trans u7)
              · simp only [if_neg qc]
                have pt : ptO (KT tp L w.1) (pend ++ 42 :: base) = -1 := by
                  unfold ptO
                  rw [on, if_neg (by decide), if_pos rfl, if_neg (show ¬(KT tp L w.1 = 315 ∧ cmD (pend ++ 42 :: base) = true) from fun z => qc z.1)]
                exact (h_flt1 y2 bt pt (by rw [on]; decide)).of (x1.trans y1) (x3.trans y7)
