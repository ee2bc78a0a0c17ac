/-! ===== the reference's pile ===== -/
def PLs (d : aI) : List Int → Prop
  | [] => True
  | o :: r => d 113 r.length = iI o ∧ PLs d r
theorem PLs.of {d d' : aI} : ∀ {pl : List Int}, PLs d pl → (∀ j, j < pl.length → d' 113 j = d 113 j) → PLs d' pl
  | [], _, _ => trivial
  | o :: r, h, g => ⟨by rw [g r.length (by show r.length < r.length + 1; omega)]; exact h.1, PLs.of h.2 (fun j hj => g j (by show j < r.length + 1; omega))⟩
/-- the reference at the t-th token, the pile, what is written, how many are open, whether it stands behind one -/
def MS (d : aI) (e : aJ) (T : Nat) (s : Int) (tp : Nat → Int) (L t : Nat) (pl : List Int) (a k : Nat) (w : Bool) (O V : Int → Int) : Prop :=
  TPM d tp L ∧ RT d e tp L t ∧ (d 108 12 = iI ((681 * T : Nat) : Int) ∧ T < 4) ∧ (d 108 13 = iI (a : Nat) ∧ a ≤ 300) ∧ (d 108 14 = iI s ∧ (s = 0 ∨ s = 1)) ∧ (d 108 16 = iI (pl.length : Nat) ∧ pl.length ≤ 100) ∧ (PLs d pl ∧ ∀ o, o ∈ pl → 0 ≤ o ∧ o ≤ 44) ∧ (d 108 17 = iI (k : Nat) ∧ k ≤ 8) ∧ d 108 18 = iI (tv w) ∧ ∀ i : Nat, i < a → d 111 (681 * T + 73 + 2 * i) = iI (O i) ∧ d 111 (681 * T + 73 + 2 * i + 1) = iI (V i)
/-- what reading leaves -/
def KM (T : Nat) (d d' : aI) (e e' : aJ) : Prop := (∀ o j, o ≠ 113 → (o ≠ 111 ∨ j < 681 * T + 73 ∨ 681 * T + 681 ≤ j) → (o ≠ 108 ∨ (j ≠ 7 ∧ j ≠ 8 ∧ j ≠ 9 ∧ j ≠ 10 ∧ j ≠ 13 ∧ j ≠ 16 ∧ j ≠ 17 ∧ j ≠ 18)) → d' o j = d o j) ∧ (∀ o j, (o ≠ 108 ∨ j ≠ 11) → e' o j = e o j)
theorem KM.refl {T : Nat} (d : aI) (e : aJ) : KM T d d e e := ⟨fun _ _ _ _ _ => rfl, fun _ _ _ => rfl⟩
theorem KM.trans {T : Nat} {d d1 d2 : aI} {e e1 e2 : aJ} (h : KM T d d1 e e1) (h2 : KM T d1 d2 e1 e2) : KM T d d2 e e2 := ⟨fun o j a b c => (h2.1 o j a b c).trans (h.1 o j a b c), fun o j a => (h2.2 o j a).trans (h.2 o j a)⟩
theorem Kz.km2 {T : Nat} {d d' : aI} {e e' : aJ} (h : Kz d d' e e') : KM T d d' e e' := ⟨fun o j a b c => h.1 o j (by omega), h.2⟩
theorem KM.put {T : Nat} {d : aI} {e : aJ} {o j : Nat} {v : Int32} (ho : o = 113 ∨ (o = 111 ∧ 681 * T + 73 ≤ j ∧ j < 681 * T + 681) ∨ (o = 108 ∧ (j = 7 ∨ j = 8 ∨ j = 9 ∨ j = 10 ∨ j = 13 ∨ j = 16 ∨ j = 17 ∨ j = 18))) : KM T d (uI d o j v) e e := ⟨fun o2 j2 a b c => by
  by_cases q : o2 = o
  · rw [q, uI_miss (by omega)]
  · rw [uI_o q], fun _ _ _ => rfl⟩
theorem RT.of {d d' : aI} {e : aJ} {tp : Nat → Int} {L t : Nat} (h : RT d e tp L t) (g : ∀ j, j = 7 ∨ j = 8 ∨ j = 9 ∨ j = 10 → d' 108 j = d 108 j) : RT d' e tp L t := by
  obtain ⟨a, b, c, f, k⟩ := h
  exact ⟨by rw [g 8 (by omega)]; exact a, by rw [g 7 (by omega)]; exact b, by rw [g 9 (by omega)]; exact c, fun z => by rw [g 10 (by omega)]; exact f z, k⟩
/-- one more is written -/
theorem m_emit {d : aI} {e : aJ} {T a : Nat} {o v : Int} (h12 : d 108 12 = iI ((681 * T : Nat) : Int)) (hT : T < 4) (h13 : d 108 13 = iI (a : Nat)) (ha : a < 300) : FX11_emit d e (iI o) (iI v) = some ((), uI (uI (uI d 111 (681 * T + 73 + 2 * a) (iI o)) 111 (681 * T + 73 + 2 * a + 1) (iI v)) 108 13 (iI (a + 1 : Nat)), e) := by
  have t1 : ((681 * T : Nat) : Int) + 73 + 2 * (a : Int) = ((681 * T + 73 + 2 * a : Nat) : Int) := by omega
  have t2 : (((681 * T + 73 + 2 * a : Nat) : Int) + 1).toNat = 681 * T + 73 + 2 * a + 1 := by omega
  have hX : 681 * T + 73 + 2 * a < 2723 := by omega
  unfold FX11_emit
  generalize 681 * T + 73 + 2 * a = X at *
  generalize 681 * T = Y at *
  simp (disch := omega) only [nI_iI, lN_lJ, iI_0, lJ_0, iI_add, iI_sub, iI_mul, iI_neg, lJ_add, lJ_sub, lJ_mul, lJ_neg, i_l, l_i, iI_cl, iI_inb, iI_eqT, iI_eqF, iI_ltT, iI_ltF, iI_leT, iI_leF, lJ_eqT, lJ_eqF, lJ_cG, lJ_cE, lJ_cL, lJ_cF, lJ_cGE, lJ_cLE, lJ_cNL, lJ_cNG, Int.cast_ofNat_Int, c_0, c_1, Int.natCast_add, Int.add_zero, cond_true, cond_false, Bool.and_self, Bool.and_true, Bool.true_and, Option.bind_some, decide_true, uI_hit, uI_miss, uI_o, uA_o, uA_s, ↓reduceIte, eq_self, true_or, or_true, or_false, false_or, true_and, and_true, false_and, and_false, or_self, and_self, not_false_eq_true, not_true_eq_false, tn_i, Int.toNat_natCast, h12, h13, t1, t2]
theorem MS.emit {d : aI} {e : aJ} {T : Nat} {s : Int} {tp : Nat → Int} {L t : Nat} {pl : List Int} {a k : Nat} {w : Bool} {O V : Int → Int} {o v : Int} (h : MS d e T s tp L t pl a k w O V) (ha : a < 300) : ∃ d', FX11_emit d e (iI o) (iI v) = some ((), d', e) ∧ MS d' e T s tp L t pl (a + 1) k w (fun i => if i = a then o else O i) (fun i => if i = a then v else V i) ∧ KM T d d' e e ∧ (∀ j, j ≠ 13 → d' 108 j = d 108 j) ∧ d' 113 = d 113 := by
  obtain ⟨h1, h2, ⟨h3, hT⟩, ⟨h4, _⟩, h5, h6, ⟨h7, h7b⟩, h8, h9, h10⟩ := h
  have em := m_emit (e := e) (o := o) (v := v) h3 hT h4 ha
  have f : ∀ j, j ≠ 13 → (uI (uI (uI d 111 (681 * T + 73 + 2 * a) (iI o)) 111 (681 * T + 73 + 2 * a + 1) (iI v)) 108 13 (iI (a + 1 : Nat))) 108 j = d 108 j := fun j hj => by rw [uI_miss hj, uI_o (by omega), uI_o (by omega)]
  refine ⟨_, em, ⟨h1.of (f 4 (by omega)) (by rw [uI_o (by omega), uI_o (by omega), uI_o (by omega)]), h2.of (fun j hj => f j (by omega)), ⟨by rw [f 12 (by omega)]; exact h3, hT⟩, ⟨uI_hit rfl, by omega⟩, ⟨by rw [f 14 (by omega)]; exact h5.1, h5.2⟩, ⟨by rw [f 16 (by omega)]; exact h6.1, h6.2⟩, ⟨h7.of (fun j hj => by rw [uI_o (by omega), uI_o (by omega), uI_o (by omega)]), h7b⟩, ⟨by rw [f 17 (by omega)]; exact h8.1, h8.2⟩, by rw [f 18 (by omega)]; exact h9, fun i hi => ?_⟩, (KM.put (by omega)).trans ((KM.put (by omega)).trans (KM.put (by omega))), f, by rw [uI_o (by omega), uI_o (by omega), uI_o (by omega)]⟩
  rw [uI_o (by omega)]
  show _ = iI (if (i : Int) = a then o else O i) ∧ _ = iI (if (i : Int) = a then v else V i)
  by_cases z : i = a
  · rw [if_pos (by omega), if_pos (by omega), z]
    constructor
    · rw [uI_miss (by omega), uI_hit rfl]
    · rw [uI_hit rfl]
  · rw [if_neg (by omega), if_neg (by omega)]
    constructor
    · rw [uI_miss (by omega), uI_miss (by omega)]
      exact (h10 i (by omega)).1
    · rw [uI_miss (by omega), uI_miss (by omega)]
      exact (h10 i (by omega)).2
/-- opened ones that end when they are written -/
def dcO : List Int → Nat
  | [] => 0
  | o :: r => (if rkO o = 7 ∨ o = 20 then 1 else 0) + dcO r
/-- what waits is written -/
theorem m_settle {e : aJ} {T : Nat} {s : Int} {tp : Nat → Int} {L t : Nat} {lvl : Int} (hl : 1 ≤ lvl ∧ lvl ≤ 7) {base : List Int} (hb : ∀ o r, base = o :: r → rkO o < lvl) : ∀ (pend : List Int) (d : aI) (a k : Nat) (w : Bool) (O V : Int → Int), (∀ o, o ∈ pend → lvl ≤ rkO o) → MS d e T s tp L t (pend ++ base) a (k + dcO pend) w O V → a + pend.length ≤ 300 → ∃ d' O' V', a_run stX11_settle (0, [some (.ref 108), some (.int (iI lvl))], d, e) = some ([], d', e) ∧ MS d' e T s tp L t base (a + pend.length) k w O' V' ∧ KM T d d' e e ∧ (∀ i : Int, i < a → O' i = O i ∧ V' i = V i) ∧ (∀ (m : Nat) (o : Int), pend[m]? = some o → O' (a + m) = o) ∧ (∀ j, j ≠ 13 → j ≠ 16 → j ≠ 17 → d' 108 j = d 108 j)
  | [], d, a, k, w, O, V, hp, ms, ha => by
    refine ⟨d, O, V, ?_, ms, KM.refl d e, fun _ _ => ⟨rfl, rfl⟩, fun m o hm => ?_, fun _ _ _ _ => rfl⟩
    · obtain ⟨h1, h2, h3, h4, h5, ⟨h6, h6b⟩, ⟨h7, h7b⟩, h8, h9, h10⟩ := ms
      cases base with
      | nil =>
        have h6' : d 108 16 = iI 0 := h6
        rw [a_run_step (st := stX11_settle) (p2 := (100000, [], d, e)) (by
          show sX11_settle_0 d e _ = _
          unfold sX11_settle_0
          simp (disch := omega) only [nI_iI, lN_lJ, iI_0, lJ_0, iI_add, iI_sub, iI_mul, iI_neg, lJ_add, lJ_sub, lJ_mul, lJ_neg, i_l, l_i, iI_cl, iI_inb, iI_eqT, iI_eqF, iI_ltT, iI_ltF, iI_leT, iI_leF, lJ_eqT, lJ_eqF, lJ_cG, lJ_cE, lJ_cL, lJ_cF, lJ_cGE, lJ_cLE, lJ_cNL, lJ_cNG, Int.cast_ofNat_Int, c_0, c_1, Int.natCast_add, Int.add_zero, cond_true, cond_false, Bool.and_self, Bool.and_true, Bool.true_and, Option.bind_some, decide_true, uI_hit, uI_miss, uI_o, uA_o, uA_s, ↓reduceIte, eq_self, true_or, or_true, or_false, false_or, true_and, and_true, false_and, and_false, or_self, and_self, not_false_eq_true, not_true_eq_false, tn_i, h6']) rfl, a_run_end]
      | cons o r =>
        have lr : (([] : List Int) ++ o :: r).length = r.length + 1 := rfl
        rw [lr] at h6 h6b
        have p1 : d 113 r.length = iI o := h7.1
        have or := h7b o (by exact List.mem_cons_self)
        have rk := m_rank (d := d) (e := e) or
        have rl := hb o r rfl
        have ri := rkO_in o
        have tn : ((r.length + 1 : Nat) : Int) - 1 = (r.length : Int) := by omega
        rw [a_run_step (st := stX11_settle) (p2 := (100000, [], d, e)) (by
          show sX11_settle_0 d e _ = _
          unfold sX11_settle_0
          generalize r.length = n at *
          generalize rkO o = q at *
          simp (disch := omega) only [nI_iI, lN_lJ, iI_0, lJ_0, iI_add, iI_sub, iI_mul, iI_neg, lJ_add, lJ_sub, lJ_mul, lJ_neg, i_l, l_i, iI_cl, iI_inb, iI_eqT, iI_eqF, iI_ltT, iI_ltF, iI_leT, iI_leF, lJ_eqT, lJ_eqF, lJ_cG, lJ_cE, lJ_cL, lJ_cF, lJ_cGE, lJ_cLE, lJ_cNL, lJ_cNG, Int.cast_ofNat_Int, c_0, c_1, Int.natCast_add, Int.add_zero, cond_true, cond_false, Bool.and_self, Bool.and_true, Bool.true_and, Option.bind_some, decide_true, uI_hit, uI_miss, uI_o, uA_o, uA_s, ↓reduceIte, eq_self, true_or, or_true, or_false, false_or, true_and, and_true, false_and, and_false, or_self, and_self, not_false_eq_true, not_true_eq_false, tn_i, Int.toNat_natCast, h6, Int.add_sub_cancel, p1, rk]) rfl, a_run_end]
    · cases hm
  | o :: p, d, a, k, w, O, V, hp, ms, ha => by
    have hl2 : (o :: p).length = p.length + 1 := rfl
    rw [hl2] at ha
    have ol := hp o List.mem_cons_self
    obtain ⟨h1, h2, ⟨h3, hT⟩, ⟨h4, h4b⟩, h5, ⟨h6, h6b⟩, ⟨h7, h7b⟩, ⟨h8, h8b⟩, h9, h10⟩ := ms
    have lr : (o :: p ++ base).length = (p ++ base).length + 1 := rfl
    rw [lr] at h6 h6b
    have p1 : d 113 (p ++ base).length = iI o := h7.1
    have or := h7b o List.mem_cons_self
    have rk := m_rank (d := d) (e := e) or
    have ri := rkO_in o
    have ms1 : MS (uI d 108 16 (iI ((p ++ base).length : Nat))) e T s tp L t (p ++ base) a (k + dcO (o :: p)) w O V := by
      refine ⟨h1.of (by rw [uI_miss (by omega)]) (by rw [uI_o (by omega)]), h2.of (fun j hj => by rw [uI_miss (by omega)]), ⟨by rw [uI_miss (by omega)]; exact h3, hT⟩, ⟨by rw [uI_miss (by omega)]; exact h4, h4b⟩, ⟨by rw [uI_miss (by omega)]; exact h5.1, h5.2⟩, ⟨uI_hit rfl, by omega⟩, ⟨h7.2.of (fun j hj => by rw [uI_o (by omega)]), fun x hx => h7b x (List.mem_cons_of_mem _ hx)⟩, ⟨by rw [uI_miss (by omega)]; exact h8, h8b⟩, by rw [uI_miss (by omega)]; exact h9, fun i hi => by rw [uI_o (by omega)]; exact h10 i hi⟩
    obtain ⟨d2, e1, ms2, km2, f2, f3⟩ := ms1.emit (o := o) (v := 0) (by omega)
    have c16 : d2 108 16 = iI ((p ++ base).length : Nat) := by rw [f2 16 (by omega), uI_hit rfl]
    have c17 : d2 108 17 = iI ((k + dcO (o :: p) : Nat) : Int) := by rw [f2 17 (by omega), uI_miss (by omega)]; exact h8
    have p2 : d2 113 (p ++ base).length = iI o := by rw [f3, uI_o (by omega)]; exact p1
    have rk2 := m_rank (d := d2) (e := e) or
    have tn : (((p ++ base).length + 1 : Nat) : Int) - 1 = ((p ++ base).length : Int) := by omega
    have km1 : KM T d (uI d 108 16 (iI ((p ++ base).length : Nat))) e e := KM.put (by omega)
    -- one step
    have stp : ∃ d3, stX11_settle (0, [some (.ref 108), some (.int (iI lvl))], d, e) = some (0, [some (.ref 108), some (.int (iI lvl))], d3, e) ∧ MS d3 e T s tp L t (p ++ base) (a + 1) (k + dcO p) w (fun i => if i = a then o else O i) (fun i => if i = a then 0 else V i) ∧ KM T d d3 e e ∧ (∀ j, j ≠ 13 → j ≠ 16 → j ≠ 17 → d3 108 j = d 108 j) := by
      by_cases q : rkO o = 7 ∨ o = 20
      · have dc : dcO (o :: p) = 1 + dcO p := by show (if rkO o = 7 ∨ o = 20 then 1 else 0) + dcO p = _; rw [if_pos q]
        have c17' : d2 108 17 = iI (((k + dcO p : Nat) : Int) + 1) := by rw [c17, dc]; congr 1; omega
        refine ⟨uI d2 108 17 (iI (k + dcO p : Nat)), ?_, ?_, km1.trans (km2.trans (KM.put (by omega))), fun j j1 j2 j3 => by rw [uI_miss j3, f2 j j1, uI_miss j2]⟩
        · show sX11_settle_0 d e _ = _
          unfold sX11_settle_0
          generalize (p ++ base).length = n at *
          generalize k + dcO p = kk at *
          by_cases q7 : rkO o = 7
          · rw [q7] at rk rk2 ol
            simp (disch := omega) only [nI_iI, lN_lJ, iI_0, lJ_0, iI_add, iI_sub, iI_mul, iI_neg, lJ_add, lJ_sub, lJ_mul, lJ_neg, i_l, l_i, iI_cl, iI_inb, iI_eqT, iI_eqF, iI_ltT, iI_ltF, iI_leT, iI_leF, lJ_eqT, lJ_eqF, lJ_cG, lJ_cE, lJ_cL, lJ_cF, lJ_cGE, lJ_cLE, lJ_cNL, lJ_cNG, Int.cast_ofNat_Int, c_0, c_1, Int.natCast_add, Int.add_zero, cond_true, cond_false, Bool.and_self, Bool.and_true, Bool.true_and, Option.bind_some, decide_true, uI_hit, uI_miss, uI_o, uA_o, uA_s, ↓reduceIte, eq_self, true_or, or_true, or_false, false_or, true_and, and_true, false_and, and_false, or_self, and_self, not_false_eq_true, not_true_eq_false, tn_i, Int.toNat_natCast, h6, Int.add_sub_cancel, p1, rk, e1, c16, p2, rk2, c17']
          · have q20 : o = 20 := by rcases q with q | q; exact absurd q q7; exact q
            subst q20
            have r20 : rkO 20 = 3 := rfl
            rw [r20] at rk rk2 ol
            simp (disch := omega) only [nI_iI, lN_lJ, iI_0, lJ_0, iI_add, iI_sub, iI_mul, iI_neg, lJ_add, lJ_sub, lJ_mul, lJ_neg, i_l, l_i, iI_cl, iI_inb, iI_eqT, iI_eqF, iI_ltT, iI_ltF, iI_leT, iI_leF, lJ_eqT, lJ_eqF, lJ_cG, lJ_cE, lJ_cL, lJ_cF, lJ_cGE, lJ_cLE, lJ_cNL, lJ_cNG, Int.cast_ofNat_Int, c_0, c_1, Int.natCast_add, Int.add_zero, cond_true, cond_false, Bool.and_self, Bool.and_true, Bool.true_and, Option.bind_some, decide_true, uI_hit, uI_miss, uI_o, uA_o, uA_s, ↓reduceIte, eq_self, true_or, or_true, or_false, false_or, true_and, and_true, false_and, and_false, or_self, and_self, not_false_eq_true, not_true_eq_false, tn_i, Int.toNat_natCast, h6, Int.add_sub_cancel, p1, rk, e1, c16, p2, rk2, c17']
        · obtain ⟨g1, g2, g3, g4, g5, g6, g7, g8, g9, g10⟩ := ms2
          refine ⟨g1.of (by rw [uI_miss (by omega)]) (by rw [uI_o (by omega)]), g2.of (fun j hj => by rw [uI_miss (by omega)]), ⟨by rw [uI_miss (by omega)]; exact g3.1, g3.2⟩, ⟨by rw [uI_miss (by omega)]; exact g4.1, g4.2⟩, ⟨by rw [uI_miss (by omega)]; exact g5.1, g5.2⟩, ⟨by rw [uI_miss (by omega)]; exact g6.1, g6.2⟩, ⟨g7.1.of (fun j hj => by rw [uI_o (by omega)]), g7.2⟩, ⟨uI_hit rfl, by omega⟩, by rw [uI_miss (by omega)]; exact g9, fun i hi => by rw [uI_o (by omega)]; exact g10 i hi⟩
      · have dc : dcO (o :: p) = dcO p := by show (if rkO o = 7 ∨ o = 20 then 1 else 0) + dcO p = _; rw [if_neg q, Nat.zero_add]
        rw [dc] at ms2
        have q7 : ¬rkO o = 7 := fun z => q (Or.inl z)
        have q20 : ¬o = 20 := fun z => q (Or.inr z)
        refine ⟨d2, ?_, ms2, km1.trans km2, fun j j1 j2 j3 => by rw [f2 j j1, uI_miss j2]⟩
        show sX11_settle_0 d e _ = _
        unfold sX11_settle_0
        generalize (p ++ base).length = n at *
        generalize rkO o = q at *
        simp (disch := omega) only [nI_iI, lN_lJ, iI_0, lJ_0, iI_add, iI_sub, iI_mul, iI_neg, lJ_add, lJ_sub, lJ_mul, lJ_neg, i_l, l_i, iI_cl, iI_inb, iI_eqT, iI_eqF, iI_ltT, iI_ltF, iI_leT, iI_leF, lJ_eqT, lJ_eqF, lJ_cG, lJ_cE, lJ_cL, lJ_cF, lJ_cGE, lJ_cLE, lJ_cNL, lJ_cNG, Int.cast_ofNat_Int, c_0, c_1, Int.natCast_add, Int.add_zero, cond_true, cond_false, Bool.and_self, Bool.and_true, Bool.true_and, Option.bind_some, decide_true, uI_hit, uI_miss, uI_o, uA_o, uA_s, ↓reduceIte, eq_self, true_or, or_true, or_false, false_or, true_and, and_true, false_and, and_false, or_self, and_self, not_false_eq_true, not_true_eq_false, tn_i, Int.toNat_natCast, h6, Int.add_sub_cancel, p1, rk, e1, c16, p2, rk2]
    obtain ⟨d3, s1, s2, s3, s4⟩ := stp
    obtain ⟨d4, O4, V4, x1, x2, x3, x4, x5, x6⟩ := m_settle (e := e) (T := T) (s := s) (tp := tp) (L := L) (t := t) hl hb p d3 (a + 1) k w _ _ (fun x hx => hp x (List.mem_cons_of_mem _ hx)) s2 (by omega)
    rw [show a + 1 + p.length = a + (o :: p).length by rw [hl2]; omega] at x2
    refine ⟨d4, O4, V4, (a_run_step s1 rfl).trans x1, x2, s3.trans x3, fun i hi => ?_, fun m o' hm => ?_, fun j j1 j2 j3 => (x6 j j1 j2 j3).trans (s4 j j1 j2 j3)⟩
    · obtain ⟨y1, y2⟩ := x4 i (by omega)
      rw [y1, y2]
      show (if i = a then o else O i) = O i ∧ (if i = a then 0 else V i) = V i
      rw [if_neg (by omega), if_neg (by omega)]
      exact ⟨rfl, rfl⟩
    · cases m with
      | zero =>
        have e0 : o = o' := Option.some.inj hm
        obtain ⟨y1, _⟩ := x4 (a : Int) (by omega)
        show O4 ((a : Int) + 0) = o'
        rw [Int.add_zero, y1]
        show (if (a : Int) = a then o else O a) = o'
        rw [if_pos rfl]; exact e0
      | succ m =>
        have hm2 : p[m]? = some o' := hm
        have y := x5 m o' hm2
        rw [show (a : Int) + ((m + 1 : Nat) : Int) = ((a + 1 : Nat) : Int) + (m : Int) by omega]
        exact y
theorem MS.settle {d : aI} {e : aJ} {T : Nat} {s : Int} {tp : Nat → Int} {L t : Nat} {lvl : Int} (hl : 1 ≤ lvl ∧ lvl ≤ 7) {base pend : List Int} {a k : Nat} {w : Bool} {O V : Int → Int} (h : MS d e T s tp L t (pend ++ base) a (k + dcO pend) w O V) (hb : ∀ o r, base = o :: r → rkO o < lvl) (hp : ∀ o, o ∈ pend → lvl ≤ rkO o) (ha : a + pend.length ≤ 300) : ∃ d' O' V', FX11_settle d e (iI lvl) = some ((), d', e) ∧ MS d' e T s tp L t base (a + pend.length) k w O' V' ∧ KM T d d' e e ∧ (∀ i : Int, i < a → O' i = O i ∧ V' i = V i) ∧ (∀ (m : Nat) (o : Int), pend[m]? = some o → O' (a + m) = o) ∧ (∀ j, j ≠ 13 → j ≠ 16 → j ≠ 17 → d' 108 j = d 108 j) := by
  obtain ⟨d', O', V', x1, x2⟩ := m_settle hl hb pend d a k w O V hp h ha
  refine ⟨d', O', V', ?_, x2⟩
  unfold FX11_settle
  rw [x1]
  rfl
/-- what is open at last -/
def opN : List Int → Int
  | [] => -1
  | o :: r => if 40 ≤ o then o else opN r
def opAt : List Int → Int
  | [] => -1
  | o :: r => if 40 ≤ o then (r.length : Int) else opAt r
def cmD : List Int → Bool
  | [] => false
  | o :: r => if 4 < rkO o then cmD r else decide (rkO o = 4)
theorem m_openAt {e : aJ} {pl0 : List Int} (hl0 : pl0.length ≤ 100) : ∀ (pl : List Int) (d : aI), PLs d pl → (∀ o, o ∈ pl → 0 ≤ o ∧ o ≤ 44) → pl.length ≤ 100 → a_run stX11_openAt (7, [some (.ref 108), some (.int (iI ((pl.length : Int) - 1)))], d, e) = some ([some (.int (iI (opAt pl)))], d, e)
  | [], d, h, hr, hl => by
    rw [show (((([] : List Int).length : Nat) : Int) - 1) = -1 from rfl, a_run_step (st := stX11_openAt) (p2 := (100000, [some (.int (iI (-1)))], d, e)) (by
      show sX11_openAt_7 d e _ = _
      unfold sX11_openAt_7
      simp (disch := omega) only [nI_iI, lN_lJ, iI_0, lJ_0, iI_add, iI_sub, iI_mul, iI_neg, lJ_add, lJ_sub, lJ_mul, lJ_neg, i_l, l_i, iI_cl, iI_inb, iI_eqT, iI_eqF, iI_ltT, iI_ltF, iI_leT, iI_leF, lJ_eqT, lJ_eqF, lJ_cG, lJ_cE, lJ_cL, lJ_cF, lJ_cGE, lJ_cLE, lJ_cNL, lJ_cNG, Int.cast_ofNat_Int, c_0, c_1, Int.natCast_add, Int.add_zero, cond_true, cond_false, Bool.and_self, Bool.and_true, Bool.true_and, Option.bind_some, decide_true, uI_hit, uI_miss, uI_o, uA_o, uA_s, ↓reduceIte, eq_self, true_or, or_true, or_false, false_or, true_and, and_true, false_and, and_false, or_self, and_self, not_false_eq_true, not_true_eq_false, tn_i]) rfl, a_run_end]
    rfl
  | o :: r, d, h, hr, hl => by
    have lr : (o :: r).length = r.length + 1 := rfl
    rw [lr] at hl ⊢
    have p1 := h.1
    have or := hr o List.mem_cons_self
    have tn : ((r.length + 1 : Nat) : Int) - 1 = (r.length : Int) := by omega
    rw [tn]
    show _ = some ([some (Value.int (iI (if 40 ≤ o then (r.length : Int) else opAt r)))], d, e)
    by_cases q : 40 ≤ o
    · rw [if_pos q, a_run_step (st := stX11_openAt) (p2 := (100000, [some (.int (iI (r.length : Nat)))], d, e)) (by
        show sX11_openAt_7 d e _ = _
        unfold sX11_openAt_7
        generalize r.length = n at *
        simp (disch := omega) only [nI_iI, lN_lJ, iI_0, lJ_0, iI_add, iI_sub, iI_mul, iI_neg, lJ_add, lJ_sub, lJ_mul, lJ_neg, i_l, l_i, iI_cl, iI_inb, iI_eqT, iI_eqF, iI_ltT, iI_ltF, iI_leT, iI_leF, lJ_eqT, lJ_eqF, lJ_cG, lJ_cE, lJ_cL, lJ_cF, lJ_cGE, lJ_cLE, lJ_cNL, lJ_cNG, Int.cast_ofNat_Int, c_0, c_1, Int.natCast_add, Int.add_zero, cond_true, cond_false, Bool.and_self, Bool.and_true, Bool.true_and, Option.bind_some, decide_true, uI_hit, uI_miss, uI_o, uA_o, uA_s, ↓reduceIte, eq_self, true_or, or_true, or_false, false_or, true_and, and_true, false_and, and_false, or_self, and_self, not_false_eq_true, not_true_eq_false, tn_i, Int.toNat_natCast, p1]) rfl, a_run_end]
    · rw [if_neg q, ← m_openAt hl0 r d h.2 (fun x hx => hr x (List.mem_cons_of_mem _ hx)) (by omega)]
      refine a_run_step ?_ rfl
      show sX11_openAt_7 d e _ = some (7, [some (.ref 108), some (.int (iI ((r.length : Int) + -1)))], d, e)
      unfold sX11_openAt_7
      generalize r.length = n at *
      simp (disch := omega) only [nI_iI, lN_lJ, iI_0, lJ_0, iI_add, iI_sub, iI_mul, iI_neg, lJ_add, lJ_sub, lJ_mul, lJ_neg, i_l, l_i, iI_cl, iI_inb, iI_eqT, iI_eqF, iI_ltT, iI_ltF, iI_leT, iI_leF, lJ_eqT, lJ_eqF, lJ_cG, lJ_cE, lJ_cL, lJ_cF, lJ_cGE, lJ_cLE, lJ_cNL, lJ_cNG, Int.cast_ofNat_Int, c_0, c_1, Int.natCast_add, Int.add_zero, cond_true, cond_false, Bool.and_self, Bool.and_true, Bool.true_and, Option.bind_some, decide_true, uI_hit, uI_miss, uI_o, uA_o, uA_s, ↓reduceIte, eq_self, true_or, or_true, or_false, false_or, true_and, and_true, false_and, and_false, or_self, and_self, not_false_eq_true, not_true_eq_false, tn_i, Int.toNat_natCast, p1]
theorem opAt_ok {d : aI} : ∀ (pl : List Int), PLs d pl → (opN pl = -1 ∧ opAt pl = -1) ∨ (40 ≤ opN pl ∧ 0 ≤ opAt pl ∧ opAt pl < pl.length ∧ d 113 (opAt pl).toNat = iI (opN pl))
  | [], _ => Or.inl ⟨rfl, rfl⟩
  | o :: r, h => by
    show ((if 40 ≤ o then o else opN r) = -1 ∧ (if 40 ≤ o then (r.length : Int) else opAt r) = -1) ∨ (40 ≤ (if 40 ≤ o then o else opN r) ∧ 0 ≤ (if 40 ≤ o then (r.length : Int) else opAt r) ∧ (if 40 ≤ o then (r.length : Int) else opAt r) < ((r.length + 1 : Nat) : Int) ∧ d 113 (if 40 ≤ o then (r.length : Int) else opAt r).toNat = iI (if 40 ≤ o then o else opN r))
    by_cases q : 40 ≤ o
    · rw [if_pos q, if_pos q]
      refine Or.inr ⟨q, by omega, by omega, ?_⟩
      rw [Int.toNat_natCast]; exact h.1
    · rw [if_neg q, if_neg q]
      rcases opAt_ok r h.2 with z | ⟨z1, z2, z3, z4⟩
      · exact Or.inl z
      · exact Or.inr ⟨z1, z2, by omega, z4⟩
theorem opN_in : ∀ (pl : List Int), (∀ o, o ∈ pl → 0 ≤ o ∧ o ≤ 44) → opN pl = -1 ∨ (40 ≤ opN pl ∧ opN pl ≤ 44)
  | [], _ => Or.inl rfl
  | o :: r, h => by
    show (if 40 ≤ o then o else opN r) = -1 ∨ (40 ≤ (if 40 ≤ o then o else opN r) ∧ (if 40 ≤ o then o else opN r) ≤ 44)
    by_cases q : 40 ≤ o
    · rw [if_pos q]; exact Or.inr ⟨q, (h o List.mem_cons_self).2⟩
    · rw [if_neg q]; exact opN_in r (fun x hx => h x (List.mem_cons_of_mem _ hx))
theorem m_openNow {d : aI} {e : aJ} {pl : List Int} (h6 : d 108 16 = iI (pl.length : Nat)) (hl : pl.length ≤ 100) (h7 : PLs d pl) (hr : ∀ o, o ∈ pl → 0 ≤ o ∧ o ≤ 44) : FX11_openNow d e = some (iI (opN pl), d, e) ∧ FX11_openAt d e = some (iI (opAt pl), d, e) := by
  have oa : FX11_openAt d e = some (iI (opAt pl), d, e) := by
    unfold FX11_openAt
    have st0 : stX11_openAt (0, [some (.ref 108), none], d, e) = some (7, [some (.ref 108), some (.int (iI ((pl.length : Int) - 1)))], d, e) := by
      show sX11_openAt_0 d e = _
      unfold sX11_openAt_0
      generalize pl.length = n at *
      simp (disch := omega) only [nI_iI, lN_lJ, iI_0, lJ_0, iI_add, iI_sub, iI_mul, iI_neg, lJ_add, lJ_sub, lJ_mul, lJ_neg, i_l, l_i, iI_cl, iI_inb, iI_eqT, iI_eqF, iI_ltT, iI_ltF, iI_leT, iI_leF, lJ_eqT, lJ_eqF, lJ_cG, lJ_cE, lJ_cL, lJ_cF, lJ_cGE, lJ_cLE, lJ_cNL, lJ_cNG, Int.cast_ofNat_Int, c_0, c_1, Int.natCast_add, Int.add_zero, cond_true, cond_false, Bool.and_self, Bool.and_true, Bool.true_and, Option.bind_some, decide_true, uI_hit, uI_miss, uI_o, uA_o, uA_s, ↓reduceIte, eq_self, true_or, or_true, or_false, false_or, true_and, and_true, false_and, and_false, or_self, and_self, not_false_eq_true, not_true_eq_false, tn_i, h6]
    rw [a_run_step st0 rfl, m_openAt hl pl d h7 hr hl]
    rfl
  refine ⟨?_, oa⟩
  have on := opN_in pl hr
  unfold FX11_openNow
  rcases opAt_ok pl h7 with ⟨z1, z2⟩ | ⟨z1, z2, z3, z4⟩
  · rw [z2] at oa
    rw [z1]
    simp (disch := omega) only [nI_iI, lN_lJ, iI_0, lJ_0, iI_add, iI_sub, iI_mul, iI_neg, lJ_add, lJ_sub, lJ_mul, lJ_neg, i_l, l_i, iI_cl, iI_inb, iI_eqT, iI_eqF, iI_ltT, iI_ltF, iI_leT, iI_leF, lJ_eqT, lJ_eqF, lJ_cG, lJ_cE, lJ_cL, lJ_cF, lJ_cGE, lJ_cLE, lJ_cNL, lJ_cNG, Int.cast_ofNat_Int, c_0, c_1, Int.natCast_add, Int.add_zero, cond_true, cond_false, Bool.and_self, Bool.and_true, Bool.true_and, Option.bind_some, decide_true, uI_hit, uI_miss, uI_o, uA_o, uA_s, ↓reduceIte, eq_self, true_or, or_true, or_false, false_or, true_and, and_true, false_and, and_false, or_self, and_self, not_false_eq_true, not_true_eq_false, tn_i, oa]
  · generalize opN pl = q at *
    generalize opAt pl = x at *
    generalize pl.length = n at *
    simp (disch := omega) only [nI_iI, lN_lJ, iI_0, lJ_0, iI_add, iI_sub, iI_mul, iI_neg, lJ_add, lJ_sub, lJ_mul, lJ_neg, i_l, l_i, iI_cl, iI_inb, iI_eqT, iI_eqF, iI_ltT, iI_ltF, iI_leT, iI_leF, lJ_eqT, lJ_eqF, lJ_cG, lJ_cE, lJ_cL, lJ_cF, lJ_cGE, lJ_cLE, lJ_cNL, lJ_cNG, Int.cast_ofNat_Int, c_0, c_1, Int.natCast_add, Int.add_zero, cond_true, cond_false, Bool.and_self, Bool.and_true, Bool.true_and, Option.bind_some, decide_true, uI_hit, uI_miss, uI_o, uA_o, uA_s, ↓reduceIte, eq_self, true_or, or_true, or_false, false_or, true_and, and_true, false_and, and_false, or_self, and_self, not_false_eq_true, not_true_eq_false, tn_i, oa, z4]
theorem m_compared {e : aJ} : ∀ (pl : List Int) (d : aI), PLs d pl → (∀ o, o ∈ pl → 0 ≤ o ∧ o ≤ 44) → pl.length ≤ 100 → a_run stX11_isCompared (7, [some (.ref 108), some (.int (iI ((pl.length : Int) - 1)))], d, e) = some ([some (.int (iI (tv (cmD pl))))], d, e)
  | [], d, h, hr, hl => by
    rw [show (((([] : List Int).length : Nat) : Int) - 1) = -1 from rfl, a_run_step (st := stX11_isCompared) (p2 := (100000, [some (.int (iI 0))], d, e)) (by
      show sX11_isCompared_7 d e _ = _
      unfold sX11_isCompared_7
      simp (disch := omega) only [nI_iI, lN_lJ, iI_0, lJ_0, iI_add, iI_sub, iI_mul, iI_neg, lJ_add, lJ_sub, lJ_mul, lJ_neg, i_l, l_i, iI_cl, iI_inb, iI_eqT, iI_eqF, iI_ltT, iI_ltF, iI_leT, iI_leF, lJ_eqT, lJ_eqF, lJ_cG, lJ_cE, lJ_cL, lJ_cF, lJ_cGE, lJ_cLE, lJ_cNL, lJ_cNG, Int.cast_ofNat_Int, c_0, c_1, Int.natCast_add, Int.add_zero, cond_true, cond_false, Bool.and_self, Bool.and_true, Bool.true_and, Option.bind_some, decide_true, uI_hit, uI_miss, uI_o, uA_o, uA_s, ↓reduceIte, eq_self, true_or, or_true, or_false, false_or, true_and, and_true, false_and, and_false, or_self, and_self, not_false_eq_true, not_true_eq_false, tn_i]) rfl, a_run_end]
    rfl
  | o :: r, d, h, hr, hl => by
    have lr : (o :: r).length = r.length + 1 := rfl
    rw [lr] at hl ⊢
    have p1 := h.1
    have or := hr o List.mem_cons_self
    have rk := m_rank (d := d) (e := e) or
    have ri := rkO_in o
    have tn : ((r.length + 1 : Nat) : Int) - 1 = (r.length : Int) := by omega
    rw [tn]
    show _ = some ([some (Value.int (iI (tv (if 4 < rkO o then cmD r else decide (rkO o = 4)))))], d, e)
    by_cases q : 4 < rkO o
    · rw [if_pos q, ← m_compared r d h.2 (fun x hx => hr x (List.mem_cons_of_mem _ hx)) (by omega)]
      refine a_run_step ?_ rfl
      show sX11_isCompared_7 d e _ = some (7, [some (.ref 108), some (.int (iI ((r.length : Int) + -1)))], d, e)
      unfold sX11_isCompared_7
      generalize r.length = n at *
      generalize rkO o = x at *
      simp (disch := omega) only [nI_iI, lN_lJ, iI_0, lJ_0, iI_add, iI_sub, iI_mul, iI_neg, lJ_add, lJ_sub, lJ_mul, lJ_neg, i_l, l_i, iI_cl, iI_inb, iI_eqT, iI_eqF, iI_ltT, iI_ltF, iI_leT, iI_leF, lJ_eqT, lJ_eqF, lJ_cG, lJ_cE, lJ_cL, lJ_cF, lJ_cGE, lJ_cLE, lJ_cNL, lJ_cNG, Int.cast_ofNat_Int, c_0, c_1, Int.natCast_add, Int.add_zero, cond_true, cond_false, Bool.and_self, Bool.and_true, Bool.true_and, Option.bind_some, decide_true, uI_hit, uI_miss, uI_o, uA_o, uA_s, ↓reduceIte, eq_self, true_or, or_true, or_false, false_or, true_and, and_true, false_and, and_false, or_self, and_self, not_false_eq_true, not_true_eq_false, tn_i, Int.toNat_natCast, p1, rk]
    · rw [if_neg q]
      by_cases q4 : rkO o = 4
      · rw [decide_eq_true q4, a_run_step (st := stX11_isCompared) (p2 := (100000, [some (.int (iI 1))], d, e)) (by
          show sX11_isCompared_7 d e _ = _
          unfold sX11_isCompared_7
          generalize r.length = n at *
          generalize rkO o = x at *
          simp (disch := omega) only [nI_iI, lN_lJ, iI_0, lJ_0, iI_add, iI_sub, iI_mul, iI_neg, lJ_add, lJ_sub, lJ_mul, lJ_neg, i_l, l_i, iI_cl, iI_inb, iI_eqT, iI_eqF, iI_ltT, iI_ltF, iI_leT, iI_leF, lJ_eqT, lJ_eqF, lJ_cG, lJ_cE, lJ_cL, lJ_cF, lJ_cGE, lJ_cLE, lJ_cNL, lJ_cNG, Int.cast_ofNat_Int, c_0, c_1, Int.natCast_add, Int.add_zero, cond_true, cond_false, Bool.and_self, Bool.and_true, Bool.true_and, Option.bind_some, decide_true, uI_hit, uI_miss, uI_o, uA_o, uA_s, ↓reduceIte, eq_self, true_or, or_true, or_false, false_or, true_and, and_true, false_and, and_false, or_self, and_self, not_false_eq_true, not_true_eq_false, tn_i, Int.toNat_natCast, p1, rk]) rfl, a_run_end]
        rfl
      · rw [decide_eq_false q4, a_run_step (st := stX11_isCompared) (p2 := (100000, [some (.int (iI 0))], d, e)) (by
          show sX11_isCompared_7 d e _ = _
          unfold sX11_isCompared_7
          generalize r.length = n at *
          generalize rkO o = x at *
          simp (disch := omega) only [nI_iI, lN_lJ, iI_0, lJ_0, iI_add, iI_sub, iI_mul, iI_neg, lJ_add, lJ_sub, lJ_mul, lJ_neg, i_l, l_i, iI_cl, iI_inb, iI_eqT, iI_eqF, iI_ltT, iI_ltF, iI_leT, iI_leF, lJ_eqT, lJ_eqF, lJ_cG, lJ_cE, lJ_cL, lJ_cF, lJ_cGE, lJ_cLE, lJ_cNL, lJ_cNG, Int.cast_ofNat_Int, c_0, c_1, Int.natCast_add, Int.add_zero, cond_true, cond_false, Bool.and_self, Bool.and_true, Bool.true_and, Option.bind_some, decide_true, uI_hit, uI_miss, uI_o, uA_o, uA_s, ↓reduceIte, eq_self, true_or, or_true, or_false, false_or, true_and, and_true, false_and, and_false, or_self, and_self, not_false_eq_true, not_true_eq_false, tn_i, Int.toNat_natCast, p1, rk]) rfl, a_run_end]
        rfl
theorem m_isCmp {d : aI} {e : aJ} {pl : List Int} (h6 : d 108 16 = iI (pl.length : Nat)) (hl : pl.length ≤ 100) (h7 : PLs d pl) (hr : ∀ o, o ∈ pl → 0 ≤ o ∧ o ≤ 44) : FX11_isCompared d e = some (iI (tv (cmD pl)), d, e) := by
  unfold FX11_isCompared
  have st0 : stX11_isCompared (0, [some (.ref 108), none], d, e) = some (7, [some (.ref 108), some (.int (iI ((pl.length : Int) - 1)))], d, e) := by
    show sX11_isCompared_0 d e = _
    unfold sX11_isCompared_0
    generalize pl.length = n at *
    simp (disch := omega) only [nI_iI, lN_lJ, iI_0, lJ_0, iI_add, iI_sub, iI_mul, iI_neg, lJ_add, lJ_sub, lJ_mul, lJ_neg, i_l, l_i, iI_cl, iI_inb, iI_eqT, iI_eqF, iI_ltT, iI_ltF, iI_leT, iI_leF, lJ_eqT, lJ_eqF, lJ_cG, lJ_cE, lJ_cL, lJ_cF, lJ_cGE, lJ_cLE, lJ_cNL, lJ_cNG, Int.cast_ofNat_Int, c_0, c_1, Int.natCast_add, Int.add_zero, cond_true, cond_false, Bool.and_self, Bool.and_true, Bool.true_and, Option.bind_some, decide_true, uI_hit, uI_miss, uI_o, uA_o, uA_s, ↓reduceIte, eq_self, true_or, or_true, or_false, false_or, true_and, and_true, false_and, and_false, or_self, and_self, not_false_eq_true, not_true_eq_false, tn_i, h6]
  rw [a_run_step st0 rfl, m_compared pl d h7 hr hl]
  rfl
